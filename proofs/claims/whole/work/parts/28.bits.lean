/-! sets of days as bits -/
theorem sh_s : ∀ d, d < 32 → ((nI d &&& 31).toBitVec.smod 32).toNat = d := by decide +kernel
theorem sh1 {d : Nat} (hd : d < 32) : nI 1 <<< (nI d &&& 31) = nI (2 ^ d) := by
  have := Nat.pow_lt_pow_right (a := 2) (by omega) hd
  rw [pk_shlN _ d (sh_s d hd) (by omega), Nat.one_mul]
theorem shr_n {n d : Nat} (h : n < 2 ^ 31) (hd : d < 32) : nI n >>> (nI d &&& 31) = nI (n / 2 ^ d) := pk_shrN h _ d (sh_s d hd)
theorem and1 {n : Nat} (h : n < 2 ^ 32) : nI n &&& nI 1 = nI (n % 2) := pk_andN h 1 (by decide)
theorem or_n {a b : Nat} (ha : a < 2 ^ 32) (hb : b < 2 ^ 32) : nI a ||| nI b = nI (a ||| b) := by
  apply Int32.toBitVec_inj.mp
  apply BitVec.eq_of_toNat_eq
  rw [Int32.toBitVec_or, BitVec.toNat_or, pk_tn ha, pk_tn hb, pk_tn (Nat.or_lt_two_pow ha hb)]
theorem and_n {a b : Nat} (ha : a < 2 ^ 32) (hb : b < 2 ^ 32) : nI a &&& nI b = nI (a &&& b) := by
  apply Int32.toBitVec_inj.mp
  apply BitVec.eq_of_toNat_eq
  rw [Int32.toBitVec_and, BitVec.toNat_and, pk_tn ha, pk_tn hb, pk_tn (Nat.and_lt_two_pow a hb)]
theorem or_pow {a d : Nat} (h : a < 2 ^ d) (hd : d < 32) : nI a ||| nI (2 ^ d) = nI (a + 2 ^ d) := by
  have := Nat.pow_lt_pow_right (a := 2) (by omega) hd
  rw [or_n (by omega) (by omega)]
  have := Nat.two_pow_add_eq_or_of_lt h 1
  rw [Nat.mul_one] at this
  rw [Nat.or_comm, ← this, Nat.add_comm]
def bN (f : Nat → Bool) : Nat → Nat
  | 0 => 0
  | d + 1 => bN f d + (if f d then 2 ^ d else 0)
def bs (f : Nat → Bool) : Nat → Int32
  | 0 => nI 0
  | d + 1 => if f d then bs f d ||| (nI 1 <<< (nI d &&& 31)) else bs f d
def bC (f : Nat → Bool) : Nat → Nat
  | 0 => 0
  | d + 1 => bC f d + (if f d then 1 else 0)
theorem bN_lt {f : Nat → Bool} : ∀ n, bN f n < 2 ^ n
  | 0 => by show 0 < 1; omega
  | n + 1 => by
    have := bN_lt (f := f) n
    show bN f n + _ < _
    rw [Nat.pow_succ]
    split <;> omega
theorem bC_le {f : Nat → Bool} : ∀ n, bC f n ≤ n
  | 0 => Nat.le_refl 0
  | n + 1 => by
    have := bC_le (f := f) n
    show bC f n + _ ≤ _
    split <;> omega
theorem bs_bN {f : Nat → Bool} : ∀ n, n ≤ 32 → bs f n = nI (bN f n)
  | 0, _ => rfl
  | n + 1, h => by
    show (if f n then bs f n ||| _ else bs f n) = nI (bN f n + _)
    rw [bs_bN n (by omega)]
    split
    · rw [sh1 (by omega), or_pow (bN_lt n) (by omega)]
    · rw [Nat.add_zero]
theorem bN_cg {f g : Nat → Bool} : ∀ n, (∀ d, d < n → f d = g d) → bN f n = bN g n
  | 0, _ => rfl
  | n + 1, h => by
    show bN f n + _ = bN g n + _
    rw [bN_cg n (fun d hd => h d (by omega)), h n (by omega)]
theorem bs_cg {f g : Nat → Bool} : ∀ n, (∀ d, d < n → f d = g d) → bs f n = bs g n
  | 0, _ => rfl
  | n + 1, h => by
    show (if f n then bs f n ||| _ else bs f n) = (if g n then bs g n ||| _ else bs g n)
    rw [bs_cg n (fun d hd => h d (by omega)), h n (by omega)]
theorem bC_cg {f g : Nat → Bool} : ∀ n, (∀ d, d < n → f d = g d) → bC f n = bC g n
  | 0, _ => rfl
  | n + 1, h => by
    show bC f n + _ = bC g n + _
    rw [bC_cg n (fun d hd => h d (by omega)), h n (by omega)]
theorem bN_tb {f : Nat → Bool} {d : Nat} : ∀ n, (bN f n).testBit d = (decide (d < n) && f d)
  | 0 => by simp [bN]
  | n + 1 => by
    have ih := bN_tb (f := f) (d := d) n
    show (bN f n + _).testBit d = _
    by_cases q : f n = true
    · rw [if_pos q, Nat.add_comm]
      rcases Nat.lt_trichotomy d n with h | h | h
      · rw [Nat.testBit_two_pow_add_gt h, ih]
        simp [h, show d < n + 1 by omega]
      · subst h
        rw [Nat.testBit_two_pow_add_eq, ih]
        simp [q]
      · have := bN_lt (f := f) n
        have h3 : 2 ^ (n + 1) ≤ 2 ^ d := Nat.pow_le_pow_right (by omega) h
        rw [Nat.pow_succ] at h3
        rw [Nat.testBit_lt_two_pow (by omega)]
        simp [show ¬ d < n + 1 by omega]
    · rw [if_neg q, Nat.add_zero, ih]
      rcases Nat.lt_trichotomy d n with h | h | h
      · simp [h, show d < n + 1 by omega]
      · subst h; simp [q]
      · simp [show ¬ d < n by omega, show ¬ d < n + 1 by omega]
/-- the machine's test of a bit -/
theorem bt_n {a d : Nat} (h : a < 2 ^ 31) (hd : d < 32) : nI a >>> (nI d &&& 31) &&& nI 1 = nI (if a.testBit d then 1 else 0) := by
  have : a / 2 ^ d ≤ a := Nat.div_le_self _ _
  rw [shr_n h hd, and1 (by omega), Nat.testBit_eq_decide_div_mod_eq]
  rcases Nat.mod_two_eq_zero_or_one (a / 2 ^ d) with e | e <;> simp [e]
theorem bt_0 {a d : Nat} (h : a < 2 ^ 31) (hd : d < 32) : (nI a >>> (nI d &&& 31) &&& nI 1 = 0) = ¬ (a.testBit d = true) := by
  rw [bt_n h hd]
  cases a.testBit d <;> simp <;> decide
theorem bs_bt {f : Nat → Bool} {n d : Nat} (hn : n ≤ 30) (hd : d < 32) : (bs f n >>> (nI d &&& 31) &&& nI 1 = 0) = ¬ (d < n ∧ f d = true) := by
  have := bN_lt (f := f) n
  have : 2 ^ n ≤ 2 ^ 30 := Nat.pow_le_pow_right (by omega) hn
  rw [bs_bN n (by omega), bt_0 (by omega) hd, bN_tb]
  simp
/-! Integer.bitCount -/
def swu (M1 M2 x : Nat) : Nat := ((x - (x / 2 &&& M1)) &&& M2) + ((x - (x / 2 &&& M1)) / 4 &&& M2)
def swar (M1 M2 M3 x : Nat) : Nat := (swu M1 M2 x + swu M1 M2 x / 16) &&& M3
def pb (b : Nat) : Nat := swar 85 51 15 b
theorem and_sp {x m b r c M : Nat} (hx : x = b + 256 * r) (hm : m = c + 256 * M) (hb : b < 256) (hc : c < 256) : x &&& m = (b &&& c) + 256 * (r &&& M) := by
  have h1 := Nat.and_mod_two_pow (a := x) (b := m) (n := 8)
  have h2 := Nat.and_div_two_pow (a := x) (b := m) (n := 8)
  simp only [Nat.reducePow] at h1 h2
  rw [show x % 256 = b by omega, show m % 256 = c by omega] at h1
  rw [show x / 256 = r by omega, show m / 256 = M by omega] at h2
  omega
theorem sw_a : ∀ c, c < 128 → ∀ e, e < 2 → (c + 128 * e) &&& 85 = c &&& 85 := by decide +kernel
theorem sw_b : ∀ c, c < 64 → ∀ e, e < 4 → (c + 64 * e) &&& 51 = c &&& 51 := by decide +kernel
theorem sw_d : ∀ b, b < 256 → swu 85 51 b < 256 ∧ swu 85 51 b % 16 < 5 ∧ pb b ≤ 8 ∧ ∀ e, e < 5 → swu 85 51 b + swu 85 51 b / 16 + 16 * e < 256 ∧ (swu 85 51 b + swu 85 51 b / 16 + 16 * e) &&& 15 = pb b := by decide +kernel
theorem sw_u {M1 M2 b r : Nat} (hb : b < 256) : swu (85 + 256 * M1) (51 + 256 * M2) (b + 256 * r) = swu 85 51 b + 256 * swu M1 M2 r := by
  have e1 : (b + 256 * r) / 2 &&& (85 + 256 * M1) = (b / 2 &&& 85) + 256 * (r / 2 &&& M1) := by
    rw [and_sp (b := b / 2 + 128 * (r % 2)) (r := r / 2) (by omega) rfl (by omega) (by omega), sw_a _ (by omega) _ (by omega)]
  have l1 : b / 2 &&& 85 ≤ b / 2 := Nat.and_le_left
  have l2 : r / 2 &&& M1 ≤ r / 2 := Nat.and_le_left
  unfold swu
  rw [e1]
  generalize b / 2 &&& 85 = p at *
  generalize r / 2 &&& M1 = q at *
  rw [show b + 256 * r - (p + 256 * q) = (b - p) + 256 * (r - q) by omega]
  rw [and_sp (x := b - p + 256 * (r - q)) rfl rfl (by omega) (by omega)]
  rw [and_sp (x := (b - p + 256 * (r - q)) / 4) (b := (b - p) / 4 + 64 * ((r - q) % 4)) (r := (r - q) / 4) (by omega) rfl (by omega) (by omega), sw_b _ (by omega) _ (by omega)]
  omega
theorem sw_r {M1 M2 M3 b r : Nat} (hb : b < 256) (hr : swu M1 M2 r % 16 < 5) : swar (85 + 256 * M1) (51 + 256 * M2) (15 + 256 * M3) (b + 256 * r) = pb b + 256 * swar M1 M2 M3 r := by
  obtain ⟨h1, h2, h3, h4⟩ := sw_d b hb
  obtain ⟨h5, h6⟩ := h4 _ hr
  unfold swar
  rw [sw_u hb]
  generalize swu 85 51 b = u at *
  generalize swu M1 M2 r = v at *
  rw [and_sp (b := u + u / 16 + 16 * (v % 16)) (r := v + v / 16) (by omega) rfl h5 (by omega), h6]
def pc (a : Nat) : Nat := pb (a % 256) + pb (a / 256 % 256) + pb (a / 65536 % 256) + pb (a / 16777216 % 256)
theorem sw_all {a : Nat} (h : a < 2 ^ 32) : swar 1431655765 858993459 252645135 a = pb (a % 256) + 256 * (pb (a / 256 % 256) + 256 * (pb (a / 65536 % 256) + 256 * pb (a / 16777216 % 256))) := by
  have h3 := sw_d (a / 16777216 % 256) (by omega)
  have h2 := sw_d (a / 65536 % 256) (by omega)
  have h1 := sw_d (a / 256 % 256) (by omega)
  have r3 : swar (85 + 256 * 85) (51 + 256 * 51) (15 + 256 * 15) (a / 65536 % 256 + 256 * (a / 16777216 % 256)) = pb (a / 65536 % 256) + 256 * pb (a / 16777216 % 256) := sw_r (by omega) h3.2.1
  have r2 : swar (85 + 256 * (85 + 256 * 85)) (51 + 256 * (51 + 256 * 51)) (15 + 256 * (15 + 256 * 15)) (a / 256 % 256 + 256 * (a / 65536 % 256 + 256 * (a / 16777216 % 256))) = pb (a / 256 % 256) + 256 * (pb (a / 65536 % 256) + 256 * pb (a / 16777216 % 256)) := by
    rw [← r3]; exact sw_r (by omega) (by rw [sw_u (by omega)]; omega)
  have r1 : swar (85 + 256 * (85 + 256 * (85 + 256 * 85))) (51 + 256 * (51 + 256 * (51 + 256 * 51))) (15 + 256 * (15 + 256 * (15 + 256 * 15))) (a % 256 + 256 * (a / 256 % 256 + 256 * (a / 65536 % 256 + 256 * (a / 16777216 % 256)))) = pb (a % 256) + 256 * (pb (a / 256 % 256) + 256 * (pb (a / 65536 % 256) + 256 * pb (a / 16777216 % 256))) := by
    rw [← r2]; exact sw_r (by omega) (by rw [sw_u (by omega)]; omega)
  rw [show a % 256 + 256 * (a / 256 % 256 + 256 * (a / 65536 % 256 + 256 * (a / 16777216 % 256))) = a by omega] at r1
  exact r1
theorem us_1 {n : Nat} (h : n < 2 ^ 32) : ((nI n).toUInt32 >>> ((nI 1).toUInt32 &&& Int32.toUInt32 31)).toInt32 = nI (n / 2) := pk_ushrN h _ 1 (by decide)
theorem us_2 {n : Nat} (h : n < 2 ^ 32) : ((nI n).toUInt32 >>> ((nI 2).toUInt32 &&& Int32.toUInt32 31)).toInt32 = nI (n / 4) := pk_ushrN h _ 2 (by decide)
theorem us_4 {n : Nat} (h : n < 2 ^ 32) : ((nI n).toUInt32 >>> ((nI 4).toUInt32 &&& Int32.toUInt32 31)).toInt32 = nI (n / 16) := pk_ushrN h _ 4 (by decide)
theorem us_8 {n : Nat} (h : n < 2 ^ 32) : ((nI n).toUInt32 >>> ((nI 8).toUInt32 &&& Int32.toUInt32 31)).toInt32 = nI (n / 256) := pk_ushrN h _ 8 (by decide)
theorem us_16 {n : Nat} (h : n < 2 ^ 32) : ((nI n).toUInt32 >>> ((nI 16).toUInt32 &&& Int32.toUInt32 31)).toInt32 = nI (n / 65536) := pk_ushrN h _ 16 (by decide)
theorem sp_bitCount {X : pm_X} {a : Nat} {H : pm_H} (h : a < 2 ^ 31) : pm_V0 X 92 [.int (nI a)] H = some (some (.int (nI (pc a))), H) := by
  have c1 : (1431655765 : Int32) = nI 1431655765 := rfl
  have c2 : (858993459 : Int32) = nI 858993459 := rfl
  have c3 : (252645135 : Int32) = nI 252645135 := rfl
  show pm_V X 92 0 [some (.int (nI a))] [] (0, 0) H = _
  simp only [v92_0, v92_1, v92_2, v92_3, v92_4, v92_7, v92_8, v92_9, v92_10, v92_11, v92_14, v92_15, v92_16, v92_17, v92_18, v92_21, v92_22, v92_23, v92_24, v92_25, v92_26, v92_27, v92_28, v92_29, v92_32, v92_33, v92_34, v92_35, v92_36, v92_38, v92_39, v92_40, v92_41, v92_42, v92_43, v92_45, v92_46, v92_47, v92_48, v92_49, v92_51, v92_52, pm_bd_some, Option.toList_some, Option.toList_none, List.cons_append, List.nil_append, Nat.reduceAdd, Nat.reduceMul]
  congr 3
  have l1 : a / 2 &&& 1431655765 ≤ a / 2 := Nat.and_le_left
  rw [c1, c2, c3, us_1 (by omega), and_n (by omega) (by omega), pk_sub (by omega)]
  have hw := sw_all (a := a) (by omega)
  unfold swar swu at hw
  have l0 : a - (a / 2 &&& 1431655765) < 2 ^ 31 := by omega
  generalize a - (a / 2 &&& 1431655765) = y at *
  have l2 : y &&& 858993459 ≤ 858993459 := Nat.and_le_right
  have l3 : y / 4 &&& 858993459 ≤ 858993459 := Nat.and_le_right
  rw [us_2 (by omega), and_n (by omega) (by omega), and_n (by omega) (by omega), nI_add]
  have l4 : (y &&& 858993459) + (y / 4 &&& 858993459) ≤ 1717986918 := by omega
  generalize (y &&& 858993459) + (y / 4 &&& 858993459) = u at *
  rw [us_4 (by omega), nI_add, and_n (by omega) (by omega), hw]
  have h3 := (sw_d (a / 16777216 % 256) (by omega)).2.2.1
  have h2 := (sw_d (a / 65536 % 256) (by omega)).2.2.1
  have h1 := (sw_d (a / 256 % 256) (by omega)).2.2.1
  have h0 := (sw_d (a % 256) (by omega)).2.2.1
  unfold pc
  generalize pb (a % 256) = p0 at *
  generalize pb (a / 256 % 256) = p1 at *
  generalize pb (a / 65536 % 256) = p2 at *
  generalize pb (a / 16777216 % 256) = p3 at *
  rw [us_8 (by omega), nI_add, us_16 (by omega), nI_add, pk_andN (by omega) 6 (by decide)]
  refine congrArg (fun z => Value.int (nI z)) ?_
  clear hw
  have q1 : (p0 + 256 * (p1 + 256 * (p2 + 256 * p3))) / 256 = p1 + 256 * (p2 + 256 * p3) := by omega
  have q2 : (p0 + 256 * (p1 + 256 * (p2 + 256 * p3)) + (p1 + 256 * (p2 + 256 * p3))) / 65536 = p2 + p3 + 256 * p3 := by omega
  rw [q1, q2]
  simp only [Nat.reducePow]
  omega
theorem pb_0 : pb 0 = 0 := by decide +kernel
theorem pb_p : ∀ e, e < 8 → ∀ x, x < 2 ^ e → pb (x + 2 ^ e) = pb x + 1 := by decide +kernel
theorem pc_0 {a : Nat} (h : a < 1) : pc (a + 1) = pc a + 1 := by
  have k := pb_p 0 (by omega) (a / 1) (by simp only [Nat.reducePow]; omega)
  simp only [Nat.reducePow] at k
  unfold pc
  rw [show (a + 1) % 256 = a / 1 + 1 by omega, show a % 256 = a / 1 by omega]
  rw [show (a + 1) / 256 % 256 = 0 by omega, show a / 256 % 256 = 0 by omega]
  rw [show (a + 1) / 65536 % 256 = 0 by omega, show a / 65536 % 256 = 0 by omega]
  rw [show (a + 1) / 16777216 % 256 = 0 by omega, show a / 16777216 % 256 = 0 by omega]
  omega
theorem pc_1 {a : Nat} (h : a < 2) : pc (a + 2) = pc a + 1 := by
  have k := pb_p 1 (by omega) (a / 1) (by simp only [Nat.reducePow]; omega)
  simp only [Nat.reducePow] at k
  unfold pc
  rw [show (a + 2) % 256 = a / 1 + 2 by omega, show a % 256 = a / 1 by omega]
  rw [show (a + 2) / 256 % 256 = 0 by omega, show a / 256 % 256 = 0 by omega]
  rw [show (a + 2) / 65536 % 256 = 0 by omega, show a / 65536 % 256 = 0 by omega]
  rw [show (a + 2) / 16777216 % 256 = 0 by omega, show a / 16777216 % 256 = 0 by omega]
  omega
theorem pc_2 {a : Nat} (h : a < 4) : pc (a + 4) = pc a + 1 := by
  have k := pb_p 2 (by omega) (a / 1) (by simp only [Nat.reducePow]; omega)
  simp only [Nat.reducePow] at k
  unfold pc
  rw [show (a + 4) % 256 = a / 1 + 4 by omega, show a % 256 = a / 1 by omega]
  rw [show (a + 4) / 256 % 256 = 0 by omega, show a / 256 % 256 = 0 by omega]
  rw [show (a + 4) / 65536 % 256 = 0 by omega, show a / 65536 % 256 = 0 by omega]
  rw [show (a + 4) / 16777216 % 256 = 0 by omega, show a / 16777216 % 256 = 0 by omega]
  omega
theorem pc_3 {a : Nat} (h : a < 8) : pc (a + 8) = pc a + 1 := by
  have k := pb_p 3 (by omega) (a / 1) (by simp only [Nat.reducePow]; omega)
  simp only [Nat.reducePow] at k
  unfold pc
  rw [show (a + 8) % 256 = a / 1 + 8 by omega, show a % 256 = a / 1 by omega]
  rw [show (a + 8) / 256 % 256 = 0 by omega, show a / 256 % 256 = 0 by omega]
  rw [show (a + 8) / 65536 % 256 = 0 by omega, show a / 65536 % 256 = 0 by omega]
  rw [show (a + 8) / 16777216 % 256 = 0 by omega, show a / 16777216 % 256 = 0 by omega]
  omega
theorem pc_4 {a : Nat} (h : a < 16) : pc (a + 16) = pc a + 1 := by
  have k := pb_p 4 (by omega) (a / 1) (by simp only [Nat.reducePow]; omega)
  simp only [Nat.reducePow] at k
  unfold pc
  rw [show (a + 16) % 256 = a / 1 + 16 by omega, show a % 256 = a / 1 by omega]
  rw [show (a + 16) / 256 % 256 = 0 by omega, show a / 256 % 256 = 0 by omega]
  rw [show (a + 16) / 65536 % 256 = 0 by omega, show a / 65536 % 256 = 0 by omega]
  rw [show (a + 16) / 16777216 % 256 = 0 by omega, show a / 16777216 % 256 = 0 by omega]
  omega
theorem pc_5 {a : Nat} (h : a < 32) : pc (a + 32) = pc a + 1 := by
  have k := pb_p 5 (by omega) (a / 1) (by simp only [Nat.reducePow]; omega)
  simp only [Nat.reducePow] at k
  unfold pc
  rw [show (a + 32) % 256 = a / 1 + 32 by omega, show a % 256 = a / 1 by omega]
  rw [show (a + 32) / 256 % 256 = 0 by omega, show a / 256 % 256 = 0 by omega]
  rw [show (a + 32) / 65536 % 256 = 0 by omega, show a / 65536 % 256 = 0 by omega]
  rw [show (a + 32) / 16777216 % 256 = 0 by omega, show a / 16777216 % 256 = 0 by omega]
  omega
theorem pc_6 {a : Nat} (h : a < 64) : pc (a + 64) = pc a + 1 := by
  have k := pb_p 6 (by omega) (a / 1) (by simp only [Nat.reducePow]; omega)
  simp only [Nat.reducePow] at k
  unfold pc
  rw [show (a + 64) % 256 = a / 1 + 64 by omega, show a % 256 = a / 1 by omega]
  rw [show (a + 64) / 256 % 256 = 0 by omega, show a / 256 % 256 = 0 by omega]
  rw [show (a + 64) / 65536 % 256 = 0 by omega, show a / 65536 % 256 = 0 by omega]
  rw [show (a + 64) / 16777216 % 256 = 0 by omega, show a / 16777216 % 256 = 0 by omega]
  omega
theorem pc_7 {a : Nat} (h : a < 128) : pc (a + 128) = pc a + 1 := by
  have k := pb_p 7 (by omega) (a / 1) (by simp only [Nat.reducePow]; omega)
  simp only [Nat.reducePow] at k
  unfold pc
  rw [show (a + 128) % 256 = a / 1 + 128 by omega, show a % 256 = a / 1 by omega]
  rw [show (a + 128) / 256 % 256 = 0 by omega, show a / 256 % 256 = 0 by omega]
  rw [show (a + 128) / 65536 % 256 = 0 by omega, show a / 65536 % 256 = 0 by omega]
  rw [show (a + 128) / 16777216 % 256 = 0 by omega, show a / 16777216 % 256 = 0 by omega]
  omega
theorem pc_8 {a : Nat} (h : a < 256) : pc (a + 256) = pc a + 1 := by
  have k := pb_p 0 (by omega) (a / 256) (by simp only [Nat.reducePow]; omega)
  simp only [Nat.reducePow] at k
  unfold pc
  rw [show (a + 256) % 256 = a % 256 by omega]
  rw [show (a + 256) / 256 % 256 = a / 256 + 1 by omega, show a / 256 % 256 = a / 256 by omega]
  rw [show (a + 256) / 65536 % 256 = 0 by omega, show a / 65536 % 256 = 0 by omega]
  rw [show (a + 256) / 16777216 % 256 = 0 by omega, show a / 16777216 % 256 = 0 by omega]
  omega
theorem pc_9 {a : Nat} (h : a < 512) : pc (a + 512) = pc a + 1 := by
  have k := pb_p 1 (by omega) (a / 256) (by simp only [Nat.reducePow]; omega)
  simp only [Nat.reducePow] at k
  unfold pc
  rw [show (a + 512) % 256 = a % 256 by omega]
  rw [show (a + 512) / 256 % 256 = a / 256 + 2 by omega, show a / 256 % 256 = a / 256 by omega]
  rw [show (a + 512) / 65536 % 256 = 0 by omega, show a / 65536 % 256 = 0 by omega]
  rw [show (a + 512) / 16777216 % 256 = 0 by omega, show a / 16777216 % 256 = 0 by omega]
  omega
theorem pc_10 {a : Nat} (h : a < 1024) : pc (a + 1024) = pc a + 1 := by
  have k := pb_p 2 (by omega) (a / 256) (by simp only [Nat.reducePow]; omega)
  simp only [Nat.reducePow] at k
  unfold pc
  rw [show (a + 1024) % 256 = a % 256 by omega]
  rw [show (a + 1024) / 256 % 256 = a / 256 + 4 by omega, show a / 256 % 256 = a / 256 by omega]
  rw [show (a + 1024) / 65536 % 256 = 0 by omega, show a / 65536 % 256 = 0 by omega]
  rw [show (a + 1024) / 16777216 % 256 = 0 by omega, show a / 16777216 % 256 = 0 by omega]
  omega
theorem pc_11 {a : Nat} (h : a < 2048) : pc (a + 2048) = pc a + 1 := by
  have k := pb_p 3 (by omega) (a / 256) (by simp only [Nat.reducePow]; omega)
  simp only [Nat.reducePow] at k
  unfold pc
  rw [show (a + 2048) % 256 = a % 256 by omega]
  rw [show (a + 2048) / 256 % 256 = a / 256 + 8 by omega, show a / 256 % 256 = a / 256 by omega]
  rw [show (a + 2048) / 65536 % 256 = 0 by omega, show a / 65536 % 256 = 0 by omega]
  rw [show (a + 2048) / 16777216 % 256 = 0 by omega, show a / 16777216 % 256 = 0 by omega]
  omega
theorem pc_12 {a : Nat} (h : a < 4096) : pc (a + 4096) = pc a + 1 := by
  have k := pb_p 4 (by omega) (a / 256) (by simp only [Nat.reducePow]; omega)
  simp only [Nat.reducePow] at k
  unfold pc
  rw [show (a + 4096) % 256 = a % 256 by omega]
  rw [show (a + 4096) / 256 % 256 = a / 256 + 16 by omega, show a / 256 % 256 = a / 256 by omega]
  rw [show (a + 4096) / 65536 % 256 = 0 by omega, show a / 65536 % 256 = 0 by omega]
  rw [show (a + 4096) / 16777216 % 256 = 0 by omega, show a / 16777216 % 256 = 0 by omega]
  omega
theorem pc_13 {a : Nat} (h : a < 8192) : pc (a + 8192) = pc a + 1 := by
  have k := pb_p 5 (by omega) (a / 256) (by simp only [Nat.reducePow]; omega)
  simp only [Nat.reducePow] at k
  unfold pc
  rw [show (a + 8192) % 256 = a % 256 by omega]
  rw [show (a + 8192) / 256 % 256 = a / 256 + 32 by omega, show a / 256 % 256 = a / 256 by omega]
  rw [show (a + 8192) / 65536 % 256 = 0 by omega, show a / 65536 % 256 = 0 by omega]
  rw [show (a + 8192) / 16777216 % 256 = 0 by omega, show a / 16777216 % 256 = 0 by omega]
  omega
theorem pc_14 {a : Nat} (h : a < 16384) : pc (a + 16384) = pc a + 1 := by
  have k := pb_p 6 (by omega) (a / 256) (by simp only [Nat.reducePow]; omega)
  simp only [Nat.reducePow] at k
  unfold pc
  rw [show (a + 16384) % 256 = a % 256 by omega]
  rw [show (a + 16384) / 256 % 256 = a / 256 + 64 by omega, show a / 256 % 256 = a / 256 by omega]
  rw [show (a + 16384) / 65536 % 256 = 0 by omega, show a / 65536 % 256 = 0 by omega]
  rw [show (a + 16384) / 16777216 % 256 = 0 by omega, show a / 16777216 % 256 = 0 by omega]
  omega
theorem pc_15 {a : Nat} (h : a < 32768) : pc (a + 32768) = pc a + 1 := by
  have k := pb_p 7 (by omega) (a / 256) (by simp only [Nat.reducePow]; omega)
  simp only [Nat.reducePow] at k
  unfold pc
  rw [show (a + 32768) % 256 = a % 256 by omega]
  rw [show (a + 32768) / 256 % 256 = a / 256 + 128 by omega, show a / 256 % 256 = a / 256 by omega]
  rw [show (a + 32768) / 65536 % 256 = 0 by omega, show a / 65536 % 256 = 0 by omega]
  rw [show (a + 32768) / 16777216 % 256 = 0 by omega, show a / 16777216 % 256 = 0 by omega]
  omega
theorem pc_16 {a : Nat} (h : a < 65536) : pc (a + 65536) = pc a + 1 := by
  have k := pb_p 0 (by omega) (a / 65536) (by simp only [Nat.reducePow]; omega)
  simp only [Nat.reducePow] at k
  unfold pc
  rw [show (a + 65536) % 256 = a % 256 by omega]
  rw [show (a + 65536) / 256 % 256 = a / 256 % 256 by omega]
  rw [show (a + 65536) / 65536 % 256 = a / 65536 + 1 by omega, show a / 65536 % 256 = a / 65536 by omega]
  rw [show (a + 65536) / 16777216 % 256 = 0 by omega, show a / 16777216 % 256 = 0 by omega]
  omega
theorem pc_17 {a : Nat} (h : a < 131072) : pc (a + 131072) = pc a + 1 := by
  have k := pb_p 1 (by omega) (a / 65536) (by simp only [Nat.reducePow]; omega)
  simp only [Nat.reducePow] at k
  unfold pc
  rw [show (a + 131072) % 256 = a % 256 by omega]
  rw [show (a + 131072) / 256 % 256 = a / 256 % 256 by omega]
  rw [show (a + 131072) / 65536 % 256 = a / 65536 + 2 by omega, show a / 65536 % 256 = a / 65536 by omega]
  rw [show (a + 131072) / 16777216 % 256 = 0 by omega, show a / 16777216 % 256 = 0 by omega]
  omega
theorem pc_18 {a : Nat} (h : a < 262144) : pc (a + 262144) = pc a + 1 := by
  have k := pb_p 2 (by omega) (a / 65536) (by simp only [Nat.reducePow]; omega)
  simp only [Nat.reducePow] at k
  unfold pc
  rw [show (a + 262144) % 256 = a % 256 by omega]
  rw [show (a + 262144) / 256 % 256 = a / 256 % 256 by omega]
  rw [show (a + 262144) / 65536 % 256 = a / 65536 + 4 by omega, show a / 65536 % 256 = a / 65536 by omega]
  rw [show (a + 262144) / 16777216 % 256 = 0 by omega, show a / 16777216 % 256 = 0 by omega]
  omega
theorem pc_19 {a : Nat} (h : a < 524288) : pc (a + 524288) = pc a + 1 := by
  have k := pb_p 3 (by omega) (a / 65536) (by simp only [Nat.reducePow]; omega)
  simp only [Nat.reducePow] at k
  unfold pc
  rw [show (a + 524288) % 256 = a % 256 by omega]
  rw [show (a + 524288) / 256 % 256 = a / 256 % 256 by omega]
  rw [show (a + 524288) / 65536 % 256 = a / 65536 + 8 by omega, show a / 65536 % 256 = a / 65536 by omega]
  rw [show (a + 524288) / 16777216 % 256 = 0 by omega, show a / 16777216 % 256 = 0 by omega]
  omega
theorem pc_20 {a : Nat} (h : a < 1048576) : pc (a + 1048576) = pc a + 1 := by
  have k := pb_p 4 (by omega) (a / 65536) (by simp only [Nat.reducePow]; omega)
  simp only [Nat.reducePow] at k
  unfold pc
  rw [show (a + 1048576) % 256 = a % 256 by omega]
  rw [show (a + 1048576) / 256 % 256 = a / 256 % 256 by omega]
  rw [show (a + 1048576) / 65536 % 256 = a / 65536 + 16 by omega, show a / 65536 % 256 = a / 65536 by omega]
  rw [show (a + 1048576) / 16777216 % 256 = 0 by omega, show a / 16777216 % 256 = 0 by omega]
  omega
theorem pc_21 {a : Nat} (h : a < 2097152) : pc (a + 2097152) = pc a + 1 := by
  have k := pb_p 5 (by omega) (a / 65536) (by simp only [Nat.reducePow]; omega)
  simp only [Nat.reducePow] at k
  unfold pc
  rw [show (a + 2097152) % 256 = a % 256 by omega]
  rw [show (a + 2097152) / 256 % 256 = a / 256 % 256 by omega]
  rw [show (a + 2097152) / 65536 % 256 = a / 65536 + 32 by omega, show a / 65536 % 256 = a / 65536 by omega]
  rw [show (a + 2097152) / 16777216 % 256 = 0 by omega, show a / 16777216 % 256 = 0 by omega]
  omega
theorem pc_22 {a : Nat} (h : a < 4194304) : pc (a + 4194304) = pc a + 1 := by
  have k := pb_p 6 (by omega) (a / 65536) (by simp only [Nat.reducePow]; omega)
  simp only [Nat.reducePow] at k
  unfold pc
  rw [show (a + 4194304) % 256 = a % 256 by omega]
  rw [show (a + 4194304) / 256 % 256 = a / 256 % 256 by omega]
  rw [show (a + 4194304) / 65536 % 256 = a / 65536 + 64 by omega, show a / 65536 % 256 = a / 65536 by omega]
  rw [show (a + 4194304) / 16777216 % 256 = 0 by omega, show a / 16777216 % 256 = 0 by omega]
  omega
theorem pc_23 {a : Nat} (h : a < 8388608) : pc (a + 8388608) = pc a + 1 := by
  have k := pb_p 7 (by omega) (a / 65536) (by simp only [Nat.reducePow]; omega)
  simp only [Nat.reducePow] at k
  unfold pc
  rw [show (a + 8388608) % 256 = a % 256 by omega]
  rw [show (a + 8388608) / 256 % 256 = a / 256 % 256 by omega]
  rw [show (a + 8388608) / 65536 % 256 = a / 65536 + 128 by omega, show a / 65536 % 256 = a / 65536 by omega]
  rw [show (a + 8388608) / 16777216 % 256 = 0 by omega, show a / 16777216 % 256 = 0 by omega]
  omega
theorem pc_24 {a : Nat} (h : a < 16777216) : pc (a + 16777216) = pc a + 1 := by
  have k := pb_p 0 (by omega) (a / 16777216) (by simp only [Nat.reducePow]; omega)
  simp only [Nat.reducePow] at k
  unfold pc
  rw [show (a + 16777216) % 256 = a % 256 by omega]
  rw [show (a + 16777216) / 256 % 256 = a / 256 % 256 by omega]
  rw [show (a + 16777216) / 65536 % 256 = a / 65536 % 256 by omega]
  rw [show (a + 16777216) / 16777216 % 256 = a / 16777216 + 1 by omega, show a / 16777216 % 256 = a / 16777216 by omega]
  omega
theorem pc_25 {a : Nat} (h : a < 33554432) : pc (a + 33554432) = pc a + 1 := by
  have k := pb_p 1 (by omega) (a / 16777216) (by simp only [Nat.reducePow]; omega)
  simp only [Nat.reducePow] at k
  unfold pc
  rw [show (a + 33554432) % 256 = a % 256 by omega]
  rw [show (a + 33554432) / 256 % 256 = a / 256 % 256 by omega]
  rw [show (a + 33554432) / 65536 % 256 = a / 65536 % 256 by omega]
  rw [show (a + 33554432) / 16777216 % 256 = a / 16777216 + 2 by omega, show a / 16777216 % 256 = a / 16777216 by omega]
  omega
theorem pc_pow : ∀ d, d < 26 → ∀ a, a < 2 ^ d → pc (a + 2 ^ d) = pc a + 1
  | 0, _, a, h => pc_0 h
  | 1, _, a, h => pc_1 h
  | 2, _, a, h => pc_2 h
  | 3, _, a, h => pc_3 h
  | 4, _, a, h => pc_4 h
  | 5, _, a, h => pc_5 h
  | 6, _, a, h => pc_6 h
  | 7, _, a, h => pc_7 h
  | 8, _, a, h => pc_8 h
  | 9, _, a, h => pc_9 h
  | 10, _, a, h => pc_10 h
  | 11, _, a, h => pc_11 h
  | 12, _, a, h => pc_12 h
  | 13, _, a, h => pc_13 h
  | 14, _, a, h => pc_14 h
  | 15, _, a, h => pc_15 h
  | 16, _, a, h => pc_16 h
  | 17, _, a, h => pc_17 h
  | 18, _, a, h => pc_18 h
  | 19, _, a, h => pc_19 h
  | 20, _, a, h => pc_20 h
  | 21, _, a, h => pc_21 h
  | 22, _, a, h => pc_22 h
  | 23, _, a, h => pc_23 h
  | 24, _, a, h => pc_24 h
  | 25, _, a, h => pc_25 h
  | d + 26, h, _, _ => absurd h (by omega)
theorem pc_bN {f : Nat → Bool} : ∀ n, n ≤ 26 → pc (bN f n) = bC f n
  | 0, _ => by show pc 0 = 0; decide +kernel
  | n + 1, h => by
    have ih := pc_bN (f := f) n (by omega)
    show pc (bN f n + _) = bC f n + _
    split
    · rw [pc_pow n (by omega) _ (bN_lt n), ih]
    · rw [Nat.add_zero, ih, Nat.add_zero]
theorem sp_bitCount_bs {X : pm_X} {f : Nat → Bool} {n : Nat} {H : pm_H} (h : n ≤ 26) : pm_V0 X 92 [.int (bs f n)] H = some (some (.int (nI (bC f n))), H) := by
  have h1 := bN_lt (f := f) n
  have h2 : 2 ^ n ≤ 2 ^ 26 := Nat.pow_le_pow_right (by omega) h
  rw [bs_bN n (by omega), sp_bitCount (by omega), pc_bN n h]
/-! first, last -/
def fst1 (f : Nat → Bool) : Nat → Nat → Option Nat
  | 0, _ => none
  | m + 1, d => if f d then some d else fst1 f m (d + 1)
def lst1 (f : Nat → Bool) : Nat → Option Nat
  | 0 => none
  | d + 1 => if f d then some d else lst1 f d
theorem lst1_far {f : Nat → Bool} {n : Nat} : ∀ k, lst1 (fun d => decide (d < n) && f d) (n + k) = lst1 f n
  | 0 => by
    have : ∀ m, m ≤ n → lst1 (fun d => decide (d < n) && f d) m = lst1 f m := by
      intro m
      induction m with
      | zero => intro _; rfl
      | succ m ih =>
        intro h
        show (if _ then _ else lst1 _ m) = (if _ then _ else lst1 _ m)
        rw [ih (by omega)]
        simp [show m < n by omega]
    exact this n (Nat.le_refl n)
  | k + 1 => by
    show (if (decide (n + k < n) && f (n + k)) = true then some (n + k) else lst1 _ (n + k)) = _
    rw [if_neg (by simp; omega), lst1_far k]
theorem lp_lastOf {X : pm_X} {f : Nat → Bool} {n : Nat} {H : pm_H} (hn : n ≤ 25) : ∀ d, d ≤ 25 → pm_V X 124 3 [some (.int (bs f n)), some (.int (nI d - nI 1))] [] (0, 0) H = some (some (.int (enc (lst1 (fun d => decide (d < n) && f d) d))), H) := by
  intro d
  induction d with
  | zero =>
    intro _
    have e : nI 0 - nI 1 = -1 := by decide
    rw [e, v124_3]
    simp (disch := first | omega | (simp (disch := omega) only [ly1, ak_2, al_2, ly3, ak_4, al_4, ly5, ak_6, al_6, ly7, ak_8, al_8, ly9, ak_10, al_10, ly11, ak_12, al_12, ly13, ak_14, al_14, ak_15, al_15, ly16, ak_17, al_17, ly18, ak_19, al_19, ly20, ak_21, al_21, ly22, ak_23, al_23, ak_24, al_24, ly25, ak_26, al_26, ly27, ak_28, al_28, ly29, ak_30, al_30, ly31, ak_32, al_32, ak_33, al_33, ly34, ak_35, al_35, ly36, ak_37, al_37, ly38, ak_39, al_39, ly40, ak_41, al_41, ly42, ak_43, al_43, ak_44, al_44, ly45, ak_46, al_46, ly47, ak_48, al_48, ly49, ak_50, al_50, ly51, ak_52, al_52, ak_53, al_53, ly54, ak_55, al_55, ak_56, al_56, ly57, ly58, ak_59, al_59, ly60, ak_61, al_61, ly62, ak_63, al_63, ak_64, al_64, ly65, ak_66, al_66, ly67, ly68, ak_69, al_69, ly70, ak_71, al_71, ak_72, al_72, ak_73, al_73, ak_74, al_74, ak_75, al_75, ly76, ak_77, al_77, ak_78, al_78, ak_79, al_79, ak_80, al_80, ak_81, al_81, ak_82, al_82, ak_83, al_83, ak_84, al_84, ak_85, al_85, ak_86, al_86, ak_87, al_87, ak_88, al_88, ak_89, al_89, ak_90, al_90, ak_91, al_91, ak_92, al_92, ak_93, al_93, ak_94, al_94, ak_95, al_95, ak_96, al_96, ak_97, al_97, ak_98, al_98, ak_99, al_99, ak_100, al_100, ly_row, ak_row, al_row, ly_text, ak_text, al_text, ly_rule, ak_rule, al_rule, ly_page, ak_page, al_page, ly_kept, ak_kept, al_kept, eq_self, true_or, or_true, not_false_eq_true, z0, z1, b_z, lst1, enc_none]; done) | (simp (disch := omega) only [ly1, ak_2, al_2, ly3, ak_4, al_4, ly5, ak_6, al_6, ly7, ak_8, al_8, ly9, ak_10, al_10, ly11, ak_12, al_12, ly13, ak_14, al_14, ak_15, al_15, ly16, ak_17, al_17, ly18, ak_19, al_19, ly20, ak_21, al_21, ly22, ak_23, al_23, ak_24, al_24, ly25, ak_26, al_26, ly27, ak_28, al_28, ly29, ak_30, al_30, ly31, ak_32, al_32, ak_33, al_33, ly34, ak_35, al_35, ly36, ak_37, al_37, ly38, ak_39, al_39, ly40, ak_41, al_41, ly42, ak_43, al_43, ak_44, al_44, ly45, ak_46, al_46, ly47, ak_48, al_48, ly49, ak_50, al_50, ly51, ak_52, al_52, ak_53, al_53, ly54, ak_55, al_55, ak_56, al_56, ly57, ly58, ak_59, al_59, ly60, ak_61, al_61, ly62, ak_63, al_63, ak_64, al_64, ly65, ak_66, al_66, ly67, ly68, ak_69, al_69, ly70, ak_71, al_71, ak_72, al_72, ak_73, al_73, ak_74, al_74, ak_75, al_75, ly76, ak_77, al_77, ak_78, al_78, ak_79, al_79, ak_80, al_80, ak_81, al_81, ak_82, al_82, ak_83, al_83, ak_84, al_84, ak_85, al_85, ak_86, al_86, ak_87, al_87, ak_88, al_88, ak_89, al_89, ak_90, al_90, ak_91, al_91, ak_92, al_92, ak_93, al_93, ak_94, al_94, ak_95, al_95, ak_96, al_96, ak_97, al_97, ak_98, al_98, ak_99, al_99, ak_100, al_100, ly_row, ak_row, al_row, ly_text, ak_text, al_text, ly_rule, ak_rule, al_rule, ly_page, ak_page, al_page, ly_kept, ak_kept, al_kept, eq_self, true_or, or_true, not_false_eq_true, z0, z1, b_z, lst1, enc_none]; omega)) only [v124_0, v124_2, v124_4, v124_7, v124_8, v124_9, v124_10, v124_11, v124_12, v124_15, v124_16, v124_17, v124_20, v124_23, v124_25, pm_bd_some, Option.toList_some, Option.toList_none, List.cons_append, List.nil_append, Nat.reduceAdd, Nat.reduceMul, n_lt, n_le, n_eq, n_lt0, n_ge0, n_eq0, n_gt0, n_le0, b_e, b_z, z0, z1, m1_lt, m1_ge, m1_eq, m1_n, m1_n2, m2_lt, m2_ge, m2_eq, m2_n, m2_n2, m3_lt, m3_ge, m3_eq, m3_n, m3_n2, m4_lt, m4_ge, m4_eq, m4_n, m4_n2, m6_lt, m6_ge, m6_eq, m6_n, m6_n2, m9_lt, m9_ge, m9_eq, m9_n, m9_n2, nI_add, pk_mul, not_true_eq_false, not_false_eq_true, Decidable.not_not, if_pos, if_neg, and_self, and_true, true_and, and_false, false_and, or_self, true_or, or_true, false_or, or_false, if_true, if_false, eq_self, lst1, enc_none]
  | succ d ih =>
    intro h
    have e : nI (d + 1) - nI 1 = nI d := pk_sub (by omega)
    have ih := ih (by omega)
    have hb := bs_bt (f := f) (show n ≤ 30 by omega) (show d < 32 by omega)
    have e3 : nI d + (-1 : Int32) = nI d - nI 1 := by
      rw [Int32.sub_eq_add_neg]; rfl
    rw [e, v124_3]
    by_cases g : d < n ∧ f d = true
    · have e2 : lst1 (fun d => decide (d < n) && f d) (d + 1) = some d := by unfold lst1; rw [if_pos (by simpa using g)]
      rw [e2]
      simp (disch := first | omega | (simp (disch := omega) only [ly1, ak_2, al_2, ly3, ak_4, al_4, ly5, ak_6, al_6, ly7, ak_8, al_8, ly9, ak_10, al_10, ly11, ak_12, al_12, ly13, ak_14, al_14, ak_15, al_15, ly16, ak_17, al_17, ly18, ak_19, al_19, ly20, ak_21, al_21, ly22, ak_23, al_23, ak_24, al_24, ly25, ak_26, al_26, ly27, ak_28, al_28, ly29, ak_30, al_30, ly31, ak_32, al_32, ak_33, al_33, ly34, ak_35, al_35, ly36, ak_37, al_37, ly38, ak_39, al_39, ly40, ak_41, al_41, ly42, ak_43, al_43, ak_44, al_44, ly45, ak_46, al_46, ly47, ak_48, al_48, ly49, ak_50, al_50, ly51, ak_52, al_52, ak_53, al_53, ly54, ak_55, al_55, ak_56, al_56, ly57, ly58, ak_59, al_59, ly60, ak_61, al_61, ly62, ak_63, al_63, ak_64, al_64, ly65, ak_66, al_66, ly67, ly68, ak_69, al_69, ly70, ak_71, al_71, ak_72, al_72, ak_73, al_73, ak_74, al_74, ak_75, al_75, ly76, ak_77, al_77, ak_78, al_78, ak_79, al_79, ak_80, al_80, ak_81, al_81, ak_82, al_82, ak_83, al_83, ak_84, al_84, ak_85, al_85, ak_86, al_86, ak_87, al_87, ak_88, al_88, ak_89, al_89, ak_90, al_90, ak_91, al_91, ak_92, al_92, ak_93, al_93, ak_94, al_94, ak_95, al_95, ak_96, al_96, ak_97, al_97, ak_98, al_98, ak_99, al_99, ak_100, al_100, ly_row, ak_row, al_row, ly_text, ak_text, al_text, ly_rule, ak_rule, al_rule, ly_page, ak_page, al_page, ly_kept, ak_kept, al_kept, eq_self, true_or, or_true, not_false_eq_true, z0, z1, b_z, hb, g, enc_some]; done) | (simp (disch := omega) only [ly1, ak_2, al_2, ly3, ak_4, al_4, ly5, ak_6, al_6, ly7, ak_8, al_8, ly9, ak_10, al_10, ly11, ak_12, al_12, ly13, ak_14, al_14, ak_15, al_15, ly16, ak_17, al_17, ly18, ak_19, al_19, ly20, ak_21, al_21, ly22, ak_23, al_23, ak_24, al_24, ly25, ak_26, al_26, ly27, ak_28, al_28, ly29, ak_30, al_30, ly31, ak_32, al_32, ak_33, al_33, ly34, ak_35, al_35, ly36, ak_37, al_37, ly38, ak_39, al_39, ly40, ak_41, al_41, ly42, ak_43, al_43, ak_44, al_44, ly45, ak_46, al_46, ly47, ak_48, al_48, ly49, ak_50, al_50, ly51, ak_52, al_52, ak_53, al_53, ly54, ak_55, al_55, ak_56, al_56, ly57, ly58, ak_59, al_59, ly60, ak_61, al_61, ly62, ak_63, al_63, ak_64, al_64, ly65, ak_66, al_66, ly67, ly68, ak_69, al_69, ly70, ak_71, al_71, ak_72, al_72, ak_73, al_73, ak_74, al_74, ak_75, al_75, ly76, ak_77, al_77, ak_78, al_78, ak_79, al_79, ak_80, al_80, ak_81, al_81, ak_82, al_82, ak_83, al_83, ak_84, al_84, ak_85, al_85, ak_86, al_86, ak_87, al_87, ak_88, al_88, ak_89, al_89, ak_90, al_90, ak_91, al_91, ak_92, al_92, ak_93, al_93, ak_94, al_94, ak_95, al_95, ak_96, al_96, ak_97, al_97, ak_98, al_98, ak_99, al_99, ak_100, al_100, ly_row, ak_row, al_row, ly_text, ak_text, al_text, ly_rule, ak_rule, al_rule, ly_page, ak_page, al_page, ly_kept, ak_kept, al_kept, eq_self, true_or, or_true, not_false_eq_true, z0, z1, b_z, hb, g, enc_some]; omega)) only [v124_0, v124_2, v124_4, v124_7, v124_8, v124_9, v124_10, v124_11, v124_12, v124_15, v124_16, v124_17, v124_20, v124_23, v124_25, pm_bd_some, Option.toList_some, Option.toList_none, List.cons_append, List.nil_append, Nat.reduceAdd, Nat.reduceMul, n_lt, n_le, n_eq, n_lt0, n_ge0, n_eq0, n_gt0, n_le0, b_e, b_z, z0, z1, m1_lt, m1_ge, m1_eq, m1_n, m1_n2, m2_lt, m2_ge, m2_eq, m2_n, m2_n2, m3_lt, m3_ge, m3_eq, m3_n, m3_n2, m4_lt, m4_ge, m4_eq, m4_n, m4_n2, m6_lt, m6_ge, m6_eq, m6_n, m6_n2, m9_lt, m9_ge, m9_eq, m9_n, m9_n2, nI_add, pk_mul, not_true_eq_false, not_false_eq_true, Decidable.not_not, if_pos, if_neg, and_self, and_true, true_and, and_false, false_and, or_self, true_or, or_true, false_or, or_false, if_true, if_false, eq_self, hb, g, enc_some]
    · have e2 : lst1 (fun d => decide (d < n) && f d) (d + 1) = lst1 (fun d => decide (d < n) && f d) d := by conv => lhs; unfold lst1; rw [if_neg (by simpa using g)]
      rw [e2]
      simp (disch := first | omega | (simp (disch := omega) only [ly1, ak_2, al_2, ly3, ak_4, al_4, ly5, ak_6, al_6, ly7, ak_8, al_8, ly9, ak_10, al_10, ly11, ak_12, al_12, ly13, ak_14, al_14, ak_15, al_15, ly16, ak_17, al_17, ly18, ak_19, al_19, ly20, ak_21, al_21, ly22, ak_23, al_23, ak_24, al_24, ly25, ak_26, al_26, ly27, ak_28, al_28, ly29, ak_30, al_30, ly31, ak_32, al_32, ak_33, al_33, ly34, ak_35, al_35, ly36, ak_37, al_37, ly38, ak_39, al_39, ly40, ak_41, al_41, ly42, ak_43, al_43, ak_44, al_44, ly45, ak_46, al_46, ly47, ak_48, al_48, ly49, ak_50, al_50, ly51, ak_52, al_52, ak_53, al_53, ly54, ak_55, al_55, ak_56, al_56, ly57, ly58, ak_59, al_59, ly60, ak_61, al_61, ly62, ak_63, al_63, ak_64, al_64, ly65, ak_66, al_66, ly67, ly68, ak_69, al_69, ly70, ak_71, al_71, ak_72, al_72, ak_73, al_73, ak_74, al_74, ak_75, al_75, ly76, ak_77, al_77, ak_78, al_78, ak_79, al_79, ak_80, al_80, ak_81, al_81, ak_82, al_82, ak_83, al_83, ak_84, al_84, ak_85, al_85, ak_86, al_86, ak_87, al_87, ak_88, al_88, ak_89, al_89, ak_90, al_90, ak_91, al_91, ak_92, al_92, ak_93, al_93, ak_94, al_94, ak_95, al_95, ak_96, al_96, ak_97, al_97, ak_98, al_98, ak_99, al_99, ak_100, al_100, ly_row, ak_row, al_row, ly_text, ak_text, al_text, ly_rule, ak_rule, al_rule, ly_page, ak_page, al_page, ly_kept, ak_kept, al_kept, eq_self, true_or, or_true, not_false_eq_true, z0, z1, b_z, hb, g, e3, ih]; done) | (simp (disch := omega) only [ly1, ak_2, al_2, ly3, ak_4, al_4, ly5, ak_6, al_6, ly7, ak_8, al_8, ly9, ak_10, al_10, ly11, ak_12, al_12, ly13, ak_14, al_14, ak_15, al_15, ly16, ak_17, al_17, ly18, ak_19, al_19, ly20, ak_21, al_21, ly22, ak_23, al_23, ak_24, al_24, ly25, ak_26, al_26, ly27, ak_28, al_28, ly29, ak_30, al_30, ly31, ak_32, al_32, ak_33, al_33, ly34, ak_35, al_35, ly36, ak_37, al_37, ly38, ak_39, al_39, ly40, ak_41, al_41, ly42, ak_43, al_43, ak_44, al_44, ly45, ak_46, al_46, ly47, ak_48, al_48, ly49, ak_50, al_50, ly51, ak_52, al_52, ak_53, al_53, ly54, ak_55, al_55, ak_56, al_56, ly57, ly58, ak_59, al_59, ly60, ak_61, al_61, ly62, ak_63, al_63, ak_64, al_64, ly65, ak_66, al_66, ly67, ly68, ak_69, al_69, ly70, ak_71, al_71, ak_72, al_72, ak_73, al_73, ak_74, al_74, ak_75, al_75, ly76, ak_77, al_77, ak_78, al_78, ak_79, al_79, ak_80, al_80, ak_81, al_81, ak_82, al_82, ak_83, al_83, ak_84, al_84, ak_85, al_85, ak_86, al_86, ak_87, al_87, ak_88, al_88, ak_89, al_89, ak_90, al_90, ak_91, al_91, ak_92, al_92, ak_93, al_93, ak_94, al_94, ak_95, al_95, ak_96, al_96, ak_97, al_97, ak_98, al_98, ak_99, al_99, ak_100, al_100, ly_row, ak_row, al_row, ly_text, ak_text, al_text, ly_rule, ak_rule, al_rule, ly_page, ak_page, al_page, ly_kept, ak_kept, al_kept, eq_self, true_or, or_true, not_false_eq_true, z0, z1, b_z, hb, g, e3, ih]; omega)) only [v124_0, v124_2, v124_4, v124_7, v124_8, v124_9, v124_10, v124_11, v124_12, v124_15, v124_16, v124_17, v124_20, v124_23, v124_25, pm_bd_some, Option.toList_some, Option.toList_none, List.cons_append, List.nil_append, Nat.reduceAdd, Nat.reduceMul, n_lt, n_le, n_eq, n_lt0, n_ge0, n_eq0, n_gt0, n_le0, b_e, b_z, z0, z1, m1_lt, m1_ge, m1_eq, m1_n, m1_n2, m2_lt, m2_ge, m2_eq, m2_n, m2_n2, m3_lt, m3_ge, m3_eq, m3_n, m3_n2, m4_lt, m4_ge, m4_eq, m4_n, m4_n2, m6_lt, m6_ge, m6_eq, m6_n, m6_n2, m9_lt, m9_ge, m9_eq, m9_n, m9_n2, nI_add, pk_mul, not_true_eq_false, not_false_eq_true, Decidable.not_not, if_pos, if_neg, and_self, and_true, true_and, and_false, false_and, or_self, true_or, or_true, false_or, or_false, if_true, if_false, eq_self, hb, g, e3, ih]
theorem sp_lastOf {X : pm_X} {f : Nat → Bool} {n : Nat} {H : pm_H} (hn : n ≤ 25) : pm_V0 X 124 [.int (bs f n)] H = some (some (.int (enc (lst1 f n))), H) := by
  show pm_V X 124 0 [some (.int (bs f n)), none] [] (0, 0) H = _
  simp only [v124_0, v124_2, v124_4, v124_7, v124_8, v124_9, v124_10, v124_11, v124_12, v124_15, v124_16, v124_17, v124_20, v124_23, v124_25, pm_bd_some, Option.toList_some, Option.toList_none, List.cons_append, List.nil_append, Nat.reduceAdd, Nat.reduceMul]
  have := lp_lastOf (X := X) (f := f) (H := H) hn 25 (by omega)
  rw [show nI 25 - nI 1 = nI 24 by decide] at this
  rw [this, show 25 = n + (25 - n) by omega, lst1_far]
