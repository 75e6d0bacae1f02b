/-! THE PURE MACHINE: the program run over a heap of numbered cells (cell 0 is the script, read only by the law); refs are cell numbers -/
abbrev pm_C : Type := (FieldType × Nat × ((Nat → Int32) ⊕ (Nat → Option Nat))) ⊕ (Nat × List Value)
abbrev pm_H : Type := Nat × (Nat → pm_C)
abbrev pm_L : Type := List (Option Value)
abbrev pm_X : Type := Nat × (Nat → Int32)
def pm_get (H : pm_H) (k : Nat) : Option pm_C := if 0 < k ∧ k ≤ H.1 then some (H.2 k) else none
def pm_set (H : pm_H) (k : Nat) (c : pm_C) : pm_H := (H.1, fun j => if j = k then c else H.2 j)
def pm_new (H : pm_H) (c : pm_C) : pm_H := (H.1 + 1, fun j => if j = H.1 + 1 then c else H.2 j)
def pm_ld (L : pm_L) (i : Nat) : Option Value := match L[i]? with
  | some (some v) => some v
  | _ => none
def pm_ct (L : pm_L) (i : Nat) : pm_L := match i with
  | 0 => L
  | i + 1 => match L[i]? with
    | some (some v) => if v.category = 2 then L.set i none else L
    | _ => L
def pm_st (L : pm_L) (i : Nat) (v : Value) : pm_L := if v.category = 2 then ((pm_ct L i).set i (some v)).set (i + 1) none else (pm_ct L i).set i (some v)
def pm_sl (vs : List Value) : pm_L := vs.flatMap fun v => if v.category = 2 then [some v, none] else [some v]
def pm_in (vs : List Value) (n : Nat) : pm_L := pm_sl vs ++ List.replicate (n - (pm_sl vs).length) none
def pm_fit : FieldType → Value → Bool
  | .int, .int _ => true
  | .long, .long _ => true
  | .boolean, .int v => v == 0 || v == 1
  | .object _, .ref _ => true
  | .object _, .null => true
  | .array _, .ref _ => true
  | _, _ => false
abbrev pm_P : Type := (Nat × pm_L × List Value × (Nat × Nat) × pm_H) ⊕ ((Nat × List Value × List Value) ⊕ Option Value)
/-! shapes of the stack -/
def pm_i1 {R : Type} (S : List Value) (f : Int32 → List Value → Option R) : Option R := match S with
  | .int x :: S => f x S
  | _ => none
def pm_i2 {R : Type} (S : List Value) (f : Int32 → Int32 → List Value → Option R) : Option R := match S with
  | .int y :: .int x :: S => f x y S
  | _ => none
def pm_j1 {R : Type} (S : List Value) (f : Int64 → List Value → Option R) : Option R := match S with
  | .long x :: S => f x S
  | _ => none
def pm_j2 {R : Type} (S : List Value) (f : Int64 → Int64 → List Value → Option R) : Option R := match S with
  | .long y :: .long x :: S => f x y S
  | _ => none
def pm_r1 {R : Type} (S : List Value) (f : Nat → List Value → Option R) : Option R := match S with
  | .ref x :: S => f x S
  | _ => none
def pm_ir {R : Type} (S : List Value) (f : Int32 → Nat → List Value → Option R) : Option R := match S with
  | .int i :: .ref a :: S => f i a S
  | _ => none
def pm_iir {R : Type} (S : List Value) (f : Int32 → Int32 → Nat → List Value → Option R) : Option R := match S with
  | .int x :: .int i :: .ref a :: S => f x i a S
  | _ => none
def pm_cnd (c : Jvm.ClassFile.Cond) (x y : Int32) : Bool := match c with
  | .eq => decide (x = y)
  | .ne => decide (¬ x = y)
  | .lt => decide (x < y)
  | .ge => decide (y ≤ x)
  | .gt => decide (y < x)
  | .le => decide (x ≤ y)
def pm_tg (pc : Nat) (off : Int) : Nat := ((pc : Int) + off).toNat
def pm_n (pc : Nat) (L : pm_L) (S : List Value) (u : Nat × Nat) (H : pm_H) : Option pm_P := some (.inl (pc, L, S, u, H))
def pm_jp (pc : Nat) (off : Int) (L : pm_L) (S : List Value) (u : Nat × Nat) (H : pm_H) : Option pm_P := if 0 ≤ (pc : Int) + off then pm_n (pm_tg pc off) L S u H else none
def pm_ldi (L : pm_L) (i : Nat) (f : Int32 → Option pm_P) : Option pm_P := match pm_ld L i with
  | some (.int x) => f x
  | _ => none
def pm_ldj (L : pm_L) (i : Nat) (f : Int64 → Option pm_P) : Option pm_P := match pm_ld L i with
  | some (.long x) => f x
  | _ => none
def pm_ldr (L : pm_L) (i : Nat) (f : Nat → Option pm_P) : Option pm_P := match pm_ld L i with
  | some (.ref x) => f x
  | _ => none
/-- an array of ints (bytes, booleans) -/
def pm_ai (H : pm_H) (k : Nat) (f : FieldType → Nat → (Nat → Int32) → Option pm_P) : Option pm_P := match pm_get H k with
  | some (.inl (ty, n, .inl g)) => f ty n g
  | _ => none
def pm_aq (H : pm_H) (k : Nat) (f : String → Nat → (Nat → Option Nat) → Option pm_P) : Option pm_P := match pm_get H k with
  | some (.inl (.object C, n, .inr g)) => f C n g
  | _ => none
def pm_ob (H : pm_H) (k : Nat) (f : Nat → List Value → Option pm_P) : Option pm_P := match pm_get H k with
  | some (.inr (ci, fs)) => f ci fs
  | _ => none
def pm_rfv (r : Option Nat) : Value := match r with
  | none => .null
  | some a => .ref a
def pm_fnd {α : Type} (T : List (List (Nat × α))) (oc idx : Nat) : Option α := ((T.getD oc []).find? (fun r => r.1 == idx)).map (·.2)
def pm_cat (S : List Value) : Nat := (S.map fun v => v.category).sum
/-- one instruction -/
def pm_ins (X : pm_X) (j pc : Nat) (L : pm_L) (S : List Value) (u : Nat × Nat) (H : pm_H) (ins : Instr) (n : Nat) : Option pm_P := match ins with
  | .iconst k => if n = 1 then pm_n (pc + 1) L (.int (Int32.ofInt k) :: S) u H else none
  | .bipush k => if n = 2 then pm_n (pc + 2) L (.int (Int8.ofInt k).toInt32 :: S) u H else none
  | .sipush k => if n = 3 then pm_n (pc + 3) L (.int (Int16.ofInt k).toInt32 :: S) u H else none
  | .lconst k => if n = 1 then pm_n (pc + 1) L (.long (Int64.ofNat (k : Nat)) :: S) u H else none
  | .aconst_null => if n = 1 then pm_n (pc + 1) L (.null :: S) u H else none
  | .ldc_w i => match pm_fnd pm_ci (pm_oc j) i with
    | some (v, _) => if n = 3 then pm_n (pc + 3) L (.int v :: S) u H else none
    | none => none
  | .ldc2_w i => match pm_fnd pm_cj (pm_oc j) i with
    | some (v, _) => if n = 3 then pm_n (pc + 3) L (.long v :: S) u H else none
    | none => none
  | .iload_n k => if n = 1 then pm_ldi L k fun x => pm_n (pc + 1) L (.int x :: S) u H else none
  | .iload k => if n = 2 then pm_ldi L k fun x => pm_n (pc + 2) L (.int x :: S) u H else none
  | .lload_n k => if n = 1 then pm_ldj L k fun x => pm_n (pc + 1) L (.long x :: S) u H else none
  | .lload k => if n = 2 then pm_ldj L k fun x => pm_n (pc + 2) L (.long x :: S) u H else none
  | .aload_n k => if n = 1 then pm_ldr L k fun x => pm_n (pc + 1) L (.ref x :: S) u H else none
  | .aload k => if n = 2 then pm_ldr L k fun x => pm_n (pc + 2) L (.ref x :: S) u H else none
  | .istore_n k => if n = 1 ∧ (k : Nat) < pm_ml j then pm_i1 S fun x S => pm_n (pc + 1) (pm_st L k (.int x)) S u H else none
  | .istore k => if n = 2 ∧ k < pm_ml j then pm_i1 S fun x S => pm_n (pc + 2) (pm_st L k (.int x)) S u H else none
  | .lstore_n k => if n = 1 ∧ (k : Nat) + 1 < pm_ml j then pm_j1 S fun x S => pm_n (pc + 1) (pm_st L k (.long x)) S u H else none
  | .lstore k => if n = 2 ∧ k + 1 < pm_ml j then pm_j1 S fun x S => pm_n (pc + 2) (pm_st L k (.long x)) S u H else none
  | .astore_n k => if n = 1 ∧ (k : Nat) < pm_ml j then pm_r1 S fun x S => pm_n (pc + 1) (pm_st L k (.ref x)) S u H else none
  | .astore k => if n = 2 ∧ k < pm_ml j then pm_r1 S fun x S => pm_n (pc + 2) (pm_st L k (.ref x)) S u H else none
  | .iinc k d => if n = 3 ∧ k < pm_ml j then pm_ldi L k fun x => pm_n (pc + 3) (pm_st L k (.int (x + Int32.ofInt d))) S u H else none
  | .iadd => if n = 1 then pm_i2 S fun x y S => pm_n (pc + 1) L (.int (x + y) :: S) u H else none
  | .isub => if n = 1 then pm_i2 S fun x y S => pm_n (pc + 1) L (.int (x - y) :: S) u H else none
  | .imul => if n = 1 then pm_i2 S fun x y S => pm_n (pc + 1) L (.int (x * y) :: S) u H else none
  | .iand => if n = 1 then pm_i2 S fun x y S => pm_n (pc + 1) L (.int (x &&& y) :: S) u H else none
  | .ior => if n = 1 then pm_i2 S fun x y S => pm_n (pc + 1) L (.int (x ||| y) :: S) u H else none
  | .ixor => if n = 1 then pm_i2 S fun x y S => pm_n (pc + 1) L (.int (x ^^^ y) :: S) u H else none
  | .ishl => if n = 1 then pm_i2 S fun x y S => pm_n (pc + 1) L (.int (x <<< (y &&& 31)) :: S) u H else none
  | .ishr => if n = 1 then pm_i2 S fun x y S => pm_n (pc + 1) L (.int (x >>> (y &&& 31)) :: S) u H else none
  | .iushr => if n = 1 then pm_i2 S fun x y S => pm_n (pc + 1) L (.int (x.toUInt32 >>> (y.toUInt32 &&& Int32.toUInt32 31)).toInt32 :: S) u H else none
  | .idiv => if n = 1 then pm_i2 S fun x y S => if y = 0 then none else pm_n (pc + 1) L (.int (x / y) :: S) u H else none
  | .irem => if n = 1 then pm_i2 S fun x y S => if y = 0 then none else pm_n (pc + 1) L (.int (x - x / y * y) :: S) u H else none
  | .ladd => if n = 1 then pm_j2 S fun x y S => pm_n (pc + 1) L (.long (x + y) :: S) u H else none
  | .lmul => if n = 1 then pm_j2 S fun x y S => pm_n (pc + 1) L (.long (x * y) :: S) u H else none
  | .ldiv => if n = 1 then pm_j2 S fun x y S => if y = 0 then none else pm_n (pc + 1) L (.long (x / y) :: S) u H else none
  | .lrem => if n = 1 then pm_j2 S fun x y S => if y = 0 then none else pm_n (pc + 1) L (.long (x - x / y * y) :: S) u H else none
  | .lcmp => if n = 1 then pm_j2 S fun x y S => pm_n (pc + 1) L (.int (lg_cmp x y) :: S) u H else none
  | .i2l => if n = 1 then pm_i1 S fun x S => pm_n (pc + 1) L (.long x.toInt64 :: S) u H else none
  | .l2i => if n = 1 then pm_j1 S fun x S => pm_n (pc + 1) L (.int x.toInt32 :: S) u H else none
  | .i2b => if n = 1 then pm_i1 S fun x S => pm_n (pc + 1) L (.int x.toInt8.toInt32 :: S) u H else none
  | .dup => if n = 1 then (match S with
    | v :: S => if v.category = 1 then pm_n (pc + 1) L (v :: v :: S) u H else none
    | _ => none) else none
  | .dup2 => if n = 1 then (match S with
    | v :: w :: S => if v.category = 1 ∧ w.category = 1 then pm_n (pc + 1) L (v :: w :: v :: w :: S) u H else none
    | _ => none) else none
  | .ifCond c off => if n = 3 then pm_i1 S fun x S => if pm_cnd c x 0 then pm_jp pc off L S u H else pm_n (pc + 3) L S u H else none
  | .if_icmp c off => if n = 3 then pm_i2 S fun x y S => if pm_cnd c x y then pm_jp pc off L S u H else pm_n (pc + 3) L S u H else none
  | .ifnull _ => if n = 3 then pm_r1 S fun _ S => pm_n (pc + 3) L S u H else none
  | .goto off => if n = 3 then pm_jp pc off L S u H else none
  | .tableswitch d lo hi offs => pm_i1 S fun x S => if x.toInt < lo ∨ hi < x.toInt then pm_jp pc d L S u H else (match offs[(x.toInt - lo).toNat]? with
    | some off => pm_jp pc off L S u H
    | none => none)
  | .lookupswitch d ps => pm_i1 S fun x S => if (ps.toList.zip (ps.toList.drop 1)).all (fun (a, next) => a.1 < next.1) = true then pm_jp pc (Op.lookupswitch.offset ps.toList d x.toInt) L S u H else none
  | .getfield i => if n = 3 then pm_r1 S fun k S => (match pm_fnd pm_fl (pm_oc j) i with
    | some (ci, s, _) => pm_ob H k fun ci' fs => if ci' = ci then (match fs[s]? with
      | some v => if pm_fit ((pm_ty.getD ci (fun _ => .int)) s) v then pm_n (pc + 3) L (v :: S) u H else none
      | none => none) else none
    | none => none) else none
  | .putfield i => if n = 3 then (match S with
    | v :: .ref k :: S => (match pm_fnd pm_fl (pm_oc j) i with
      | some (ci, s, _) => pm_ob H k fun ci' fs => if ci' = ci ∧ s < fs.length ∧ pm_fit ((pm_ty.getD ci (fun _ => .int)) s) v = true ∧ (((pm_cl.getD ci (RX0, TX0, 3)).2.1 s).2.2.2 = true → (pm_y j).name = "<init>" ∧ ((pm_cl.getD ci (RX0, TX0, 3)).2.1 s).1 = (pm_y j).cls) then pm_n (pc + 3) L S u (pm_set H k (.inr (ci, fs.set s v))) else none
      | none => none)
    | _ => none) else none
  | .arraylength => if n = 1 then pm_r1 S fun k S => if k = 0 then (if j = 0 then pm_n (pc + 1) L (.int (Int32.ofNat X.1) :: S) u H else none) else none else none
  | .iaload => if n = 1 then pm_ir S fun i k S => if k = 0 then (if j = 0 ∧ 0 ≤ i ∧ i.toNatClampNeg < X.1 then pm_n (pc + 1) L (.int (X.2 i.toNatClampNeg) :: S) u H else none) else
      pm_ai H k fun ty N g => if ty = .int ∧ 0 ≤ i ∧ i.toNatClampNeg < N then pm_n (pc + 1) L (.int (g i.toNatClampNeg) :: S) u H else none else none
  | .baload => if n = 1 then pm_ir S fun i k S => pm_ai H k fun ty N g => if (ty = .byte ∨ ty = .boolean) ∧ 0 ≤ i ∧ i.toNatClampNeg < N then pm_n (pc + 1) L (.int (g i.toNatClampNeg) :: S) u H else none else none
  | .aaload => if n = 1 then pm_ir S fun i k S => pm_aq H k fun _ N g => if 0 ≤ i ∧ i.toNatClampNeg < N then pm_n (pc + 1) L (pm_rfv (g i.toNatClampNeg) :: S) u H else none else none
  | .iastore => if n = 1 then pm_iir S fun x i k S => pm_ai H k fun ty N g => if ty = .int ∧ 0 ≤ i ∧ i.toNatClampNeg < N then pm_n (pc + 1) L S u (pm_set H k (.inl (ty, N, .inl (upd g i.toNatClampNeg x)))) else none else none
  | .bastore => if n = 1 then pm_iir S fun x i k S => pm_ai H k fun ty N g => if (ty = .byte ∨ ty = .boolean) ∧ 0 ≤ i ∧ i.toNatClampNeg < N then pm_n (pc + 1) L S u (pm_set H k (.inl (ty, N, .inl (upd g i.toNatClampNeg (vp_nar ty x))))) else none else none
  | .aastore => if n = 1 then (match S with
    | .ref v :: .int i :: .ref k :: S => pm_aq H k fun C N g => pm_ob H v fun ci _ => if C = (pm_cl.getD ci ("", TX0, 0)).1 ∧ ci < 12 ∧ 0 ≤ i ∧ i.toNatClampNeg < N then pm_n (pc + 1) L S u (pm_set H k (.inl (.object C, N, .inr (va_up g i.toNatClampNeg (some v))))) else none
    | _ => none) else none
  | .newarray t => if n = 2 then pm_i1 S fun x S => if 0 ≤ x ∧ x ≤ 1000 ∧ (t = .int ∨ t = .byte ∨ t = .boolean) ∧ u.1 + 1 ≤ pm_mc j ∧ u.2 + x.toNatClampNeg ≤ pm_ms j then
      pm_n (pc + 2) L (.ref (H.1 + 1) :: S) (u.1 + 1, u.2 + x.toNatClampNeg) (pm_new H (.inl (newarray.typeOf t, x.toNatClampNeg, .inl (fun _ => 0)))) else none else none
  | .anewarray i => if n = 3 then pm_i1 S fun x S => (match pm_fnd pm_kl (pm_oc j) i with
    | some (ci, _) => if 0 ≤ x ∧ x ≤ 1000 ∧ (ci = 5 ∨ ci = 9 ∨ ci = 6 ∨ ci = 2 ∨ ci = 4) ∧ u.1 + 1 ≤ pm_mc j ∧ u.2 + x.toNatClampNeg ≤ pm_ms j then
      pm_n (pc + 3) L (.ref (H.1 + 1) :: S) (u.1 + 1, u.2 + x.toNatClampNeg) (pm_new H (.inl (.object (pm_cl.getD ci ("", TX0, 0)).1, x.toNatClampNeg, .inr (fun _ => none)))) else none
    | none => none) else none
  | .new i => if n = 3 then (match pm_fnd pm_kl (pm_oc j) i with
    | some (ci, _) => if u.1 + 1 ≤ pm_mc j ∧ u.2 + (pm_cl.getD ci ("", TX0, 0)).2.2 ≤ pm_ms j then
      pm_n (pc + 3) L (.ref (H.1 + 1) :: S) (u.1 + 1, u.2 + (pm_cl.getD ci ("", TX0, 0)).2.2) (pm_new H (.inr (ci, (List.range (pm_cl.getD ci ("", TX0, 0)).2.2).map fun k => defaultValue ((pm_ty.getD ci (fun _ => .int)) k)))) else none
    | none => none) else none
  | .ireturn => if n = 1 ∧ u.1 ≤ pm_mc j ∧ u.2 ≤ pm_ms j then (match S with
    | [.int v] => if pm_rt j = some .int ∨ (pm_rt j = some .boolean ∧ (v = 0 ∨ v = 1)) then some (.inr (.inr (some (.int v)))) else none
    | _ => none) else none
  | .lreturn => if n = 1 ∧ u.1 ≤ pm_mc j ∧ u.2 ≤ pm_ms j then (match S with
    | [.long v] => if pm_rt j = some .long then some (.inr (.inr (some (.long v)))) else none
    | _ => none) else none
  | .return_ => if n = 1 ∧ u.1 ≤ pm_mc j ∧ u.2 ≤ pm_ms j then (match S with
    | [] => if pm_rt j = none then some (.inr (.inr none)) else none
    | _ => none) else none
  | .invokespecial i => if n = 3 then (match pm_fnd pm_mth (pm_oc j) i with
    | some (4, _) => pm_r1 S fun _ S => if 1 ≤ pm_fr j ∧ pm_cat S ≤ 8 ∧ 20 ≤ pm_lo j then pm_n (pc + 3) L S u H else none
    | some (2, j', _) => if pm_np j' = 0 then pm_r1 S fun k S => (if pm_fr j' + 1 ≤ pm_fr j ∧ 8 + (pm_ml j' + 11) + pm_lo j' ≤ pm_lo j ∧ u.1 + pm_mc j' ≤ pm_mc j ∧ u.2 + pm_ms j' ≤ pm_ms j ∧ pm_cat S ≤ 8 ∧ 1 ≤ pm_ml j' then some (.inr (.inl (j', [.ref k], S))) else none) else none
    | _ => none) else none
  | .invokevirtual i => if n = 3 then (match pm_fnd pm_mth (pm_oc j) i with
    | some (1, j', _) => (match S.drop (pm_np j') with
      | .ref k :: S' => pm_ob H k fun ci _ => if ci = pm_oc j' ∧ pm_fr j' + 1 ≤ pm_fr j ∧ 8 + (pm_ml j' + 11) + pm_lo j' ≤ pm_lo j ∧ u.1 + pm_mc j' ≤ pm_mc j ∧ u.2 + pm_ms j' ≤ pm_ms j ∧ pm_cat S' ≤ 8 ∧ pm_cat (S.take (pm_np j')) + 1 ≤ pm_ml j' then some (.inr (.inl (j', .ref k :: (S.take (pm_np j')).reverse, S'))) else none
      | _ => none)
    | _ => none) else none
  | .invokestatic i => if n = 3 then (match pm_fnd pm_mth (pm_oc j) i with
    | some (5, _) => (match S with
      | .int n :: .int dp :: .ref k :: .int sp :: .ref k0 :: S => pm_ai H k0 fun ty0 N0 f => pm_ai H k fun ty N g => if ty0 = .int ∧ ty = .int ∧ 0 ≤ sp ∧ 0 ≤ dp ∧ 0 ≤ n ∧ sp.toNatClampNeg + n.toNatClampNeg ≤ N0 ∧ dp.toNatClampNeg + n.toNatClampNeg ≤ N ∧ 1 ≤ pm_fr j ∧ pm_cat S ≤ 8 ∧ 26 ≤ pm_lo j then
          pm_n (pc + 3) L S u (pm_set H k (.inl (ty, N, .inl (va_cpy f g sp.toNatClampNeg dp.toNatClampNeg n.toNatClampNeg)))) else none
      | _ => none)
    | some (6, _) => pm_i2 S fun x y S => if 1 ≤ pm_fr j ∧ pm_cat S ≤ 8 ∧ 21 ≤ pm_lo j ∧ u.1 ≤ pm_mc j ∧ u.2 ≤ pm_ms j then pm_n (pc + 3) L (.int (if x < y then y else x) :: S) u H else none
    | some (7, _) => pm_i2 S fun x y S => if 1 ≤ pm_fr j ∧ pm_cat S ≤ 8 ∧ 21 ≤ pm_lo j ∧ u.1 ≤ pm_mc j ∧ u.2 ≤ pm_ms j then pm_n (pc + 3) L (.int (if y < x then y else x) :: S) u H else none
    | some (kd, j', _) => if (kd = 0 ∨ kd = 3) ∧ pm_np j' ≤ S.length ∧ pm_fr j' + 1 ≤ pm_fr j ∧ 8 + (pm_ml j' + 11) + pm_lo j' ≤ pm_lo j ∧ u.1 + pm_mc j' ≤ pm_mc j ∧ u.2 + pm_ms j' ≤ pm_ms j ∧ pm_cat (S.drop (pm_np j')) ≤ 8 ∧ pm_cat (S.take (pm_np j')) ≤ pm_ml j' then some (.inr (.inl (j', (S.take (pm_np j')).reverse, S.drop (pm_np j')))) else none
    | _ => none) else none
  | _ => none
def pm_step (X : pm_X) (j pc : Nat) (L : pm_L) (S : List Value) (u : Nat × Nat) (H : pm_H) : Option pm_P := match decode (pm_c j) pc with
  | .ok (ins, n) => pm_ins X j pc L S u H ins n
  | _ => none
/-- the machine, n steps deep -/
def pm_E (X : pm_X) : Nat → Nat → Nat → pm_L → List Value → Nat × Nat → pm_H → Option (Option Value × pm_H)
  | 0, _, _, _, _, _, _ => none
  | n + 1, j, pc, L, S, u, H => match pm_step X j pc L S u H with
    | none => none
    | some (.inl (pc', L', S', u', H')) => pm_E X n j pc' L' S' u' H'
    | some (.inr (.inl (j', as, S'))) => match pm_E X n j' 0 (pm_in as (pm_ml j')) [] (0, 0) H with
      | none => none
      | some (v, H') => pm_E X n j (pc + 3) L (v.toList ++ S') (u.1 + pm_mc j', u.2 + pm_ms j') H'
    | some (.inr (.inr v)) => some (v, H)
