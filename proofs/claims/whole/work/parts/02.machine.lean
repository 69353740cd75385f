/-! THE ABSTRACT MACHINE: numbers as Int, cells by their place in a list (0: the script; 1, 2 ..: what the law makes, in the order of the making). -/
abbrev ZV : Type := Int ⊕ (Int ⊕ Option Nat)
abbrev zI (x : Int) : ZV := .inl x
abbrev zL (x : Int) : ZV := .inr (.inl x)
abbrev zR (k : Nat) : ZV := .inr (.inr (some k))
abbrev zN : ZV := .inr (.inr none)
abbrev ZB : Type := (Bool × Nat × (Int → Int)) ⊕ (Nat × List ZV)
abbrev zA (n : Nat) (f : Int → Int) : ZB := .inl (false, n, f)
abbrev zZ (n : Nat) (f : Int → Int) : ZB := .inl (true, n, f)
abbrev zO (c : Nat) (fs : List ZV) : ZB := .inr (c, fs)
/-- pc, locals, stack, cells, cells made, slots made -/
abbrev ZS : Type := Nat × List (Option ZV) × List ZV × List ZB × Nat × Nat
/-- pc, next, what, a number, two places -/
abbrev ZE : Type := Nat × Nat × Nat × Int × Nat × Nat
def znth {α : Type} : List α → Nat → Option α
  | [], _ => none
  | a :: _, 0 => some a
  | _ :: l, n + 1 => znth l n
theorem znth_eq {α : Type} : ∀ (l : List α) (n : Nat), znth l n = l[n]?
  | [], n => by simp [znth]
  | a :: l, 0 => by simp [znth]
  | a :: l, n + 1 => by simp [znth, znth_eq l n]
def zup (f : Int → Int) (i x : Int) : Int → Int := fun j => if j = i then x else f j
def zcmp (x y : Int) : Int := if y < x then 1 else if x = y then 0 else -1
def zfetch : List ZE → Nat → Option (Nat × Nat × Int × Nat × Nat)
  | [], _ => none
  | (k, q) :: l, pc => bif Nat.beq k pc then some q else zfetch l pc
def zcat : ZV → Nat
  | .inr (.inl _) => 2
  | _ => 1
def zone : ZV → Bool
  | .inr (.inl _) => false
  | _ => true
/-- no long stands just ahead of this place -/
def zstl (ls : List (Option ZV)) : Nat → Bool
  | 0 => true
  | b + 1 => match znth ls b with
    | some (some v) => zone v
    | _ => true
def zexec (code : Nat) (nx : Nat) (a : Int) (b d : Nat) (ls : List (Option ZV)) (st : List ZV) (h : List ZB) (cs ss : Nat) : Option (Option Prop × ZS) :=
  match code with
  | 0 => match znth ls b with
    | some (some (.inl x)) => some (none, nx, ls, zI x :: st, h, cs, ss)
    | _ => none
  | 1 => match znth ls b with
    | some (some (.inr (.inr (some k)))) => some (none, nx, ls, zR k :: st, h, cs, ss)
    | _ => none
  | 2 => match znth ls b with
    | some (some (.inr (.inl x))) => some (none, nx, ls, zL x :: st, h, cs, ss)
    | _ => none
  | 3 => match st with
    | .inl x :: st => bif zstl ls b then some (none, nx, ls.set b (some (zI x)), st, h, cs, ss) else none
    | _ => none
  | 4 => match st with
    | .inr (.inr (some k)) :: st => bif zstl ls b then some (none, nx, ls.set b (some (zR k)), st, h, cs, ss) else none
    | _ => none
  | 5 => match znth ls b with
    | some (some (.inl x)) => bif zstl ls b then some (none, nx, ls.set b (some (zI (x + a))), st, h, cs, ss) else none
    | _ => none
  | 6 => some (none, nx, ls, zI a :: st, h, cs, ss)
  | 7 => some (none, nx, ls, zL a :: st, h, cs, ss)
  | 8 => match st with
    | .inl y :: .inl x :: st => some (none, nx, ls, zI (x + y) :: st, h, cs, ss)
    | _ => none
  | 9 => match st with
    | .inl y :: .inl x :: st => some (none, nx, ls, zI (x - y) :: st, h, cs, ss)
    | _ => none
  | 10 => match st with
    | .inl y :: .inl x :: st => some (none, nx, ls, zI (x * y) :: st, h, cs, ss)
    | _ => none
  | 11 => match st with
    | .inl y :: .inl x :: st => some (some ((0 ≤ x ∧ x ≤ 2147483647) ∧ 0 ≤ y ∧ y ≤ 2147483647), nx, ls, zI ((x.toNat &&& y.toNat : Nat) : Int) :: st, h, cs, ss)
    | _ => none
  | 12 => match st with
    | .inl y :: .inl x :: st => some (some ((0 ≤ x ∧ x ≤ 2147483647) ∧ 0 ≤ y ∧ y ≤ 2147483647), nx, ls, zI ((x.toNat ||| y.toNat : Nat) : Int) :: st, h, cs, ss)
    | _ => none
  | 13 => match st with
    | .inl y :: .inl x :: st => some (some (x = 1 ∧ 0 ≤ y ∧ y ≤ 30), nx, ls, zI ((2 ^ y.toNat : Nat) : Int) :: st, h, cs, ss)
    | _ => none
  | 14 => match st with
    | .inl y :: .inl x :: st => some (some ((0 ≤ x ∧ x ≤ 2147483647) ∧ 0 ≤ y ∧ y ≤ 31), nx, ls, zI ((x.toNat / 2 ^ y.toNat : Nat) : Int) :: st, h, cs, ss)
    | _ => none
  | 15 => match st with
    | .inl y :: .inl x :: st => some (some ((0 ≤ x ∧ x ≤ 2147483647) ∧ 0 ≤ y ∧ y ≤ 31), nx, ls, zI ((x.toNat / 2 ^ y.toNat : Nat) : Int) :: st, h, cs, ss)
    | _ => none
  | 16 => match st with
    | .inl x :: st => some (some (-2147483648 ≤ x ∧ x ≤ 2147483647), nx, ls, zL x :: st, h, cs, ss)
    | _ => none
  | 17 => match st with
    | .inr (.inl y) :: .inr (.inl x) :: st => some (some ((-9223372036854775808 ≤ x ∧ x ≤ 9223372036854775807) ∧ -9223372036854775808 ≤ y ∧ y ≤ 9223372036854775807), nx, ls, zI (zcmp x y) :: st, h, cs, ss)
    | _ => none
  | 18 => match st with
    | v :: st => bif zone v then some (none, nx, ls, v :: v :: st, h, cs, ss) else none
    | _ => none
  | 19 => match st with
    | v :: w :: st => bif zone v && zone w then some (none, nx, ls, v :: w :: v :: w :: st, h, cs, ss) else none
    | _ => none
  | 20 => some (none, nx, ls, st, h, cs, ss)
  | 21 => match st with
    | .inr (.inr (some (o + 1))) :: st => match znth h (o + 1) with
      | some (.inr (ci, fs)) => bif Nat.beq ci b then (match znth fs d with
        | some v => some (none, nx, ls, v :: st, h, cs, ss)
        | none => none) else none
      | _ => none
    | _ => none
  | 22 => match st with
    | .inl x :: .inr (.inr (some (o + 1))) :: st => match znth h (o + 1) with
      | some (.inr (ci, fs)) => bif Nat.beq ci b && Nat.blt d fs.length then some (none, nx, ls, st, h.set (o + 1) (.inr (ci, fs.set d (.inl x))), cs, ss) else none
      | _ => none
    | _ => none
  | 23 => match st with
    | .inl i :: .inr (.inr (some (o + 1))) :: st => match znth h (o + 1) with
      | some (.inl (false, n, f)) => bif Nat.ble n 100000 then some (some (0 ≤ i ∧ i < (n : Int)), nx, ls, zI (f i) :: st, h, cs, ss) else none
      | _ => none
    | _ => none
  | 24 => match st with
    | .inl x :: .inl i :: .inr (.inr (some (o + 1))) :: st => match znth h (o + 1) with
      | some (.inl (false, n, f)) => bif Nat.ble n 100000 then some (some (0 ≤ i ∧ i < (n : Int)), nx, ls, st, h.set (o + 1) (.inl (false, n, zup f i x)), cs, ss) else none
      | _ => none
    | _ => none
  | 25 => match st with
    | .inl i :: .inr (.inr (some (o + 1))) :: st => match znth h (o + 1) with
      | some (.inl (true, n, f)) => bif Nat.ble n 100000 then some (some (0 ≤ i ∧ i < (n : Int)), nx, ls, zI (f i) :: st, h, cs, ss) else none
      | _ => none
    | _ => none
  | 26 => match st with
    | .inl x :: .inl i :: .inr (.inr (some (o + 1))) :: st => match znth h (o + 1) with
      | some (.inl (true, n, f)) => bif Nat.ble n 100000 then some (some ((0 ≤ i ∧ i < (n : Int)) ∧ (x = 0 ∨ x = 1)), nx, ls, st, h.set (o + 1) (.inl (true, n, zup f i x)), cs, ss) else none
      | _ => none
    | _ => none
  | 27 => match st with
    | .inr (.inr (some (o + 1))) :: st => match znth h (o + 1) with
      | some (.inl (_, n, _)) => some (none, nx, ls, zI (n : Int) :: st, h, cs, ss)
      | _ => none
    | _ => none
  | 28 => match st with
    | .inl y :: .inl x :: st => some (some (y = 2 ^ d - 1), nx, ls, zI (x % 2 ^ d) :: st, h, cs, ss)
    | _ => none
  | _ => none
def zstep (tb : List ZE) : ZS → Option (Option Prop × ZS)
  | (pc, ls, st, h, cs, ss) => match zfetch tb pc with
    | some (nx, code, a, b, d) => zexec code nx a b d ls st h cs ss
    | none => none
def zrun (tb : List ZE) : Nat → ZS → Option (ZS × Prop)
  | 0, s => some (s, True)
  | n + 1, s => match zstep tb s with
    | some (none, s1) => zrun tb n s1
    | some (some c, s1) => match zrun tb n s1 with
      | some (s2, P) => some (s2, c ∧ P)
      | none => none
    | none => none
def zcp (k : Nat) (x y : Int) : Prop :=
  match k with
  | 0 => x = y
  | 1 => ¬ x = y
  | 2 => x < y
  | 3 => y ≤ x
  | 4 => y < x
  | _ => x ≤ y
/-- a branch: its question, what must be so that it is asked rightly, where it goes -/
def zbr (tb : List ZE) : ZS → Option (Prop × Prop × ZS × ZS)
  | (pc, ls, st, h, cs, ss) => match zfetch tb pc with
    | some (nx, code, _, b, d) => match code with
      | 30 => match st with
        | .inl x :: st => some (zcp d x 0, (-2147483648 ≤ x ∧ x ≤ 2147483647), (b, ls, st, h, cs, ss), (nx, ls, st, h, cs, ss))
        | _ => none
      | 31 => match st with
        | .inl y :: .inl x :: st => some (zcp d x y, ((-2147483648 ≤ x ∧ x ≤ 2147483647) ∧ -2147483648 ≤ y ∧ y ≤ 2147483647), (b, ls, st, h, cs, ss), (nx, ls, st, h, cs, ss))
        | _ => none
      | _ => none
    | none => none
def zrunB (tb : List ZE) (n : Nat) (s : ZS) : Option (Prop × Prop × ZS × ZS) :=
  match zrun tb n s with
  | some (s1, P) => match zbr tb s1 with
    | some (C, c, t1, t2) => some (C, c ∧ P, t1, t2)
    | none => none
  | none => none
def ztake : Nat → List ZV → List ZV → Option (List ZV × List ZV)
  | 0, st, acc => some (acc, st)
  | n + 1, v :: st, acc => ztake n st (v :: acc)
  | _ + 1, [], _ => none
/-- a call: which (its kind: 40 virtual, 41 static, 42 a constructor), the values that go along, what stays -/
def zca (tb : List ZE) : ZS → Option (Nat × Nat × Nat × List ZV × ZS)
  | (pc, ls, st, h, cs, ss) => match zfetch tb pc with
    | some (nx, code, _, b, d) => match ztake d st [] with
      | some (as, st1) => bif Nat.ble (st1.map zcat).sum 8 then some (code, b, d, as, (nx, ls, st1, h, cs, ss)) else none
      | none => none
    | none => none
def zrunC (tb : List ZE) (n : Nat) (s : ZS) : Option (Prop × Nat × Nat × Nat × List ZV × ZS) :=
  match zrun tb n s with
  | some (s1, P) => match zca tb s1 with
    | some (k, b, d, as, t) => some (P, k, b, d, as, t)
    | none => none
  | none => none
/-- a return -/
def zre (tb : List ZE) : ZS → Option (Nat × Option ZV)
  | (pc, _, st, _, _, _) => match zfetch tb pc with
    | some (_, code, _, _, _) => match code with
      | 50 => match st with
        | .inl x :: [] => some (50, some (zI x))
        | _ => none
      | 51 => match st with
        | [] => some (51, none)
        | _ => none
      | _ => none
    | none => none
def zrunR (tb : List ZE) (n : Nat) (s : ZS) : Option (Prop × Option ZV × List ZB × Nat × Nat) :=
  match zrun tb n s with
  | some (s1, P) => match zre tb s1 with
    | some (_, v) => match s1 with
      | (_, _, _, h, cs, ss) => some (P, v, h, cs, ss)
    | none => none
  | none => none
-- a small look at how fast it goes
def ztry : List ZE := [(0, 1, 0, 0, 1, 0), (1, 4, 6, 1200, 0, 0), (4, 5, 10, 0, 0, 0), (5, 6, 0, 0, 2, 0), (6, 7, 8, 0, 0, 0), (7, 8, 3, 0, 2, 0), (8, 9, 1, 0, 0, 0), (9, 12, 21, 0, 0, 1), (12, 13, 0, 0, 2, 0), (13, 16, 31, 0, 40, 2)]
set_option maxRecDepth 4000 in
theorem ztry_1 (a b : Int) (f : Int → Int) (m : Int) (h : List ZB) : zrunB ztry 9 (0, [some (zR 1), some (zI a), some (zI b)], [], zA 3 f :: zO 0 [zR 2, zI m] :: h, 0, 0) = some (m < a * 1200 + b, ((-2147483648 ≤ m ∧ m ≤ 2147483647) ∧ (-2147483648 ≤ a * 1200 + b ∧ a * 1200 + b ≤ 2147483647)) ∧ True, (40, [some (zR 1), some (zI a), some (zI (a * 1200 + b))], [], zA 3 f :: zO 0 [zR 2, zI m] :: h, 0, 0), (16, [some (zR 1), some (zI a), some (zI (a * 1200 + b))], [], zA 3 f :: zO 0 [zR 2, zI m] :: h, 0, 0)) := rfl
