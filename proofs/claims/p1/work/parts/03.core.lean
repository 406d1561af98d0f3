-- THE PURE MACHINE: values, worlds, code tables, and the least predicate that its rules close
abbrev AV : Type := Int ⊕ Int ⊕ Option Nat
abbrev vi (z : Int) : AV := Sum.inl z
abbrev vl (z : Int) : AV := Sum.inr (Sum.inl z)
abbrev vo (r : Option Nat) : AV := Sum.inr (Sum.inr r)
abbrev vr (k : Nat) : AV := Sum.inr (Sum.inr (some k))
abbrev vn : AV := Sum.inr (Sum.inr none)
abbrev AE : Type := (Nat × Nat × (Nat → Int)) ⊕ (Nat × Nat × (Nat → Option Nat)) ⊕ (Nat × List AV)
/-- an array of numbers: its type (0 int, 1 byte, 2 boolean, 3 long), its length, what it holds -/
abbrev ea (t N : Nat) (f : Nat → Int) : AE := Sum.inl (t, N, f)
abbrev er (c N : Nat) (f : Nat → Option Nat) : AE := Sum.inr (Sum.inl (c, N, f))
abbrev eo (c : Nat) (fs : List AV) : AE := Sum.inr (Sum.inr (c, fs))
abbrev AW : Type := Nat × (Nat → AE)
abbrev AI : Type := Nat × Nat × Nat × Int × List (Int × Nat)
abbrev AL : Type := List (Option AV)
abbrev AQ : Type := Option AV → AW → Prop
def fu {α : Type} (f : Nat → α) (k : Nat) (x : α) : Nat → α := fun j => if j = k then x else f j
theorem fu_eq {α : Type} (f : Nat → α) (k : Nat) (x : α) : fu f k x k = x := by simp [fu]
theorem fu_ne {α : Type} (f : Nat → α) {k j : Nat} (x : α) (h : j ≠ k) : fu f k x j = f j := by simp [fu, h]
def fcp {α : Type} (f g : Nat → α) (sp dp n : Nat) : Nat → α := fun k => if dp ≤ k ∧ k < dp + n then f (sp + (k - dp)) else g k
def wu (W : AW) (k : Nat) (e : AE) : AW := (W.1, fu W.2 k e)
def wn (W : AW) (e : AE) : AW := (W.1 + 1, fu W.2 W.1 e)
def lget : AL → Nat → Option AV
  | [], _ => none
  | a :: _, 0 => a
  | _ :: l, k + 1 => lget l k
def lset : AL → Nat → Option AV → AL
  | [], _, _ => []
  | _ :: l, 0, v => v :: l
  | a :: l, k + 1, v => a :: lset l k v
def fget : List AV → Nat → Option AV
  | [], _ => none
  | a :: _, 0 => some a
  | _ :: l, k + 1 => fget l k
def fset : List AV → Nat → AV → List AV
  | [], _, _ => []
  | _ :: l, 0, v => v :: l
  | a :: l, k + 1, v => a :: fset l k v
/-- the slot ahead of this one holds no long -/
def nolong : Option AV → Prop
  | some (Sum.inr (Sum.inl _)) => False
  | _ => True
def nolg (L : AL) : Nat → Prop
  | 0 => True
  | k + 1 => nolong (lget L k)
def avc : AV → Nat
  | Sum.inr (Sum.inl _) => 2
  | _ => 1
def stw : List AV → Nat
  | [] => 0
  | a :: l => avc a + stw l
def pops : Nat → List AV → List AV → Option (List AV × List AV)
  | 0, st, acc => some (acc, st)
  | _ + 1, [], _ => none
  | n + 1, a :: st, acc => pops n st (a :: acc)
def lay1 : List AV → AL
  | [] => []
  | Sum.inr (Sum.inl z) :: r => some (vl z) :: none :: lay1 r
  | a :: r => some a :: lay1 r
def ent (n : Nat) (as : List AV) : AL := lay1 as ++ List.replicate (n - (lay1 as).length) none
def in32 (z : Int) : Prop := -2147483648 ≤ z ∧ z < 2147483648
def in64 (z : Int) : Prop := -9223372036854775808 ≤ z ∧ z < 9223372036854775808
def w64 (z : Int) : Int := (z + 9223372036854775808) % 18446744073709551616 - 9223372036854775808
def w32 (z : Int) : Int := (z + 2147483648) % 4294967296 - 2147483648
/-- a number of an array's type -/
def okt : Nat → Int → Prop
  | 0, z => in32 z
  | 1, z => -128 ≤ z ∧ z < 128
  | 2, z => z = 0 ∨ z = 1
  | _, z => in64 z
def cnd : Int → Int → Int → Prop
  | 0, a, b => a = b
  | 1, a, b => a ≠ b
  | 2, a, b => a < b
  | 3, a, b => b ≤ a
  | 4, a, b => b < a
  | _, a, b => a ≤ b
/-- what a method gives back: 0 int, 1 boolean, 2 char, 3 byte, 4 long, 5 a reference, 6 nothing -/
def retk : Nat → AV → Prop
  | 0, Sum.inl _ => True
  | 1, Sum.inl z => z = 0 ∨ z = 1
  | 2, Sum.inl z => 0 ≤ z ∧ z < 65536
  | 3, Sum.inl z => -128 ≤ z ∧ z < 128
  | _, _ => False
def sws : List (Int × Nat) → Nat → Int → (Nat → Prop) → Prop
  | [], d, _, K => K d
  | (k, t) :: r, d, z, K => (z = k → K t) ∧ (z ≠ k → sws r d z K)
def psh : Option AV → List AV → List AV
  | some v, st => v :: st
  | none, st => st
def lcq (a b : Int) : Int := if b < a then 1 else if a = b then 0 else -1
