/-! The abstract machine: ids for cells, ints and references apart; a method is a list of blocks of operations -/
abbrev AHi : Type := Nat → Nat → Int32
abbrev AHr : Type := Nat → Nat → Option Nat
abbrev AOp : Type := Nat × Nat × Nat × Int × List Nat
abbrev AEn : Type := Nat × (Nat → Int32)
abbrev ARs : Type := Option Value × AHi × AHr × Nat
def hI (h : AHi) (a k : Nat) (v : Int32) : AHi := va_up h a (va_up (h a) k v)
def hR (h : AHr) (a k : Nat) (v : Option Nat) : AHr := va_up h a (va_up (h a) k v)
def a_mk : Value := .float 0
/-- a value of one word into a local: a long just ahead of it is lost -/
def a_st1 (ls : List Value) (i : Nat) (v : Value) : List Value :=
  match i with
  | 0 => ls.set 0 v
  | j + 1 => match ls[j]? with
    | some (.long _) => (ls.set j a_mk).set (j + 1) v
    | _ => ls.set (j + 1) v
def a_st2 (ls : List Value) (i : Nat) (v : Value) : List Value := (a_st1 ls i v).set (i + 1) a_mk
def a_pad (n : Nat) (vs : List Value) : List Value := vs ++ List.replicate (n - vs.length) a_mk
def a_args : List Value → List Value
  | [] => []
  | .long x :: r => .long x :: a_mk :: a_args r
  | v :: r => v :: a_args r
def a_ref : Option Nat → Value
  | none => .null
  | some a => .ref a
def a_ushr (x y : Int32) : Int32 := (x.toUInt32 >>> (y.toUInt32 &&& Int32.toUInt32 31)).toInt32
def a_rem (x y : Int32) : Int32 := x - x / y * y
def a_remL (x y : Int64) : Int64 := x - x / y * y
abbrev a_lcmp (x y : Int64) : Int32 := lg_cmp x y
def a_char (x : Int32) : Int32 := (x.toUInt32 % 65536).toInt32
def a_byte (x : Int32) : Int32 := x.toInt8.toInt32
def a_bool (x : Int32) : Int32 := x &&& 1
/-- binary operations on ints -/
def a_bin (c : Nat) (x y : Int32) : Option Int32 :=
  match c with
  | 0 => some (x + y)
  | 1 => some (x - y)
  | 2 => some (x * y)
  | 3 => some (x &&& y)
  | 4 => some (x ||| y)
  | 5 => some (x ^^^ y)
  | 6 => some (x <<< (y &&& 31))
  | 7 => some (x >>> (y &&& 31))
  | 8 => some (a_ushr x y)
  | 9 => if y = 0 then none else some (x / y)
  | 10 => if y = 0 then none else some (a_rem x y)
  | _ => none
def a_binL (c : Nat) (x y : Int64) : Option Value :=
  match c with
  | 0 => some (.long (x + y))
  | 1 => some (.long (x - y))
  | 2 => some (.long (x * y))
  | 3 => if y = 0 then none else some (.long (x / y))
  | 4 => if y = 0 then none else some (.long (a_remL x y))
  | 5 => some (.int (a_lcmp x y))
  | 6 => some (.long (x ^^^ y))
  | _ => none
def a_un (c : Nat) (v : Value) : Option Value :=
  match c, v with
  | 0, .int x => some (.int (-x))
  | 1, .int x => some (.long x.toInt64)
  | 2, .long x => some (.int x.toInt32)
  | 3, .int x => some (.int (a_byte x))
  | 4, .int x => some (.int (a_char x))
  | _, _ => none
def a_cmp (c : Nat) (x y : Int32) : Option Bool :=
  match c with
  | 0 => some (decide (x = y))
  | 1 => some (decide (¬ x = y))
  | 2 => some (decide (x < y))
  | 3 => some (decide (y ≤ x))
  | 4 => some (decide (y < x))
  | 5 => some (decide (x ≤ y))
  | _ => none
