/-! AN ABSTRACT MACHINE, evaluated by the kernel; the walk of a method follows it (its soundness: part 40).
A value is (tag, number): 0 an int (below 2^32), 1 null, 2 a cell of the world (its place), 3 a thing given at the start, 4 an unknown int, 5 a long, 6 a double's bits, 7 a float's bits.
A cell is (0, class, fields) or (1, type, components). -/
abbrev eV : Type := Nat × Nat
abbrev eC : Type := Nat × Nat × List eV
abbrev eH : Type := List eC
abbrev eL : Type := List (Nat × eV)
abbrev eO : Type := Nat × Nat × Nat × Nat × Nat
/-- what is known of the unknown ints: bounds (moved by 2^31), and results of operations (operation, unknown, number, result) -/
abbrev eG : Type := List (Nat × Nat) × List (Nat × Nat × Nat × Nat)
/-- a step's end: pc, locals, stack, heap, new cells, new slots, frames and words that it needs -/
abbrev eS : Type := Nat × eL × List eV × eH × Nat × Nat × Nat × Nat
noncomputable section
/-! lists by their recursors: the kernel has little to copy then -/
def e_tl {α : Type} (l : List α) : List α := List.rec (motive := fun _ => List α) [] (fun _ t _ => t) l
def e_hd {α : Type} (l : List α) : Option α := List.rec (motive := fun _ => Option α) none (fun a _ _ => some a) l
def e_tl8 {α : Type} (l : List α) : List α := e_tl (e_tl (e_tl (e_tl (e_tl (e_tl (e_tl (e_tl l)))))))
def e_sk {α : Type} (k : Nat) : List α → List α := Nat.rec (motive := fun _ => List α → List α) (fun l => l) (fun _ ih l => ih (e_tl8 l)) k
def e_dr {α : Type} (k : Nat) : List α → List α := Nat.rec (motive := fun _ => List α → List α) (fun l => l) (fun _ ih l => ih (e_tl l)) k
/-- the n-th of a list, by eights -/
def e_get {α : Type} (l : List α) (n : Nat) : Option α := e_hd (e_dr (Nat.mod n 8) (e_sk (Nat.div n 8) l))
def e_set {α : Type} (l : List α) (n : Nat) (x : α) : List α := List.rec (motive := fun _ => Nat → List α) (fun _ => []) (fun a t ih n => Nat.rec (motive := fun _ => List α) (x :: t) (fun m _ => a :: ih m) n) l n
/-- closed trees: what isn't taken is never looked at -/
def e_ndT {α : Type} (k : Nat) (a b : Nat → α) (y : Nat) : α := Bool.rec (motive := fun _ => α) (b y) (a y) (Nat.blt y k)
def e_cT {α : Type} (x : α) (_ : Nat) : α := x
/-- zero, or not -/
def e_z {α : Type} (n : Nat) (a b : α) : α := Nat.rec (motive := fun _ => α) a (fun _ _ => b) n
def e_lf (k : Nat) (o : Nat × Nat × Nat × Nat × Nat) (pc : Nat) : Nat × Nat × Nat × Nat × Nat := bif Nat.beq pc k then o else (99, 0, 0, 0, 0)
def e_b (n : Nat) : Nat := (n + 2147483648) % 4294967296
def e_B (n : Nat) : Nat := (n + 9223372036854775808) % 18446744073709551616
def e_rng (G : eG) (v : eV) : Option (Nat × Nat) := match v with
  | (0, n) => some (e_b n, e_b n)
  | (4, k) => e_get G.1 k
  | _ => none
def e_lt (G : eG) (a b : eV) : Option Bool := match e_rng G a, e_rng G b with
  | some (la, ha), some (lb, hb) => bif Nat.blt ha lb then some true else bif Nat.ble hb la then some false else none
  | _, _ => none
def e_eq (G : eG) (a b : eV) : Option Bool := match e_rng G a, e_rng G b with
  | some (la, ha), some (lb, hb) => bif Nat.blt ha lb || Nat.blt hb la then some false else bif Nat.beq la ha && (Nat.beq lb hb && Nat.beq la lb) then some true else none
  | _, _ => none
def e_not : Option Bool → Option Bool
  | some b => some (bif b then false else true)
  | none => none
def e_cond (G : eG) (i : Nat) (a b : eV) : Option Bool := match i with
  | 0 => e_eq G a b
  | 1 => e_not (e_eq G a b)
  | 2 => e_lt G a b
  | 3 => e_not (e_lt G a b)
  | 4 => e_lt G b a
  | 5 => e_not (e_lt G b a)
  | _ => none
def e_fact (l : List (Nat × Nat × Nat × Nat)) (o k c : Nat) : Option Nat := match l with
  | [] => none
  | (o', k', c', r) :: t => bif Nat.beq o o' && (Nat.beq k k' && Nat.beq c c') then some r else e_fact t o k c
/-- two ints -/
def e_bin (G : eG) (i : Nat) (x y : eV) : Option eV := match x, y with
  | (0, a), (0, b) => match i with
    | 0 => some (0, (a + b) % 4294967296)
    | 1 => some (0, (a + (4294967296 - b % 4294967296)) % 4294967296)
    | 2 => some (0, a * b % 4294967296)
    | 3 => bif Nat.blt a 2147483648 && (Nat.blt 0 b && Nat.blt b 2147483648) then some (0, a / b) else none
    | 4 => bif Nat.blt a 2147483648 && (Nat.blt 0 b && Nat.blt b 2147483648) then some (0, a % b) else none
    | 5 => some (0, Nat.land a b)
    | 6 => bif Nat.blt a 2147483648 && Nat.blt b 31 then some (0, a / 2 ^ b) else none
    | _ => none
  | (0, 0), (4, _) => match i with
    | 2 => some (0, 0)
    | _ => none
  | (4, k), (0, b) => bif Nat.ble i 6 then (match e_fact G.2 i k b with
    | some r => some (4, r)
    | none => none) else none
  | _, _ => none
/-- one int; 7: its char, 8: its byte, 9: its negative -/
def e_un (G : eG) (i : Nat) (x : eV) : Option eV := match x with
  | (0, a) => match i with
    | 7 => some (0, a % 65536)
    | 8 => bif Nat.blt (a % 256) 128 then some (0, a % 256) else some (0, 4294967040 + a % 256)
    | 9 => some (0, (4294967296 - a % 4294967296) % 4294967296)
    | _ => none
  | (4, k) => bif Nat.ble 7 i then (match e_fact G.2 i k 0 with
    | some r => some (4, r)
    | none => none) else none
  | _ => none
def e_i2l (a : Nat) : Nat := bif Nat.blt (a % 4294967296) 2147483648 then a % 4294967296 else a % 4294967296 + 18446744069414584320
def e_lbin (i a b : Nat) : Option eV := match i with
  | 0 => some (5, (a + b) % 18446744073709551616)
  | 1 => some (5, (a + (18446744073709551616 - b % 18446744073709551616)) % 18446744073709551616)
  | 2 => some (5, a * b % 18446744073709551616)
  | 3 => bif Nat.blt a 9223372036854775808 && (Nat.blt 0 b && Nat.blt b 9223372036854775808) then some (5, a / b) else none
  | 4 => some (0, bif Nat.blt (e_B a) (e_B b) then 4294967295 else bif Nat.blt (e_B b) (e_B a) then 1 else 0)
  | _ => none
def e_isI (v : eV) : Bool := Nat.beq v.1 0 || Nat.beq v.1 4
def e_isR (v : eV) : Bool := Nat.beq v.1 2 || Nat.beq v.1 3
def e_isQ (v : eV) : Bool := Nat.beq v.1 1 || e_isR v
def e_wide (v : eV) : Bool := Nat.beq v.1 5 || Nat.beq v.1 6
def e_cat (l : List eV) : Nat := List.rec (motive := fun _ => Nat) 0 (fun v _ ih => (bif e_wide v then 2 else 1) + ih) l
def e_look (ls : eL) (i : Nat) : Option eV := List.rec (motive := fun _ => Option eV) none (fun q _ ih => bif Nat.beq q.1 i then some q.2 else ih) ls
def e_drop1 (i : Nat) (ls : eL) : eL := List.rec (motive := fun _ => eL) [] (fun q _ ih => bif Nat.beq q.1 i || (Nat.beq (q.1 + 1) i && e_wide q.2) then ih else q :: ih) ls
def e_drop2 (i : Nat) (ls : eL) : eL := List.rec (motive := fun _ => eL) [] (fun q _ ih => bif Nat.beq q.1 i || (Nat.beq q.1 (i + 1) || (Nat.beq (q.1 + 1) i && e_wide q.2)) then ih else q :: ih) ls
/-- locals: 0 int, 1 reference, 2 long, 3 double -/
def e_kind (i : Nat) (v : eV) : Bool := match i with
  | 0 => e_isI v
  | 1 => e_isR v
  | 2 => Nat.beq v.1 5
  | 3 => Nat.beq v.1 6
  | _ => false
def e_rep {α : Type} (x : α) : Nat → List α
  | 0 => []
  | n + 1 => x :: e_rep x n
/-- a type's default: 3 long, 4 double, 6 and above references, else ints -/
def e_dflt (t : Nat) : eV := match t with
  | 3 => (5, 0)
  | 4 => (6, 0)
  | 6 => (1, 0)
  | 7 => (1, 0)
  | _ => (0, 0)
def e_tyok (t : Nat) (v : eV) : Bool := match t with
  | 3 => Nat.beq v.1 5
  | 4 => Nat.beq v.1 6
  | 6 => e_isQ v
  | 7 => e_isQ v
  | _ => e_isI v
/-- a store into a field or an array of a narrow type: it must fit -/
def e_fit (G : eG) (t : Nat) (v : eV) : Bool := match t with
  | 0 => e_isI v
  | 1 => match v with
    | (0, n) => Nat.blt n 2
    | _ => false
  | 2 => match e_rng G v with
    | some (lo, hi) => Nat.ble 2147483648 lo && Nat.blt hi 2147549184
    | none => false
  | 3 => Nat.beq v.1 5
  | 4 => Nat.beq v.1 6
  | 7 => e_isQ v
  | _ => false
/-- n rows of int[k], from the place i on -/
def e_rows (i n : Nat) : List eV := match n with
  | 0 => []
  | n + 1 => (2, i) :: e_rows (i + 1) n
/-- two references: one thing or two (things of the world are new: never one given at the start) -/
def e_same (x y : eV) : Option Bool := match x, y with
  | (2, a), (2, b) => some (Nat.beq a b)
  | (3, a), (3, b) => bif Nat.beq a b then some true else none
  | (2, _), (3, 0) => some false
  | (3, 0), (2, _) => some false
  | _, _ => none
/-- a call's locals -/
def e_args (i : Nat) (l : List eV) : eL := List.rec (motive := fun _ => Nat → eL) (fun _ => []) (fun v _ ih i => (i, v) :: ih (bif e_wide v then i + 2 else i + 1)) l i
end
