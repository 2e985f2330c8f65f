/-! TYPES of the code tables: a row is its place, the raw instruction with its length, what the abstract machine runs, and what it links to -/
abbrev Ax : Type := (Nat × Nat × Nat) × (Nat × Nat) × Int × List Nat
abbrev En : Type := Nat × (Instr × Nat) × Instr × Ax
abbrev Cd : Type := List (List En)
def nthC : Cd → Nat → List En
  | [], _ => []
  | v :: _, 0 => v
  | _ :: t, k + 1 => nthC t k
def nthT : List Cd → Nat → Cd
  | [], _ => []
  | v :: _, 0 => v
  | _ :: t, k + 1 => nthT t k
def nthN : List Nat → Nat → Nat
  | [], _ => 0
  | v :: _, 0 => v
  | _ :: t, k + 1 => nthN t k
def elemN : List Nat → Nat → Bool
  | [], _ => false
  | k :: t, n => cond (Nat.beq k n) true (elemN t n)
