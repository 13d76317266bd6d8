/-! THE SMALL MACHINE: a pure function that runs the methods' instructions over a list of cells; below it is shown (part 04) that the JVM does what it does. -/
/-- a cell: a row of ints, a row of references, an object (its class' number, its fields). A reference to the k-th cell is .ref k; .long 0 stands for the static empty row, .long 1 for the script -/
abbrev AC : Type := List Int32 ⊕ (List (Option Nat) ⊕ (Nat × List Value))
abbrev AH : Type := List AC
abbrev AL : Type := List (Nat × Value)
abbrev ARow : Type := Nat × Instr × Nat × Nat × Nat
/-- a method: its name, bytes, locals, result, class' number, parameters, the number of its class' name, rows -/
abbrev AM : Type := MethodName × ByteArray × Nat × Option FieldType × Nat × Nat × Nat × List ARow
abbrev ARes : Type := Option Value × AH × Nat × Nat
/-- a number, as far as it can be reckoned out, before one goes on -/
def fN {β : Type} (n : Nat) (k : Nat → β) : β := match n with
  | 0 => k 0
  | m + 1 => k (m + 1)
theorem fN_eq {β : Type} (n : Nat) (k : Nat → β) : fN n k = k n := by cases n <;> rfl
def a_at {α : Type} (l : List α) (n : Nat) : Option α := match l, n with
  | [], _ => none
  | x :: _, 0 => some x
  | _ :: r, n + 1 => a_at r n
theorem a_at_eq {α : Type} (l : List α) (n : Nat) : a_at l n = l[n]? := by
  induction l generalizing n with
  | nil => rfl
  | cons x r ih => cases n with
    | zero => rfl
    | succ n => exact (ih n).trans (List.getElem?_cons_succ).symm
def a_row (t : List ARow) (pc : Nat) : Option ARow := match t with
  | [] => none
  | q :: r => bif Nat.beq q.1 pc then some q else a_row r pc
/-- a value that a field of this type takes as it is -/
def a_fok (t : FieldType) (v : Value) : Bool := match t, v with
  | .int, .int _ => true
  | .boolean, .int x => decide (x = 0 ∨ x = 1)
  | .object _, .ref _ => true
  | .array _, .ref _ => true
  | .array _, .long z => decide (z = 0)
  | _, _ => false
def a_def (t : FieldType) : Value := match t with
  | .int => .int 0
  | .boolean => .int 0
  | _ => .null
/-- types of the classes' fields -/
def a_ty (ci : Nat) : Nat → FieldType := match ci with
  | 0 => tyJx4a65c
  | 1 => tyX1
  | 2 => tyX2
  | 3 => tyX3
  | 4 => tyX4
  | 5 => tyX5
  | 6 => tyX6
  | 7 => tyX7
  | 8 => tyX8
  | _ => tyX9
