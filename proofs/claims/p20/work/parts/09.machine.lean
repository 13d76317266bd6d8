def fI {β : Type} (x : Int32) (k : Int32 → β) : β := fN x.toBitVec.toNat (fun n => k (Int32.ofNat n))
theorem fI_eq {β : Type} (x : Int32) (k : Int32 → β) : fI x k = k x := by
  unfold fI
  rw [fN_eq]
  congr 1
  apply Int32.toBitVec_inj.mp
  show BitVec.ofNat 32 x.toBitVec.toNat = x.toBitVec
  exact BitVec.ofNat_toNat _ _ |>.trans (BitVec.setWidth_eq _)
/-- a list with another n-th element, laid out before one goes on -/
def a_set {α β : Type} (l : List α) (n : Nat) (v : α) (k : List α → Option β) : Option β := match l, n with
  | [], _ => none
  | _ :: r, 0 => k (v :: r)
  | x :: r, n + 1 => a_set r n v (fun r' => k (x :: r'))
theorem a_set_eq {α β : Type} (l : List α) (n : Nat) (v : α) (k : List α → Option β) : a_set l n v k = if n < l.length then k (l.set n v) else none := by
  induction l generalizing n k with
  | nil => simp [a_set]
  | cons x r ih => cases n with
    | zero => simp [a_set]
    | succ n =>
      show a_set r n v (fun r' => k (x :: r')) = _
      rw [ih]
      simp
/-- a list with one more at its end, and that one's place -/
def a_snocA {α β : Type} (l : List α) (v : α) (i : Nat) (k : Nat → List α → β) : β := match l with
  | [] => fN i (fun i => k i [v])
  | x :: r => a_snocA r v (i + 1) (fun i r' => k i (x :: r'))
def a_snoc {α β : Type} (l : List α) (v : α) (k : Nat → List α → β) : β := a_snocA l v 0 k
theorem a_snocA_eq {α β : Type} (l : List α) (v : α) (i : Nat) (k : Nat → List α → β) : a_snocA l v i k = k (i + l.length) (l ++ [v]) := by
  induction l generalizing i k with
  | nil => exact fN_eq _ _
  | cons x r ih =>
    show a_snocA r v (i + 1) (fun i r' => k i (x :: r')) = _
    rw [ih]
    simp [Nat.add_assoc, Nat.add_comm 1]
theorem a_snoc_eq {α β : Type} (l : List α) (v : α) (k : Nat → List α → β) : a_snoc l v k = k l.length (l ++ [v]) := by
  unfold a_snoc
  rw [a_snocA_eq, Nat.zero_add]
def a_get (al : AL) (i : Nat) : Option Value := match al with
  | [] => none
  | q :: r => bif Nat.beq q.1 i then some q.2 else a_get r i
def a_del {β : Type} (al : AL) (i : Nat) (k : AL → β) : β := match al with
  | [] => k []
  | q :: r => bif Nat.beq q.1 i then a_del r i k else a_del r i (fun r' => k (q :: r'))
theorem a_del_eq {β : Type} (al : AL) (i : Nat) (k : AL → β) : a_del al i k = k (al.filter (fun q => !(Nat.beq q.1 i))) := by
  induction al generalizing k with
  | nil => rfl
  | cons q r ih =>
    show (bif Nat.beq q.1 i then a_del r i k else a_del r i (fun r' => k (q :: r'))) = _
    cases h : Nat.beq q.1 i
    · simp [h, ih]
    · simp [h, ih]
/-- an int's place among all of them, from the least on -/
def a_key (x : Int32) : Nat := (x.toBitVec.toNat + 2147483648) % 4294967296
theorem a_key_lt (x y : Int32) : Nat.blt (a_key x) (a_key y) = decide (x < y) := by
  have h : (a_key x < a_key y) ↔ x < y := by
    rw [Int32.lt_iff_toInt_lt]
    show _ ↔ x.toBitVec.toInt < y.toBitVec.toInt
    rw [BitVec.toInt_eq_toNat_cond, BitVec.toInt_eq_toNat_cond]
    have h1 := x.toBitVec.isLt
    have h2 := y.toBitVec.isLt
    unfold a_key
    split <;> split <;> omega
  rw [Bool.eq_iff_iff]
  simp only [Nat.blt_eq, decide_eq_true_eq]
  exact h
theorem a_key_le (x y : Int32) : Nat.ble (a_key x) (a_key y) = decide (x ≤ y) := by
  have h : (a_key x ≤ a_key y) ↔ x ≤ y := by
    rw [Int32.le_iff_toInt_le]
    show _ ↔ x.toBitVec.toInt ≤ y.toBitVec.toInt
    rw [BitVec.toInt_eq_toNat_cond, BitVec.toInt_eq_toNat_cond]
    have h1 := x.toBitVec.isLt
    have h2 := y.toBitVec.isLt
    unfold a_key
    split <;> split <;> omega
  rw [Bool.eq_iff_iff]
  simp only [Nat.ble_eq, decide_eq_true_eq]
  exact h
theorem a_key_eq (x y : Int32) : Nat.beq x.toBitVec.toNat y.toBitVec.toNat = decide (x = y) := by
  rw [Bool.eq_iff_iff]
  simp only [Nat.beq_eq, decide_eq_true_eq]
  constructor
  · intro h
    exact Int32.toBitVec_inj.mp (BitVec.eq_of_toNat_eq h)
  · intro h
    rw [h]
def a_icmp (c : ClassFile.Cond) (x y : Int32) : Bool := match c with
  | .eq => Nat.beq x.toBitVec.toNat y.toBitVec.toNat
  | .ne => !(Nat.beq x.toBitVec.toNat y.toBitVec.toNat)
  | .lt => Nat.blt (a_key x) (a_key y)
  | .ge => Nat.ble (a_key y) (a_key x)
  | .gt => Nat.blt (a_key y) (a_key x)
  | .le => Nat.ble (a_key x) (a_key y)
def a_acmp (v w : Value) : Option Bool := match v, w with
  | .ref i, .ref j => some (Nat.beq i j)
  | .ref _, .long z => if z = 0 then some false else none
  | .long z, .ref _ => if z = 0 then some false else none
  | .long z, .long y => if z = 0 ∧ y = 0 then some true else if z = 2 ∧ y = 2 then some true else none
  | _, _ => none
def a_opt (o : Option Nat) : Value := match o with
  | none => .null
  | some k => .ref k
/-- an index as a place: none, if it is below 0 -/
def a_idx (i : Int32) : Option Nat := bif Nat.blt i.toBitVec.toNat 2147483648 then some i.toBitVec.toNat else none
theorem a_idx_spec {i : Int32} {j : Nat} (h : a_idx i = some j) : ¬ i < 0 ∧ i.toNatClampNeg = j ∧ j < 2 ^ 31 := by
  unfold a_idx at h
  cases hb : Nat.blt i.toBitVec.toNat 2147483648 with
  | false => rw [hb] at h; cases h
  | true =>
    rw [hb] at h
    cases h
    have hl : i.toBitVec.toNat < 2147483648 := by simpa using hb
    have hi : i.toInt = (i.toBitVec.toNat : Int) := by
      show i.toBitVec.toInt = _
      rw [BitVec.toInt_eq_toNat_cond]
      split <;> omega
    refine ⟨fun q => ?_, ?_, hl⟩
    · have := Int32.lt_iff_toInt_lt.mp q
      rw [hi] at this
      have h0 : (0 : Int32).toInt = 0 := rfl
      omega
    · show i.toInt.toNat = _
      rw [hi]
      rfl
/-- nothing, or a rule -/
def a_rule (h : AH) (o : Option Nat) : Bool := match o with
  | none => true
  | some v => match a_at h v with
    | some (.inr (.inr (ci, _))) => Nat.beq ci 2
    | _ => false
abbrev ANext : Type := Nat × AL × List Value × AH × Nat × Nat
/-- one instruction that neither calls nor returns. d: frames that are left; xs: the script -/
def a_step (d : Nat) (xs : List Int32) (r : ARow) (al : AL) (st : List Value) (h : AH) : Option ANext :=
  let pc := r.1
  let n := pc + r.2.2.1
  let a := r.2.2.2.1
  let b := r.2.2.2.2
  match r.2.1 with
  | .iconst k => fI (Int32.ofInt k) (fun v => some (n, al, .int v :: st, h, 0, 0))
  | .bipush k => fI ((Int8.ofInt k).toInt32) (fun v => some (n, al, .int v :: st, h, 0, 0))
  | .sipush k => fI ((Int16.ofInt k).toInt32) (fun v => some (n, al, .int v :: st, h, 0, 0))
  | .ldc _ => bif Nat.beq b 5 then some (n, al, .long 2 :: st, h, 0, 0) else some (n, al, .int (Int32.ofNat a) :: st, h, 0, 0)
  | .ldc_w _ => some (n, al, .int (Int32.ofNat a) :: st, h, 0, 0)
  | .aconst_null => some (n, al, .null :: st, h, 0, 0)
  | .iload_n i => match a_get al i.val with
    | some (.int x) => some (n, al, .int x :: st, h, 0, 0)
    | _ => none
  | .iload i => match a_get al i with
    | some (.int x) => some (n, al, .int x :: st, h, 0, 0)
    | _ => none
  | .aload_n i => match a_get al i.val with
    | some (.ref k) => some (n, al, .ref k :: st, h, 0, 0)
    | some (.long z) => some (n, al, .long z :: st, h, 0, 0)
    | _ => none
  | .aload i => match a_get al i with
    | some (.ref k) => some (n, al, .ref k :: st, h, 0, 0)
    | some (.long z) => some (n, al, .long z :: st, h, 0, 0)
    | _ => none
  | .istore_n i => match st with
    | .int x :: st => a_del al i.val (fun al => some (n, (i.val, .int x) :: al, st, h, 0, 0))
    | _ => none
  | .istore i => match st with
    | .int x :: st => a_del al i (fun al => some (n, (i, .int x) :: al, st, h, 0, 0))
    | _ => none
  | .astore_n i => match st with
    | .ref k :: st => a_del al i.val (fun al => some (n, (i.val, .ref k) :: al, st, h, 0, 0))
    | _ => none
  | .astore i => match st with
    | .ref k :: st => a_del al i (fun al => some (n, (i, .ref k) :: al, st, h, 0, 0))
    | _ => none
  | .iinc i k => match a_get al i with
    | some (.int x) => fI (x + Int32.ofInt k) (fun v => a_del al i (fun al => some (n, (i, .int v) :: al, st, h, 0, 0)))
    | _ => none
  | .iadd => match st with
    | .int y :: .int x :: st => fI (x + y) (fun v => some (n, al, .int v :: st, h, 0, 0))
    | _ => none
  | .isub => match st with
    | .int y :: .int x :: st => fI (x - y) (fun v => some (n, al, .int v :: st, h, 0, 0))
    | _ => none
  | .imul => match st with
    | .int y :: .int x :: st => fI (x * y) (fun v => some (n, al, .int v :: st, h, 0, 0))
    | _ => none
  | .idiv => match st with
    | .int y :: .int x :: st => bif Nat.beq y.toBitVec.toNat 0 then none else fI (x / y) (fun v => some (n, al, .int v :: st, h, 0, 0))
    | _ => none
  | .irem => match st with
    | .int y :: .int x :: st => bif Nat.beq y.toBitVec.toNat 0 then none else fI (x - x / y * y) (fun v => some (n, al, .int v :: st, h, 0, 0))
    | _ => none
  | .iand => match st with
    | .int y :: .int x :: st => fI (x &&& y) (fun v => some (n, al, .int v :: st, h, 0, 0))
    | _ => none
  | .ior => match st with
    | .int y :: .int x :: st => fI (x ||| y) (fun v => some (n, al, .int v :: st, h, 0, 0))
    | _ => none
  | .ixor => match st with
    | .int y :: .int x :: st => fI (x ^^^ y) (fun v => some (n, al, .int v :: st, h, 0, 0))
    | _ => none
  | .ishl => match st with
    | .int y :: .int x :: st => fI (x <<< (y &&& 31)) (fun v => some (n, al, .int v :: st, h, 0, 0))
    | _ => none
  | .ishr => match st with
    | .int y :: .int x :: st => fI (x >>> (y &&& 31)) (fun v => some (n, al, .int v :: st, h, 0, 0))
    | _ => none
  | .iushr => match st with
    | .int y :: .int x :: st => fI ((x.toUInt32 >>> (y.toUInt32 &&& Int32.toUInt32 31)).toInt32) (fun v => some (n, al, .int v :: st, h, 0, 0))
    | _ => none
  | .goto _ => some (a, al, st, h, 0, 0)
  | .ifCond c _ => match st with
    | .int x :: st => bif a_icmp c x 0 then some (a, al, st, h, 0, 0) else some (n, al, st, h, 0, 0)
    | _ => none
  | .if_icmp c _ => match st with
    | .int y :: .int x :: st => bif a_icmp c x y then some (a, al, st, h, 0, 0) else some (n, al, st, h, 0, 0)
    | _ => none
  | .if_acmp .eq _ => match st with
    | w :: v :: st => match a_acmp v w with
      | some t => bif t then some (a, al, st, h, 0, 0) else some (n, al, st, h, 0, 0)
      | none => none
    | _ => none
  | .if_acmp .ne _ => match st with
    | w :: v :: st => match a_acmp v w with
      | some t => bif t then some (n, al, st, h, 0, 0) else some (a, al, st, h, 0, 0)
      | none => none
    | _ => none
  | .tableswitch df lo hi offs => match st with
    | .int x :: st => bif decide (x.toInt < lo) || decide (hi < x.toInt) then (bif decide (0 ≤ (pc : Int) + df) then fN ((pc : Int) + df).toNat (fun t => some (t, al, st, h, 0, 0)) else none)
      else match offs[(x.toInt - lo).toNat]? with
        | some o => bif decide (0 ≤ (pc : Int) + o) then fN ((pc : Int) + o).toNat (fun t => some (t, al, st, h, 0, 0)) else none
        | none => none
    | _ => none
  | .dup => match st with
    | v :: st => some (n, al, v :: v :: st, h, 0, 0)
    | _ => none
  | .pop => match st with
    | _ :: st => some (n, al, st, h, 0, 0)
    | _ => none
  | .dup2 => match st with
    | v :: w :: st => some (n, al, v :: w :: v :: w :: st, h, 0, 0)
    | _ => none
  | .dup_x1 => match st with
    | v :: w :: st => some (n, al, v :: w :: v :: st, h, 0, 0)
    | _ => none
  | .getfield _ => match st with
    | .ref q :: st => match a_at h q with
      | some (.inr (.inr (ci, fs))) => bif Nat.beq ci a then (match a_at fs b with
        | some v => some (n, al, v :: st, h, 0, 0)
        | none => none) else none
      | _ => none
    | _ => none
  | .putfield _ => match st with
    | v :: .ref q :: st => match a_at h q with
      | some (.inr (.inr (ci, fs))) => bif Nat.beq ci a && a_fok (a_ty a b) v then a_set fs b v (fun fs => a_set h q (.inr (.inr (ci, fs))) (fun h => some (n, al, st, h, 0, 0))) else none
      | _ => none
    | _ => none
  | .getstatic _ => some (n, al, .long 0 :: st, h, 0, 0)
  | .iaload => match st with
    | .int i :: .ref q :: st => match a_at h q with
      | some (.inl f) => match a_idx i with
        | some j => match a_at f j with
          | some x => some (n, al, .int x :: st, h, 0, 0)
          | none => none
        | none => none
      | _ => none
    | .int i :: .long z :: st => match a_idx i with
      | some j => match a_at xs j with
        | some x => bif Nat.blt 11 d && decide (z = 1) then some (n, al, .int x :: st, h, 0, 0) else none
        | none => none
      | none => none
    | _ => none
  | .iastore => match st with
    | .int x :: .int i :: .ref q :: st => match a_at h q with
      | some (.inl f) => match a_idx i with
        | some j => a_set f j x (fun f => a_set h q (.inl f) (fun h => some (n, al, st, h, 0, 0)))
        | none => none
      | _ => none
    | _ => none
  | .aaload => match st with
    | .int i :: .ref q :: st => match a_at h q with
      | some (.inr (.inl f)) => match a_idx i with
        | some j => match a_at f j with
          | some x => some (n, al, a_opt x :: st, h, 0, 0)
          | none => none
        | none => none
      | _ => none
    | _ => none
  | .aastore => match st with
    | .ref v :: .int i :: .ref q :: st => match a_at h v, a_at h q with
      | some (.inr (.inr (ci, _))), some (.inr (.inl f)) => match a_idx i with
        | some j => bif Nat.beq ci 2 then a_set f j (some v) (fun f => a_set h q (.inr (.inl f)) (fun h => some (n, al, st, h, 0, 0))) else none
        | none => none
      | _, _ => none
    | _ => none
  | .arraylength => match st with
    | .ref q :: st => match a_at h q with
      | some (.inl f) => fN f.length (fun k => some (n, al, .int (Int32.ofNat k) :: st, h, 0, 0))
      | some (.inr (.inl f)) => fN f.length (fun k => some (n, al, .int (Int32.ofNat k) :: st, h, 0, 0))
      | _ => none
    | .long z :: st => bif decide (z = 0) then some (n, al, .int 0 :: st, h, 0, 0) else bif Nat.blt 11 d && decide (z = 1) then fN xs.length (fun k => some (n, al, .int (Int32.ofNat k) :: st, h, 0, 0)) else none
    | _ => none
  | .newarray .int => match st with
    | .int k :: st => match a_idx k with
      | some j => bif Nat.blt 100000 j then none else a_snoc h (.inl (List.replicate j 0)) (fun q h => some (n, al, .ref q :: st, h, 1, j))
      | none => none
    | _ => none
  | .anewarray _ => match st with
    | .int k :: st => match a_idx k with
      | some j => bif Nat.blt 100000 j then none else a_snoc h (.inr (.inl (List.replicate j none))) (fun q h => some (n, al, .ref q :: st, h, 1, j))
      | none => none
    | _ => none
  | .new _ => a_snoc h (.inr (.inr (a, (List.range b).map (fun j => a_def (a_ty a j))))) (fun q h => some (n, al, .ref q :: st, h, 1, b))
  | .checkcast _ => match st with
    | .ref q :: st => match a_at h q with
      | some (.inr (.inr (ci, _))) => bif Nat.beq ci a then some (n, al, .ref q :: st, h, 0, 0) else none
      | _ => none
    | _ => none
  | .invokevirtual _ => bif Nat.beq b 2 && (Nat.blt 0 d && Nat.ble st.length 9) then (match st with
    | .ref q :: st => match a_at h q with
      | some (.inr (.inl _)) => some (n, al, .long 2 :: st, h, 0, 0)
      | _ => none
    | _ => none) else none
  | .invokespecial _ => bif Nat.beq b 2 && (Nat.blt 0 d && Nat.ble st.length 9) then (match st with
    | .ref _ :: st => some (n, al, st, h, 0, 0)
    | _ => none) else none
  | .invokestatic _ => bif Nat.beq b 2 && (Nat.blt 0 d && Nat.ble st.length 13) then (match st with
    | .int k :: .int dp :: .ref q1 :: .int sp :: .ref q0 :: st => match a_at h q0, a_at h q1 with
      | some (.inl f), some (.inl g) => match a_idx k, a_idx dp, a_idx sp with
        | some k, some dp, some sp => bif Nat.ble (sp + k) f.length && Nat.ble (dp + k) g.length then
            a_set h q1 (.inl (g.take dp ++ ((f.drop sp).take k ++ g.drop (dp + k)))) (fun h => some (n, al, st, h, 0, 0)) else none
        | _, _, _ => none
      | some (.inr (.inl f)), some (.inr (.inl g)) => match a_idx k, a_idx dp, a_idx sp with
        | some k, some dp, some sp => bif Nat.ble (sp + k) f.length && (Nat.ble (dp + k) g.length && f.all (a_rule h)) then
            a_set h q1 (.inr (.inl (g.take dp ++ ((f.drop sp).take k ++ g.drop (dp + k))))) (fun h => some (n, al, st, h, 0, 0)) else none
        | _, _, _ => none
      | _, _ => none
    | _ => none) else bif Nat.blt 0 d && Nat.ble st.length 10 then (match st with
    | .int y :: .int x :: st => bif Nat.beq b 3 then (bif Nat.blt (a_key x) (a_key y) then some (n, al, .int y :: st, h, 0, 0) else some (n, al, .int x :: st, h, 0, 0)) else bif Nat.beq b 4 then (bif Nat.blt (a_key y) (a_key x) then some (n, al, .int y :: st, h, 0, 0) else some (n, al, .int x :: st, h, 0, 0)) else none
    | _ => none) else none
  | _ => none
/-- does the row call a method of the table (a virtual one, a constructor: with a receiver; a static one: without) -/
def a_call (r : ARow) : Option Bool := match r.2.1 with
  | .invokevirtual _ => bif Nat.beq r.2.2.2.2 2 then none else some true
  | .invokespecial _ => bif Nat.beq r.2.2.2.2 2 then none else some true
  | .invokestatic _ => bif Nat.ble 2 r.2.2.2.2 then none else some false
  | _ => none
/-- the end of a method: the answer, if the stack is as it must be -/
def a_ret (ret : Option FieldType) (i : Instr) (st : List Value) : Option (Option Value) := match i, ret, st with
  | .return_, none, [] => some none
  | .ireturn, some .int, [.int x] => some (some (.int x))
  | .ireturn, some .boolean, [.int x] => bif decide (x = 0 ∨ x = 1) then some (some (.int x)) else none
  | .areturn, some (.object _), [.ref k] => some (some (.ref k))
  | .areturn, some (.array _), [.ref k] => some (some (.ref k))
  | _, _, _ => none
/-- whether the receiver is an object of the class with that number -/
def a_recv (h : AH) (q ci : Nat) : Bool := match a_at h q with
  | some (.inr (.inr (c, _))) => Nat.beq c ci
  | _ => false
def a_rok (h : AH) (vs : List Value) (ci : Nat) : Bool := match vs with
  | .ref q :: _ => a_recv h q ci
  | _ => false
/-- the arguments of a call and what lies below them -/
def a_args (rc : Bool) (n : Nat) (st : List Value) : List Value × List Value := bif rc then ((st.take (n + 1)).reverse, st.drop (n + 1)) else ((st.take n).reverse, st.drop n)
def a_tail {α : Type} (f : Nat → AL → List Value → AH → Nat → Nat → α) (pc : Nat) (al : AL) (st : List Value) (h : AH) (c s : Nat) : α := f pc al st h c s
def a_push (v : Option Value) (st : List Value) : List Value := match v with
  | none => st
  | some v => v :: st
abbrev AFun : Type := Nat → List Value → AH → Option ARes
/-- a call: the callee by its number -/
def a_do (MT : List AM) (cf : AFun) (rc : Bool) (mi : Nat) (st : List Value) (h : AH) : Option (ARes × List Value) := match a_at MT mi with
  | none => none
  | some m => let p := a_args rc m.2.2.2.2.2.1 st
    bif Nat.ble (p.2.length) 8 && (Nat.beq p.1.length (bif rc then m.2.2.2.2.2.1 + 1 else m.2.2.2.2.2.1) && (!rc || a_rok h p.1 m.2.2.2.2.1)) then (match cf mi p.1 h with
      | some res => some (res, p.2)
      | none => none) else none
noncomputable def a_run (MT : List AM) (xs : List Int32) (cf : AFun) (d : Nat) (ret : Option FieldType) (tab : List ARow) (N : Nat) : Nat → AL → List Value → AH → Nat → Nat → Option ARes :=
  Nat.rec (motive := fun _ => Nat → AL → List Value → AH → Nat → Nat → Option ARes) (fun _ _ _ _ _ _ => none)
    (fun _ ih pc al st h c s => match a_row tab pc with
      | none => none
      | some r => match a_step d xs r al st h with
        | some (pc', al', st', h', dc, ds) => fN (c + dc) (fun c => fN (s + ds) (fun s => a_tail ih pc' al' st' h' c s))
        | none => match a_call r with
          | some rc => match a_do MT cf rc r.2.2.2.1 st h with
            | some ((v, h', c1, s1), st') => fN (c + c1) (fun c => fN (s + s1) (fun s => a_tail ih (r.1 + r.2.2.1) al (a_push v st') h' c s))
            | none => none
          | none => match a_ret ret r.2.1 st with
            | some v => some (v, h, c, s)
            | none => none) N
def a_entry (i : Nat) (vs : List Value) : AL := match vs with
  | [] => []
  | v :: r => (i, v) :: a_entry (i + 1) r
noncomputable def a_meth (MT : List AM) (xs : List Int32) (N : Nat) (d : Nat) (cf : AFun) : AFun := fun mi vs h => match a_at MT mi with
  | none => none
  | some m => bif Nat.ble vs.length m.2.2.1 then a_run MT xs cf d m.2.2.2.1 m.2.2.2.2.2.2.2 N 0 (a_entry 0 vs) [] h 0 0 else none
/-- a method with d frames left below it, each of at most N instructions -/
noncomputable def a_m (MT : List AM) (xs : List Int32) (N : Nat) (d : Nat) : AFun :=
  Nat.rec (motive := fun _ => AFun) (a_meth MT xs N 0 (fun _ _ _ => none)) (fun d ih => a_meth MT xs N (d + 1) ih) d
