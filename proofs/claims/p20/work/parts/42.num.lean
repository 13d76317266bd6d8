/-! Small rows on ints and truth values -/
theorem dT {p : Prop} [Decidable p] (h : p) : decide p = true := decide_eq_true h
theorem dF {p : Prop} [Decidable p] (h : ¬ p) : decide p = false := decide_eq_false h
theorem dle {x y : Int32} (h : y < x) : decide (x ≤ y) = false := decide_eq_false (Int32.not_le.mpr h)
theorem dlt {x y : Int32} (h : y ≤ x) : decide (x < y) = false := decide_eq_false (Int32.not_lt.mpr h)
theorem jn_toInt {n : Nat} (h : n < 2147483648) : (Int32.ofNat n).toInt = (n : Int) := by
  show (BitVec.ofNat 32 n).toInt = _
  rw [BitVec.toInt_eq_toNat_cond, BitVec.toNat_ofNat, Nat.mod_eq_of_lt (by omega)]
  split <;> omega
theorem jn_lt {a b : Nat} (ha : a < 2147483648) (hb : b < 2147483648) : Int32.ofNat a < Int32.ofNat b ↔ a < b := by
  rw [Int32.lt_iff_toInt_lt, jn_toInt ha, jn_toInt hb]
  omega
theorem jn_le {a b : Nat} (ha : a < 2147483648) (hb : b < 2147483648) : Int32.ofNat a ≤ Int32.ofNat b ↔ a ≤ b := by
  rw [Int32.le_iff_toInt_le, jn_toInt ha, jn_toInt hb]
  omega
theorem jn_inj {a b : Nat} (ha : a < 2147483648) (hb : b < 2147483648) (h : Int32.ofNat a = Int32.ofNat b) : a = b := by
  have := congrArg Int32.toInt h
  rw [jn_toInt ha, jn_toInt hb] at this
  omega
theorem jn_1 (i : Nat) : Int32.ofNat i + Int32.ofInt 1 = Int32.ofNat (i + 1) := (Int32.ofNat_add i 1).symm
theorem jn_add (a b : Nat) : Int32.ofNat a + Int32.ofNat b = Int32.ofNat (a + b) := (Int32.ofNat_add a b).symm
theorem jn_mul (a b : Nat) : Int32.ofNat a * Int32.ofNat b = Int32.ofNat (a * b) := (Int32.ofNat_mul a b).symm
theorem jn_sub {a b : Nat} (h : b ≤ a) : Int32.ofNat a - Int32.ofNat b = Int32.ofNat (a - b) := by
  obtain ⟨c, rfl⟩ : ∃ c, a = b + c := ⟨a - b, by omega⟩
  rw [show b + c - b = c by omega, ← jn_add]
  apply Int32.toBitVec_inj.mp
  show (Int32.ofNat b).toBitVec + (Int32.ofNat c).toBitVec - (Int32.ofNat b).toBitVec = (Int32.ofNat c).toBitVec
  rw [BitVec.add_comm, BitVec.add_sub_cancel]
/-- an int from 0 on is a number -/
theorem jn_of {x : Int32} (h : 0 ≤ x) : ∃ n : Nat, n < 2147483648 ∧ x = Int32.ofNat n := by
  have h1 := Int32.le_iff_toInt_le.mp h
  have h0 : (0 : Int32).toInt = 0 := rfl
  have h2 := x.toInt_lt
  refine ⟨x.toInt.toNat, by omega, ?_⟩
  apply Int32.toInt_inj.mp
  rw [jn_toInt (by omega)]
  omega
theorem jn_of_lt {x : Int32} {k : Nat} (hk : k < 2147483648) (h : 0 ≤ x) (h2 : x < Int32.ofNat k) : ∃ n : Nat, n < k ∧ x = Int32.ofNat n := by
  obtain ⟨n, hn, rfl⟩ := jn_of h
  exact ⟨n, (jn_lt hn hk).mp h2, rfl⟩
theorem jn_of_le {x : Int32} {k : Nat} (hk : k < 2147483647) (h : 0 ≤ x) (h2 : x ≤ Int32.ofNat k) : ∃ n : Nat, n ≤ k ∧ x = Int32.ofNat n := by
  obtain ⟨n, hn, rfl⟩ := jn_of h
  exact ⟨n, (jn_le hn (by omega)).mp h2, rfl⟩
theorem loop_up {P : Nat → Prop} (n : Nat) (step : ∀ i, i ≤ n → (i < n → P (i + 1)) → P i) : ∀ i, i ≤ n → P i := by
  have h : ∀ k i, i + k = n → P i := by
    intro k
    induction k with
    | zero => intro i hi; exact step i (by omega) (fun h => absurd h (by omega))
    | succ k ih => intro i hi; exact step i (by omega) (fun _ => ih (i + 1) (by omega))
  exact fun i hi => h (n - i) i (by omega)
/-- a loop that goes on while a measure grows -/
theorem loop_ms {α : Type} {P : α → Prop} (f : α → Nat) (n : Nat) (step : ∀ a, (∀ b, f a < f b → f b ≤ n → P b) → P a) : ∀ a, P a := by
  have h : ∀ k a, n < f a + k → P a := by
    intro k
    induction k with
    | zero => intro a ha; exact step a (fun b h1 h2 => absurd h1 (by omega))
    | succ k ih => intro a ha; exact step a (fun b h1 h2 => ih b (by omega))
  exact fun a => h (n + 1) a (by omega)
theorem or_ge (x y : Int32) : x.toBitVec.toNat ≤ (x ||| y).toBitVec.toNat := by
  show x.toBitVec.toNat ≤ (x.toBitVec ||| y.toBitVec).toNat
  rw [BitVec.toNat_or]
  exact Nat.left_le_or
theorem or_grow {x z : Int32} (h : x.toBitVec.toNat ≤ z.toBitVec.toNat) (hne : ¬ x = z) : x.toBitVec.toNat < z.toBitVec.toNat := by
  rcases Nat.lt_or_ge x.toBitVec.toNat z.toBitVec.toNat with g | g
  · exact g
  · exact absurd (Int32.toBitVec_inj.mp (BitVec.eq_of_toNat_eq (Nat.le_antisymm h g))) hne
theorem bv_top (x : Int32) : x.toBitVec.toNat ≤ 4294967295 := by
  have := x.toBitVec.isLt
  omega
