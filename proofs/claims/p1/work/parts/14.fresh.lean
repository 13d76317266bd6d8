/-! Whether two states are the same, by reckoning -/
def eqL {α : Type} (f : α → α → Bool) (l k : List α) : Bool := match l, k with
  | [], [] => true
  | x :: l, y :: k => f x y && eqL f l k
  | _, _ => false
theorem eqL_spec {α : Type} {f : α → α → Bool} (hf : ∀ x y, f x y = true → x = y) : ∀ l k : List α, eqL f l k = true → l = k := by
  intro l
  induction l with
  | nil => intro k h; cases k with
    | nil => rfl
    | cons y k => cases h
  | cons x l ih => intro k h; cases k with
    | nil => cases h
    | cons y k =>
      simp only [eqL, Bool.and_eq_true] at h
      rw [hf x y h.1, ih k h.2]
def eqI (x y : Int32) : Bool := Nat.beq x.toBitVec.toNat y.toBitVec.toNat
theorem eqI_spec (x y : Int32) (h : eqI x y = true) : x = y := by
  unfold eqI at h
  rw [a_key_eq] at h
  exact of_decide_eq_true h
def eqV (v w : Value) : Bool := match v, w with
  | .int x, .int y => eqI x y
  | .ref i, .ref j => Nat.beq i j
  | .null, .null => true
  | .long z, .long y => decide (z = y)
  | _, _ => false
theorem eqV_spec (v w : Value) (h : eqV v w = true) : v = w := by
  unfold eqV at h
  split at h
  · rw [eqI_spec _ _ h]
  · rw [Nat.eq_of_beq_eq_true h]
  · rfl
  · rw [of_decide_eq_true h]
  · cases h
def eqO (v w : Option Nat) : Bool := match v, w with
  | none, none => true
  | some i, some j => Nat.beq i j
  | _, _ => false
theorem eqO_spec (v w : Option Nat) (h : eqO v w = true) : v = w := by
  unfold eqO at h
  split at h
  · rfl
  · rw [Nat.eq_of_beq_eq_true h]
  · cases h
def eqC (v w : AC) : Bool := match v, w with
  | .inl f, .inl g => eqL eqI f g
  | .inr (.inl f), .inr (.inl g) => eqL eqO f g
  | .inr (.inr (c, f)), .inr (.inr (e, g)) => Nat.beq c e && eqL eqV f g
  | _, _ => false
theorem eqC_spec (v w : AC) (h : eqC v w = true) : v = w := by
  unfold eqC at h
  split at h
  · rw [eqL_spec eqI_spec _ _ h]
  · rw [eqL_spec eqO_spec _ _ h]
  · simp only [Bool.and_eq_true] at h
    rw [eqL_spec eqV_spec _ _ h.2, Nat.eq_of_beq_eq_true h.1]
  · cases h
def eqR (v w : Option ARes) : Bool := match v, w with
  | some (none, h, c, s), some (none, k, d, t) => eqL eqC h k && (Nat.beq c d && Nat.beq s t)
  | some (some x, h, c, s), some (some y, k, d, t) => eqV x y && (eqL eqC h k && (Nat.beq c d && Nat.beq s t))
  | _, _ => false
theorem eqR_spec {v w : Option ARes} (h : eqR v w = true) : v = w := by
  unfold eqR at h
  split at h
  · simp only [Bool.and_eq_true] at h
    rw [eqL_spec eqC_spec _ _ h.1, Nat.eq_of_beq_eq_true h.2.1, Nat.eq_of_beq_eq_true h.2.2]
  · simp only [Bool.and_eq_true] at h
    rw [eqV_spec _ _ h.1, eqL_spec eqC_spec _ _ h.2.1, Nat.eq_of_beq_eq_true h.2.2.1, Nat.eq_of_beq_eq_true h.2.2.2]
  · cases h
/-- the cells behind the two constructors -/
def hC : AH := [.inr (.inr (8, [.ref 1, .ref 10, .ref 11, .ref 33, .ref 39, .ref 40, .int 0, .int 0, .int 0])), .inr (.inr (7, [.ref 2, .ref 6, .int 4, .int 0, .int 1, .int 0, .int 1])), .inr (.inr (3, [.ref 3, .ref 4, .ref 5])), .inr (.inr (0, [.int 0, .long 0, .int 0])), .inl (List.replicate 8 0), .inl (List.replicate 8 0), .inr (.inr (6, [.ref 2, .ref 7, .ref 8, .ref 9, .int 0])), .inl (List.replicate 1024 (-1)), .inl (List.replicate 1024 0), .inl (List.replicate 1024 0), .inr (.inr (1, [.int 0, .int 0, .int 0])), .inr (.inr (5, [.ref 1, .ref 10, .ref 15, .ref 21, .ref 27, .ref 12, .ref 13, .ref 14, .int 0, .int 0, .int 0, .int 9, .int (-1), .int (-1)])), .inl (List.replicate 100 0), .inl (List.replicate 228 0), .inl (List.replicate 5 0), .inr (.inr (4, [.ref 1, .ref 16, .ref 17, .ref 18, .ref 19, .ref 20, .int 0])), .inl (List.replicate 8 0), .inl (List.replicate 7 0), .inl (List.replicate 28 0), .inl (List.replicate 28 0), .inl ([0, 0, 0, 0]), .inr (.inr (4, [.ref 1, .ref 22, .ref 23, .ref 24, .ref 25, .ref 26, .int 0])), .inl (List.replicate 8 0), .inl (List.replicate 7 0), .inl (List.replicate 28 0), .inl (List.replicate 28 0), .inl ([0, 0, 0, 0]), .inr (.inr (4, [.ref 1, .ref 28, .ref 29, .ref 30, .ref 31, .ref 32, .int 0])), .inl (List.replicate 8 0), .inl (List.replicate 7 0), .inl (List.replicate 28 0), .inl (List.replicate 28 0), .inl ([0, 0, 0, 0]), .inr (.inr (4, [.ref 1, .ref 34, .ref 35, .ref 36, .ref 37, .ref 38, .int 0])), .inl (List.replicate 8 0), .inl (List.replicate 7 0), .inl (List.replicate 28 0), .inl (List.replicate 28 0), .inl ([0, 0, 0, 0]), .inl ([0, 0, 0, 0]), .inl ([0, 0])]
def hM : AH := [.inr (.inr (9, [.int 4, .int 0, .ref 42, .ref 43, .ref 44, .ref 45, .ref 46, .ref 47, .ref 48, .ref 49, .ref 50, .ref 51, .int 0, .int 0, .int 0, .int 0, .int 0, .int 0, .int 0, .int 0, .ref 52, .int 0, .ref 53, .int 0, .ref 54, .int 0, .ref 55, .ref 56, .ref 57, .ref 58, .int 0, .ref 59, .ref 60])), .inl (List.replicate 13 0), .inl (List.replicate 13 0), .inl (List.replicate 13 0), .inl (List.replicate 13 0), .inl (List.replicate 13 0), .inl (List.replicate 13 0), .inl (List.replicate 13 0), .inl (List.replicate 13 0), .inl ([0, 0, 0, 0]), .inl (List.replicate 8 0), .inl ([0, 0, 0, 0]), .inl ([0, 0]), .inl ([0, 0, 0, 0]), .inl (List.replicate 28 0), .inl (List.replicate 28 0), .inl (List.replicate 112 0), .inl ([0, 0, 0, 0]), .inl ([0, 0]), .inl (List.replicate 5 0)]
def hF : AH := hC ++ hM
def aN : AC := .inr (.inr (8, (List.range 9).map (fun j => a_def (a_ty 8 j))))
def aO : AC := .inr (.inr (9, (List.range 33).map (fun j => a_def (a_ty 9 j))))
set_option maxRecDepth 100000 in
theorem ev_new : f_m 100000 11 miX8_init [.ref 0] [aN] = some (none, hC, 40, 3790) := eqR_spec (by decide +kernel)
set_option maxRecDepth 100000 in
theorem ev_newM : f_m 100000 11 miX9_init [.ref 41] (hC ++ [aO]) = some (none, hF, 19, 305) := eqR_spec (by decide +kernel)
noncomputable def agr (mx mm : Nat) (as : List Value) : Bool := match f_m 100000 11 mx (.ref 0 :: as) hF with
  | some (some (.int r), h1, c1, s1) => match f_m 100000 11 mm (.ref 41 :: as) h1 with
    | some (some (.int r2), _, c2, s2) => Nat.beq r.toBitVec.toNat r2.toBitVec.toNat && (Nat.ble (c1 + c2) 100 && (Nat.ble (s1 + s2) 1000 && a_recv h1 41 9))
    | _ => false
  | _ => false
set_option maxRecDepth 100000 in
theorem ag_clear : agr miX8_clear miX9_clear [] = true := by decide +kernel
set_option maxRecDepth 100000 in
theorem ag_broken : agr miX8_broken miX9_broken [] = true := by decide +kernel
set_option maxRecDepth 100000 in
theorem ag_seek : agr miX8_seek miX9_seek [] = true := by decide +kernel
