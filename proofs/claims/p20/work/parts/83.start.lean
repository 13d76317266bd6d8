/-! Whether two states are the same, by reckoning -/
def eqL {α : Type} (f : α → α → Bool) (l k : List α) : Bool := match l, k with
  | [], [] => true
  | x :: l, y :: k => f x y && eqL f l k
  | _, _ => false
theorem eqL_spec {α : Type} {f : α → α → Bool} (hf : ∀ x y, f x y = true → x = y) : ∀ l k : List α, eqL f l k = true → l = k := by
  intro l
  induction l with
  | nil => intro k h; cases k with
    | nil => rfl
    | cons y k => cases h
  | cons x l ih => intro k h; cases k with
    | nil => cases h
    | cons y k =>
      simp only [eqL, Bool.and_eq_true] at h
      rw [hf x y h.1, ih k h.2]
def eqI (x y : Int32) : Bool := Nat.beq x.toBitVec.toNat y.toBitVec.toNat
theorem eqI_spec (x y : Int32) (h : eqI x y = true) : x = y := by
  unfold eqI at h
  rw [a_key_eq] at h
  exact of_decide_eq_true h
def eqV (v w : Value) : Bool := match v, w with
  | .int x, .int y => eqI x y
  | .ref i, .ref j => Nat.beq i j
  | .null, .null => true
  | .long z, .long y => decide (z = y)
  | _, _ => false
theorem eqV_spec (v w : Value) (h : eqV v w = true) : v = w := by
  unfold eqV at h
  split at h
  · rw [eqI_spec _ _ h]
  · rw [Nat.eq_of_beq_eq_true h]
  · rfl
  · rw [of_decide_eq_true h]
  · cases h
def eqO (v w : Option Nat) : Bool := match v, w with
  | none, none => true
  | some i, some j => Nat.beq i j
  | _, _ => false
theorem eqO_spec (v w : Option Nat) (h : eqO v w = true) : v = w := by
  unfold eqO at h
  split at h
  · rfl
  · rw [Nat.eq_of_beq_eq_true h]
  · cases h
def eqC (v w : AC) : Bool := match v, w with
  | .inl f, .inl g => eqL eqI f g
  | .inr (.inl f), .inr (.inl g) => eqL eqO f g
  | .inr (.inr (c, f)), .inr (.inr (e, g)) => Nat.beq c e && eqL eqV f g
  | _, _ => false
theorem eqC_spec (v w : AC) (h : eqC v w = true) : v = w := by
  unfold eqC at h
  split at h
  · rw [eqL_spec eqI_spec _ _ h]
  · rw [eqL_spec eqO_spec _ _ h]
  · simp only [Bool.and_eq_true] at h
    rw [eqL_spec eqV_spec _ _ h.2, Nat.eq_of_beq_eq_true h.1]
  · cases h
def eqR (v w : Option ARes) : Bool := match v, w with
  | some (none, h, c, s), some (none, k, d, t) => eqL eqC h k && (Nat.beq c d && Nat.beq s t)
  | some (some x, h, c, s), some (some y, k, d, t) => eqV x y && (eqL eqC h k && (Nat.beq c d && Nat.beq s t))
  | _, _ => false
theorem eqR_spec {v w : Option ARes} (h : eqR v w = true) : v = w := by
  unfold eqR at h
  split at h
  · simp only [Bool.and_eq_true] at h
    rw [eqL_spec eqC_spec _ _ h.1, Nat.eq_of_beq_eq_true h.2.1, Nat.eq_of_beq_eq_true h.2.2]
  · simp only [Bool.and_eq_true] at h
    rw [eqV_spec _ _ h.1, eqL_spec eqC_spec _ _ h.2.1, Nat.eq_of_beq_eq_true h.2.2.1, Nat.eq_of_beq_eq_true h.2.2.2]
  · cases h
/-- the cells behind the two constructors -/
def hC : AH := [.inr (.inr (8, [.ref 1, .ref 10, .ref 11, .ref 33, .ref 39, .ref 40, .int 0, .int 0, .int 0])), .inr (.inr (7, [.ref 2, .ref 6, .int 4, .int 0, .int 1, .int 0, .int 1])), .inr (.inr (3, [.ref 3, .ref 4, .ref 5])), .inr (.inr (0, [.int 0, .long 0, .int 0])), .inl (List.replicate 8 0), .inl (List.replicate 8 0), .inr (.inr (6, [.ref 2, .ref 7, .ref 8, .ref 9, .int 0])), .inl (List.replicate 1024 (-1)), .inl (List.replicate 1024 0), .inl (List.replicate 1024 0), .inr (.inr (1, [.int 0, .int 0, .int 0])), .inr (.inr (5, [.ref 1, .ref 10, .ref 15, .ref 21, .ref 27, .ref 12, .ref 13, .ref 14, .int 0, .int 0, .int 0, .int 9, .int (-1), .int (-1)])), .inl (List.replicate 100 0), .inl (List.replicate 228 0), .inl (List.replicate 5 0), .inr (.inr (4, [.ref 1, .ref 16, .ref 17, .ref 18, .ref 19, .ref 20, .int 0])), .inl (List.replicate 8 0), .inl (List.replicate 7 0), .inl (List.replicate 28 0), .inl (List.replicate 28 0), .inl ([0, 0, 0, 0]), .inr (.inr (4, [.ref 1, .ref 22, .ref 23, .ref 24, .ref 25, .ref 26, .int 0])), .inl (List.replicate 8 0), .inl (List.replicate 7 0), .inl (List.replicate 28 0), .inl (List.replicate 28 0), .inl ([0, 0, 0, 0]), .inr (.inr (4, [.ref 1, .ref 28, .ref 29, .ref 30, .ref 31, .ref 32, .int 0])), .inl (List.replicate 8 0), .inl (List.replicate 7 0), .inl (List.replicate 28 0), .inl (List.replicate 28 0), .inl ([0, 0, 0, 0]), .inr (.inr (4, [.ref 1, .ref 34, .ref 35, .ref 36, .ref 37, .ref 38, .int 0])), .inl (List.replicate 8 0), .inl (List.replicate 7 0), .inl (List.replicate 28 0), .inl (List.replicate 28 0), .inl ([0, 0, 0, 0]), .inl ([0, 0, 0, 0]), .inl ([0, 0])]
def hM : AH := [.inr (.inr (9, [.int 4, .int 0, .ref 42, .ref 43, .ref 44, .ref 45, .ref 46, .ref 47, .ref 48, .ref 49, .ref 50, .ref 51, .int 0, .int 0, .int 0, .int 0, .int 0, .int 0, .int 0, .int 0, .ref 52, .int 0, .ref 53, .int 0, .ref 54, .int 0, .ref 55, .ref 56, .ref 57, .ref 58, .int 0, .ref 59, .ref 60])), .inl (List.replicate 13 0), .inl (List.replicate 13 0), .inl (List.replicate 13 0), .inl (List.replicate 13 0), .inl (List.replicate 13 0), .inl (List.replicate 13 0), .inl (List.replicate 13 0), .inl (List.replicate 13 0), .inl ([0, 0, 0, 0]), .inl (List.replicate 8 0), .inl ([0, 0, 0, 0]), .inl ([0, 0]), .inl ([0, 0, 0, 0]), .inl (List.replicate 28 0), .inl (List.replicate 28 0), .inl (List.replicate 112 0), .inl ([0, 0, 0, 0]), .inl ([0, 0]), .inl (List.replicate 5 0)]
def hF : AH := hC ++ hM
def aN : AC := .inr (.inr (8, (List.range 9).map (fun j => a_def (a_ty 8 j))))
def aO : AC := .inr (.inr (9, (List.range 33).map (fun j => a_def (a_ty 9 j))))
set_option maxRecDepth 100000 in
theorem ev_new : f_m 100000 11 miX8_init [.ref 0] [aN] = some (none, hC, 40, 3790) := eqR_spec (by decide +kernel)
set_option maxRecDepth 100000 in
theorem ev_newM : f_m 100000 11 miX9_init [.ref 41] (hC ++ [aO]) = some (none, hF, 19, 305) := eqR_spec (by decide +kernel)
theorem run_more {xs : List Int32} {cf : AFun} {d : Nat} {ret : Option FieldType} {tab : List ARow} {res : ARes} : ∀ (k k2 pc : Nat) (al : AL) (st : List Value) (h : AH) (c s : Nat), k ≤ k2 → a_run MT xs cf d ret tab k pc al st h c s = some res → a_run MT xs cf d ret tab k2 pc al st h c s = some res := by
  intro k
  induction k with
  | zero => intro k2 pc al st h c s _ hr; cases hr
  | succ k ih =>
    intro k2 pc al st h c s hk hr
    obtain ⟨k2, rfl⟩ : ∃ j, k2 = j + 1 := ⟨k2 - 1, by omega⟩
    rw [a_run_succ] at hr ⊢
    split at hr
    · cases hr
    · split at hr
      · exact ih _ _ _ _ _ _ _ (by omega) hr
      · split at hr
        · split at hr
          · exact ih _ _ _ _ _ _ _ (by omega) hr
          · cases hr
        · exact hr
theorem m_more : ∀ (d N N2 mi : Nat) (vs : List Value) (h : AH) (res : ARes), N ≤ N2 → a_m MT [] N d mi vs h = some res → a_m MT [] N2 d mi vs h = some res := by
  intro d
  induction d with
  | zero =>
    intro N N2 mi vs h res hN hr
    rw [a_m_zero] at hr ⊢
    unfold a_meth at hr ⊢
    split at hr
    · cases hr
    · revert hr
      cases Nat.ble vs.length _ with
      | false => intro hr; cases hr
      | true => intro hr; exact run_more _ _ _ _ _ _ _ _ hN hr
  | succ d ih =>
    intro N N2 mi vs h res hN hr
    rw [a_m_succ] at hr ⊢
    unfold a_meth at hr ⊢
    split at hr
    · cases hr
    · revert hr
      cases Nat.ble vs.length _ with
      | false => intro hr; cases hr
      | true =>
        intro hr
        exact run_more _ _ _ _ _ _ _ _ hN (run_cf_mono (fun mi vs h res hc => ih N N2 mi vs h res hN hc) _ _ _ _ _ _ _ hr)
theorem ev_f {mi : Nat} {vs : List Value} {h : AH} {v : Option Value} {h' : AH} {c s : Nat} (e : f_m 100000 11 mi vs h = some (v, h', c, s)) : EvG 11 mi vs h (fun v1 h1 c1 s1 => v1 = v ∧ h1 = h' ∧ c1 = c ∧ s1 = s) := by
  refine ⟨v, h', c, s, ⟨rfl, rfl, rfl, rfl⟩, 100000, fun N hN => ?_⟩
  exact m_more 11 100000 N mi vs h _ hN (f_ok (by omega) 11 mi vs h _ e)
/-- the ints of fresh objects -/
def M0 : Mem := mup (mup (mup (mup (mup (mup (mup (mfl (fun _ _ => 0) 7 (-1)) 1 2 4) 1 4 1) 1 6 1) 11 11 9) 11 12 (-1)) 11 13 (-1)) 41 0 4
set_option maxRecDepth 100000 in
theorem hF_eq : hF = hp (zz (.long 0) []) M0 := eqL_spec eqC_spec _ _ (by decide +kernel)
theorem inv_start : INV (.long 0) [] M0 := by
  have hC : CI (.long 0) [] M0 0 (fun _ => 0) := ⟨⟨⟨fun i hi => absurd hi (by omega), fun i j hi => absurd hi (by omega), fun h => absurd h (by omega)⟩, by omega, rfl, fun i hi => absurd hi (by omega), ⟨4, by omega, by omega, rfl⟩, ⟨0, by omega, rfl⟩⟩, ⟨0, by omega, rfl, fun j hj => absurd hj (by omega)⟩, ⟨0, by omega, rfl⟩, Or.inl rfl⟩
  have hI : MI M0 := ⟨⟨4, by omega, by omega, rfl⟩, ⟨0, by omega, rfl⟩, fun r hr => ⟨⟨0, by omega, rfl⟩, ⟨0, by omega, rfl⟩, Or.inr ⟨0, by omega, rfl⟩, Or.inr ⟨0, by omega, rfl⟩, ⟨0, by omega, rfl⟩⟩, fun f hf => ⟨0, by omega, rfl⟩, ⟨0, by omega, rfl⟩, ⟨0, by omega, rfl⟩, ⟨0, by omega, rfl⟩, fun k hk => by show (0 : Int32) ≤ 0; decide, ⟨0, by omega, rfl⟩⟩
  have hl : ML M0 := ⟨0, fun _ => 0, by omega, rfl, fun f hf => rfl, fun f hf => Nat.zero_le _, fun r hr => absurd hr (by omega), fun L _ f _ => Nat.zero_le _⟩
  have key : ∀ k, k < 4 → (0 : Int32) = byt 0 k := by decide
  have hr : REL M0 0 (fun _ => 0) := ⟨⟨rfl, rfl, rfl, rfl, by decide, by decide, by decide⟩, ⟨rfl, fun i hi => absurd hi (by omega), fun f hf => rfl⟩, fun k hk => key k hk⟩
  refine ⟨0, fun _ => 0, hC, ⟨fun _ => rfl, fun h => absurd h (by omega)⟩, hI, hl, hr, X2.mk (V := ((0, fun _ => 0, fun _ => 0, fun _ => 0, fun _ => 0, fun _ _ _ => false, fun _ => false), fun _ => 0, 4, 0, 0, 0, 0)) hC.1 hI hl hr.2.1 (fun j hj => ?_) (fun j => rfl) (fun i hi => absurd hi (by omega)) rfl (fun k hk => (key k hk).symm) ⟨rfl, by decide⟩ ⟨by decide, by decide, by decide⟩ ⟨rfl, by decide⟩ ⟨by decide, by decide⟩ (fun k hk => rfl) rfl rfl rfl rfl rfl, Or.inr ⟨0, by omega, rfl⟩, ?_, rfl, rfl⟩
  · show gb 0 j = _
    rw [gb_0, decide_eq_false (Nat.not_lt_zero j), Bool.false_and]
  · show (0 : Int32) = if (0 : Int32) = 9 then 0 else 0
    decide
section LX
variable {xs : List Int32} {ret : Option FieldType} {tab : List ARow} {pc : Nat} {al : AL} {st : List Value} {h : AH} {c s : Nat} {Q : QT} {len a b n : Nat}
theorem g_alenX (hr : a_row tab pc = some (pc, .arraylength, len, a, b)) (hn : pc + len = n) (kk : Go xs 11 ret tab n al (.int (Int32.ofNat xs.length) :: st) h c s Q) : Go xs 11 ret tab pc al (.long 1 :: st) h c s Q := by
  subst hn
  refine go_step (pc' := pc + len) (al' := al) (st' := .int (Int32.ofNat xs.length) :: st) (h' := h) (dc := 0) (ds := 0) hr ?_ kk
  have h0 : decide ((1 : Int64) = 0) = false := by decide
  have h1 : Nat.blt 11 (11 + 1) = true := rfl
  simp only [a_step, h0, h1, decide_true, Bool.and_self, cond_true, cond_false, fN_eq]
theorem g_ialdX {j : Nat} {i : Int32} (hr : a_row tab pc = some (pc, .iaload, len, a, b)) (hn : pc + len = n) (hi : i = Int32.ofNat j) (hj : j < xs.length) (hj2 : j < 2147483648) (kk : Go xs 11 ret tab n al (.int (xs.getD j 0) :: st) h c s Q) : Go xs 11 ret tab pc al (.int i :: .long 1 :: st) h c s Q := by
  subst hn hi
  refine go_step (pc' := pc + len) (al' := al) (st' := .int (xs.getD j 0) :: st) (h' := h) (dc := 0) (ds := 0) hr ?_ kk
  have h1 : Nat.blt 11 (11 + 1) = true := rfl
  have h2 : a_idx (Int32.ofNat j) = some j := idx_nI hj2
  have h3 : a_at xs j = some (xs.getD j 0) := by rw [a_at_eq, List.getD_eq_getElem?_getD, List.getElem?_eq_getElem hj]; rfl
  simp only [a_step, h2, h3, h1, decide_true, Bool.and_self, cond_true]
end LX
