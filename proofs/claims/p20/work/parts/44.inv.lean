/-! What the reference's cells always hold, and what its runs leave as it was -/
def jF (x : Int32) : Prop := ∃ k, k < 8 ∧ x = Int32.ofNat k
def jN (x : Int32) : Prop := x = -1 ∨ jF x
def jH (x : Int32) : Prop := ∃ k, k < 4 ∧ x = Int32.ofNat k
def jU (n : Nat) (x : Int32) : Prop := ∃ k, k ≤ n ∧ x = Int32.ofNat k
def MI (M : Mem) : Prop :=
  (∃ e, 1 ≤ e ∧ e ≤ 6 ∧ M 41 0 = Int32.ofNat e) ∧ jU 12 (M 41 1) ∧ (∀ r, r < 13 → jF (M 44 r) ∧ jF (M 45 r) ∧ jN (M 46 r) ∧ jN (M 47 r) ∧ jH (M 48 r)) ∧ (∀ f, f < 8 → jU 8 (M 51 f)) ∧ jH (M 41 12) ∧ jH (M 41 14) ∧ jU 4 (M 41 19) ∧ (∀ k, k < 4 → 0 ≤ M 52 k) ∧ jU 9 (M 41 21)
def mScr (q j : Nat) : Bool := (Nat.blt 53 q && Nat.blt q 59) || (Nat.beq q 41 && (Nat.beq j 23 || (Nat.beq j 25 || Nat.beq j 30)))
def mKeep (M M' : Mem) : Prop := ∀ q j, mScr q j = false → M' q j = M q j
theorem mKeep.rf {M : Mem} : mKeep M M := fun _ _ _ => rfl
theorem mKeep.tr {M M1 M2 : Mem} (h1 : mKeep M M1) (h2 : mKeep M1 M2) : mKeep M M2 := fun q j h => (h2 q j h).trans (h1 q j h)
theorem mKeep.up {M M1 : Mem} {q j : Nat} {x : Int32} (h : mKeep M M1) (hs : mScr q j = true) : mKeep M (mup M1 q j x) := by
  intro a b hab
  rw [mup_if, if_neg, h a b hab]
  rintro ⟨rfl, rfl⟩
  rw [hs] at hab
  cases hab
def mScB (q j : Nat) : Bool := (Nat.blt 52 q && Nat.blt q 61) || (Nat.beq q 41 && (Nat.beq j 23 || (Nat.beq j 25 || Nat.beq j 30)))
def mKeepB (M M' : Mem) : Prop := ∀ q j, mScB q j = false → M' q j = M q j
theorem mKeepB.rf {M : Mem} : mKeepB M M := fun _ _ _ => rfl
theorem mKeepB.tr {M M1 M2 : Mem} (h1 : mKeepB M M1) (h2 : mKeepB M1 M2) : mKeepB M M2 := fun q j h => (h2 q j h).trans (h1 q j h)
theorem mKeepB.up {M M1 : Mem} {q j : Nat} {x : Int32} (h : mKeepB M M1) (hs : mScB q j = true) : mKeepB M (mup M1 q j x) := by
  intro a b hab
  rw [mup_if, if_neg, h a b hab]
  rintro ⟨rfl, rfl⟩
  rw [hs] at hab
  cases hab
theorem mScB_of {q j : Nat} (h : mScr q j = true) : mScB q j = true := by
  unfold mScr at h
  unfold mScB
  simp only [Bool.or_eq_true, Bool.and_eq_true, Nat.blt_eq] at h ⊢
  rcases h with ⟨h1, h2⟩ | h
  · exact Or.inl ⟨by omega, by omega⟩
  · exact Or.inr h
theorem mKeep.toB {M M' : Mem} (h : mKeep M M') : mKeepB M M' := by
  intro q j hq
  apply h
  cases hm : mScr q j with
  | false => rfl
  | true => rw [mScB_of hm] at hq; cases hq
theorem MI.keep {M M' : Mem} (h : MI M) (k : mKeep M M') : MI M' := by
  obtain ⟨h1, h2, h3, h4, h5, h6, h7, h8, h9⟩ := h
  refine ⟨?_, ?_, fun r hr => ?_, fun f hf => ?_, ?_, ?_, ?_, fun j hj => ?_, ?_⟩
  · rw [k 41 0 rfl]; exact h1
  · rw [k 41 1 rfl]; exact h2
  · rw [k 44 r rfl, k 45 r rfl, k 46 r rfl, k 47 r rfl, k 48 r rfl]; exact h3 r hr
  · rw [k 51 f rfl]; exact h4 f hf
  · rw [k 41 12 rfl]; exact h5
  · rw [k 41 14 rfl]; exact h6
  · rw [k 41 19 rfl]; exact h7
  · rw [k 52 j rfl]; exact h8 j hj
  · rw [k 41 21 rfl]; exact h9
theorem MI.keepB {M M' : Mem} (h : MI M) (k : mKeepB M M') : MI M' := by
  obtain ⟨h1, h2, h3, h4, h5, h6, h7, h8, h9⟩ := h
  refine ⟨?_, ?_, fun r hr => ?_, fun f hf => ?_, ?_, ?_, ?_, fun j hj => ?_, ?_⟩
  · rw [k 41 0 rfl]; exact h1
  · rw [k 41 1 rfl]; exact h2
  · rw [k 44 r rfl, k 45 r rfl, k 46 r rfl, k 47 r rfl, k 48 r rfl]; exact h3 r hr
  · rw [k 51 f rfl]; exact h4 f hf
  · rw [k 41 12 rfl]; exact h5
  · rw [k 41 14 rfl]; exact h6
  · rw [k 41 19 rfl]; exact h7
  · rw [k 52 j rfl]; exact h8 j hj
  · rw [k 41 21 rfl]; exact h9
theorem rem4 {x : Int32} (h : 0 ≤ x) : ∃ j, j < 4 ∧ x - x / 4 * 4 = Int32.ofNat j := by
  obtain ⟨n, hn, rfl⟩ := jn_of h
  refine ⟨n % 4, Nat.mod_lt _ (by decide), ?_⟩
  show Int32.ofNat n - Int32.ofNat n / Int32.ofNat 4 * Int32.ofNat 4 = _
  rw [← Int32.ofNat_div (by omega) (by decide), jn_mul, jn_sub (by omega)]
  congr 1
  omega
theorem ix44 (t h : Nat) : (4 : Int32) * Int32.ofNat t + Int32.ofNat h = Int32.ofNat (4 * t + h) := by
  show Int32.ofNat 4 * _ + _ = _
  rw [jn_mul, jn_add]
theorem ix16 (t s h : Nat) (ht : 1 ≤ t) : (16 : Int32) * (Int32.ofNat t - 1) + 4 * Int32.ofNat s + Int32.ofNat h = Int32.ofNat (16 * (t - 1) + 4 * s + h) := by
  show Int32.ofNat 16 * (_ - Int32.ofNat 1) + Int32.ofNat 4 * _ + _ = _
  rw [jn_sub ht, jn_mul, jn_mul, jn_add, jn_add]
