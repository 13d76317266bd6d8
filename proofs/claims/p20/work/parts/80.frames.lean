theorem cSc_m {q j : Nat} (h : 41 ≤ q) : cSc q j = false := by
  have e : ∀ k, k < 41 → Nat.beq q k = false := fun k hk => by
    cases hb : Nat.beq q k with
    | false => rfl
    | true => have := Nat.eq_of_beq_eq_true hb; omega
  have e2 : Nat.blt q 39 = false := by
    cases hb : Nat.blt q 39 with
    | false => rfl
    | true => have := Nat.blt_eq.mp hb; omega
  simp only [cSc, e 7 (by omega), e 8 (by omega), e 9 (by omega), e2, Bool.and_false, Bool.or_self]
theorem cB_m {q j : Nat} (h : 41 ≤ q) : cB q j = false := by
  have e : ∀ k, k < 41 → Nat.beq q k = false := fun k hk => by
    cases hb : Nat.beq q k with
    | false => rfl
    | true => have := Nat.eq_of_beq_eq_true hb; omega
  simp only [cB, cSc_m h, e 5 (by omega), e 12 (by omega), e 13 (by omega), e 14 (by omega), e 11 (by omega), e 6 (by omega), e 0 (by omega), Bool.false_and, Bool.or_self]
theorem cL_m {q j : Nat} (h : 41 ≤ q) : cL q j = false := by
  have e : Nat.beq q 11 = false := by
    cases hb : Nat.beq q 11 with
    | false => rfl
    | true => have := Nat.eq_of_beq_eq_true hb; omega
  simp only [cL, cB_m h, e, Bool.false_and, Bool.or_self]
theorem cHd_m {q j : Nat} (h : 41 ≤ q) : cHd q j = false := by
  have e : ∀ k, k < 41 → Nat.beq q k = false := fun k hk => by
    cases hb : Nat.beq q k with
    | false => rfl
    | true => have := Nat.eq_of_beq_eq_true hb; omega
  simp only [cHd, cB_m h, e 39 (by omega), e 0 (by omega), Bool.false_and, Bool.or_self]
theorem cSk_m {q j : Nat} (h : 41 ≤ q) : cSk q j = false := by
  have e : ∀ k, k < 41 → Nat.beq q k = false := fun k hk => by
    cases hb : Nat.beq q k with
    | false => rfl
    | true => have := Nat.eq_of_beq_eq_true hb; omega
  simp only [cSk, cL_m h, e 40 (by omega), e 0 (by omega), Bool.false_and, Bool.or_self]
theorem cT_m {q j : Nat} (h : 41 ≤ q) : cT q j = false := by
  unfold cT
  cases hb : Nat.beq q 5 with
  | false => rfl
  | true => have := Nat.eq_of_beq_eq_true hb; omega
theorem mScB_o {q j : Nat} (h : q < 41 ∨ 61 ≤ q) : mScB q j = false := by
  have e : ∀ k, 41 ≤ k → k < 61 → Nat.beq q k = false := fun k h1 h2 => by
    cases hb : Nat.beq q k with
    | false => rfl
    | true => have := Nat.eq_of_beq_eq_true hb; omega
  have e2 : (Nat.blt 52 q && Nat.blt q 61) = false := by
    cases hb : (Nat.blt 52 q && Nat.blt q 61) with
    | false => rfl
    | true => simp only [Bool.and_eq_true, Nat.blt_eq] at hb; omega
  simp only [mScB, e2, e 41 (by omega) (by omega), Bool.false_and, Bool.or_self]
theorem mScr_o {q j : Nat} (h : q < 41 ∨ 61 ≤ q) : mScr q j = false := by
  cases hm : mScr q j with
  | false => rfl
  | true => have := mScB_of hm; rw [mScB_o h] at this; cases this
theorem mSk_o {q j : Nat} (h : q < 41 ∨ 61 ≤ q) : mSk q j = false := by
  have e : Nat.beq q 41 = false := by
    cases hb : Nat.beq q 41 with
    | false => rfl
    | true => have := Nat.eq_of_beq_eq_true hb; omega
  simp only [mSk, mScB_o h, e, Bool.false_and, Bool.or_self]
theorem mHd_o {q j : Nat} (h : q < 41 ∨ 61 ≤ q) : mHd q j = false := by
  have e : ∀ k, 41 ≤ k → k < 61 → Nat.beq q k = false := fun k h1 h2 => by
    cases hb : Nat.beq q k with
    | false => rfl
    | true => have := Nat.eq_of_beq_eq_true hb; omega
  simp only [mHd, mScr_o h, e 41 (by omega) (by omega), e 52 (by omega) (by omega), Bool.false_and, Bool.or_self]
theorem mRu_o {q j : Nat} (h : q < 41 ∨ 61 ≤ q) : mRu q j = false := by
  have e : ∀ k, 41 ≤ k → k < 61 → Nat.beq q k = false := fun k h1 h2 => by
    cases hb : Nat.beq q k with
    | false => rfl
    | true => have := Nat.eq_of_beq_eq_true hb; omega
  have e2 : (Nat.blt 41 q && Nat.blt q 50) = false := by
    cases hb : (Nat.blt 41 q && Nat.blt q 50) with
    | false => rfl
    | true => simp only [Bool.and_eq_true, Nat.blt_eq] at hb; omega
  simp only [mRu, e2, e 41 (by omega) (by omega), e 51 (by omega) (by omega), Bool.false_and, Bool.or_self]
/-- the reference's cells as they were; the program's as they were -/
def MidS (M M' : Mem) : Prop := ∀ q j, 41 ≤ q → q < 61 → M' q j = M q j
def OutS (M M' : Mem) : Prop := ∀ q j, q < 41 ∨ 61 ≤ q → M' q j = M q j
theorem MidS.tr {M M1 M2 : Mem} (h : MidS M M1) (h2 : MidS M1 M2) : MidS M M2 := fun q j a b => (h2 q j a b).trans (h q j a b)
theorem MI.mid {M M' : Mem} (h : MI M) (k : MidS M M') : MI M' := by
  obtain ⟨h1, h2, h3, h4, h5, h6, h7, h8, h9⟩ := h
  refine ⟨?_, ?_, fun r hr => ?_, fun f hf => ?_, ?_, ?_, ?_, fun j hj => ?_, ?_⟩
  · rw [k 41 0 (by omega) (by omega)]; exact h1
  · rw [k 41 1 (by omega) (by omega)]; exact h2
  · rw [k 44 r (by omega) (by omega), k 45 r (by omega) (by omega), k 46 r (by omega) (by omega), k 47 r (by omega) (by omega), k 48 r (by omega) (by omega)]; exact h3 r hr
  · rw [k 51 f (by omega) (by omega)]; exact h4 f hf
  · rw [k 41 12 (by omega) (by omega)]; exact h5
  · rw [k 41 14 (by omega) (by omega)]; exact h6
  · rw [k 41 19 (by omega) (by omega)]; exact h7
  · rw [k 52 j (by omega) (by omega)]; exact h8 j hj
  · rw [k 41 21 (by omega) (by omega)]; exact h9
theorem ML.mid {M M' : Mem} (h : ML M) (k : MidS M M') : ML M' := by
  refine h.congr (fun q j hq => k q j ?_ ?_)
  all_goals
    unfold mLd at hq
    simp only [Bool.or_eq_true, Bool.and_eq_true, Nat.blt_eq, Nat.beq_eq] at hq
    omega
theorem CW.out {E : Value} {T : List SH} {M M' : Mem} {n : Nat} {rs : Nat → Nat} (h : CW E T M n rs) (k : OutS M M') : CW E T M' n rs := by
  obtain ⟨h1, h2, h3, h4, h5, h6⟩ := h
  refine ⟨h1, h2, (k 3 2 (by omega)).trans h3, fun i hi => ?_, ?_, ?_⟩
  · have e := fun j => k (rs i) j (Or.inr (h1.1 i hi).1)
    rw [e 2, e 3, e 4, e 5, e 6]
    exact h4 i hi
  · rw [k 1 2 (by omega)]; exact h5
  · rw [k 1 5 (by omega)]; exact h6
theorem CI.out {E : Value} {T : List SH} {M M' : Mem} {n : Nat} {rs : Nat → Nat} (h : CI E T M n rs) (k : OutS M M') : CI E T M' n rs := by
  obtain ⟨h1, ⟨c, h2, h3, h4⟩, h5, h6⟩ := h
  refine ⟨h1.out k, ⟨c, h2, (k 0 6 (by omega)).trans h3, fun j hj => ?_⟩, ?_, ?_⟩
  · rw [k 1 2 (by omega), k 39 j (by omega)]; exact h4 j hj
  · rw [k 0 7 (by omega)]; exact h5
  · rw [k 11 11 (by omega)]; exact h6
theorem Fr.mid {S : Nat → Nat → Bool} {M M' : Mem} (h : Fr S M M') (hs : ∀ q j, 41 ≤ q → S q j = false) : MidS M M' := fun q j h1 _ => h q j (hs q j h1)
theorem Fr.out {S : Nat → Nat → Bool} {M M' : Mem} (h : Fr S M M') (hs : ∀ q j, q < 41 ∨ 61 ≤ q → S q j = false) : OutS M M' := fun q j h1 => h q j (hs q j h1)
theorem mKeepB.out {M M' : Mem} (h : mKeepB M M') : OutS M M' := fun q j h1 => h q j (mScB_o h1)
