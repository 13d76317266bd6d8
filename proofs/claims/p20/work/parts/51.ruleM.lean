/-! The reference: rule -/
section RU
variable {E : Value} {T : List SH} {M : Mem} {d : Nat}
def ML (M : Mem) : Prop := ∃ n l, n ≤ 12 ∧ M 41 1 = Int32.ofNat n ∧ LayAt M l ∧ (∀ f, f < 8 → l f ≤ 7) ∧ Sol M n l ∧ ∀ L, Sol M n L → ∀ f, f < 8 → l f ≤ L f
/-- cells on which the layers rest -/
def mLd (q j : Nat) : Bool := (Nat.blt 42 q && Nat.blt q 48) || (Nat.beq q 51 || (Nat.beq q 41 && Nat.beq j 1))
set_option maxRecDepth 20000 in
theorem Sol.congr {M' : Mem} {n : Nat} {L : Nat → Nat} (h : ∀ q r, r < n → 42 < q → q < 48 → M' q r = M q r) (hs : Sol M n L) : Sol M' n L := by
  intro r hr hk
  have e := fun q h1 h2 => h q r hr h1 h2
  rw [e 43 (by omega) (by omega)] at hk
  have h1 := hs r hr hk
  unfold mNeed mv at h1 ⊢
  rw [e 44 (by omega) (by omega), e 45 (by omega) (by omega), e 46 (by omega) (by omega), e 47 (by omega) (by omega)]
  exact h1
set_option maxRecDepth 20000 in
theorem ML.congr {M' : Mem} (h : ∀ q j, mLd q j = true → M' q j = M q j) (hs : ML M) : ML M' := by
  obtain ⟨n, l, h1, h2, h3, h4, h5, h6⟩ := hs
  have hq : ∀ q r, 42 < q → q < 48 → M' q r = M q r := fun q r g1 g2 => h q r (by
    have a1 : Nat.blt 42 q = true := Nat.blt_eq.mpr g1
    have a2 : Nat.blt q 48 = true := Nat.blt_eq.mpr g2
    simp only [mLd, a1, a2, Bool.and_self, Bool.true_or])
  refine ⟨n, l, h1, (h 41 1 rfl).trans h2, fun f hf => (h 51 f rfl).trans (h3 f hf), h4, h5.congr (fun q r _ g1 g2 => hq q r g1 g2), fun L hL => h6 L (hL.congr (fun q r _ g1 g2 => (hq q r g1 g2).symm))⟩
set_option maxRecDepth 20000 in
theorem ML.fr {S : Nat → Nat → Bool} {M' : Mem} (hs : ML M) (h : Fr S M M') (hS : ∀ q j, mLd q j = true → S q j = false) : ML M' := hs.congr (fun q j hq => h q j (hS q j hq))
set_option maxRecDepth 20000 in
theorem ML.keep {M' : Mem} (hs : ML M) (h : mKeep M M') : ML M' := by
  refine hs.congr (fun q j hq => h q j ?_)
  unfold mLd at hq
  unfold mScr
  simp only [Bool.or_eq_true, Bool.and_eq_true, Nat.blt_eq, Nat.beq_eq] at hq
  have e1 : (Nat.blt 53 q && Nat.blt q 59) = false := by
    cases hb : (Nat.blt 53 q && Nat.blt q 59) with
    | false => rfl
    | true =>
      simp only [Bool.and_eq_true, Nat.blt_eq] at hb
      omega
  rw [e1, Bool.false_or]
  rcases hq with ⟨a1, a2⟩ | rfl | ⟨rfl, rfl⟩
  · have : Nat.beq q 41 = false := by
      cases hb : Nat.beq q 41 with
      | false => rfl
      | true => have := Nat.eq_of_beq_eq_true hb; omega
    rw [this]
    rfl
  · rfl
  · rfl
set_option maxRecDepth 20000 in
theorem ML.keepB {M' : Mem} (hs : ML M) (h : mKeepB M M') : ML M' := by
  refine hs.congr (fun q j hq => h q j ?_)
  unfold mLd at hq
  unfold mScB
  simp only [Bool.or_eq_true, Bool.and_eq_true, Nat.blt_eq, Nat.beq_eq] at hq
  have e1 : (Nat.blt 52 q && Nat.blt q 61) = false := by
    cases hb : (Nat.blt 52 q && Nat.blt q 61) with
    | false => rfl
    | true =>
      simp only [Bool.and_eq_true, Nat.blt_eq] at hb
      omega
  rw [e1, Bool.false_or]
  rcases hq with ⟨a1, a2⟩ | rfl | ⟨rfl, rfl⟩
  · have : Nat.beq q 41 = false := by
      cases hb : Nat.beq q 41 with
      | false => rfl
      | true => have := Nat.eq_of_beq_eq_true hb; omega
    rw [this]
    rfl
  · rfl
  · rfl
/-- a rule's cells, written -/
def mPut (M : Mem) (r : Nat) (host kind head a b nt to : Int32) : Mem := mup (mup (mup (mup (mup (mup (mup (mup M 42 r host) 43 r kind) 44 r head) 45 r a) 46 r b) 47 r nt) 48 r to) 49 r (-1)
set_option maxRecDepth 20000 in
theorem sp_putM {r : Nat} (hr : r < 13) {host kind head a b nt to : Int32} : EvV (d + 1) miX9_sets [.ref 41, .int (Int32.ofNat r), .int host, .int kind, .int head, .int a, .int b, .int nt, .int to] (zz E T) M (fun M' => M' = mPut M r host kind head a b nt to) := by
  refine ev_of mt_X9_sets rfl ?_
  refine g_aload_n (n := 1) rfl rfl rfl ?_
  refine g_getR (n := 4) rfl rfl z_41 rfl ?_
  refine g_iload_n (n := 5) rfl rfl rfl ?_
  refine g_iload_n (n := 6) rfl rfl rfl ?_
  refine g_iast (n := 7) rfl rfl z_42 rfl rfl (by omega) ?_
  refine g_aload_n (n := 8) rfl rfl rfl ?_
  refine g_getR (n := 11) rfl rfl z_41 rfl ?_
  refine g_iload_n (n := 12) rfl rfl rfl ?_
  refine g_iload_n (n := 13) rfl rfl rfl ?_
  refine g_iast (n := 14) rfl rfl z_43 rfl rfl (by omega) ?_
  refine g_aload_n (n := 15) rfl rfl rfl ?_
  refine g_getR (n := 18) rfl rfl z_41 rfl ?_
  refine g_iload_n (n := 19) rfl rfl rfl ?_
  refine g_iload (n := 21) rfl rfl rfl ?_
  refine g_iast (n := 22) rfl rfl z_44 rfl rfl (by omega) ?_
  refine g_aload_n (n := 23) rfl rfl rfl ?_
  refine g_getR (n := 26) rfl rfl z_41 rfl ?_
  refine g_iload_n (n := 27) rfl rfl rfl ?_
  refine g_iload (n := 29) rfl rfl rfl ?_
  refine g_iast (n := 30) rfl rfl z_45 rfl rfl (by omega) ?_
  refine g_aload_n (n := 31) rfl rfl rfl ?_
  refine g_getR (n := 34) rfl rfl z_41 rfl ?_
  refine g_iload_n (n := 35) rfl rfl rfl ?_
  refine g_iload (n := 37) rfl rfl rfl ?_
  refine g_iast (n := 38) rfl rfl z_46 rfl rfl (by omega) ?_
  refine g_aload_n (n := 39) rfl rfl rfl ?_
  refine g_getR (n := 42) rfl rfl z_41 rfl ?_
  refine g_iload_n (n := 43) rfl rfl rfl ?_
  refine g_iload (n := 45) rfl rfl rfl ?_
  refine g_iast (n := 46) rfl rfl z_47 rfl rfl (by omega) ?_
  refine g_aload_n (n := 47) rfl rfl rfl ?_
  refine g_getR (n := 50) rfl rfl z_41 rfl ?_
  refine g_iload_n (n := 51) rfl rfl rfl ?_
  refine g_iload (n := 53) rfl rfl rfl ?_
  refine g_iast (n := 54) rfl rfl z_48 rfl rfl (by omega) ?_
  refine g_aload_n (n := 55) rfl rfl rfl ?_
  refine g_getR (n := 58) rfl rfl z_41 rfl ?_
  refine g_iload_n (n := 59) rfl rfl rfl ?_
  refine g_const (n := 60) rfl rfl (s_iconst (v := (-1)) (by decide)) ?_
  refine g_iast (n := 61) rfl rfl z_49 rfl rfl (by omega) ?_
  refine g_retV rfl ?_
  rfl
def mValid (host kind head a b nt to : Int32) : Bool := mIn host (-1) 3 && (mIn kind 0 2 && ((mFact head && (mFact a && (mIn b (-1) 7 && mIn nt (-1) 7))) && (!(decide (kind = 2)) || mHost to)))
/-- cells that rule writes -/
def mRu (q j : Nat) : Bool := (Nat.blt 41 q && Nat.blt q 50) || (Nat.beq q 51 || (Nat.beq q 41 && Nat.beq j 1))
def RuleQ (M : Mem) (n : Nat) (host kind head a b nt to : Int32) (x : Int32) (M' : Mem) : Prop :=
  (mValid host kind head a b nt to = false ∧ x = -1 ∧ M' = M) ∨ (mValid host kind head a b nt to = true ∧ ¬ kind = 2 ∧ ¬ to = 0 ∧ x = -2 ∧ M' = M) ∨
  (mValid host kind head a b nt to = true ∧ (kind = 2 ∨ to = 0) ∧ MI M' ∧ ML M' ∧ Fr mRu M M' ∧ (∀ q r, r < n → 41 < q → q < 50 → M' q r = M q r) ∧
    ((x = -3 ∧ M' 41 1 = M 41 1 ∧ ∀ L, Sol (mPut M n host kind head a b nt to) (n + 1) L → ∃ f, f < 8 ∧ 8 ≤ L f) ∨
     (x = -4 ∧ n = 12 ∧ M' 41 1 = M 41 1 ∧ ∃ L, Sol (mPut M n host kind head a b nt to) (n + 1) L ∧ ∀ f, f < 8 → L f ≤ 7) ∨
     (x = Int32.ofNat n ∧ n < 12 ∧ M' 41 1 = Int32.ofNat (n + 1) ∧ ∀ q, 41 < q → q < 50 → M' q n = mPut M n host kind head a b nt to q n)))
set_option maxRecDepth 20000 in
theorem mIn_F {x : Int32} (h : mFact x = true) : jF x := by
  simp only [mFact, mIn, Bool.and_eq_true, decide_eq_true_eq] at h
  obtain ⟨k, hk, e⟩ := jn_of_le (k := 7) (by omega) h.1 h.2
  exact ⟨k, by omega, e⟩
set_option maxRecDepth 20000 in
theorem mIn_H {x : Int32} (h : mHost x = true) : jH x := by
  simp only [mHost, mIn, Bool.and_eq_true, decide_eq_true_eq] at h
  obtain ⟨k, hk, e⟩ := jn_of_le (k := 3) (by omega) h.1 h.2
  exact ⟨k, by omega, e⟩
set_option maxRecDepth 20000 in
theorem neg1_or {x : Int32} (h : -1 ≤ x) : x = -1 ∨ 0 ≤ x := by
  have h1 := Int32.le_iff_toInt_le.mp h
  have e1 : (-1 : Int32).toInt = -1 := rfl
  rw [e1] at h1
  by_cases g : x.toInt = -1
  · left
    apply Int32.toInt_inj.mp
    rw [g, e1]
  · right
    apply Int32.le_iff_toInt_le.mpr
    have e0 : (0 : Int32).toInt = 0 := rfl
    rw [e0]
    omega
set_option maxRecDepth 20000 in
theorem mIn_N {x : Int32} (h : mIn x (-1) 7 = true) : jN x := by
  simp only [mIn, Bool.and_eq_true, decide_eq_true_eq] at h
  rcases neg1_or h.1 with e | e
  · exact Or.inl e
  · obtain ⟨k, hk, e⟩ := jn_of_le (k := 7) (by omega) e h.2
    exact Or.inr ⟨k, by omega, e⟩
end RU
