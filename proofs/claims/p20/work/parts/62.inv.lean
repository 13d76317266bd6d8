/-! What the program's cells always hold -/
def CR (M : Mem) (n : Nat) (rs : Nat → Nat) : Prop := ∀ i, i < n → jF (M (rs i) 2) ∧ jF (M (rs i) 3) ∧ jF (M (rs i) 4) ∧ jN (M (rs i) 5) ∧ jH (M (rs i) 6)
def CW (E : Value) (T : List SH) (M : Mem) (n : Nat) (rs : Nat → Nat) : Prop := LR E T n rs ∧ n ≤ 12 ∧ M 3 2 = Int32.ofNat n ∧ CR M n rs ∧ (∃ e, 1 ≤ e ∧ e ≤ 6 ∧ M 1 2 = Int32.ofNat e) ∧ jH (M 1 5)
def cSc (q _j : Nat) : Bool := Nat.beq q 7 || (Nat.beq q 8 || (Nat.beq q 9 || (Nat.blt 14 q && Nat.blt q 39)))
def cKeep (M M' : Mem) : Prop := ∀ q j, cSc q j = false → M' q j = M q j
theorem cSc_hi {q j : Nat} (h : 61 ≤ q) : cSc q j = false := by
  have e : ∀ k, k < 61 → Nat.beq q k = false := fun k hk => by
    cases hb : Nat.beq q k with
    | false => rfl
    | true => have := Nat.eq_of_beq_eq_true hb; omega
  have e2 : Nat.blt q 39 = false := by
    cases hb : Nat.blt q 39 with
    | false => rfl
    | true => have := Nat.blt_eq.mp hb; omega
  simp only [cSc, e 7 (by omega), e 8 (by omega), e 9 (by omega), e2, Bool.and_false, Bool.or_self]
theorem cKeep.rf {M : Mem} : cKeep M M := fun _ _ _ => rfl
theorem cKeep.tr {M M1 M2 : Mem} (h1 : cKeep M M1) (h2 : cKeep M1 M2) : cKeep M M2 := fun q j h => (h2 q j h).trans (h1 q j h)
theorem cKeep.up {M M1 : Mem} {q j : Nat} {x : Int32} (h : cKeep M M1) (hs : cSc q j = true) : cKeep M (mup M1 q j x) := by
  intro a b hab
  rw [mup_if, if_neg, h a b hab]
  rintro ⟨rfl, rfl⟩
  rw [hs] at hab
  cases hab
theorem cKeep.fl {M M1 : Mem} {q : Nat} {x : Int32} (h : cKeep M M1) (hs : ∀ j, cSc q j = true) : cKeep M (mfl M1 q x) := by
  intro a b hab
  have hq : a ≠ q := by
    rintro rfl
    rw [hs] at hab
    cases hab
  rw [mfl_q hq, h a b hab]
theorem cKeep.cp {M M1 : Mem} {q0 q k : Nat} (h : cKeep M M1) (hs : ∀ j, cSc q j = true) : cKeep M (mcp M1 q0 q k) := by
  intro a b hab
  have hq : a ≠ q := by
    rintro rfl
    rw [hs] at hab
    cases hab
  rw [mcp_q hq, h a b hab]
theorem cSc_run {b k j : Nat} (hb : IsRun b) (hk : k < 6) : cSc (b + k) j = true := by
  have h1 : Nat.blt 14 (b + k) = true := Nat.blt_eq.mpr (by rcases hb with rfl | rfl | rfl | rfl <;> omega)
  have h2 : Nat.blt (b + k) 39 = true := Nat.blt_eq.mpr (by rcases hb with rfl | rfl | rfl | rfl <;> omega)
  simp only [cSc, h1, h2, Bool.and_self, Bool.true_or, Bool.or_true]
theorem cSc_run0 {b j : Nat} (hb : IsRun b) : cSc b j = true := cSc_run (k := 0) hb (by omega)
theorem CW.keep {E : Value} {T : List SH} {M M' : Mem} {n : Nat} {rs : Nat → Nat} (h : CW E T M n rs) (k : cKeep M M') : CW E T M' n rs := by
  obtain ⟨h1, h2, h3, h4, h5, h6⟩ := h
  refine ⟨h1, h2, (k 3 2 rfl).trans h3, fun i hi => ?_, ?_, ?_⟩
  · have e := fun j => k (rs i) j (cSc_hi (h1.1 i hi).1)
    rw [e 2, e 3, e 4, e 5, e 6]
    exact h4 i hi
  · rw [k 1 2 rfl]; exact h5
  · rw [k 1 5 rfl]; exact h6
theorem shr_sub {n : Nat} (h : 200 ≤ n) (h2 : n < 2147483648) : (Int32.ofNat n - 200) >>> ((2 : Int32) &&& 31) = Int32.ofNat ((n - 200) / 4) := by
  rw [show Int32.ofNat n - 200 = Int32.ofNat (n - 200) from jn_sub (b := 200) h]
  exact jn_shr2 (by omega)
/-- what a blow's number says -/
theorem blow_ok {e : Nat} {x : Int32} (he : e ≤ 6) (h : cBlow (Int32.ofNat e) x = true) : ∃ n t k, n < 228 ∧ x = Int32.ofNat n ∧ cTick x = Int32.ofNat t ∧ t ≤ e ∧ cHost x = Int32.ofNat k ∧ k < 4 ∧ (n < 200 → t = n / 16 ∧ t < e ∧ k = n / 4 % 4) ∧ (200 ≤ n → t = (n - 200) / 4 ∧ k = n % 4) := by
  unfold cBlow at h
  simp only [Bool.and_eq_true, decide_eq_true_eq] at h
  obtain ⟨h0, h1⟩ := h
  obtain ⟨n, hn, rfl⟩ := jn_of h0
  by_cases hl : Int32.ofNat n < 200
  · have hln : n < 200 := (jn_lt (b := 200) hn (by omega)).mp hl
    rw [decide_eq_true hl] at h1
    simp only [cond_true, Bool.and_eq_true, decide_eq_true_eq] at h1
    have ht : cTick (Int32.ofNat n) = Int32.ofNat (n / 16) := by unfold cTick; rw [if_pos hl]; exact jn_shr4 hn
    have hk : cHost (Int32.ofNat n) = Int32.ofNat (n / 4 % 4) := by
      unfold cHost
      rw [if_pos hl, jn_shr2 hn]
      exact jn_and3 (by omega)
    rw [ht] at h1
    have hte := (jn_lt (by omega) (by omega)).mp h1.1
    exact ⟨n, n / 16, n / 4 % 4, by omega, rfl, ht, by omega, hk, by omega, fun _ => ⟨rfl, hte, rfl⟩, fun g => absurd g (by omega)⟩
  · have hln : 200 ≤ n := (jn_le (a := 200) (by omega) hn).mp (Int32.not_lt.mp hl)
    rw [decide_eq_false hl] at h1
    simp only [cond_false, decide_eq_true_eq] at h1
    have ht : cTick (Int32.ofNat n) = Int32.ofNat ((n - 200) / 4) := by unfold cTick; rw [if_neg hl]; exact shr_sub hln hn
    have hk : cHost (Int32.ofNat n) = Int32.ofNat (n % 4) := by unfold cHost; rw [if_neg hl]; exact jn_and3 hn
    rw [ht] at h1
    have hte := (jn_le (by omega) (by omega)).mp h1
    exact ⟨n, (n - 200) / 4, n % 4, by omega, rfl, ht, by omega, hk, by omega, fun g => absurd g (by omega), fun _ => ⟨rfl, rfl⟩⟩
theorem ix256 (h k : Nat) : (256 : Int32) * Int32.ofNat h + Int32.ofNat k = Int32.ofNat (256 * h + k) := by
  show Int32.ofNat 256 * _ + _ = _
  rw [jn_mul, jn_add]
theorem jU_min {n : Nat} {x y : Int32} (hn : n < 1000) (hx : jU n x) (hy : jU n y) : jU n (if y < x then y else x) := by
  split
  · exact hy
  · exact hx
/-- what a call that only looks may write -/
def cB (q j : Nat) : Bool := cSc q j || (Nat.beq q 5 || (Nat.beq q 12 || (Nat.beq q 13 || (Nat.beq q 14 || ((Nat.beq q 11 && (Nat.beq j 8 || (Nat.beq j 9 || (Nat.beq j 10 || (Nat.beq j 12 || Nat.beq j 13))))) || ((Nat.beq q 6 && Nat.beq j 4) || (Nat.beq q 0 && Nat.beq j 8)))))))
theorem cB_hi {q j : Nat} (h : 61 ≤ q) : cB q j = false := by
  have e : ∀ k, k < 61 → Nat.beq q k = false := fun k hk => by
    cases hb : Nat.beq q k with
    | false => rfl
    | true => have := Nat.eq_of_beq_eq_true hb; omega
  simp only [cB, cSc_hi h, e 5 (by omega), e 12 (by omega), e 13 (by omega), e 14 (by omega), e 11 (by omega), e 6 (by omega), e 0 (by omega), Bool.false_and, Bool.or_self]
theorem cB_of {q j : Nat} (h : cSc q j = true) : cB q j = true := by unfold cB; rw [h]; rfl
theorem Fr.mono {S S' : Nat → Nat → Bool} {M M' : Mem} (h : Fr S M M') (hs : ∀ q j, S q j = true → S' q j = true) : Fr S' M M' := by
  intro q j hq
  apply h
  cases hm : S q j with
  | false => rfl
  | true => rw [hs q j hm] at hq; cases hq
theorem cKeep.toB {M M' : Mem} (h : cKeep M M') : Fr cB M M' := Fr.mono (S := cSc) h (fun _ _ => cB_of)
theorem Fr.fl {S : Nat → Nat → Bool} {M M1 : Mem} {q : Nat} {x : Int32} (h : Fr S M M1) (hs : ∀ j, S q j = true) : Fr S M (mfl M1 q x) := by
  intro a b hab
  have hq : a ≠ q := by
    rintro rfl
    rw [hs] at hab
    cases hab
  rw [mfl_q hq, h a b hab]
theorem CW.fr {E : Value} {T : List SH} {S : Nat → Nat → Bool} {M M' : Mem} {n : Nat} {rs : Nat → Nat} (h : CW E T M n rs) (k : Fr S M M') (s1 : S 3 2 = false) (s2 : S 1 2 = false) (s3 : S 1 5 = false) (s4 : ∀ q j, 61 ≤ q → S q j = false) : CW E T M' n rs := by
  obtain ⟨h1, h2, h3, h4, h5, h6⟩ := h
  refine ⟨h1, h2, (k 3 2 s1).trans h3, fun i hi => ?_, ?_, ?_⟩
  · have e := fun j => k (rs i) j (s4 _ j (h1.1 i hi).1)
    rw [e 2, e 3, e 4, e 5, e 6]
    exact h4 i hi
  · rw [k 1 2 s2]; exact h5
  · rw [k 1 5 s3]; exact h6
def HandOK (M : Mem) : Prop := ∃ k, k ≤ 4 ∧ M 0 6 = Int32.ofNat k ∧ ∀ j, j < k → cBlow (M 1 2) (M 39 j) = true
/-- all of it -/
def CI (E : Value) (T : List SH) (M : Mem) (n : Nat) (rs : Nat → Nat) : Prop := CW E T M n rs ∧ HandOK M ∧ jU 2 (M 0 7) ∧ (M 11 11 = 9 ∨ jU 2 (M 11 11))
theorem CI.fr {E : Value} {T : List SH} {M M' : Mem} {n : Nat} {rs : Nat → Nat} (h : CI E T M n rs) (k : Fr cB M M') : CI E T M' n rs := by
  obtain ⟨h1, ⟨c, h2, h3, h4⟩, h5, h6⟩ := h
  refine ⟨h1.fr k rfl rfl rfl (fun q j hq => cB_hi hq), ⟨c, h2, (k 0 6 rfl).trans h3, fun j hj => ?_⟩, ?_, ?_⟩
  · rw [k 1 2 rfl, k 39 j rfl]; exact h4 j hj
  · rw [k 0 7 rfl]; exact h5
  · rw [k 11 11 rfl]; exact h6
theorem go_le {xs : List Int32} {d : Nat} {ret : Option FieldType} {tab : List ARow} {pc : Nat} {al al2 : AL} {st : List Value} {h : AH} {c s : Nat} {Q : QT} (e : Go xs d ret tab pc al st h c s Q) (hl : AlLe al al2) : Go xs d ret tab pc al2 st h c s Q := by
  obtain ⟨v, h', c', s', hQ, K, hK⟩ := e
  exact ⟨v, h', c', s', hQ, K, fun N k hN hk => run_le _ _ _ _ _ _ _ _ hl (hK N k hN hk)⟩
theorem drop7 {v0 v1 v2 v3 v4 v5 v6 v7 v8 : Value} : AlLe [(0, v0), (1, v1), (2, v2), (3, v3), (4, v4), (5, v5), (6, v6), (8, v8)] [(0, v0), (1, v1), (2, v2), (3, v3), (4, v4), (5, v5), (6, v6), (7, v7), (8, v8)] := by
  intro i v h
  match i, h with
  | 0, h => exact h
  | 1, h => exact h
  | 2, h => exact h
  | 3, h => exact h
  | 4, h => exact h
  | 5, h => exact h
  | 6, h => exact h
  | 7, h => cases h
  | 8, h => exact h
  | n + 9, h =>
    exfalso
    have e : ∀ k, k < 9 → Nat.beq k (n + 9) = false := fun k hk => by
      cases hb : Nat.beq k (n + 9) with
      | false => rfl
      | true => have := Nat.eq_of_beq_eq_true hb; omega
    simp only [a_get, e 0 (by omega), e 1 (by omega), e 2 (by omega), e 3 (by omega), e 4 (by omega), e 5 (by omega), e 6 (by omega), e 8 (by omega), cond_false] at h
    cases h
