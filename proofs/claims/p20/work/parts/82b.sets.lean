/-! Both sides: sets -/
section PS
variable {E : Value} {T : List SH} {M : Mem}
/-- how many of the numbers below n have p -/
def cnt (p : Nat → Bool) (n : Nat) : Nat := match n with
  | 0 => 0
  | n + 1 => cnt p n + (bif p n then 1 else 0)
theorem cnt_mono {p : Nat → Bool} {a b : Nat} (h : a ≤ b) : cnt p a ≤ cnt p b := by
  induction b with
  | zero => rw [show a = 0 by omega]; exact Nat.le_refl _
  | succ b ih =>
    by_cases e : a = b + 1
    · rw [e]; exact Nat.le_refl _
    · have := ih (by omega)
      show cnt p a ≤ cnt p b + _
      omega
theorem sumN_add {f g : Nat → Nat} (n : Nat) : sumN (fun a => f a + g a) n = sumN f n + sumN g n := by
  induction n with
  | zero => rfl
  | succ n ih =>
    show sumN _ n + (f n + g n) = _
    rw [ih]
    show _ = sumN f n + f n + (sumN g n + g n)
    omega
theorem sumN_congr {f g : Nat → Nat} {n : Nat} (h : ∀ a, a < n → f a = g a) : sumN f n = sumN g n := by
  induction n with
  | zero => rfl
  | succ n ih =>
    show sumN f n + f n = sumN g n + g n
    rw [ih (fun a ha => h a (by omega)), h n (by omega)]
theorem sumN_0 (n : Nat) : sumN (fun _ => 0) n = 0 := by
  induction n with
  | zero => rfl
  | succ n ih => exact ih
theorem sumN_cnt {p : Nat → Bool} (n : Nat) : sumN (fun a => bif p a then 1 else 0) n = cnt p n := by
  induction n with
  | zero => rfl
  | succ n ih =>
    show sumN _ n + _ = cnt p n + _
    rw [ih]
/-- the later ones of each -/
theorem cnt_after {p : Nat → Bool} {a : Nat} : ∀ n, a < n → sumN (fun j => bif Nat.blt a j && p j then 1 else 0) n + cnt p (a + 1) = cnt p n := by
  intro n
  induction n with
  | zero => intro h; omega
  | succ n ih =>
    intro h
    show sumN _ n + (bif Nat.blt a n && p n then 1 else 0) + cnt p (a + 1) = cnt p n + (bif p n then 1 else 0)
    by_cases e : a = n
    · subst e
      have h1 : Nat.blt a a = false := by
        cases hb : Nat.blt a a with
        | false => rfl
        | true => have := Nat.blt_eq.mp hb; omega
      have h2 : sumN (fun j => bif Nat.blt a j && p j then 1 else 0) a = 0 := by
        have : ∀ m, m ≤ a → sumN (fun j => bif Nat.blt a j && p j then 1 else 0) m = 0 := by
          intro m
          induction m with
          | zero => intro _; rfl
          | succ m ihm =>
            intro hm
            have h3 : Nat.blt a m = false := by
              cases hb : Nat.blt a m with
              | false => rfl
              | true => have := Nat.blt_eq.mp hb; omega
            show sumN _ m + (bif Nat.blt a m && p m then 1 else 0) = 0
            rw [ihm (by omega), h3]
            rfl
        exact this a (Nat.le_refl _)
      rw [h2, h1]
      show 0 + 0 + (cnt p a + _) = _
      omega
    · have h1 : Nat.blt a n = true := Nat.blt_eq.mpr (by omega)
      have := ih (by omega)
      rw [h1, Bool.true_and]
      omega
theorem tri {p : Nat → Bool} {N : Nat} : ∀ n, cnt p n ≤ N → (∀ a, a < n → cnt p (a + 1) ≤ N) → 2 * sumN (fun a => bif p a then N - cnt p (a + 1) else 0) n + cnt p n * (cnt p n + 1) = 2 * (N * cnt p n) := by
  intro n
  induction n with
  | zero => intro _ _; simp [sumN, cnt]
  | succ n ih =>
    intro hN hall
    have h1 := hall n (by omega)
    have hle : cnt p n ≤ cnt p (n + 1) := cnt_mono (by omega)
    have h2 := ih (by omega) (fun a ha => hall a (by omega))
    show 2 * (sumN _ n + (bif p n then N - cnt p (n + 1) else 0)) + cnt p (n + 1) * (cnt p (n + 1) + 1) = 2 * (N * cnt p (n + 1))
    cases hp : p n with
    | false =>
      have e : cnt p (n + 1) = cnt p n := by show cnt p n + (bif p n then 1 else 0) = _; rw [hp]; rfl
      rw [e]
      simp only [cond_false, Nat.add_zero]
      exact h2
    | true =>
      have e : cnt p (n + 1) = cnt p n + 1 := by show cnt p n + (bif p n then 1 else 0) = _; rw [hp]; rfl
      rw [e] at h1 ⊢
      simp only [cond_true]
      have e2 : N * (cnt p n + 1) = N * cnt p n + N := Nat.mul_succ _ _
      have e3 : (cnt p n + 1) * (cnt p n + 1 + 1) = cnt p n * (cnt p n + 1) + 2 * (cnt p n + 1) := by
        rw [Nat.add_mul, Nat.mul_add (cnt p n), Nat.mul_add 1, Nat.mul_add (cnt p n)]
        omega
      rw [e2, e3]
      omega
def pL (e l t a : Nat) : Bool := Nat.blt a 200 && (Nat.blt (a / 16) e && (!(Nat.beq (a / 4 % 4) (a % 4)) && (Nat.ble (a / 16) t && Nat.blt 0 l)))
def pF (e f t a : Nat) : Bool := !(Nat.blt a 200) && (Nat.ble ((a - 200) / 4) e && (Nat.ble ((a - 200) / 4) t && Nat.blt 0 f))
def pW (e l f t a : Nat) : Bool := pL e l t a || pF e f t a
def kN (l f a j : Nat) : Bool := !(Nat.blt a 200 == Nat.blt j 200) || Nat.blt 1 (bif Nat.blt a 200 then l else f)
theorem jrem4 {n : Nat} (h : n < 2147483648) : jrem (Int32.ofNat n) 4 = Int32.ofNat (n % 4) := by
  show Int32.ofNat n - Int32.ofNat n / Int32.ofNat 4 * Int32.ofNat 4 = _
  rw [← Int32.ofNat_div (by omega) (by decide), jn_mul, jn_sub (by omega)]
  congr 1
  omega
theorem div_nI {n k : Nat} (h : n < 2147483648) (hk : k < 2147483648) : Int32.ofNat n / Int32.ofNat k = Int32.ofNat (n / k) := (Int32.ofNat_div (by omega) (by omega)).symm
theorem dec_lt {a b : Nat} (ha : a < 2147483648) (hb : b < 2147483648) : decide (Int32.ofNat a < Int32.ofNat b) = Nat.blt a b := by
  rw [Bool.eq_iff_iff, decide_eq_true_eq, Nat.blt_eq]
  exact jn_lt ha hb
theorem dec_le {a b : Nat} (ha : a < 2147483648) (hb : b < 2147483648) : decide (Int32.ofNat a ≤ Int32.ofNat b) = Nat.ble a b := by
  rw [Bool.eq_iff_iff, decide_eq_true_eq, Nat.ble_eq]
  exact jn_le ha hb
theorem dec_eq {a b : Nat} (ha : a < 2147483648) (hb : b < 2147483648) : decide (Int32.ofNat a = Int32.ofNat b) = Nat.beq a b := by
  rw [Bool.eq_iff_iff, decide_eq_true_eq, Nat.beq_eq]
  exact ⟨jn_inj ha hb, fun h => by rw [h]⟩
variable {e l f t : Nat}
/-- the four numbers on which the counting rests -/
def Nums (M : Mem) (e l f t : Nat) : Prop := M 41 0 = Int32.ofNat e ∧ M 41 16 = Int32.ofNat l ∧ M 41 17 = Int32.ofNat f ∧ M 41 18 = Int32.ofNat t ∧ e ≤ 6 ∧ l ≤ 2 ∧ f ≤ 2 ∧ t ≤ 6
theorem most_nI {a : Nat} (hN : Nums M e l f t) (ha : a < 228) : mMost M (Int32.ofNat a) = Int32.ofNat (bif Nat.blt a 200 then l else f) := by
  unfold mMost
  rw [show (200 : Int32) = Int32.ofNat 200 from rfl, dec_lt (by omega) (by omega)]
  cases Nat.blt a 200
  · exact hN.2.2.1
  · exact hN.2.1
theorem with_nI {a : Nat} (hN : Nums M e l f t) (ha : a < 228) : mWith M (Int32.ofNat a) = pW e l f t a := by
  obtain ⟨n1, n2, n3, n4, b1, b2, b3, b4⟩ := id hN
  have h0 : decide ((0 : Int32) ≤ Int32.ofNat a) = true := dT ((jn_le (a := 0) (by omega) (by omega)).mpr (by omega))
  have h2 : decide (Int32.ofNat a < 200) = Nat.blt a 200 := dec_lt (b := 200) (by omega) (by omega)
  have hm : decide ((0 : Int32) < mMost M (Int32.ofNat a)) = Nat.blt 0 (bif Nat.blt a 200 then l else f) := by
    rw [most_nI hN ha]
    exact dec_lt (a := 0) (by omega) (by cases Nat.blt a 200 <;> simp only [cond_true, cond_false] <;> omega)
  unfold mWith mBlow
  rw [hm, h0, h2, n1, n4]
  cases hb : Nat.blt a 200 with
  | true =>
    have hlt : a < 200 := Nat.blt_eq.mp hb
    have ht : mTick (Int32.ofNat a) = Int32.ofNat (a / 16) := by
      unfold mTick
      rw [if_pos (show Int32.ofNat a < 200 from (jn_lt (b := 200) (by omega) (by omega)).mpr hlt)]
      exact div_nI (k := 16) (by omega) (by omega)
    have e16 : Int32.ofNat a / 16 = Int32.ofNat (a / 16) := div_nI (k := 16) (by omega) (by omega)
    have e4 : Int32.ofNat a / 4 = Int32.ofNat (a / 4) := div_nI (k := 4) (by omega) (by omega)
    rw [ht, e16, e4, jrem4 (by omega), jrem4 (by omega), dec_lt (by omega) (by omega), dec_eq (by omega) (by omega), dec_le (by omega) (by omega), dec_le (by omega) (by omega)]
    unfold pW pL pF
    rw [hb]
    simp only [cond_true, Bool.true_and, Bool.not_true, Bool.false_and, Bool.or_false]
    cases Nat.blt (a / 16) e <;> cases Nat.beq (a / 4 % 4) (a % 4) <;> rfl
  | false =>
    have hge : 200 ≤ a := by
      rcases Nat.lt_or_ge a 200 with g | g
      · rw [Nat.blt_eq.mpr g] at hb; cases hb
      · exact g
    have ht : mTick (Int32.ofNat a) = Int32.ofNat ((a - 200) / 4) := by
      unfold mTick
      rw [if_neg (show ¬ Int32.ofNat a < 200 from fun g => by have := (jn_lt (b := 200) (by omega) (by omega)).mp g; omega), show Int32.ofNat a - 200 = Int32.ofNat (a - 200) from jn_sub (b := 200) hge]
      exact div_nI (k := 4) (by omega) (by omega)
    rw [ht, dec_le (by omega) (by omega), dec_le (by omega) (by omega)]
    unfold pW pL pF
    rw [hb]
    simp only [cond_false, Bool.true_and, Bool.not_false, Bool.false_and, Bool.false_or]
theorem with2_nI {a j : Nat} (hN : Nums M e l f t) (ha : a < 228) (hj : j < 228) : mWith2 M (Int32.ofNat a) (Int32.ofNat j) = (pW e l f t a && (pW e l f t j && kN l f a j)) := by
  unfold mWith2 kN
  rw [with_nI hN ha, with_nI hN hj, most_nI hN ha, show (200 : Int32) = Int32.ofNat 200 from rfl, dec_lt (by omega) (by omega), dec_lt (by omega) (by omega)]
  rw [show decide ((1 : Int32) < Int32.ofNat (bif Nat.blt a 200 then l else f)) = Nat.blt 1 (bif Nat.blt a 200 then l else f) from dec_lt (a := 1) (by omega) (by have := hN.2.2.2.2.2; cases Nat.blt a 200 <;> simp only [cond_true, cond_false] <;> omega)]
  cases Nat.blt a 200 <;> cases Nat.blt j 200 <;> rfl
theorem mSum_nI {g : Nat → Int32} {u : Nat → Nat} {n : Nat} (h : ∀ a, a < n → g a = Int32.ofNat (u a)) : mSum g n = Int32.ofNat (sumN u n) := by
  induction n with
  | zero => rfl
  | succ n ih =>
    show mSum g n + g n = Int32.ofNat (sumN u n + u n)
    rw [ih (fun a ha => h a (by omega)), h n (by omega), jn_add]
/-- sets that begin with a: after it, of its own kind or of the other -/
def SA (e l f t a : Nat) : Nat := bif pW e l f t a then 1 + sumN (fun j => bif Nat.blt a j && (pW e l f t j && kN l f a j) then 1 else 0) 228 else 0
theorem setA_nI {a : Nat} (hN : Nums M e l f t) (ha : a < 228) : mSetA M a = Int32.ofNat (SA e l f t a) := by
  unfold mSetA SA
  rw [with_nI hN ha]
  cases hw : pW e l f t a with
  | false => rfl
  | true =>
    simp only [cond_true]
    rw [mSum_nI (u := fun j => bif Nat.blt a j && (pW e l f t j && kN l f a j) then 1 else 0) (fun j hj => ?_)]
    · exact jn_add 1 _
    · unfold mIn2
      rw [with2_nI hN ha hj, hw, Bool.true_and]
      cases Nat.blt a j <;> cases pW e l f t j && kN l f a j <;> rfl
theorem cntL : ∀ e, e < 7 → ∀ t, t < 7 → ∀ l, l < 3 → cnt (pL e l t) 228 = (if l = 0 then 0 else 12 * min (t + 1) e) := by decide +kernel
theorem cntF : ∀ e, e < 7 → ∀ t, t < 7 → ∀ f, f < 3 → cnt (pF e f t) 228 = (if f = 0 then 0 else 4 * (min t e + 1)) := by decide +kernel
theorem pF_lo {a : Nat} (h : a < 200) : pF e f t a = false := by
  unfold pF
  rw [Nat.blt_eq.mpr h]
  rfl
theorem pL_hi {a : Nat} (h : 200 ≤ a) : pL e l t a = false := by
  unfold pL
  have : Nat.blt a 200 = false := by
    cases hb : Nat.blt a 200 with
    | false => rfl
    | true => have := Nat.blt_eq.mp hb; omega
  rw [this]
  rfl
theorem cntF0 : ∀ n, n ≤ 200 → cnt (pF e f t) n = 0 := by
  intro n
  induction n with
  | zero => intro _; rfl
  | succ n ih =>
    intro h
    show cnt _ n + (bif pF e f t n then 1 else 0) = 0
    rw [ih (by omega), pF_lo (by omega)]
    rfl
theorem sumN_mul {p : Nat → Bool} {k : Nat} (n : Nat) : sumN (fun a => bif p a then k else 0) n = k * cnt p n := by
  induction n with
  | zero => rfl
  | succ n ih =>
    show sumN _ n + (bif p n then k else 0) = k * (cnt p n + (bif p n then 1 else 0))
    rw [ih, Nat.mul_add]
    cases p n
    · rfl
    · show _ + k = _ + k * 1
      omega
theorem SA_eq {a : Nat} (ha : a < 228) : SA e l f t a = ((bif pL e l t a then 1 else 0) + (bif pF e f t a then 1 else 0)) + ((bif Nat.blt 1 l && pL e l t a then cnt (pL e l t) 228 - cnt (pL e l t) (a + 1) else 0) + ((bif pL e l t a then cnt (pF e f t) 228 else 0) + (bif Nat.blt 1 f && pF e f t a then cnt (pF e f t) 228 - cnt (pF e f t) (a + 1) else 0))) := by
  unfold SA
  rcases Nat.lt_or_ge a 200 with hlt | hge
  · have hb : Nat.blt a 200 = true := Nat.blt_eq.mpr hlt
    have hF := pF_lo (e := e) (f := f) (t := t) hlt
    unfold pW
    rw [hF, Bool.or_false, Bool.and_false]
    cases hl : pL e l t a with
    | false => simp
    | true =>
      have h1 : sumN (fun j => bif Nat.blt a j && ((pL e l t j || pF e f t j) && kN l f a j) then 1 else 0) 228 = sumN (fun j => (bif Nat.blt a j && (Nat.blt 1 l && pL e l t j) then 1 else 0) + (bif Nat.blt a j && pF e f t j then 1 else 0)) 228 := by
        apply sumN_congr
        intro j hj
        unfold kN
        rw [hb]
        simp only [cond_true]
        rcases Nat.lt_or_ge j 200 with g | g
        · rw [Nat.blt_eq.mpr g, pF_lo g]
          cases Nat.blt a j <;> cases pL e l t j <;> cases Nat.blt 1 l <;> rfl
        · rw [pL_hi g]
          have : Nat.blt j 200 = false := by
            cases hb : Nat.blt j 200 with
            | false => rfl
            | true => have := Nat.blt_eq.mp hb; omega
          rw [this]
          cases Nat.blt a j <;> cases pF e f t j <;> cases Nat.blt 1 l <;> rfl
      have h2 := cnt_after (p := pF e f t) (a := a) 228 ha
      rw [cntF0 (a + 1) (by omega)] at h2
      have h3 := cnt_after (p := pL e l t) (a := a) 228 ha
      rw [h1, sumN_add]
      simp only [cond_true, cond_false]
      cases h1l : Nat.blt 1 l with
      | false =>
        have h4 : sumN (fun j => bif Nat.blt a j && (false && pL e l t j) then 1 else 0) 228 = 0 := by
          rw [sumN_congr (g := fun _ => 0) (fun j _ => by cases Nat.blt a j <;> rfl)]
          exact sumN_0 228
        rw [h4]
        simp only [Bool.false_and, cond_false]
        omega
      | true =>
        simp only [Bool.true_and, cond_true]
        omega
  · have hb : Nat.blt a 200 = false := by
      cases hb : Nat.blt a 200 with
      | false => rfl
      | true => have := Nat.blt_eq.mp hb; omega
    have hL := pL_hi (e := e) (l := l) (t := t) hge
    unfold pW
    rw [hL, Bool.false_or, Bool.and_false]
    cases hf : pF e f t a with
    | false => simp
    | true =>
      have h1 : sumN (fun j => bif Nat.blt a j && ((pL e l t j || pF e f t j) && kN l f a j) then 1 else 0) 228 = sumN (fun j => bif Nat.blt a j && (Nat.blt 1 f && pF e f t j) then 1 else 0) 228 := by
        apply sumN_congr
        intro j hj
        unfold kN
        rw [hb]
        simp only [cond_false]
        rcases Nat.lt_or_ge a j with g | g
        · have : Nat.blt j 200 = false := by
            cases hb : Nat.blt j 200 with
            | false => rfl
            | true => have := Nat.blt_eq.mp hb; omega
          rw [this, pL_hi (by omega)]
          cases Nat.blt a j <;> cases pF e f t j <;> cases Nat.blt 1 f <;> rfl
        · have : Nat.blt a j = false := by
            cases hb : Nat.blt a j with
            | false => rfl
            | true => have := Nat.blt_eq.mp hb; omega
          rw [this]
          rfl
      have h2 := cnt_after (p := pF e f t) (a := a) 228 ha
      rw [h1]
      simp only [cond_true, cond_false]
      cases h1f : Nat.blt 1 f with
      | false =>
        have h4 : sumN (fun j => bif Nat.blt a j && (false && pF e f t j) then 1 else 0) 228 = 0 := by
          rw [sumN_congr (g := fun _ => 0) (fun j _ => by cases Nat.blt a j <;> rfl)]
          exact sumN_0 228
        rw [h4]
        simp only [Bool.false_and, cond_false]
      | true =>
        simp only [Bool.true_and, cond_true]
        omega
/-- pairs out of N -/
theorem tri2 {p : Nat → Bool} {b : Bool} : sumN (fun a => bif b && p a then cnt p 228 - cnt p (a + 1) else 0) 228 = (bif b then cnt p 228 * (cnt p 228 - 1) / 2 else 0) := by
  cases b with
  | false =>
    exact (sumN_congr (f := fun a => bif false && p a then cnt p 228 - cnt p (a + 1) else 0) (g := fun _ => 0) (fun j _ => rfl)).trans (sumN_0 228)
  | true =>
    have h := tri (p := p) (N := cnt p 228) 228 (Nat.le_refl _) (fun a ha => cnt_mono (by omega))
    simp only [Bool.true_and, cond_true]
    have e1 : cnt p 228 * (cnt p 228 + 1) = cnt p 228 * cnt p 228 + cnt p 228 := Nat.mul_succ _ _
    have e2 : cnt p 228 * (cnt p 228 - 1) = cnt p 228 * cnt p 228 - cnt p 228 := by rw [Nat.mul_sub, Nat.mul_one]
    rw [e1] at h
    rw [e2]
    omega
def GN (NL NF l f : Nat) : Nat := 1 + NL + NF + NF * NL + (if 1 < l then NL * (NL - 1) / 2 else 0) + (if 1 < f then NF * (NF - 1) / 2 else 0)
theorem SA_sum : 1 + sumN (SA e l f t) 228 = GN (cnt (pL e l t) 228) (cnt (pF e f t) 228) l f := by
  rw [sumN_congr (fun a ha => SA_eq ha), sumN_add, sumN_add, sumN_add, sumN_add, sumN_cnt, sumN_cnt, tri2, tri2, sumN_mul]
  unfold GN
  have hl : (bif Nat.blt 1 l then cnt (pL e l t) 228 * (cnt (pL e l t) 228 - 1) / 2 else 0) = (if 1 < l then cnt (pL e l t) 228 * (cnt (pL e l t) 228 - 1) / 2 else 0) := by
    by_cases h : 1 < l
    · rw [Nat.blt_eq.mpr h, if_pos h]; rfl
    · have : Nat.blt 1 l = false := by
        cases hb : Nat.blt 1 l with
        | false => rfl
        | true => exact absurd (Nat.blt_eq.mp hb) h
      rw [this, if_neg h]; rfl
  have hf : (bif Nat.blt 1 f then cnt (pF e f t) 228 * (cnt (pF e f t) 228 - 1) / 2 else 0) = (if 1 < f then cnt (pF e f t) 228 * (cnt (pF e f t) 228 - 1) / 2 else 0) := by
    by_cases h : 1 < f
    · rw [Nat.blt_eq.mpr h, if_pos h]; rfl
    · have : Nat.blt 1 f = false := by
        cases hb : Nat.blt 1 f with
        | false => rfl
        | true => exact absurd (Nat.blt_eq.mp hb) h
      rw [this, if_neg h]; rfl
  rw [hl, hf]
  omega
theorem cSets_nI : ∀ e, e < 7 → ∀ t, t < 7 → ∀ l, l < 3 → ∀ f, f < 3 → cSets (Int32.ofNat l) (Int32.ofNat f) (Int32.ofNat t) (Int32.ofNat e) = Int32.ofNat (GN (if l = 0 then 0 else 12 * min (t + 1) e) (if f = 0 then 0 else 4 * (min t e + 1)) l f) := by decide +kernel
theorem sets_eq (hN : Nums M e l f t) : cSets (Int32.ofNat l) (Int32.ofNat f) (Int32.ofNat t) (Int32.ofNat e) = 1 + mSum (mSetA M) 228 := by
  have hb := hN.2.2.2.2
  rw [mSum_nI (fun a ha => setA_nI hN ha), show (1 : Int32) = Int32.ofNat 1 from rfl, jn_add, SA_sum, cntL e (by omega) t (by omega) l (by omega), cntF e (by omega) t (by omega) f (by omega)]
  exact cSets_nI e (by omega) t (by omega) l (by omega) f (by omega)
theorem pair_sets (h : INV E T M) : EvG 11 miX8_sets [.ref 0] (hp (zz E T) M) (PairQ miX9_sets_ [.ref 41] (fun x y => x = y)) := by
  obtain ⟨n, rs, h1, h2, h3, h4, h5, ⟨V, h6⟩, h7⟩ := id h
  obtain ⟨e, -, he, ee⟩ := h3.1
  obtain ⟨r1, r2, r3, r4, r5, r6, r7⟩ := h5.1
  obtain ⟨l, hl, el⟩ := mIn_le (n := 2) (by omega) r5
  obtain ⟨f, hf, ef⟩ := mIn_le (n := 2) (by omega) r6
  obtain ⟨t, ht, et⟩ := mIn_le (n := 6) (by omega) r7
  have hN : Nums M e l f t := ⟨ee, r2.symm.trans el, r3.symm.trans ef, r4.symm.trans et, he, hl, hf, ht⟩
  refine pair_of (evI_of sc_sets) (fun x M' fq => ?_)
  obtain ⟨hx, rfl⟩ := fq
  refine evI_mono (evI_of sp_setsM) (fun y M'' k => ⟨by rw [k.2]; exact h, ?_⟩)
  rw [hx, k.1, el, ef, et, r1, ee]
  exact sets_eq hN
end PS
