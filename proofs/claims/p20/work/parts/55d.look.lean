/-! Seeking: what is to be found -/
/-- the least break: its size and its blows -/
def LookP (p0 : Bool) (p1 : Nat → Bool) (p2 : Nat → Nat → Bool) (s l o : Int32) : Prop :=
  (p0 = true ∧ s = 0 ∧ l = -1 ∧ o = -1) ∨
  (p0 = false ∧ ∃ a, a < 228 ∧ p1 a = true ∧ (∀ x, x < a → p1 x = false) ∧ s = 1 ∧ l = Int32.ofNat a ∧ o = -1) ∨
  (p0 = false ∧ (∀ x, x < 228 → p1 x = false) ∧ ∃ a b, a < b ∧ b < 228 ∧ p2 a b = true ∧ (∀ x y, x < a → x < y → y < 228 → p2 x y = false) ∧ (∀ y, a < y → y < b → p2 a y = false) ∧ s = 2 ∧ l = Int32.ofNat a ∧ o = Int32.ofNat b) ∨
  (p0 = false ∧ (∀ x, x < 228 → p1 x = false) ∧ (∀ x y, x < y → y < 228 → p2 x y = false) ∧ s = 9 ∧ l = -1 ∧ o = -1)
theorem tf_no {b : Bool} {P : Prop} (h1 : b = true) (h2 : b = false) : P := by rw [h1] at h2; cases h2
theorem LookP.uniq {p0 : Bool} {p1 : Nat → Bool} {p2 : Nat → Nat → Bool} {s l o s' l' o' : Int32} (h : LookP p0 p1 p2 s l o) (h' : LookP p0 p1 p2 s' l' o') : s = s' ∧ l = l' ∧ o = o' := by
  rcases h with ⟨a0, rfl, rfl, rfl⟩ | ⟨a0, a, a1, a2, a3, rfl, rfl, rfl⟩ | ⟨a0, a1, a, b, a2, a3, a4, a5, a6, rfl, rfl, rfl⟩ | ⟨a0, a1, a2, rfl, rfl, rfl⟩
  · rcases h' with ⟨c0, rfl, rfl, rfl⟩ | ⟨c0, -⟩ | ⟨c0, -⟩ | ⟨c0, -⟩
    · exact ⟨rfl, rfl, rfl⟩
    · exact tf_no a0 c0
    · exact tf_no a0 c0
    · exact tf_no a0 c0
  · rcases h' with ⟨c0, -⟩ | ⟨c0, c, c1, c2, c3, rfl, rfl, rfl⟩ | ⟨c0, c1, -⟩ | ⟨c0, c1, -⟩
    · exact tf_no c0 a0
    · have e : a = c := by
        rcases Nat.lt_trichotomy a c with g | g | g
        · exact tf_no a2 (c3 a g)
        · exact g
        · exact tf_no c2 (a3 c g)
      rw [e]
      exact ⟨rfl, rfl, rfl⟩
    · exact tf_no a2 (c1 a a1)
    · exact tf_no a2 (c1 a a1)
  · rcases h' with ⟨c0, -⟩ | ⟨c0, c, c1, c2, -⟩ | ⟨c0, c1, c, e, c2, c3, c4, c5, c6, rfl, rfl, rfl⟩ | ⟨c0, c1, c2, -⟩
    · exact tf_no c0 a0
    · exact tf_no c2 (a1 c c1)
    · have e1 : a = c := by
        rcases Nat.lt_trichotomy a c with g | g | g
        · exact tf_no a4 (c5 a b g a2 a3)
        · exact g
        · exact tf_no c4 (a5 c e g c2 c3)
      subst e1
      have e2 : b = e := by
        rcases Nat.lt_trichotomy b e with g | g | g
        · exact tf_no a4 (c6 b a2 g)
        · exact g
        · exact tf_no c4 (a6 e c2 g)
      rw [e2]
      exact ⟨rfl, rfl, rfl⟩
    · exact tf_no a4 (c2 a b a2 a3)
  · rcases h' with ⟨c0, -⟩ | ⟨c0, c, c1, c2, -⟩ | ⟨c0, c1, c, e, c2, c3, c4, -⟩ | ⟨c0, c1, c2, rfl, rfl, rfl⟩
    · exact tf_no c0 a0
    · exact tf_no c2 (a1 c c1)
    · exact tf_no c4 (a2 c e c2 c3)
    · exact ⟨rfl, rfl, rfl⟩
theorem LookP.sz {p0 : Bool} {p1 : Nat → Bool} {p2 : Nat → Nat → Bool} {s l o : Int32} (h : LookP p0 p1 p2 s l o) : s = 9 ∨ jU 2 s := by
  rcases h with ⟨-, rfl, -⟩ | ⟨-, a, -, -, -, rfl, -⟩ | ⟨-, -, a, b, -, -, -, -, -, rfl, -⟩ | ⟨-, -, -, rfl, -⟩
  · exact Or.inr ⟨0, by omega, rfl⟩
  · exact Or.inr ⟨1, by omega, rfl⟩
  · exact Or.inr ⟨2, by omega, rfl⟩
  · exact Or.inl rfl
/-- the same by what is asked -/
theorem LookP.cg {p0 : Bool} {p1 q1 : Nat → Bool} {p2 q2 : Nat → Nat → Bool} {s l o : Int32} (h : LookP p0 p1 p2 s l o) (h1 : ∀ a, a < 228 → q1 a = p1 a) (h2 : ∀ a b, a < b → b < 228 → q2 a b = p2 a b) : LookP p0 q1 q2 s l o := by
  rcases h with h | ⟨a0, a, a1, a2, a3, h⟩ | ⟨a0, a1, a, b, a2, a3, a4, a5, a6, h⟩ | ⟨a0, a1, a2, h⟩
  · exact Or.inl h
  · exact Or.inr (Or.inl ⟨a0, a, a1, (h1 a a1).trans a2, fun x hx => (h1 x (by omega)).trans (a3 x hx), h⟩)
  · exact Or.inr (Or.inr (Or.inl ⟨a0, fun x hx => (h1 x hx).trans (a1 x hx), a, b, a2, a3, (h2 a b a2 a3).trans a4, fun x y g1 g2 g3 => (h2 x y g2 g3).trans (a5 x y g1 g2 g3), fun y g1 g2 => (h2 a y g1 (by omega)).trans (a6 y g1 g2), h⟩))
  · exact Or.inr (Or.inr (Or.inr ⟨a0, fun x hx => (h1 x hx).trans (a1 x hx), fun x y g1 g2 => (h2 x y g1 g2).trans (a2 x y g1 g2), h⟩))
/-- in how many of the least breaks a blow stands -/
def wkS (p2 : Nat → Nat → Bool) (x n : Nat) : Nat := sumN (fun y => bif !(decide (y = x)) && p2 x y then 1 else 0) n
def wkN (p1 : Nat → Bool) (p2 : Nat → Nat → Bool) (s : Int32) (x : Nat) : Nat := if s = 1 then (p1 x).toNat else if s = 2 then wkS p2 x 228 else 0
/-- pairs, the first below m (all of its pairs), and those of m whose second is below k -/
def rwS (p2 : Nat → Nat → Bool) (x a n : Nat) : Nat := sumN (fun b => bif decide (a < b) && (p2 a b && (decide (x = a) || decide (x = b))) then 1 else 0) n
def prS (p2 : Nat → Nat → Bool) (x m k : Nat) : Nat := sumN (fun a => rwS p2 x a 228) m + rwS p2 x m k
theorem sumN_c {f g : Nat → Nat} {n : Nat} (h : ∀ a, a < n → f a = g a) : sumN f n = sumN g n := by
  induction n with
  | zero => rfl
  | succ n ih =>
    show sumN f n + f n = sumN g n + g n
    rw [ih (fun a ha => h a (by omega)), h n (by omega)]
theorem sumN_z {f : Nat → Nat} {n : Nat} (h : ∀ a, a < n → f a = 0) : sumN f n = 0 := by
  induction n with
  | zero => rfl
  | succ n ih =>
    show sumN f n + f n = 0
    rw [ih (fun a ha => h a (by omega)), h n (by omega)]
theorem sumN_skip {f : Nat → Nat} {m n : Nat} (hm : m ≤ n) (h : ∀ a, m ≤ a → a < n → f a = 0) : sumN f n = sumN f m := by
  induction n with
  | zero => rw [show m = 0 by omega]
  | succ n ih =>
    by_cases e : m = n + 1
    · rw [e]
    · show sumN f n + f n = _
      rw [h n (by omega) (by omega), ih (by omega) (fun a g1 g2 => h a g1 (by omega))]
      rfl
theorem sumN_two {f g : Nat → Nat} (n : Nat) : sumN (fun a => f a + g a) n = sumN f n + sumN g n := by
  induction n with
  | zero => rfl
  | succ n ih =>
    show sumN _ n + (f n + g n) = _
    rw [ih]
    show _ = sumN f n + f n + (sumN g n + g n)
    omega
theorem sumN_one {f : Nat → Nat} {x : Nat} : ∀ n, x < n → (∀ a, a < n → a ≠ x → f a = 0) → sumN f n = f x := by
  intro n
  induction n with
  | zero => intro h; omega
  | succ n ih =>
    intro hx h
    show sumN f n + f n = f x
    by_cases e : x = n
    · subst e
      rw [sumN_z (fun a ha => h a (by omega) (by omega))]
      omega
    · rw [ih (by omega) (fun a ha hne => h a (by omega) hne), h n (by omega) (fun g => e g.symm), Nat.add_zero]
/-- all pairs with x, counted by pairs or by the other -/
theorem prS_all {p2 : Nat → Nat → Bool} {x : Nat} (hx : x < 228) (hs : ∀ a b, p2 a b = p2 b a) : prS p2 x 228 0 = wkS p2 x 228 := by
  have h1 : prS p2 x 228 0 = sumN (fun a => rwS p2 x a 228) 228 := by
    unfold prS
    rw [show rwS p2 x 228 0 = 0 from rfl, Nat.add_zero]
  have h2 : ∀ a, a < 228 → rwS p2 x a 228 = (if a = x then sumN (fun b => bif decide (x < b) && p2 x b then 1 else 0) 228 else 0) + (bif decide (a < x) && p2 x a then 1 else 0) := by
    intro a ha
    unfold rwS
    by_cases e : a = x
    · subst e
      rw [if_pos rfl, decide_eq_false (Nat.lt_irrefl a), Bool.false_and, cond_false, Nat.add_zero]
      apply sumN_c
      intro b hb
      rw [decide_eq_true (rfl : a = a), Bool.true_or, Bool.and_true]
    · rw [if_neg e, Nat.zero_add]
      by_cases g : a < x
      · rw [decide_eq_true g, Bool.true_and, sumN_one 228 hx (fun b hb hne => ?_)]
        · rw [decide_eq_true g, decide_eq_true (rfl : x = x), Bool.or_true, Bool.and_true, Bool.true_and, hs a x]
        · rw [decide_eq_false (show ¬ x = a from fun q => e q.symm), decide_eq_false (show ¬ x = b from fun q => hne q.symm), Bool.or_self, Bool.and_false, Bool.and_false]
          rfl
      · rw [decide_eq_false g, Bool.false_and, cond_false]
        apply sumN_z
        intro b hb
        by_cases e2 : x = b
        · subst e2
          rw [decide_eq_false g, Bool.false_and]
          rfl
        · rw [decide_eq_false (show ¬ x = a from fun q => e q.symm), decide_eq_false e2, Bool.or_self, Bool.and_false, Bool.and_false]
          rfl
  have h3 : sumN (fun a => if a = x then sumN (fun b => bif decide (x < b) && p2 x b then 1 else 0) 228 else 0) 228 = sumN (fun b => bif decide (x < b) && p2 x b then 1 else 0) 228 := by
    rw [sumN_one 228 hx (fun a ha hne => if_neg hne), if_pos rfl]
  rw [h1, sumN_c h2, sumN_two, h3]
  unfold wkS
  rw [← sumN_two]
  apply sumN_c
  intro b hb
  rcases Nat.lt_trichotomy b x with g | g | g
  · rw [decide_eq_true g, decide_eq_false (show ¬ x < b by omega), decide_eq_false (show ¬ b = x by omega)]
    cases p2 x b <;> rfl
  · subst g
    rw [decide_eq_false (Nat.lt_irrefl b), decide_eq_true (rfl : b = b)]
    rfl
  · rw [decide_eq_false (show ¬ b < x by omega), decide_eq_true g, decide_eq_false (show ¬ b = x by omega)]
    cases p2 x b <;> rfl
/-! Mending -/
/-- no break, neither without a blow nor with one within the bounds -/
def hld (V : VW) (al : Nat → Bool) (n : Nat) : Bool := match n with
  | 0 => !(bk V [])
  | k + 1 => hld V al k && !(al k && bk V [k])
theorem hld_0 {V : VW} {al : Nat → Bool} {n : Nat} (h : hld V al n = true) : bk V [] = false := by
  induction n with
  | zero =>
    have h : (!(bk V [])) = true := h
    cases hb : bk V []
    · rfl
    · rw [hb] at h; cases h
  | succ n ih =>
    have h : (hld V al n && !(al n && bk V [n])) = true := h
    rw [Bool.and_eq_true] at h
    exact ih h.1
theorem hld_skip {V : VW} {al : Nat → Bool} {m n : Nat} (hm : m ≤ n) (h : ∀ a, m ≤ a → a < n → al a = false) : hld V al n = hld V al m := by
  induction n with
  | zero => rw [show m = 0 by omega]
  | succ n ih =>
    by_cases e : m = n + 1
    · rw [e]
    · show (hld V al n && !(al n && bk V [n])) = _
      rw [h n (by omega) (by omega), ih (by omega) (fun a g1 g2 => h a g1 (by omega)), Bool.false_and, Bool.not_false, Bool.and_true]
theorem hld_no {V : VW} {al : Nat → Bool} {m n : Nat} (hm : m ≤ n) (h : hld V al m = false) : hld V al n = false := by
  induction n with
  | zero => rw [show m = 0 by omega] at h; exact h
  | succ n ih =>
    by_cases e : m = n + 1
    · rw [← e]; exact h
    · show (hld V al n && !(al n && bk V [n])) = false
      rw [ih (by omega), Bool.false_and]
/-- the same world, other rules counting -/
def vC (V : VW) (c : Nat → Bool) : VW := ((rN (vR V), rK (vR V), rH (vR V), rL (vR V), rT (vR V), rW (vR V), c), vF V, vE V, vA V, vP V, vB V, vQ V)
theorem vC_ok {V : VW} {c : Nat → Bool} (h : RWok (vR V)) : RWok (vR (vC V c)) := h
/-- the spare rules, five at the most -/
def spS (p : Nat → Bool) (n : Nat) : List Nat := match n with
  | 0 => []
  | i + 1 => bif Nat.blt (spS p i).length 5 && p i then spS p i ++ [i] else spS p i
theorem spS_len {p : Nat → Bool} {n : Nat} : (spS p n).length ≤ 5 := by
  induction n with
  | zero => exact Nat.zero_le _
  | succ n ih =>
    show (bif Nat.blt (spS p n).length 5 && p n then spS p n ++ [n] else spS p n).length ≤ 5
    cases hb : Nat.blt (spS p n).length 5 && p n
    · exact ih
    · rw [Bool.and_eq_true, Nat.blt_eq] at hb
      show (spS p n ++ [n]).length ≤ 5
      rw [List.length_append]
      simp only [List.length_cons, List.length_nil]
      omega
theorem spS_full {p : Nat → Bool} {i : Nat} (h : 5 ≤ (spS p i).length) : ∀ n, i ≤ n → spS p n = spS p i := by
  intro n
  induction n with
  | zero => intro hn; rw [show i = 0 by omega]
  | succ n ih =>
    intro hn
    by_cases e : i = n + 1
    · rw [e]
    · show (bif Nat.blt (spS p n).length 5 && p n then spS p n ++ [n] else spS p n) = spS p i
      rw [ih (by omega)]
      have : Nat.blt (spS p i).length 5 = false := by
        cases hb : Nat.blt (spS p i).length 5 with
        | false => rfl
        | true => have := Nat.blt_eq.mp hb; omega
      rw [this, Bool.false_and]
      rfl
theorem spS_no {p : Nat → Bool} {i : Nat} (h : p i = false) : spS p (i + 1) = spS p i := by
  show (bif Nat.blt (spS p i).length 5 && p i then spS p i ++ [i] else spS p i) = spS p i
  rw [h, Bool.and_false]
  rfl
theorem spS_yes {p : Nat → Bool} {i : Nat} (h : p i = true) (h5 : (spS p i).length < 5) : spS p (i + 1) = spS p i ++ [i] := by
  show (bif Nat.blt (spS p i).length 5 && p i then spS p i ++ [i] else spS p i) = spS p i ++ [i]
  rw [h, Nat.blt_eq.mpr h5]
  rfl
theorem spS_mem {p : Nat → Bool} {n x : Nat} (h : x ∈ spS p n) : x < n ∧ p x = true := by
  induction n with
  | zero => cases h
  | succ n ih =>
    cases hp : p n
    · rw [spS_no hp] at h
      have := ih h
      exact ⟨by omega, this.2⟩
    · by_cases h5 : (spS p n).length < 5
      · rw [spS_yes hp h5, List.mem_append] at h
        rcases h with h | h
        · have := ih h
          exact ⟨by omega, this.2⟩
        · rw [List.mem_singleton] at h
          subst h
          exact ⟨by omega, hp⟩
      · rw [spS_full (i := n) (by omega) (n + 1) (by omega)] at h
        have := ih h
        exact ⟨by omega, this.2⟩
theorem getD_app {l : List Nat} {x j : Nat} (h : j < l.length) : (l ++ [x]).getD j 0 = l.getD j 0 := by
  rw [List.getD_eq_getElem?_getD, List.getD_eq_getElem?_getD, List.getElem?_append_left h]
theorem getD_end {l : List Nat} {x : Nat} : (l ++ [x]).getD l.length 0 = x := by
  rw [List.getD_eq_getElem?_getD, List.getElem?_append_right (Nat.le_refl _), Nat.sub_self]
  rfl
theorem getD_mem {l : List Nat} {j : Nat} (h : j < l.length) : l.getD j 0 ∈ l := by
  rw [List.getD_eq_getElem?_getD, List.getElem?_eq_getElem h]
  exact List.getElem_mem h
def bt1 (s k : Nat) : Bool := decide (Int32.ofNat s >>> (Int32.ofNat k &&& 31) &&& 1 = 1)
/-- what a set of them costs, which rules they are -/
def smS (pr : Nat → Int32) (sl : List Nat) (s k : Nat) : Int32 := match k with
  | 0 => 0
  | j + 1 => smS pr sl s j + (bif bt1 s j then pr (sl.getD j 0) else 0)
def inS (sl : List Nat) (s k : Nat) : Int32 := match k with
  | 0 => 0
  | j + 1 => inS sl s j ||| (bif bt1 s j then one8 (Int32.ofNat (sl.getD j 0)) else 0)
/-- the cheapest so far: as the reference keeps it, as the program does -/
def fM (hd : Nat → Bool) (sm : Nat → Int32) (n : Nat) : Int32 × Int32 := match n with
  | 0 => (-1, 0)
  | s + 1 => bif (decide ((fM hd sm s).1 = -1) || decide (sm s < (fM hd sm s).2)) && hd s then (Int32.ofNat s, sm s) else fM hd sm s
def fC (hd : Nat → Bool) (sm : Nat → Int32) (n : Nat) : Int32 × Int32 := match n with
  | 0 => (-1, 501)
  | s + 1 => bif decide (sm s < (fC hd sm s).2) && hd s then (Int32.ofNat s, sm s) else fC hd sm s
theorem nI_m1 {n : Nat} (h : n < 2147483648) : ¬ Int32.ofNat n = -1 := by
  intro e
  have h1 := congrArg Int32.toInt e
  rw [jn_toInt h, show (-1 : Int32).toInt = -1 from rfl] at h1
  omega
theorem fCM {hd : Nat → Bool} {sm : Nat → Int32} : ∀ n, n ≤ 32 → (∀ s, s < n → sm s < 501) → (fC hd sm n).1 = (fM hd sm n).1 ∧ (((fM hd sm n).1 = -1 ∧ (fC hd sm n).2 = 501) ∨ (¬ (fM hd sm n).1 = -1 ∧ (fC hd sm n).2 = (fM hd sm n).2)) := by
  intro n
  induction n with
  | zero => intro _ _; exact ⟨rfl, Or.inl ⟨rfl, rfl⟩⟩
  | succ n ih =>
    intro hn hs
    obtain ⟨h1, h2⟩ := ih (by omega) (fun s hs' => hs s (by omega))
    have hM : fM hd sm (n + 1) = bif (decide ((fM hd sm n).1 = -1) || decide (sm n < (fM hd sm n).2)) && hd n then (Int32.ofNat n, sm n) else fM hd sm n := rfl
    have hC : fC hd sm (n + 1) = bif decide (sm n < (fC hd sm n).2) && hd n then (Int32.ofNat n, sm n) else fC hd sm n := rfl
    have hc : (decide ((fM hd sm n).1 = -1) || decide (sm n < (fM hd sm n).2)) = decide (sm n < (fC hd sm n).2) := by
      rcases h2 with ⟨e1, e2⟩ | ⟨e1, e2⟩
      · rw [e2, decide_eq_true e1, decide_eq_true (hs n (by omega))]
        rfl
      · rw [e2, decide_eq_false e1, Bool.false_or]
    rw [hM, hC, hc]
    cases decide (sm n < (fC hd sm n).2) && hd n
    · exact ⟨h1, h2⟩
    · exact ⟨rfl, Or.inr ⟨nI_m1 (by omega), rfl⟩⟩
