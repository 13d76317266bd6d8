/-! Rules, runs and breaks without cells -/
/-- rules: how many; kinds, heads, layers of the heads, to whom; whether one works for a host with these facts; whether it counts -/
abbrev RW : Type := Nat × (Nat → Int32) × (Nat → Int32) × (Nat → Int32) × (Nat → Int32) × (Nat → Int32 → Int32 → Bool) × (Nat → Bool)
def rN (R : RW) : Nat := R.1
def rK (R : RW) : Nat → Int32 := R.2.1
def rH (R : RW) : Nat → Int32 := R.2.2.1
def rL (R : RW) : Nat → Int32 := R.2.2.2.1
def rT (R : RW) : Nat → Int32 := R.2.2.2.2.1
def rW (R : RW) : Nat → Int32 → Int32 → Bool := R.2.2.2.2.2.1
def rC (R : RW) : Nat → Bool := R.2.2.2.2.2.2
def wk (R : RW) (i : Nat) (h f : Int32) : Bool := rC R i && rW R i h f
def one8 (x : Int32) : Int32 := 1 <<< (x &&& 31)
def stp (R : RW) (h l : Int32) (i : Nat) (f : Int32) : Int32 := bif decide (rK R i = 0) && (decide (rL R i = l) && wk R i h f) then f ||| one8 (rH R i) else f
def pas (R : RW) (h l : Int32) (n : Nat) (f : Int32) : Int32 := match n with
  | 0 => f
  | i + 1 => stp R h l i (pas R h l i f)
def itr (g : Int32 → Int32) (n : Nat) (f : Int32) : Int32 := match n with
  | 0 => f
  | k + 1 => g (itr g k f)
def clo (R : RW) (h l : Int32) (f : Int32) : Int32 := itr (pas R h l (rN R)) 8 f
def sett (R : RW) (h : Int32) (n : Nat) (f : Int32) : Int32 := match n with
  | 0 => f
  | l + 1 => clo R h (Int32.ofNat l) (sett R h l f)
def setl (R : RW) (h f : Int32) : Int32 := sett R h 8 f
def kepT (R : RW) (h f : Int32) (n : Nat) : Int32 := match n with
  | 0 => 0
  | i + 1 => bif decide (rK R i = 1) && wk R i h f then kepT R h f i ||| one8 (rH R i) else kepT R h f i
def senT (R : RW) (h f g : Int32) (n : Nat) : Int32 := match n with
  | 0 => 0
  | i + 1 => bif decide (rK R i = 2) && (decide (rT R i = g) && wk R i h f) then senT R h f g i ||| one8 (rH R i) else senT R h f g i
def orT (g : Nat → Int32) (n : Nat) : Int32 := match n with
  | 0 => 0
  | s + 1 => orT g s ||| g s
def setH (R : RW) (b : Nat → Int32) (h : Nat) : Int32 := setl R (Int32.ofNat h) (b h)
def hasF (R : RW) (fl : Nat → Nat → Bool) (t : Nat) (b : Nat → Int32) (h : Nat) : Int32 := bif fl t h then 0 else setH R b h
def kepF (R : RW) (fl : Nat → Nat → Bool) (t : Nat) (b : Nat → Int32) (h : Nat) : Int32 := bif fl t h then 0 else kepT R (Int32.ofNat h) (setH R b h) (rN R)
def senF (R : RW) (fl : Nat → Nat → Bool) (t : Nat) (b : Nat → Int32) (s g : Nat) : Int32 := bif fl t s then 0 else senT R (Int32.ofNat s) (setH R b s) (Int32.ofNat g) (rN R)
def nxt (R : RW) (lo : Nat → Nat → Nat → Bool) (fl : Nat → Nat → Bool) (t : Nat) (b : Nat → Int32) (h : Nat) : Int32 := kepF R fl t b h ||| orT (fun s => bif lo t s h then 0 else senF R fl t b s h) 4
def beg (R : RW) (fst : Nat → Int32) (lo : Nat → Nat → Nat → Bool) (fl : Nat → Nat → Bool) (t : Nat) : Nat → Int32 := match t with
  | 0 => fst
  | t + 1 => nxt R lo fl t (beg R fst lo fl t)
/-- blows, as numbers -/
def loB (bl : List Nat) (t s g : Nat) : Bool := !(decide (s = g)) && decide (16 * t + 4 * s + g ∈ bl)
def flB (bl : List Nat) (t h : Nat) : Bool := bl.any (fun x => decide (200 ≤ x) && (decide (x % 4 = h) && decide ((x - 200) / 4 ≤ t)))
/-- the world: rules, FIRST, END, promise -/
abbrev VW : Type := RW × (Nat → Int32) × Nat × Nat × Nat × Nat × Nat
def vR (V : VW) : RW := V.1
def vF (V : VW) : Nat → Int32 := V.2.1
def vE (V : VW) : Nat := V.2.2.1
def vA (V : VW) : Nat := V.2.2.2.1
def vP (V : VW) : Nat := V.2.2.2.2.1
def vB (V : VW) : Nat := V.2.2.2.2.2.1
def vQ (V : VW) : Nat := V.2.2.2.2.2.2
def bgB (V : VW) (bl : List Nat) (t : Nat) : Nat → Int32 := beg (vR V) (vF V) (loB bl) (flB bl) t
def hsB (V : VW) (bl : List Nat) (t h : Nat) : Int32 := hasF (vR V) (flB bl) t (bgB V bl t) h
def snB (V : VW) (bl : List Nat) (t s g : Nat) : Int32 := senF (vR V) (flB bl) t (bgB V bl t) s g
def kpB (V : VW) (bl : List Nat) (t h : Nat) : Int32 := kepF (vR V) (flB bl) t (bgB V bl t) h
def bk (V : VW) (bl : List Nat) : Bool := gb (hsB V bl (vE V) (vA V)) (vP V) && (!(gb (hsB V bl (vE V) (vB V)) (vQ V)) && !(flB bl (vE V) (vB V)))
theorem bgB_succ {V : VW} {bl : List Nat} {t h : Nat} : bgB V bl (t + 1) h = kpB V bl t h ||| orT (fun s => bif loB bl t s h then 0 else snB V bl t s h) 4 := rfl
/-- heads and targets are in range -/
def RWok (R : RW) : Prop := ∀ i, i < rN R → (∃ k, k < 8 ∧ rH R i = Int32.ofNat k) ∧ (∃ k, k < 4 ∧ rT R i = Int32.ofNat k) ∧ (∃ k, k < 8 ∧ rL R i = Int32.ofNat k)
def Sub (x y : Int32) : Prop := ∀ i, gb x i = true → gb y i = true
theorem Sub.rf {x : Int32} : Sub x x := fun _ h => h
theorem Sub.tr {x y z : Int32} (h1 : Sub x y) (h2 : Sub y z) : Sub x z := fun i h => h2 i (h1 i h)
theorem Sub.or {x y : Int32} : Sub x (x ||| y) := fun i h => by rw [gb_or, h]; rfl
theorem stp_sub {R : RW} {h l f : Int32} {i : Nat} : Sub f (stp R h l i f) := by
  unfold stp
  cases decide (rK R i = 0) && (decide (rL R i = l) && wk R i h f)
  · exact Sub.rf
  · exact Sub.or
theorem pas_sub {R : RW} {h l f : Int32} {n : Nat} : Sub f (pas R h l n f) := by
  induction n with
  | zero => exact Sub.rf
  | succ n ih => exact ih.tr stp_sub
theorem E8_one8 {x : Int32} {k : Nat} (hk : k < 8) (e : x = Int32.ofNat k) : E8 (one8 x) := by
  subst e
  exact E8.one hk
theorem stp_hi {R : RW} {h l f : Int32} {i j : Nat} (hR : RWok R) (hi : i < rN R) (hj : 8 ≤ j) : gb (stp R h l i f) j = gb f j := by
  obtain ⟨⟨k, hk, ek⟩, -⟩ := hR i hi
  unfold stp
  cases decide (rK R i = 0) && (decide (rL R i = l) && wk R i h f)
  · rfl
  · show gb (f ||| one8 (rH R i)) j = gb f j
    rw [gb_or, E8_one8 hk ek j hj, Bool.or_false]
theorem pas_hi {R : RW} {h l f : Int32} {n j : Nat} (hR : RWok R) (hn : n ≤ rN R) (hj : 8 ≤ j) : gb (pas R h l n f) j = gb f j := by
  induction n with
  | zero => rfl
  | succ n ih =>
    show gb (stp R h l n (pas R h l n f)) j = gb f j
    rw [stp_hi hR (by omega) hj, ih (by omega)]
/-! Eight rounds are enough -/
def c8 (f : Int32) (n : Nat) : Nat := match n with
  | 0 => 0
  | k + 1 => c8 f k + (gb f k).toNat
theorem c8_le {f : Int32} {n : Nat} : c8 f n ≤ n := by
  induction n with
  | zero => exact Nat.le_refl _
  | succ n ih =>
    show c8 f n + (gb f n).toNat ≤ n + 1
    cases gb f n <;> simp [Bool.toNat] <;> omega
theorem c8_mono {f g : Int32} (h : Sub f g) {n : Nat} : c8 f n ≤ c8 g n := by
  induction n with
  | zero => exact Nat.le_refl _
  | succ n ih =>
    show c8 f n + (gb f n).toNat ≤ c8 g n + (gb g n).toNat
    have h1 := h n
    cases hf : gb f n
    · simp [Bool.toNat]; omega
    · rw [h1 hf]; simp [Bool.toNat]; omega
theorem c8_lt {f g : Int32} (h : Sub f g) {n j : Nat} (hj : j < n) (h1 : gb f j = false) (h2 : gb g j = true) : c8 f n < c8 g n := by
  induction n with
  | zero => omega
  | succ n ih =>
    show c8 f n + (gb f n).toNat < c8 g n + (gb g n).toNat
    by_cases e : j = n
    · subst e
      rw [h1, h2]
      have := c8_mono h (n := j)
      simp [Bool.toNat]
      omega
    · have := ih (by omega)
      have h3 := h n
      cases hf : gb f n
      · simp [Bool.toNat]; omega
      · rw [h3 hf]; simp [Bool.toNat]; omega
theorem sub_ne {f g : Int32} (h : Sub f g) (hh : ∀ j, 8 ≤ j → gb g j = gb f j) (hne : g ≠ f) : ∃ j, j < 8 ∧ gb f j = false ∧ gb g j = true := by
  apply Classical.byContradiction
  intro hno
  apply hne
  apply gb_ext
  intro i hi
  by_cases h8 : i < 8
  · cases hf : gb f i
    · cases hg : gb g i
      · rfl
      · exact absurd ⟨i, h8, hf, hg⟩ hno
    · exact h i hf
  · exact hh i (by omega)
theorem itr_add {g : Int32 → Int32} {a b : Nat} {f : Int32} : itr g (a + b) f = itr g a (itr g b f) := by
  induction a with
  | zero => rw [Nat.zero_add]; rfl
  | succ a ih =>
    rw [show a + 1 + b = (a + b) + 1 by omega]
    show g (itr g (a + b) f) = g (itr g a (itr g b f))
    rw [ih]
theorem itr_fix {g : Int32 → Int32} {f : Int32} (h : g f = f) : ∀ k, itr g k f = f := by
  intro k
  induction k with
  | zero => rfl
  | succ k ih => show g (itr g k f) = f; rw [ih, h]
theorem itr8 {g : Int32 → Int32} (h1 : ∀ f, Sub f (g f)) (h2 : ∀ f j, 8 ≤ j → gb (g f) j = gb f j) (f : Int32) : g (itr g 8 f) = itr g 8 f := by
  have key : ∀ k, g (itr g k f) = itr g k f ∨ k + 1 ≤ c8 (itr g (k + 1) f) 8 := by
    intro k
    induction k with
    | zero =>
      by_cases e : g f = f
      · exact Or.inl e
      · obtain ⟨j, hj, a, b⟩ := sub_ne (h1 f) (h2 f) e
        have := c8_lt (h1 f) hj a b
        exact Or.inr (by show 1 ≤ c8 (g f) 8; omega)
    | succ k ih =>
      rcases ih with e | e
      · left
        show g (g (itr g k f)) = g (itr g k f)
        rw [e, e]
      · by_cases e2 : g (itr g (k + 1) f) = itr g (k + 1) f
        · exact Or.inl e2
        · obtain ⟨j, hj, a, b⟩ := sub_ne (h1 _) (h2 _) e2
          have := c8_lt (h1 (itr g (k + 1) f)) hj a b
          exact Or.inr (by show k + 1 + 1 ≤ c8 (g (itr g (k + 1) f)) 8; omega)
  rcases key 8 with e | e
  · exact e
  · have := c8_le (f := itr g (8 + 1) f) (n := 8)
    omega
/-- a round that changes nothing is the last -/
theorem itr_eq {g : Int32 → Int32} (h1 : ∀ f, Sub f (g f)) (h2 : ∀ f j, 8 ≤ j → gb (g f) j = gb f j) {f0 f : Int32} {k : Nat} (hk : f = itr g k f0) (hf : g f = f) : f = itr g 8 f0 := by
  by_cases h : k ≤ 8
  · have e : itr g 8 f0 = itr g ((8 - k) + k) f0 := by rw [show 8 - k + k = 8 by omega]
    rw [e, itr_add, ← hk, itr_fix hf]
  · have e : itr g k f0 = itr g ((k - 8) + 8) f0 := by rw [show k - 8 + 8 = k by omega]
    rw [hk, e, itr_add, itr_fix (itr8 h1 h2 f0)]
theorem pas_eq {R : RW} {h l f0 f : Int32} {k : Nat} (hR : RWok R) (hk : f = itr (pas R h l (rN R)) k f0) (hf : pas R h l (rN R) f = f) : f = clo R h l f0 := itr_eq (fun _ => pas_sub) (fun _ _ hj => pas_hi hR (Nat.le_refl _) hj) hk hf
theorem clo_hi {R : RW} {h l f : Int32} {j : Nat} (hR : RWok R) (hj : 8 ≤ j) : gb (clo R h l f) j = gb f j := by
  unfold clo
  have key : ∀ k, gb (itr (pas R h l (rN R)) k f) j = gb f j := by
    intro k
    induction k with
    | zero => rfl
    | succ k ih =>
      show gb (pas R h l (rN R) (itr (pas R h l (rN R)) k f)) j = gb f j
      rw [pas_hi hR (Nat.le_refl _) hj, ih]
  exact key 8
theorem sett_hi {R : RW} {h f : Int32} {n j : Nat} (hR : RWok R) (hj : 8 ≤ j) : gb (sett R h n f) j = gb f j := by
  induction n with
  | zero => rfl
  | succ n ih => show gb (clo R h (Int32.ofNat n) (sett R h n f)) j = gb f j; rw [clo_hi hR hj, ih]
theorem E8_setl {R : RW} {h f : Int32} (hR : RWok R) (hf : E8 f) : E8 (setl R h f) := fun j hj => by unfold setl; rw [sett_hi hR hj]; exact hf j hj
theorem E8_kepT {R : RW} {h f : Int32} (hR : RWok R) : ∀ n, n ≤ rN R → E8 (kepT R h f n) := by
  intro n
  induction n with
  | zero => intro _; exact E8.zero
  | succ n ih =>
    intro hn
    obtain ⟨⟨k, hk, ek⟩, -⟩ := hR n (by omega)
    show E8 (bif decide (rK R n = 1) && wk R n h f then kepT R h f n ||| one8 (rH R n) else kepT R h f n)
    cases decide (rK R n = 1) && wk R n h f
    · exact ih (by omega)
    · exact (ih (by omega)).or (E8_one8 hk ek)
theorem E8_senT {R : RW} {h f g : Int32} (hR : RWok R) : ∀ n, n ≤ rN R → E8 (senT R h f g n) := by
  intro n
  induction n with
  | zero => intro _; exact E8.zero
  | succ n ih =>
    intro hn
    obtain ⟨⟨k, hk, ek⟩, -⟩ := hR n (by omega)
    show E8 (bif decide (rK R n = 2) && (decide (rT R n = g) && wk R n h f) then senT R h f g n ||| one8 (rH R n) else senT R h f g n)
    cases decide (rK R n = 2) && (decide (rT R n = g) && wk R n h f)
    · exact ih (by omega)
    · exact (ih (by omega)).or (E8_one8 hk ek)
/-! Layers without a rule change nothing -/
theorem pas_id {R : RW} {h l f : Int32} (hl : ∀ i, i < rN R → rK R i = 0 → rL R i ≠ l) : ∀ n, n ≤ rN R → pas R h l n f = f := by
  intro n
  induction n with
  | zero => intro _; rfl
  | succ n ih =>
    intro hn
    show stp R h l n (pas R h l n f) = f
    rw [ih (by omega)]
    unfold stp
    by_cases e : rK R n = 0
    · rw [decide_eq_false (hl n (by omega) e), Bool.false_and, Bool.and_false]
      rfl
    · rw [decide_eq_false e, Bool.false_and]
      rfl
theorem sett_top {R : RW} {h f : Int32} {L : Nat} (hl : ∀ i, i < rN R → rK R i = 0 → ∃ k, k < L ∧ rL R i = Int32.ofNat k) : ∀ m, L + m ≤ 8 → sett R h (L + m) f = sett R h L f := by
  intro m
  induction m with
  | zero => intro _; rfl
  | succ m ih =>
    intro hm
    show clo R h (Int32.ofNat (L + m)) (sett R h (L + m) f) = _
    rw [ih (by omega)]
    unfold clo
    apply itr_fix
    refine pas_id (fun i hi e he => ?_) _ (Nat.le_refl _)
    obtain ⟨k, hk, ek⟩ := hl i hi e
    have := jn_inj (by omega) (by omega) (ek.symm.trans he)
    omega
/-! What a run depends on -/
theorem orT_c {g g' : Nat → Int32} : ∀ n, (∀ s, s < n → g s = g' s) → orT g n = orT g' n := by
  intro n
  induction n with
  | zero => intro _; rfl
  | succ n ih =>
    intro h
    show orT g n ||| g n = orT g' n ||| g' n
    rw [ih (fun s hs => h s (by omega)), h n (by omega)]
theorem setH_c {R : RW} {b b' : Nat → Int32} {h : Nat} (e : b h = b' h) : setH R b h = setH R b' h := by unfold setH; rw [e]
theorem senF_c {R : RW} {fl fl' : Nat → Nat → Bool} {t s g : Nat} {b b' : Nat → Int32} (hf : fl t s = fl' t s) (hb : b s = b' s) : senF R fl t b s g = senF R fl' t b' s g := by unfold senF; rw [hf, setH_c hb]
theorem kepF_c {R : RW} {fl fl' : Nat → Nat → Bool} {t s : Nat} {b b' : Nat → Int32} (hf : fl t s = fl' t s) (hb : b s = b' s) : kepF R fl t b s = kepF R fl' t b' s := by unfold kepF; rw [hf, setH_c hb]
theorem hasF_c {R : RW} {fl fl' : Nat → Nat → Bool} {t s : Nat} {b b' : Nat → Int32} (hf : fl t s = fl' t s) (hb : b s = b' s) : hasF R fl t b s = hasF R fl' t b' s := by unfold hasF; rw [hf, setH_c hb]
theorem nxt_c {R : RW} {lo lo' : Nat → Nat → Nat → Bool} {fl fl' : Nat → Nat → Bool} {t h : Nat} {b b' : Nat → Int32} (hb : ∀ k, k < 4 → b k = b' k) (hl : ∀ s, s < 4 → lo t s h = lo' t s h ∨ senF R fl t b s h = 0) (hf : ∀ k, k < 4 → fl t k = fl' t k) (h4 : h < 4) : nxt R lo fl t b h = nxt R lo' fl' t b' h := by
  unfold nxt
  rw [kepF_c (hf h h4) (hb h h4)]
  congr 1
  apply orT_c
  intro s hs
  have e := senF_c (R := R) (g := h) (hf s hs) (hb s hs)
  rcases hl s hs with g | g
  · rw [g, e]
  · rw [← e, g]
    cases lo t s h <;> cases lo' t s h <;> rfl
theorem beg_c {R : RW} {fst : Nat → Int32} {lo lo' : Nat → Nat → Nat → Bool} {fl fl' : Nat → Nat → Bool} : ∀ t, (∀ t', t' < t → ∀ s, s < 4 → ∀ h, h < 4 → lo t' s h = lo' t' s h ∨ senF R fl t' (beg R fst lo fl t') s h = 0) → (∀ t', t' < t → ∀ k, k < 4 → fl t' k = fl' t' k) → ∀ h, h < 4 → beg R fst lo fl t h = beg R fst lo' fl' t h := by
  intro t
  induction t with
  | zero => intro _ _ h _; rfl
  | succ t ih =>
    intro hl hf h h4
    exact nxt_c (ih (fun t' ht => hl t' (by omega)) (fun t' ht => hf t' (by omega))) (fun s hs => hl t (by omega) s hs h h4) (fun k hk => hf t (by omega) k hk) h4
/-! One blow more -/
theorem loB_cons {bl : List Nat} {x t s g : Nat} : loB (x :: bl) t s g = (loB bl t s g || (!(decide (s = g)) && decide (16 * t + 4 * s + g = x))) := by
  unfold loB
  by_cases e : s = g
  · simp [e]
  · by_cases e2 : 16 * t + 4 * s + g = x
    · simp [e, e2]
    · simp [e, e2]
theorem loB_ne {bl : List Nat} {x t s g : Nat} (h : 16 * t + 4 * s + g ≠ x) : loB (x :: bl) t s g = loB bl t s g := by
  rw [loB_cons, decide_eq_false h, Bool.and_false, Bool.or_false]
theorem flB_cons {bl : List Nat} {x t h : Nat} : flB (x :: bl) t h = ((decide (200 ≤ x) && (decide (x % 4 = h) && decide ((x - 200) / 4 ≤ t))) || flB bl t h) := rfl
theorem flB_mono {bl : List Nat} {t t' h : Nat} (ht : t ≤ t') (hf : flB bl t h = true) : flB bl t' h = true := by
  unfold flB at hf ⊢
  rw [List.any_eq_true] at hf ⊢
  obtain ⟨x, hx, hp⟩ := hf
  refine ⟨x, hx, ?_⟩
  simp only [Bool.and_eq_true, decide_eq_true_eq] at hp ⊢
  exact ⟨hp.1, hp.2.1, by omega⟩
def tkN (x : Nat) : Nat := if x < 200 then x / 16 else (x - 200) / 4
theorem loB_early {bl : List Nat} {x t s g : Nat} (hx : x < 228) (ht : t < tkN x) (hs : s < 4) (hg : g < 4) : loB (x :: bl) t s g = loB bl t s g := by
  apply loB_ne
  unfold tkN at ht
  split at ht <;> omega
theorem flB_early {bl : List Nat} {x t h : Nat} (ht : t < tkN x) : flB (x :: bl) t h = flB bl t h := by
  rw [flB_cons]
  by_cases e : 200 ≤ x
  · unfold tkN at ht
    rw [if_neg (by omega)] at ht
    rw [decide_eq_false (show ¬ (x - 200) / 4 ≤ t by omega), Bool.and_false, Bool.and_false, Bool.false_or]
  · rw [decide_eq_false e, Bool.false_and, Bool.false_or]
theorem bgB_early {V : VW} {bl : List Nat} {x t h : Nat} (hx : x < 228) (ht : t ≤ tkN x) (h4 : h < 4) : bgB V (x :: bl) t h = bgB V bl t h := by
  unfold bgB
  exact beg_c t (fun t' h' s hs g hg => Or.inl (loB_early hx (by omega) hs hg)) (fun t' h' k hk => flB_early (by omega)) h h4
theorem hsB_early {V : VW} {bl : List Nat} {x t h : Nat} (hx : x < 228) (ht : t < tkN x) (h4 : h < 4) : hsB V (x :: bl) t h = hsB V bl t h := hasF_c (flB_early ht) (bgB_early hx (by omega) h4)
theorem snB_early {V : VW} {bl : List Nat} {x t s g : Nat} (hx : x < 228) (ht : t < tkN x) (h4 : s < 4) : snB V (x :: bl) t s g = snB V bl t s g := senF_c (flB_early ht) (bgB_early hx (by omega) h4)
/-- whether a blow is felt -/
def fe (V : VW) (bl : List Nat) (x : Nat) : Bool := bif decide (x < 200) then !(decide (snB V bl (x / 16) (x / 4 % 4) (x % 4) = 0)) else !(flB bl ((x - 200) / 4) (x % 4))
theorem unfelt {V : VW} {bl : List Nat} {x : Nat} (hf : fe V bl x = false) (hE : vE V ≤ 6) (hA : vA V < 4) (hB : vB V < 4) : bk V (x :: bl) = bk V bl := by
  have key : (∀ t h, h < 4 → t ≤ 6 → flB (x :: bl) t h = flB bl t h) ∧ ∀ t, t ≤ 6 → ∀ h, h < 4 → bgB V (x :: bl) t h = bgB V bl t h := by
    by_cases hl : x < 200
    · unfold fe at hf
      rw [decide_eq_true hl, cond_true] at hf
      have h0 : snB V bl (x / 16) (x / 4 % 4) (x % 4) = 0 := by
        apply Classical.byContradiction
        intro e
        rw [decide_eq_false e] at hf
        cases hf
      have h1 : ∀ t h, flB (x :: bl) t h = flB bl t h := fun t h => by rw [flB_cons, decide_eq_false (show ¬ 200 ≤ x by omega), Bool.false_and, Bool.false_or]
      refine ⟨fun t h _ _ => h1 t h, fun t ht h h4 => ?_⟩
      unfold bgB
      refine (beg_c t (fun t' h' s hs g hg => ?_) (fun t' h' k hk => (h1 t' k).symm) h h4).symm
      by_cases e : 16 * t' + 4 * s + g = x
      · right
        obtain rfl : t' = x / 16 := by omega
        obtain rfl : s = x / 4 % 4 := by omega
        obtain rfl : g = x % 4 := by omega
        exact h0
      · exact Or.inl (loB_ne e).symm
    · unfold fe at hf
      rw [decide_eq_false hl, cond_false] at hf
      have h0 : flB bl ((x - 200) / 4) (x % 4) = true := by
        cases hb : flB bl ((x - 200) / 4) (x % 4)
        · rw [hb] at hf; cases hf
        · rfl
      have h1 : ∀ t h, flB (x :: bl) t h = flB bl t h := fun t h => by
        rw [flB_cons]
        cases hb : (decide (200 ≤ x) && (decide (x % 4 = h) && decide ((x - 200) / 4 ≤ t)))
        · rfl
        · simp only [Bool.and_eq_true, decide_eq_true_eq] at hb
          rw [← hb.2.1, flB_mono hb.2.2 h0]
          rfl
      refine ⟨fun t h _ _ => h1 t h, fun t ht h h4 => ?_⟩
      unfold bgB
      exact (beg_c t (fun t' h' s hs g hg => Or.inl (loB_ne (by omega)).symm) (fun t' h' k hk => (h1 t' k).symm) h h4).symm
  unfold bk hsB
  rw [hasF_c (key.1 _ _ hA hE) (key.2 _ hE _ hA), hasF_c (key.1 _ _ hB hE) (key.2 _ hE _ hB), key.1 _ _ hB hE]
/-- the order of blows does not matter -/
theorem bk_perm {V : VW} {bl bl' : List Nat} (h : ∀ x, x ∈ bl ↔ x ∈ bl') : bk V bl = bk V bl' := by
  have h1 : loB bl = loB bl' := by
    funext t s g
    unfold loB
    rw [decide_eq_decide.mpr (h _)]
  have h2 : flB bl = flB bl' := by
    funext t k
    unfold flB
    rw [Bool.eq_iff_iff, List.any_eq_true, List.any_eq_true]
    constructor
    · rintro ⟨x, hx, hp⟩; exact ⟨x, (h x).mp hx, hp⟩
    · rintro ⟨x, hx, hp⟩; exact ⟨x, (h x).mpr hx, hp⟩
  unfold bk hsB bgB
  rw [h1, h2]
