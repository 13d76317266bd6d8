/-! Both sides, call by call -/
section PA
variable {E : Value} {T : List SH} {M : Mem}
/-- a rule of the program and one of the reference -/
def RuleEq (M : Mem) (q i : Nat) : Prop := M q 0 = M 42 i ∧ M q 1 = M 43 i ∧ M q 2 = M 44 i ∧ M q 3 = M 45 i ∧ M q 4 = cB2 (M 45 i) (M 46 i) ∧ M q 5 = M 47 i ∧ M q 6 = M 48 i ∧ M q 7 = 1 <<< (M 45 i &&& 31) ||| 1 <<< (cB2 (M 45 i) (M 46 i) &&& 31) ∧ M q 8 = cDen (M 47 i) ∧ M q 9 = M 49 i
def RF (M : Mem) : Prop := ∀ k, k < 4 → M 50 k = byt (M 1 3) k
def RR (M : Mem) (n : Nat) (rs : Nat → Nat) : Prop := M 41 1 = Int32.ofNat n ∧ (∀ i, i < n → RuleEq M (rs i) i) ∧ ∀ f, f < 8 → M 4 f = M 51 f
def REL (M : Mem) (n : Nat) (rs : Nat → Nat) : Prop := (M 1 2 = M 41 0 ∧ M 10 0 = M 41 16 ∧ M 10 1 = M 41 17 ∧ M 10 2 = M 41 18 ∧ (mIn (M 10 0) 0 2 = true ∧ mIn (M 10 1) 0 2 = true ∧ mIn (M 10 2) 0 6 = true)) ∧ RR M n rs ∧ RF M
/-- which blows are within the bounds, which two -/
def alM (M : Mem) (a : Nat) : Bool := mWith M (Int32.ofNat a)
def boM (M : Mem) (a b : Nat) : Bool := mBo M (Int32.ofNat a) (Int32.ofNat b)
/-- what found tells -/
def FND (M : Mem) : Prop := (M 41 21 = 9 ∨ jU 2 (M 41 21)) ∧ M 0 7 = (if M 41 21 = 9 then 0 else M 41 21) ∧ M 40 0 = M 59 0 ∧ M 40 1 = M 59 1
/-- both worlds, what is learned and what is known -/
def X2 (E : Value) (T : List SH) (M : Mem) (n : Nat) (rs : Nat → Nat) (V : VW) : Prop := CX E T M n rs V ∧ MV (mup M 41 25 0) V ∧ Memo M (vR V) ∧ NSB M n rs (M 6 4) ∧ (∀ i, i < n → mIn (M 49 i) (-1) 100 = true) ∧ (¬ M 11 10 = 0 → LKD V (alM M) (boM M) M)
def INV (E : Value) (T : List SH) (M : Mem) : Prop := ∃ n rs, CI E T M n rs ∧ LQ E T n rs ∧ MI M ∧ ML M ∧ REL M n rs ∧ (∃ V, X2 E T M n rs V) ∧ FND M
def J3 (j : Nat) : Prop := j = 0 ∨ j = 1 ∨ j = 12 ∨ j = 13 ∨ j = 14 ∨ j = 15 ∨ j = 16 ∨ j = 17 ∨ j = 18 ∨ j = 21
theorem MV.cg {M M' : Mem} {V : VW} (h : MV M V) (e1 : ∀ j, J3 j → M' 41 j = M 41 j) (e25 : M' 41 25 = M 41 25) (e2 : ∀ q j, 42 ≤ q → q ≤ 51 → M' q j = M q j) : MV M' V := by
  obtain ⟨⟨a1, a2, a3, a4⟩, v2, v3, v4, v5, v6, v7, v8, v9⟩ := h
  refine ⟨⟨a1, (e1 1 (by unfold J3; omega)).trans a2, a3, fun i hi => ?_⟩, fun k hk => (e2 50 k (by omega) (by omega)).trans (v2 k hk), (e1 0 (by unfold J3; omega)).trans v3, v4, ⟨(e1 12 (by unfold J3; omega)).trans v5.1, v5.2⟩, ⟨(e1 13 (by unfold J3; omega)).trans v6.1, v6.2⟩, ⟨(e1 14 (by unfold J3; omega)).trans v7.1, v7.2⟩, (e1 15 (by unfold J3; omega)).trans v8, v9⟩
  obtain ⟨b1, b2, b3, b4, b5⟩ := a4 i hi
  rw [e2 43 i (by omega) (by omega), e2 44 i (by omega) (by omega), e2 48 i (by omega) (by omega), e2 51 _ (by omega) (by omega)]
  refine ⟨b1, b2, b3, b4, fun k f => ?_⟩
  rw [b5 k f]
  unfold mCnt mFit
  rw [e2 42 i (by omega) (by omega), e2 45 i (by omega) (by omega), e2 46 i (by omega) (by omega), e2 47 i (by omega) (by omega), e2 49 i (by omega) (by omega), e25]
theorem MV.cg0 {M M' : Mem} {V : VW} (h : MV (mup M 41 25 0) V) (e1 : ∀ j, J3 j → M' 41 j = M 41 j) (e2 : ∀ q j, 42 ≤ q → q ≤ 51 → M' q j = M q j) : MV (mup M' 41 25 0) V := by
  refine h.cg (fun j hj => ?_) rfl (fun q j a b => ?_)
  · have hne : j ≠ 25 := by unfold J3 at hj; omega
    rw [mup_j hne, mup_j hne]
    exact e1 j hj
  · rw [mup_q (by omega), mup_q (by omega)]
    exact e2 q j a b
theorem alM_c {M' : Mem} (e1 : ∀ j, J3 j → M' 41 j = M 41 j) : alM M' = alM M := by
  funext a
  unfold alM mWith mBlow mMost
  rw [e1 0 (by unfold J3; omega), e1 16 (by unfold J3; omega), e1 17 (by unfold J3; omega), e1 18 (by unfold J3; omega)]
theorem boM_c {M' : Mem} (e1 : ∀ j, J3 j → M' 41 j = M 41 j) : boM M' = boM M := by
  funext a b
  unfold boM mBo mMost
  rw [e1 16 (by unfold J3; omega), e1 17 (by unfold J3; omega)]
theorem NSB.cg {M' : Mem} {n : Nat} {rs : Nat → Nat} {x : Int32} (h : NSB M n rs x) (e : ∀ j, j < n → M' (rs j) 9 = M (rs j) 9) : NSB M' n rs x := by
  intro j hj
  rw [h j hj]
  by_cases g : j < n
  · rw [e j g]
  · rw [decide_eq_false g, Bool.false_and, Bool.false_and]
theorem LKD.cg {V : VW} {al : Nat → Bool} {bo : Nat → Nat → Bool} {M' : Mem} (h : LKD V al bo M) (e11 : ∀ j, 10 ≤ j → M' 11 j = M 11 j) (e13 : ∀ j, M' 13 j = M 13 j) : LKD V al bo M' := by
  unfold LKD
  rw [e11 11 (by omega), e11 12 (by omega), e11 13 (by omega)]
  exact ⟨h.1, fun x hx => by rw [e13]; exact h.2 x hx⟩
theorem X2.cg {n : Nat} {rs : Nat → Nat} {V : VW} {M' : Mem} (h : X2 E T M n rs V) (hX : CX E T M' n rs V) (m : Memo M' (vR V)) (e1 : ∀ j, J3 j → M' 41 j = M 41 j) (e2 : ∀ q j, 42 ≤ q → q ≤ 51 → M' q j = M q j) (e6 : M' 6 4 = M 6 4) (er : ∀ j, j < n → M' (rs j) 9 = M (rs j) 9) (hK : ¬ M' 11 10 = 0 → LKD V (alM M) (boM M) M') : X2 E T M' n rs V := by
  refine ⟨hX, h.2.1.cg0 e1 e2, m, ?_, fun i hi => ?_, fun g => ?_⟩
  · rw [e6]; exact h.2.2.2.1.cg er
  · rw [e2 49 i (by omega) (by omega)]; exact h.2.2.2.2.1 i hi
  · rw [alM_c e1, boM_c e1]; exact hK g
theorem FND.cg {M' : Mem} (h : FND M) (e1 : M' 41 21 = M 41 21) (e2 : M' 0 7 = M 0 7) (e3 : ∀ j, M' 40 j = M 40 j) (e4 : ∀ j, M' 59 j = M 59 j) : FND M' := by
  unfold FND
  rw [e1, e2, e3 0, e3 1, e4 0, e4 1]
  exact h
/-! What a rule asks, on both sides -/
theorem and_two {f : Int32} {j k : Nat} (hj : j < 32) (hk : k < 32) : decide (f &&& (1 <<< (Int32.ofNat j &&& 31) ||| 1 <<< (Int32.ofNat k &&& 31)) = 1 <<< (Int32.ofNat j &&& 31) ||| 1 <<< (Int32.ofNat k &&& 31)) = (gb f j && gb f k) := by
  rw [Bool.eq_iff_iff, decide_eq_true_eq, Bool.and_eq_true]
  constructor
  · intro e
    have h1 : ∀ i, i < 32 → gb f i = true ∨ ¬ (i = j ∨ i = k) := fun i hi => by
      by_cases g : i = j ∨ i = k
      · left
        have h2 : gb (f &&& (1 <<< (Int32.ofNat j &&& 31) ||| 1 <<< (Int32.ofNat k &&& 31))) i = gb (1 <<< (Int32.ofNat j &&& 31) ||| 1 <<< (Int32.ofNat k &&& 31)) i := by rw [e]
        rw [gb_and, gb_or, gb_one hj hi, gb_one hk hi] at h2
        rcases g with g | g
        · rw [decide_eq_true g, Bool.true_or, Bool.and_true] at h2; exact h2
        · rw [decide_eq_true g, Bool.or_true, Bool.and_true] at h2; exact h2
      · exact Or.inr g
    exact ⟨(h1 j hj).resolve_right (fun g => g (Or.inl rfl)), (h1 k hk).resolve_right (fun g => g (Or.inr rfl))⟩
  · rintro ⟨h1, h2⟩
    apply gb_ext
    intro i hi
    rw [gb_and, gb_or, gb_one hj hi, gb_one hk hi]
    by_cases g1 : i = j
    · rw [g1, h1, Bool.true_and]
    · by_cases g2 : i = k
      · rw [g2, h2, Bool.true_and]
      · rw [decide_eq_false g1, decide_eq_false g2, Bool.or_self, Bool.and_false]
theorem and_one {f : Int32} {k : Nat} (hk : k < 32) : decide (f &&& 1 <<< (Int32.ofNat k &&& 31) = 0) = !(gb f k) := by
  cases hb : gb f k
  · refine decide_eq_true ?_
    apply gb_ext
    intro i hi
    rw [gb_and, gb_one hk hi, gb_0]
    by_cases e : i = k
    · rw [e, hb, Bool.false_and]
    · rw [decide_eq_false e, Bool.and_false]
  · refine decide_eq_false (fun e => ?_)
    have h1 : gb (f &&& 1 <<< (Int32.ofNat k &&& 31)) k = false := by rw [e, gb_0]
    rw [gb_and, gb_one hk hk, hb, decide_eq_true rfl] at h1
    cases h1
theorem works_eq {q i : Nat} (hI : MI M) (hi : i < 13) (hR : RuleEq M q i) (h f : Int32) : cWorks M q h f = ((decide (M 42 i = -1) || decide (M 42 i = h)) && mFit M i f) := by
  obtain ⟨-, ⟨ka, ha, ea⟩, jb, jc, -⟩ := hI.2.2.1 i hi
  obtain ⟨r0, -, -, -, -, -, -, r7, r8, -⟩ := hR
  unfold cWorks mFit
  rw [r0, r7, r8]
  congr 1
  congr 1
  · rw [ea, bit_1 (show ka < 32 by omega)]
    rcases jb with eb | ⟨kb, hb, eb⟩
    · rw [eb, decide_eq_true rfl, Bool.true_or, Bool.and_true]
      have e2 : cB2 (Int32.ofNat ka) (-1) = Int32.ofNat ka := if_pos rfl
      rw [e2, and_two (by omega) (by omega), Bool.and_self]
    · have e2 : cB2 (Int32.ofNat ka) (Int32.ofNat kb) = Int32.ofNat kb := if_neg (nI_m1 (by omega))
      rw [eb, e2, and_two (by omega) (by omega), decide_eq_false (nI_m1 (show kb < 2147483648 by omega)), Bool.false_or, bit_1 (show kb < 32 by omega)]
  · rcases jc with ec | ⟨kc, hc, ec⟩
    · have e2 : cDen (-1) = 0 := if_pos rfl
      rw [ec, e2, decide_eq_true rfl, Bool.true_or]
      refine decide_eq_true ?_
      apply gb_ext
      intro i hi
      rw [gb_and, gb_0, Bool.and_false]
    · have e2 : cDen (Int32.ofNat kc) = 1 <<< (Int32.ofNat kc &&& 31) := if_neg (nI_m1 (by omega))
      rw [ec, e2, and_one (by omega), decide_eq_false (nI_m1 (show kc < 2147483648 by omega)), Bool.false_or, bit_0 (show kc < 32 by omega)]
/-- the rules of both sides, as such -/
def mkR (M : Mem) (n : Nat) (rs : Nat → Nat) : RW := (n, M 43, M 44, fun i => M 51 (M 44 i).toNatClampNeg, M 48, fun i h f => cWorks M (rs i) h f, fun i => gb (M 6 4) i)
theorem mkR_ok {n : Nat} {rs : Nat → Nat} (hI : MI M) (hl : ML M) (hn : n ≤ 12) : RWok (mkR M n rs) := by
  intro i hi
  have hi : i < n := hi
  obtain ⟨⟨k, hk, ek⟩, -, -, -, ht⟩ := hI.2.2.1 i (by omega)
  obtain ⟨m, l, -, -, hL, h7, -⟩ := hl
  refine ⟨⟨k, hk, ek⟩, ht, l k, by have := h7 k hk; omega, ?_⟩
  show M 51 (M 44 i).toNatClampNeg = _
  rw [ek, clampNat (by omega)]
  exact hL k hk
theorem mkR_c {n : Nat} {rs : Nat → Nat} (hI : MI M) (hl : ML M) (hn : n ≤ 12) (hR : RR M n rs) : CRW M n rs (mkR M n rs) := by
  refine ⟨rfl, mkR_ok hI hl hn, fun i hi => ?_⟩
  obtain ⟨k, hk, ek⟩ := (hI.2.2.1 i (by omega)).1
  obtain ⟨-, r1, r2, -, -, -, r6, -⟩ := hR.2.1 i hi
  refine ⟨r1.symm, r2.symm, ?_, r6.symm, fun _ _ => rfl, rfl⟩
  show M 51 (M 44 i).toNatClampNeg = M 4 (M (rs i) 2).toNatClampNeg
  rw [r2, ek, clampNat (by omega)]
  exact (hR.2.2 k hk).symm
theorem mkR_m {n : Nat} {rs : Nat → Nat} (hI : MI M) (hl : ML M) (hn : n ≤ 12) (hR : RR M n rs) (hB : NSB M n rs (M 6 4)) : MRW (mup M 41 25 0) (mkR M n rs) := by
  refine ⟨hn, hR.1, mkR_ok hI hl hn, fun i hi => ⟨rfl, rfl, rfl, rfl, fun h f => ?_⟩⟩
  have hi : i < n := hi
  have hq := hR.2.1 i hi
  show (gb (M 6 4) i && cWorks M (rs i) h f) = (mCnt (mup M 41 25 0) i h && mFit M i f)
  rw [works_eq hI (by omega) hq, hB i (by omega), decide_eq_true hi, Bool.true_and, hq.2.2.2.2.2.2.2.2.2]
  have e : mCnt (mup M 41 25 0) i h = (decide (M 49 i = -1) && (decide (M 42 i = -1) || decide (M 42 i = h))) := by
    unfold mCnt
    have e25 : mup M 41 25 0 41 25 = 0 := rfl
    have e49 : mup M 41 25 0 49 i = M 49 i := rfl
    have e42 : mup M 41 25 0 42 i = M 42 i := rfl
    rw [e25, e49, e42, bit_1 (show i < 32 by omega), gb_0, Bool.or_false]
  rw [e, Bool.and_assoc]
/-- a new world: the rules changed, all else as it was -/
theorem X2.mk {n : Nat} {rs : Nat → Nat} {V : VW} (hC : CW E T M n rs) (hI : MI M) (hl : ML M) (hR : RR M n rs) (hB : NSB M n rs (M 6 4)) (h7 : ∀ j, M 7 j = -1) (hp : ∀ i, i < n → mIn (M 49 i) (-1) 100 = true) (h10 : M 11 10 = 0) (w1 : ∀ k, k < 4 → byt (M 1 3) k = vF V k) (w2 : M 1 2 = Int32.ofNat (vE V) ∧ vE V ≤ 6) (w3 : M 1 4 = cBit (Int32.ofNat (vA V)) (Int32.ofNat (vP V)) ∧ vA V < 4 ∧ vP V < 8) (w4 : M 1 5 = Int32.ofNat (vB V) ∧ vB V < 4) (w5 : M 1 6 = cBit (Int32.ofNat (vB V)) (Int32.ofNat (vQ V)) ∧ vQ V < 8) (u1 : ∀ k, k < 4 → M 50 k = vF V k) (u2 : M 41 0 = Int32.ofNat (vE V)) (u3 : M 41 12 = Int32.ofNat (vA V)) (u4 : M 41 13 = Int32.ofNat (vP V)) (u5 : M 41 14 = Int32.ofNat (vB V)) (u6 : M 41 15 = Int32.ofNat (vQ V)) : ∃ V', X2 E T M n rs V' :=
  ⟨(mkR M n rs, vF V, vE V, vA V, vP V, vB V, vQ V), ⟨hC, mkR_c hI hl hC.2.1 hR, w1, w2, w3, w4, w5⟩, ⟨mkR_m hI hl hC.2.1 hR hB, u1, u2, w2.2, ⟨u3, w3.2.1⟩, ⟨u4, w3.2.2⟩, ⟨u5, w4.2⟩, u6, w5.2⟩, Memo.new h7, hB, hp, fun g => absurd h10 g⟩
def PairQ (mm : Nat) (ws : List Value) (A : Int32 → Int32 → Prop) : QT := fun v h' c s => c ≤ 2 ∧ s ≤ 25 ∧ ∃ x E' T' M', v = some (.int x) ∧ h' = hp (zz E' T') M' ∧ EvI 11 mm ws (zz E' T') M' (fun y M'' => INV E' T' M'' ∧ A x y)
theorem pair_of {mx mm : Nat} {vs ws : List Value} {A : Int32 → Int32 → Prop} {Q : Int32 → Mem → Prop} (e : EvI 11 mx vs (zz E T) M Q) (k : ∀ x M', Q x M' → EvI 11 mm ws (zz E T) M' (fun y M'' => INV E T M'' ∧ A x y)) : EvG 11 mx vs (hp (zz E T) M) (PairQ mm ws A) := by
  refine ev_mono e ?_
  rintro v h' c s ⟨rfl, rfl, x, M', rfl, rfl, hq⟩
  exact ⟨by omega, by omega, x, E, T, M', rfl, rfl, k x M' hq⟩
theorem evI_of {mx : Nat} {vs : List Value} {x : Int32} (e : EvP 11 mx vs (hp (zz E T) M) (.int x)) : EvI 11 mx vs (zz E T) M (fun y M' => y = x ∧ M' = M) := by
  refine ev_mono e ?_
  rintro v h' c s ⟨rfl, rfl, rfl, rfl⟩
  exact ⟨rfl, rfl, x, M, rfl, rfl, rfl, rfl⟩
/-- what a call on the program's side leaves, if it tells nothing to the other -/
theorem RR.fr {n : Nat} {rs : Nat → Nat} {M' : Mem} (hL : LR E T n rs) (h : RR M n rs) (c4 : ∀ j, M' 4 j = M 4 j) (c5 : ∀ q j, 61 ≤ q → M' q j = M q j) (m1 : M' 41 1 = M 41 1) (m2 : ∀ q j, 42 ≤ q → q ≤ 51 → M' q j = M q j) : RR M' n rs := by
  refine ⟨m1.trans h.1, fun i hi => ?_, fun f hf => ?_⟩
  · have e := fun j => c5 (rs i) j (hL.1 i hi).1
    unfold RuleEq
    rw [e 0, e 1, e 2, e 3, e 4, e 5, e 6, e 7, e 8, e 9, m2 42 i (by omega) (by omega), m2 43 i (by omega) (by omega), m2 44 i (by omega) (by omega), m2 45 i (by omega) (by omega), m2 46 i (by omega) (by omega), m2 47 i (by omega) (by omega), m2 48 i (by omega) (by omega), m2 49 i (by omega) (by omega)]
    exact h.2.1 i hi
  · rw [c4 f, m2 51 f (by omega) (by omega)]
    exact h.2.2 f hf
theorem REL.fr {n : Nat} {rs : Nat → Nat} {M' : Mem} (hL : LR E T n rs) (h : REL M n rs) (e1 : M' 1 2 = M 1 2) (e2 : ∀ j, M' 10 j = M 10 j) (e3 : ∀ j, j = 0 ∨ j = 1 ∨ j = 16 ∨ j = 17 ∨ j = 18 → M' 41 j = M 41 j) (c3 : M' 1 3 = M 1 3) (c4 : ∀ j, M' 4 j = M 4 j) (c5 : ∀ q j, 61 ≤ q → M' q j = M q j) (m2 : ∀ q j, 42 ≤ q → q ≤ 51 → M' q j = M q j) : REL M' n rs := by
  refine ⟨?_, h.2.1.fr hL c4 c5 (e3 1 (by omega)) m2, fun k hk => by rw [c3, m2 50 k (by omega) (by omega)]; exact h.2.2 k hk⟩
  · rw [e1, e2 0, e2 1, e2 2, e3 0 (by omega), e3 16 (by omega), e3 17 (by omega), e3 18 (by omega)]
    exact h.1
theorem CX.out {n : Nat} {rs : Nat → Nat} {V : VW} {M' : Mem} (h : CX E T M n rs V) (k : OutS M M') : CX E T M' n rs V := by
  refine h.fr (S := fun q _ => Nat.ble 41 q && Nat.blt q 61) (fun q j hq => k q j ?_) rfl (fun _ => rfl) rfl (fun q j hq => ?_) (fun _ => rfl)
  · apply Classical.byContradiction
    intro hn
    have h1 : Nat.ble 41 q = true := Nat.ble_eq.mpr (by omega)
    have h2 : Nat.blt q 61 = true := Nat.blt_eq.mpr (by omega)
    simp only [h1, h2, Bool.and_self] at hq
    cases hq
  · cases hb : (Nat.ble 41 q && Nat.blt q 61) with
    | false => rfl
    | true => simp only [Bool.and_eq_true, Nat.blt_eq, Nat.ble_eq] at hb; omega
theorem INV.cls {S : Nat → Nat → Bool} {M' : Mem} {n : Nat} {rs : Nat → Nat} {V : VW} (hQ : LQ E T n rs) (hm : MI M) (hl : ML M) (hr : REL M n rs) (hx : X2 E T M n rs V) (hf : FND M) (hC : CI E T M' n rs) (f : Fr S M M') (m : Memo M' (vR V)) (s1 : ∀ j, S 1 j = false) (s2 : ∀ j, S 10 j = false) (s5 : ∀ j, S 4 j = false) (s6 : S 3 2 = false) (s7 : S 6 4 = false) (s8 : ∀ j, S 13 j = false) (s9 : ∀ j, S 11 j = false) (s10 : S 0 7 = false) (s11 : ∀ j, S 40 j = false) (s3 : ∀ q j, 41 ≤ q → S q j = false) : INV E T M' := by
  have hmid := f.mid s3
  have hX : CX E T M' n rs V := hx.1.fr f s6 s5 s7 (fun q j hq => s3 q j (by omega)) s1
  refine ⟨n, rs, hC, hQ, hm.mid hmid, hl.mid hmid, hr.fr hC.1.1 (f 1 2 (s1 2)) (fun j => f 10 j (s2 j)) (fun j _ => f 41 j (s3 41 j (by omega))) (f 1 3 (s1 3)) (fun j => f 4 j (s5 j)) (fun q j hq => f q j (s3 q j (by omega))) (fun q j h1 h2 => f q j (s3 q j (by omega))), ⟨V, hx.cg hX m (fun j _ => f 41 j (s3 41 j (by omega))) (fun q j h1 h2 => f q j (s3 q j (by omega))) (f 6 4 s7) (fun j hj => f _ _ (s3 _ _ (by have := (hC.1.1.1 j hj).1; omega))) (fun g => ?_)⟩, hf.cg (f 41 21 (s3 41 21 (by omega))) (f 0 7 s10) (fun j => f 40 j (s11 j)) (fun j => f 59 j (s3 59 j (by omega)))⟩
  rw [f 11 10 (s9 10)] at g
  exact (hx.2.2.2.2.2 g).cg (fun j _ => f 11 j (s9 j)) (fun j => f 13 j (s8 j))
theorem X2.out {M' : Mem} {n : Nat} {rs : Nat → Nat} {V : VW} (h : X2 E T M n rs V) (ho : OutS M M') (e3 : ∀ j, J3 j → M' 41 j = M 41 j) (m2 : ∀ q j, 42 ≤ q → q ≤ 51 → M' q j = M q j) : X2 E T M' n rs V := by
  refine h.cg (h.1.out ho) (h.2.2.1.cg (fun j => ho 7 j (by omega)) (fun j => ho 8 j (by omega)) (fun j => ho 9 j (by omega))) e3 m2 (ho 6 4 (by omega)) (fun j hj => ho _ _ (Or.inr (h.1.1.1.1 j hj).1)) (fun g => ?_)
  rw [ho 11 10 (by omega)] at g
  exact (h.2.2.2.2.2 g).cg (fun j _ => ho 11 j (by omega)) (fun j => ho 13 j (by omega))
theorem INV.mdl {M' : Mem} (h : INV E T M) (ho : OutS M M') (hm : MI M') (hl : ML M') (e3 : ∀ j, J3 j → M' 41 j = M 41 j) (m2 : ∀ q j, 42 ≤ q → q ≤ 51 → M' q j = M q j) (e59 : ∀ j, M' 59 j = M 59 j) : INV E T M' := by
  obtain ⟨n, rs, h1, h2, -, -, h5, ⟨V, h6⟩, h7⟩ := h
  exact ⟨n, rs, h1.out ho, h2, hm, hl, h5.fr h1.1.1 (ho 1 2 (by omega)) (fun j => ho 10 j (by omega)) (fun j hj => e3 j (by unfold J3; omega)) (ho 1 3 (by omega)) (fun j => ho 4 j (by omega)) (fun q j hq => ho q j (by omega)) m2, ⟨V, h6.out ho e3 m2⟩, h7.cg (e3 21 (by unfold J3; omega)) (ho 0 7 (by omega)) (fun j => ho 40 j (by omega)) e59⟩
theorem mScB_r {q j : Nat} (h1 : 42 ≤ q) (h2 : q ≤ 51) : mScB q j = false := by
  have e : Nat.beq q 41 = false := by
    cases hb : Nat.beq q 41 with
    | false => rfl
    | true => have := Nat.eq_of_beq_eq_true hb; omega
  have e2 : (Nat.blt 52 q && Nat.blt q 61) = false := by
    cases hb : (Nat.blt 52 q && Nat.blt q 61) with
    | false => rfl
    | true => simp only [Bool.and_eq_true, Nat.blt_eq] at hb; omega
  simp only [mScB, e2, e, Bool.false_and, Bool.or_self]
theorem mScr_r {q j : Nat} (h1 : 42 ≤ q) (h2 : q ≤ 51) : mScr q j = false := by
  cases hm : mScr q j with
  | false => rfl
  | true => have := mScB_of hm; rw [mScB_r h1 h2] at this; cases this
theorem mHd_r {q j : Nat} (h1 : 42 ≤ q) (h2 : q ≤ 51) : mHd q j = false := by
  have e : ∀ k, q ≠ k → Nat.beq q k = false := fun k hk => by
    cases hb : Nat.beq q k with
    | false => rfl
    | true => exact absurd (Nat.eq_of_beq_eq_true hb) hk
  simp only [mHd, mScr_r h1 h2, e 41 (by omega), e 52 (by omega), Bool.false_and, Bool.or_self]
theorem mSk_r {q j : Nat} (h1 : 42 ≤ q) (h2 : q ≤ 51) : mSk q j = false := by
  have e : ∀ k, q ≠ k → Nat.beq q k = false := fun k hk => by
    cases hb : Nat.beq q k with
    | false => rfl
    | true => exact absurd (Nat.eq_of_beq_eq_true hb) hk
  simp only [mSk, mScB_r h1 h2, e 41 (by omega), Bool.false_and, Bool.or_self]
theorem J3.sc {j : Nat} (h : J3 j) : mScB 41 j = false := by
  unfold J3 at h
  rcases h with rfl | rfl | rfl | rfl | rfl | rfl | rfl | rfl | rfl | rfl <;> rfl
theorem INV.keepC {M' : Mem} (h : INV E T M) (k : mKeepC M M') : INV E T M' := by
  obtain ⟨n, rs, h1, h2, h3, h4, h5, h6, h7⟩ := id h
  exact h.mdl k.toB.out (h3.keepB k.toB) (h4.keepB k.toB) (fun j hj => k.toB 41 j hj.sc) (fun q j a b => k.toB q j (mScB_r a b)) (fun j => k 59 j rfl)
theorem CI.hand {n : Nat} {rs : Nat → Nat} {M' : Mem} (h : CI E T M n rs) (f : Fr cHd M M') (hH : HandOK M') : CI E T M' n rs := by
  refine ⟨h.1.fr f rfl rfl rfl (fun q j hq => cHd_hi hq), hH, ?_, ?_⟩
  · rw [f 0 7 rfl]; exact h.2.2.1
  · rw [f 11 11 rfl]; exact h.2.2.2
theorem INV.handM {M' : Mem} (h : INV E T M) (hm : MI M') (f : Fr mHd M M') : INV E T M' := by
  obtain ⟨n, rs, h1, h2, h3, h4, h5, h6, h7⟩ := id h
  refine h.mdl (f.out (fun q j hq => mHd_o hq)) hm (h4.fr f (fun q j hq => ?_)) (fun j hj => f 41 j (by unfold J3 at hj; rcases hj with rfl | rfl | rfl | rfl | rfl | rfl | rfl | rfl | rfl | rfl <;> rfl)) (fun q j a b => f q j (mHd_r a b)) (fun j => f 59 j rfl)
  unfold mLd at hq
  simp only [Bool.or_eq_true, Bool.and_eq_true, Nat.blt_eq, Nat.beq_eq] at hq
  rcases hq with ⟨a1, a2⟩ | rfl | ⟨rfl, rfl⟩
  · exact mHd_r (by omega) (by omega)
  · rfl
  · rfl
theorem kH_B {q j : Nat} (h : kH q j = true) : cB q j = true := by
  unfold kH at h
  rw [Bool.or_eq_true] at h
  rcases h with h | h
  · exact cB_of h
  · unfold cB
    rw [h]
    simp
theorem kJ_H {q j : Nat} (h : kJ q j = true) : cHd q j = true := by
  unfold kJ at h
  rw [Bool.or_eq_true] at h
  rcases h with h | h
  · exact cHd_of (kH_B h)
  · unfold cHd
    rw [h, Bool.or_true]
theorem kZ_H {q j : Nat} (h : kZ q j = true) : cHd q j = true := by
  unfold kZ at h
  simp only [Bool.or_eq_true, Bool.and_eq_true] at h
  unfold cHd cB
  simp only [Bool.or_eq_true, Bool.and_eq_true]
  rcases h with h | ⟨h1, h | h⟩
  · exact Or.inr (Or.inl h)
  · exact Or.inr (Or.inr ⟨h1, h⟩)
  · exact Or.inl (Or.inr (Or.inr (Or.inr (Or.inr (Or.inr (Or.inr (Or.inr ⟨h1, h⟩)))))))
theorem beq_lo {q k : Nat} (h : 41 ≤ q) (hk : k < 41) : Nat.beq q k = false := by
  cases hb : Nat.beq q k with
  | false => rfl
  | true => have := Nat.eq_of_beq_eq_true hb; omega
theorem kH_m {q j : Nat} (h : 41 ≤ q) : kH q j = false := by simp only [kH, cSc_m h, beq_lo h (show 0 < 41 by omega), Bool.false_and, Bool.or_self]
theorem kJ_m {q j : Nat} (h : 41 ≤ q) : kJ q j = false := by simp only [kJ, kH_m h, beq_lo h (show 0 < 41 by omega), beq_lo h (show 39 < 41 by omega), Bool.false_and, Bool.or_self]
theorem kZ_m {q j : Nat} (h : 41 ≤ q) : kZ q j = false := by simp only [kZ, beq_lo h (show 0 < 41 by omega), beq_lo h (show 39 < 41 by omega), Bool.false_and, Bool.or_self]
theorem INV.lk {M' : Mem} {n : Nat} {rs : Nat → Nat} {V : VW} (h1 : CI E T M n rs) (h2 : LQ E T n rs) (h3 : MI M) (h4 : ML M) (h5 : REL M n rs) (h6 : X2 E T M n rs V) (h7 : FND M) (f : Fr kH M M') (m : Memo M' (vR V)) : INV E T M' := INV.cls h2 h3 h4 h5 h6 h7 (h1.fr (f.mono (fun _ _ => kH_B))) f m (fun _ => rfl) (fun _ => rfl) (fun _ => rfl) rfl rfl (fun _ => rfl) (fun _ => rfl) rfl (fun _ => rfl) (fun q j hq => kH_m hq)
-- calls that only look
theorem pair_facts {a b : Int32} (h : INV E T M) : EvG 11 miX8_facts [.ref 0, .int a, .int b] (hp (zz E T) M) (PairQ miX9_facts [.ref 41, .int a, .int b] (fun _ _ => True)) := by
  obtain ⟨n, rs, h1, h2, h3, h4, h5, ⟨V, h6⟩, h7⟩ := id h
  refine pair_of (sd_facts h6.1 h6.2.2.1 h1.2.1) (fun x M' f => ?_)
  have hI : INV E T M' := INV.lk h1 h2 h3 h4 h5 h6 h7 f.1 f.2
  exact evI_mono (sp_factsM hI.choose_spec.choose_spec.2.2.1) (fun y M'' k => ⟨hI.keepC k.toC, trivial⟩)
theorem pair_letters {a b c : Int32} (h : INV E T M) : EvG 11 miX8_letters [.ref 0, .int a, .int b, .int c] (hp (zz E T) M) (PairQ miX9_letters [.ref 41, .int a, .int b, .int c] (fun _ _ => True)) := by
  obtain ⟨n, rs, h1, h2, h3, h4, h5, ⟨V, h6⟩, h7⟩ := id h
  refine pair_of (sd_letters h6.1 h6.2.2.1 h1.2.1) (fun x M' f => ?_)
  have hI : INV E T M' := INV.lk h1 h2 h3 h4 h5 h6 h7 f.1 f.2
  exact evI_mono (sp_lettersM hI.choose_spec.choose_spec.2.2.1) (fun y M'' k => ⟨hI.keepC k.toC, trivial⟩)
theorem pair_broken (h : INV E T M) : EvG 11 miX8_broken [.ref 0] (hp (zz E T) M) (PairQ miX9_broken [.ref 41] (fun _ _ => True)) := by
  obtain ⟨n, rs, h1, h2, h3, h4, h5, ⟨V, h6⟩, h7⟩ := id h
  refine pair_of (sd_broken h6.1 h6.2.2.1 h1.2.1) (fun x M' f => ?_)
  have hI : INV E T M' := INV.lk h1 h2 h3 h4 h5 h6 h7 f.1 f.2
  exact evI_mono (sp_brokenM hI.choose_spec.choose_spec.2.2.1) (fun y M'' k => ⟨hI.keepC k.toC, trivial⟩)
theorem pair_why {a b c : Int32} (h : INV E T M) : EvG 11 miX8_why [.ref 0, .int a, .int b, .int c] (hp (zz E T) M) (PairQ miX9_why [.ref 41, .int a, .int b, .int c] (fun _ _ => True)) := by
  obtain ⟨n, rs, h1, h2, h3, h4, h5, ⟨V, h6⟩, h7⟩ := id h
  refine pair_of (sd_why h6.1 h6.2.2.1 h1.2.1) (fun x M' f => ?_)
  have hI : INV E T M' := INV.lk h1 h2 h3 h4 h5 h6 h7 f.1 f.2
  exact evI_mono (sp_whyM hI.choose_spec.choose_spec.2.2.1) (fun y M'' k => ⟨hI.keepC k.toC, trivial⟩)
theorem cIs_nI {k n : Nat} (hk : k < n) (hn : n < 2147483648) : cIs (Int32.ofNat n) (Int32.ofNat k) = true := by
  have h1 : decide ((0 : Int32) ≤ Int32.ofNat k) = true := dT ((jn_le (a := 0) (by omega) (by omega)).mpr (by omega))
  have h2 : decide (Int32.ofNat k < Int32.ofNat n) = true := dT ((jn_lt (by omega) hn).mpr hk)
  unfold cIs
  rw [h1, h2]
  rfl
theorem eH4 (x : Int32) : cIs 4 x = mHost x := by
  unfold cIs mHost mIn
  congr 1
  rw [decide_eq_decide, Int32.lt_iff_toInt_lt, Int32.le_iff_toInt_le, show (4 : Int32).toInt = 4 from rfl, show (3 : Int32).toInt = 3 from rfl]
  omega
theorem eF8 (x : Int32) : cIs 8 x = mFact x := by
  unfold cIs mFact mIn
  congr 1
  rw [decide_eq_decide, Int32.lt_iff_toInt_lt, Int32.le_iff_toInt_le, show (8 : Int32).toInt = 8 from rfl, show (7 : Int32).toInt = 7 from rfl]
  omega
theorem pair_layer {a : Int32} (h : INV E T M) : EvG 11 miX8_layer [.ref 0, .int a] (hp (zz E T) M) (PairQ miX9_layer [.ref 41, .int a] (fun x y => x = y)) := by
  obtain ⟨n, rs, h1, h2, h3, h4, h5, ⟨V, h6⟩, h7⟩ := id h
  refine pair_of sc_layer (fun x M' f => ?_)
  obtain ⟨rfl, hx⟩ := f
  refine evI_mono sp_layerM (fun y M'' k => ?_)
  obtain ⟨rfl, hy⟩ := k
  refine ⟨h, ?_⟩
  rcases hx with ⟨g, rfl⟩ | ⟨k, hk, rfl, rfl⟩
  · rcases hy with ⟨-, rfl⟩ | ⟨k, hk, rfl, -⟩
    · rfl
    · rw [eF8] at g
      exfalso
      have : mFact (Int32.ofNat k) = true := (eF8 _).symm.trans (cIs_nI (n := 8) hk (by omega))
      rw [this] at g
      cases g
  · rcases hy with ⟨g, rfl⟩ | ⟨k2, hk2, e, rfl⟩
    · exfalso
      have : mFact (Int32.ofNat k) = true := (eF8 _).symm.trans (cIs_nI (n := 8) hk (by omega))
      rw [this] at g
      cases g
    · have := jn_inj (by omega) (by omega) e
      subst this
      exact h5.2.1.2.2 k hk
theorem pair_count {a : Int32} (h : INV E T M) : EvG 11 miX8_count [.ref 0, .int a] (hp (zz E T) M) (PairQ miX9_count [.ref 41, .int a] (fun _ _ => True)) := by
  obtain ⟨n, rs, h1, h2, h3, h4, h5, ⟨V, h6⟩, h7⟩ := id h
  refine pair_of (sc_count h1.1) (fun x M' f => ?_)
  subst f
  exact evI_mono (sp_countM h3) (fun y M'' k => ⟨by rw [k]; exact h, trivial⟩)
theorem pair_hand {a : Int32} (h : INV E T M) : EvG 11 miX8_hand [.ref 0, .int a] (hp (zz E T) M) (PairQ miX9_hand [.ref 41, .int a] (fun _ _ => True)) := by
  obtain ⟨n, rs, h1, h2, h3, h4, h5, ⟨V, h6⟩, h7⟩ := id h
  refine pair_of (sc_hand h1.2.1) (fun x M' f => ?_)
  subst f
  exact evI_mono (sp_handM h3) (fun y M'' k => ⟨by rw [k]; exact h, trivial⟩)
-- the hand
theorem INV.hj {S : Nat → Nat → Bool} {M' : Mem} {n : Nat} {rs : Nat → Nat} {V : VW} (h1 : CI E T M n rs) (h2 : LQ E T n rs) (h3 : MI M) (h4 : ML M) (h5 : REL M n rs) (h6 : X2 E T M n rs V) (h7 : FND M) (f : Fr kJ M M') (m : Memo M' (vR V)) (hH : HandOK M') : INV E T M' := INV.cls h2 h3 h4 h5 h6 h7 (h1.hand (f.mono (fun _ _ => kJ_H)) hH) f m (fun _ => rfl) (fun _ => rfl) (fun _ => rfl) rfl rfl (fun _ => rfl) (fun _ => rfl) rfl (fun _ => rfl) (fun q j hq => kJ_m hq)
theorem INV.hz {M' : Mem} {n : Nat} {rs : Nat → Nat} {V : VW} (h1 : CI E T M n rs) (h2 : LQ E T n rs) (h3 : MI M) (h4 : ML M) (h5 : REL M n rs) (h6 : X2 E T M n rs V) (h7 : FND M) (f : Fr kZ M M') (hH : HandOK M') : INV E T M' := INV.cls h2 h3 h4 h5 h6 h7 (h1.hand (f.mono (fun _ _ => kZ_H)) hH) f (h6.2.2.1.cg (fun j => f 7 j rfl) (fun j => f 8 j rfl) (fun j => f 9 j rfl)) (fun _ => rfl) (fun _ => rfl) (fun _ => rfl) rfl rfl (fun _ => rfl) (fun _ => rfl) rfl (fun _ => rfl) (fun q j hq => kZ_m hq)
theorem pair_blow {a : Int32} (h : INV E T M) : EvG 11 miX8_blow [.ref 0, .int a] (hp (zz E T) M) (PairQ miX9_blow [.ref 41, .int a] (fun _ _ => True)) := by
  obtain ⟨n, rs, h1, h2, h3, h4, h5, ⟨V, h6⟩, h7⟩ := id h
  refine pair_of (sd_blow h1.2.1) (fun x M' f => ?_)
  have hI : INV E T M' := INV.hz h1 h2 h3 h4 h5 h6 h7 f.1 f.2
  exact evI_mono (sp_blowM hI.choose_spec.choose_spec.2.2.1) (fun y M'' k => ⟨hI.handM k.1 k.2, trivial⟩)
theorem pair_shrink (h : INV E T M) : EvG 11 miX8_shrink [.ref 0] (hp (zz E T) M) (PairQ miX9_shrink [.ref 41] (fun _ _ => True)) := by
  obtain ⟨n, rs, h1, h2, h3, h4, h5, ⟨V, h6⟩, h7⟩ := id h
  refine pair_of (sd_shrink h6.1 h6.2.2.1 h1.2.1) (fun x M' f => ?_)
  have hI : INV E T M' := INV.hj (S := kJ) h1 h2 h3 h4 h5 h6 h7 f.1 f.2.1 f.2.2
  exact evI_mono (sp_shrinkM hI.choose_spec.choose_spec.2.2.1) (fun y M'' k => ⟨hI.handM k.1 k.2, trivial⟩)
theorem pair_clear (h : INV E T M) : EvG 11 miX8_clear [.ref 0] (hp (zz E T) M) (PairQ miX9_clear [.ref 41] (fun _ _ => True)) := by
  obtain ⟨n, rs, h1, h2, h3, h4, h5, ⟨V, h6⟩, h7⟩ := id h
  refine pair_of sd_clear (fun x M' f => ?_)
  have hI : INV E T M' := INV.hz h1 h2 h3 h4 h5 h6 h7 f.1 f.2
  refine evI_mono sp_clearM (fun y M'' k => ⟨?_, trivial⟩)
  subst k
  have hm := hI.choose_spec.choose_spec.2.2.1
  have f1 : Fr mHd M' (mup M' 41 19 0) := Fr.rf.up rfl
  exact hI.handM (MI.hand (k := 0) hm f1 (by omega) rfl (fun j hj => hm.2.2.2.2.2.2.2.1 j hj)) f1
-- the world
/-- cells that a call may write that changes the world but no rule -/
def kV (q j : Nat) : Bool := Nat.beq q 0 || (Nat.beq q 1 || (Nat.beq q 10 || (Nat.beq q 11 || (Nat.beq q 50 || (Nat.beq q 41 && !(Nat.beq j 1))))))
theorem kV_no {q j : Nat} (h0 : q ≠ 0) (h1 : q ≠ 1) (h2 : q ≠ 10) (h3 : q ≠ 11) (h4 : q ≠ 50) (h5 : q ≠ 41) : kV q j = false := by
  have e : ∀ k, q ≠ k → Nat.beq q k = false := fun k hk => by
    cases hb : Nat.beq q k with
    | false => rfl
    | true => exact absurd (Nat.eq_of_beq_eq_true hb) hk
  simp only [kV, e 0 h0, e 1 h1, e 10 h2, e 11 h3, e 50 h4, e 41 h5, Bool.false_and, Bool.or_self]
theorem MRW.cg {M M' : Mem} {R : RW} (h : MRW M R) (e1 : M' 41 1 = M 41 1) (e25 : M' 41 25 = M 41 25) (e2 : ∀ q j, 42 ≤ q → q ≤ 51 → q ≠ 50 → M' q j = M q j) : MRW M' R := by
  obtain ⟨a1, a2, a3, a4⟩ := h
  refine ⟨a1, e1.trans a2, a3, fun i hi => ?_⟩
  obtain ⟨b1, b2, b3, b4, b5⟩ := a4 i hi
  rw [e2 43 i (by omega) (by omega) (by omega), e2 44 i (by omega) (by omega) (by omega), e2 48 i (by omega) (by omega) (by omega), e2 51 _ (by omega) (by omega) (by omega)]
  refine ⟨b1, b2, b3, b4, fun k f => ?_⟩
  rw [b5 k f]
  unfold mCnt mFit
  rw [e2 42 i (by omega) (by omega) (by omega), e2 45 i (by omega) (by omega) (by omega), e2 46 i (by omega) (by omega) (by omega), e2 47 i (by omega) (by omega) (by omega), e2 49 i (by omega) (by omega) (by omega), e25]
theorem INV.w {n : Nat} {rs : Nat → Nat} {V : VW} {M' : Mem} {F : Nat → Int32} {e a p b q : Nat} (h2 : LQ E T n rs) (h4 : ML M) (h6 : X2 E T M n rs V) (hC : CI E T M' n rs) (hI : MI M') (f : Fr kV M M') (hr : REL M' n rs) (hf : FND M') (h10 : M' 11 10 = 0) (w1 : ∀ k, k < 4 → byt (M' 1 3) k = F k) (w2 : M' 1 2 = Int32.ofNat e ∧ e ≤ 6) (w3 : M' 1 4 = cBit (Int32.ofNat a) (Int32.ofNat p) ∧ a < 4 ∧ p < 8) (w4 : M' 1 5 = Int32.ofNat b ∧ b < 4) (w5 : M' 1 6 = cBit (Int32.ofNat b) (Int32.ofNat q) ∧ q < 8) (u1 : ∀ k, k < 4 → M' 50 k = F k) (u2 : M' 41 0 = Int32.ofNat e) (u3 : M' 41 12 = Int32.ofNat a) (u4 : M' 41 13 = Int32.ofNat p) (u5 : M' 41 14 = Int32.ofNat b) (u6 : M' 41 15 = Int32.ofNat q) : INV E T M' := by
  have hi : ∀ q j, 61 ≤ q → M' q j = M q j := fun q j hq => f q j (kV_no (by omega) (by omega) (by omega) (by omega) (by omega) (by omega))
  have hm : ∀ q j, 42 ≤ q → q ≤ 51 → q ≠ 50 → M' q j = M q j := fun q j q1 q2 q3 => f q j (kV_no (by omega) (by omega) (by omega) (by omega) q3 (by omega))
  have hl : ML M' := h4.congr (fun q j hq => by
    unfold mLd at hq
    simp only [Bool.or_eq_true, Bool.and_eq_true, Nat.blt_eq, Nat.beq_eq] at hq
    rcases hq with ⟨a1, a2⟩ | rfl | ⟨rfl, rfl⟩
    · exact hm q j (by omega) (by omega) (by omega)
    · exact f 51 j rfl
    · exact f 41 1 rfl)
  refine ⟨n, rs, hC, h2, hI, hl, hr, ⟨(vR V, F, e, a, p, b, q), ⟨hC.1, h6.1.2.1.fr hC.1.1 f (fun _ => rfl) rfl (fun q j hq => kV_no (by omega) (by omega) (by omega) (by omega) (by omega) (by omega)), w1, w2, w3, w4, w5⟩, ⟨h6.2.1.1.cg ?_ rfl (fun q j q1 q2 q3 => ?_), u1, u2, w2.2, ⟨u3, w3.2.1⟩, ⟨u4, w3.2.2⟩, ⟨u5, w4.2⟩, u6, w5.2⟩, h6.2.2.1.cg (fun j => f 7 j rfl) (fun j => f 8 j rfl) (fun j => f 9 j rfl), ?_, fun i hi => ?_, fun g => absurd h10 g⟩, hf⟩
  · show M' 41 1 = M 41 1
    exact f 41 1 rfl
  · rw [mup_q (by omega), mup_q (by omega)]
    exact hm q j q1 q2 q3
  · rw [f 6 4 rfl]
    exact h6.2.2.2.1.cg (fun j hj => hi _ _ (hC.1.1.1 j hj).1)
  · rw [f 49 i rfl]
    exact h6.2.2.2.2.1 i hi
theorem pair_promise {a p b q : Int32} (h : INV E T M) : EvG 11 miX8_promise [.ref 0, .int a, .int p, .int b, .int q] (hp (zz E T) M) (PairQ miX9_promise [.ref 41, .int a, .int p, .int b, .int q] (fun x y => x = y)) := by
  obtain ⟨n, rs, h1, h2, h3, h4, h5, ⟨V, h6⟩, h7⟩ := id h
  have eP : cProm a p b q = mProm a p b q := by unfold cProm mProm; rw [eH4, eF8, eH4, eF8]
  refine pair_of sc_promise (fun x M' f => ?_)
  rcases f with ⟨g, rfl, rfl⟩ | ⟨g, rfl, rfl⟩
  · refine evI_mono sp_promiseM (fun y M'' k => ?_)
    rcases k with ⟨-, rfl, rfl⟩ | ⟨g2, -, -⟩
    · exact ⟨h, rfl⟩
    · rw [eP, g2] at g; cases g
  · refine evI_mono sp_promiseM (fun y M'' k => ?_)
    rcases k with ⟨g2, -, -⟩ | ⟨-, rfl, rfl⟩
    · rw [← eP, g] at g2; cases g2
    · refine ⟨?_, rfl⟩
      unfold cProm at g
      simp only [Bool.and_eq_true] at g
      obtain ⟨na, ha, rfl⟩ := cIs_H g.1
      obtain ⟨np, hp8, rfl⟩ := cIs_F g.2.1
      obtain ⟨nb, hb, rfl⟩ := cIs_H g.2.2.1
      obtain ⟨nq, hq8, rfl⟩ := cIs_F g.2.2.2
      obtain ⟨A, hA⟩ : ∃ A, A = mup (mup (mup (mup (cPromM M (Int32.ofNat na) (Int32.ofNat np) (Int32.ofNat nb) (Int32.ofNat nq)) 41 12 (Int32.ofNat na)) 41 13 (Int32.ofNat np)) 41 14 (Int32.ofNat nb)) 41 15 (Int32.ofNat nq) := ⟨_, rfl⟩
      rw [← hA]
      have f1 : Fr kV M A := by rw [hA]; exact (((((((Fr.rf.up rfl).up rfl).up rfl).up rfl).up rfl).up rfl).up rfl).up rfl
      have o : ∀ q j, q ≠ 1 → q ≠ 11 → q ≠ 41 → A q j = M q j := fun q j q1 q2 q3 => by
        rw [hA, mup_q q3, mup_q q3, mup_q q3, mup_q q3]
        unfold cPromM
        rw [mup_q q2, mup_q q1, mup_q q1, mup_q q1]
      have e2 : A 1 2 = M 1 2 := by rw [hA]; rfl
      have e3 : A 1 3 = M 1 3 := by rw [hA]; rfl
      have m : ∀ j, j ≠ 12 → j ≠ 13 → j ≠ 14 → j ≠ 15 → A 41 j = M 41 j := fun j j1 j2 j3 j4 => by
        rw [hA, mup_j j4, mup_j j3, mup_j j2, mup_j j1]
        unfold cPromM
        rw [mup_q (by omega), mup_q (by omega), mup_q (by omega), mup_q (by omega)]
      have hL := h1.1.1
      have hC : CI E T A n rs := by
        obtain ⟨⟨c1, c2, c3, c4, c5, c6⟩, ⟨c, g1, g2, g3⟩, g4, g5⟩ := h1
        refine ⟨⟨c1, c2, ?_, fun i hi => ?_, ?_, ?_⟩, ⟨c, g1, ?_, fun j hj => ?_⟩, ?_, ?_⟩
        · rw [o 3 2 (by omega) (by omega) (by omega)]; exact c3
        · have := (c1.1 i hi).1
          rw [o _ _ (by omega) (by omega) (by omega), o _ _ (by omega) (by omega) (by omega), o _ _ (by omega) (by omega) (by omega), o _ _ (by omega) (by omega) (by omega), o _ _ (by omega) (by omega) (by omega)]
          exact c4 i hi
        · rw [e2]; exact c5
        · exact ⟨nb, hb, by rw [hA]; rfl⟩
        · rw [o 0 6 (by omega) (by omega) (by omega)]; exact g2
        · rw [e2, o 39 j (by omega) (by omega) (by omega)]; exact g3 j hj
        · rw [o 0 7 (by omega) (by omega) (by omega)]; exact g4
        · have : A 11 11 = M 11 11 := by rw [hA]; rfl
          rw [this]; exact g5
      have hI : MI A := by
        obtain ⟨m1, m2, m3, m4, m5, m6, m7, m8, m9⟩ := h3
        refine ⟨?_, ?_, fun r hr => ?_, fun k hk => ?_, ⟨na, ha, by rw [hA]; rfl⟩, ⟨nb, hb, by rw [hA]; rfl⟩, ?_, fun j hj => ?_, ?_⟩
        · rw [m 0 (by omega) (by omega) (by omega) (by omega)]; exact m1
        · rw [m 1 (by omega) (by omega) (by omega) (by omega)]; exact m2
        · rw [o 44 r (by omega) (by omega) (by omega), o 45 r (by omega) (by omega) (by omega), o 46 r (by omega) (by omega) (by omega), o 47 r (by omega) (by omega) (by omega), o 48 r (by omega) (by omega) (by omega)]; exact m3 r hr
        · rw [o 51 k (by omega) (by omega) (by omega)]; exact m4 k hk
        · rw [m 19 (by omega) (by omega) (by omega) (by omega)]; exact m7
        · rw [o 52 j (by omega) (by omega) (by omega)]; exact m8 j hj
        · rw [m 21 (by omega) (by omega) (by omega) (by omega)]; exact m9
      have hr : REL A n rs := h5.fr hL e2 (fun j => o 10 j (by omega) (by omega) (by omega)) (fun j hj => m j (by omega) (by omega) (by omega) (by omega)) e3 (fun j => o 4 j (by omega) (by omega) (by omega)) (fun q j hq => o q j (by omega) (by omega) (by omega)) (fun q j q1 q2 => o q j (by omega) (by omega) (by omega))
      have hf : FND A := h7.cg (m 21 (by omega) (by omega) (by omega) (by omega)) (o 0 7 (by omega) (by omega) (by omega)) (fun j => o 40 j (by omega) (by omega) (by omega)) (fun j => o 59 j (by omega) (by omega) (by omega))
      refine INV.w (F := vF V) (e := vE V) (a := na) (p := np) (b := nb) (q := nq) h2 h4 h6 hC hI f1 hr hf (by rw [hA]; rfl) (fun k hk => by rw [e3]; exact h6.1.2.2.1 k hk) (by rw [e2]; exact h6.1.2.2.2.1) ⟨by rw [hA]; rfl, ha, hp8⟩ ⟨by rw [hA]; rfl, hb⟩ ⟨by rw [hA]; rfl, hq8⟩ (fun k hk => ?_) ?_ (by rw [hA]; rfl) (by rw [hA]; rfl) (by rw [hA]; rfl) (by rw [hA]; rfl)
      · rw [o 50 k (by omega) (by omega) (by omega)]; exact h6.2.1.2.1 k hk
      · rw [m 0 (by omega) (by omega) (by omega) (by omega)]; exact h6.2.1.2.2.1
end PA
