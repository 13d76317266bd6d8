/-! Both sides, call by call -/
section PA
variable {E : Value} {T : List SH} {M : Mem}
/-- a rule of the program and one of the reference -/
def RuleEq (M : Mem) (q i : Nat) : Prop := M q 0 = M 42 i ∧ M q 1 = M 43 i ∧ M q 2 = M 44 i ∧ M q 3 = M 45 i ∧ M q 4 = cB2 (M 45 i) (M 46 i) ∧ M q 5 = M 47 i ∧ M q 6 = M 48 i ∧ M q 7 = 1 <<< (M 45 i &&& 31) ||| 1 <<< (cB2 (M 45 i) (M 46 i) &&& 31) ∧ M q 8 = cDen (M 47 i) ∧ M q 9 = M 49 i
/-- the facts of a host: eight bits -/
def byt (v : Int32) (k : Nat) : Int32 := v >>> (8 * Int32.ofNat k &&& 31) &&& 255
def RF (M : Mem) : Prop := ∀ k, k < 4 → M 50 k = byt (M 1 3) k
def RR (M : Mem) (n : Nat) (rs : Nat → Nat) : Prop := M 41 1 = Int32.ofNat n ∧ (∀ i, i < n → RuleEq M (rs i) i) ∧ ∀ f, f < 8 → M 4 f = M 51 f
def REL (M : Mem) (n : Nat) (rs : Nat → Nat) : Prop := (M 1 2 = M 41 0 ∧ M 10 0 = M 41 16 ∧ M 10 1 = M 41 17 ∧ M 10 2 = M 41 18 ∧ (mIn (M 10 0) 0 2 = true ∧ mIn (M 10 1) 0 2 = true ∧ mIn (M 10 2) 0 6 = true)) ∧ RR M n rs ∧ RF M
def INV (E : Value) (T : List SH) (M : Mem) : Prop := ∃ n rs, CI E T M n rs ∧ LQ E T n rs ∧ MI M ∧ ML M ∧ REL M n rs
def PairQ (mm : Nat) (ws : List Value) (A : Int32 → Int32 → Prop) : QT := fun v h' c s => c ≤ 2 ∧ s ≤ 25 ∧ ∃ x E' T' M', v = some (.int x) ∧ h' = hp (zz E' T') M' ∧ EvI 11 mm ws (zz E' T') M' (fun y M'' => INV E' T' M'' ∧ A x y)
theorem pair_of {mx mm : Nat} {vs ws : List Value} {A : Int32 → Int32 → Prop} {Q : Int32 → Mem → Prop} (e : EvI 11 mx vs (zz E T) M Q) (k : ∀ x M', Q x M' → EvI 11 mm ws (zz E T) M' (fun y M'' => INV E T M'' ∧ A x y)) : EvG 11 mx vs (hp (zz E T) M) (PairQ mm ws A) := by
  refine ev_mono e ?_
  rintro v h' c s ⟨rfl, rfl, x, M', rfl, rfl, hq⟩
  exact ⟨by omega, by omega, x, E, T, M', rfl, rfl, k x M' hq⟩
theorem evI_of {mx : Nat} {vs : List Value} {x : Int32} (e : EvP 11 mx vs (hp (zz E T) M) (.int x)) : EvI 11 mx vs (zz E T) M (fun y M' => y = x ∧ M' = M) := by
  refine ev_mono e ?_
  rintro v h' c s ⟨rfl, rfl, rfl, rfl⟩
  exact ⟨rfl, rfl, x, M, rfl, rfl, rfl, rfl⟩
/-- what a call on the program's side leaves, if it tells nothing to the other -/
theorem RR.fr {n : Nat} {rs : Nat → Nat} {M' : Mem} (hL : LR E T n rs) (h : RR M n rs) (c4 : ∀ j, M' 4 j = M 4 j) (c5 : ∀ q j, 61 ≤ q → M' q j = M q j) (m1 : M' 41 1 = M 41 1) (m2 : ∀ q j, 42 ≤ q → q ≤ 51 → M' q j = M q j) : RR M' n rs := by
  refine ⟨m1.trans h.1, fun i hi => ?_, fun f hf => ?_⟩
  · have e := fun j => c5 (rs i) j (hL.1 i hi).1
    unfold RuleEq
    rw [e 0, e 1, e 2, e 3, e 4, e 5, e 6, e 7, e 8, e 9, m2 42 i (by omega) (by omega), m2 43 i (by omega) (by omega), m2 44 i (by omega) (by omega), m2 45 i (by omega) (by omega), m2 46 i (by omega) (by omega), m2 47 i (by omega) (by omega), m2 48 i (by omega) (by omega), m2 49 i (by omega) (by omega)]
    exact h.2.1 i hi
  · rw [c4 f, m2 51 f (by omega) (by omega)]
    exact h.2.2 f hf
theorem REL.fr {n : Nat} {rs : Nat → Nat} {M' : Mem} (hL : LR E T n rs) (h : REL M n rs) (e1 : M' 1 2 = M 1 2) (e2 : ∀ j, M' 10 j = M 10 j) (e3 : ∀ j, j = 0 ∨ j = 1 ∨ j = 16 ∨ j = 17 ∨ j = 18 → M' 41 j = M 41 j) (c3 : M' 1 3 = M 1 3) (c4 : ∀ j, M' 4 j = M 4 j) (c5 : ∀ q j, 61 ≤ q → M' q j = M q j) (m2 : ∀ q j, 42 ≤ q → q ≤ 51 → M' q j = M q j) : REL M' n rs := by
  refine ⟨?_, h.2.1.fr hL c4 c5 (e3 1 (by omega)) m2, fun k hk => by rw [c3, m2 50 k (by omega) (by omega)]; exact h.2.2 k hk⟩
  · rw [e1, e2 0, e2 1, e2 2, e3 0 (by omega), e3 16 (by omega), e3 17 (by omega), e3 18 (by omega)]
    exact h.1
theorem INV.cls {S : Nat → Nat → Bool} {M' : Mem} {n : Nat} {rs : Nat → Nat} (hQ : LQ E T n rs) (hm : MI M) (hl : ML M) (hr : REL M n rs) (hC : CI E T M' n rs) (f : Fr S M M') (s1 : S 1 2 = false) (s2 : ∀ j, S 10 j = false) (s4 : S 1 3 = false) (s5 : ∀ j, S 4 j = false) (s3 : ∀ q j, 41 ≤ q → S q j = false) : INV E T M' := by
  have hmid := f.mid s3
  exact ⟨n, rs, hC, hQ, hm.mid hmid, hl.mid hmid, hr.fr hC.1.1 (f 1 2 s1) (fun j => f 10 j (s2 j)) (fun j _ => f 41 j (s3 41 j (by omega))) (f 1 3 s4) (fun j => f 4 j (s5 j)) (fun q j hq => f q j (s3 q j (by omega))) (fun q j h1 h2 => f q j (s3 q j (by omega)))⟩
theorem INV.mdl {M' : Mem} (h : INV E T M) (ho : OutS M M') (hm : MI M') (hl : ML M') (e3 : ∀ j, j = 0 ∨ j = 1 ∨ j = 16 ∨ j = 17 ∨ j = 18 → M' 41 j = M 41 j) (m2 : ∀ q j, 42 ≤ q → q ≤ 51 → M' q j = M q j) : INV E T M' := by
  obtain ⟨n, rs, h1, h2, -, -, h5⟩ := h
  exact ⟨n, rs, h1.out ho, h2, hm, hl, h5.fr h1.1.1 (ho 1 2 (by omega)) (fun j => ho 10 j (by omega)) e3 (ho 1 3 (by omega)) (fun j => ho 4 j (by omega)) (fun q j hq => ho q j (by omega)) m2⟩
theorem mScB_r {q j : Nat} (h1 : 42 ≤ q) (h2 : q ≤ 51) : mScB q j = false := by
  have e : Nat.beq q 41 = false := by
    cases hb : Nat.beq q 41 with
    | false => rfl
    | true => have := Nat.eq_of_beq_eq_true hb; omega
  have e2 : (Nat.blt 52 q && Nat.blt q 61) = false := by
    cases hb : (Nat.blt 52 q && Nat.blt q 61) with
    | false => rfl
    | true => simp only [Bool.and_eq_true, Nat.blt_eq] at hb; omega
  simp only [mScB, e2, e, Bool.false_and, Bool.or_self]
theorem mHd_r {q j : Nat} (h1 : 42 ≤ q) (h2 : q ≤ 51) : mHd q j = false := by
  have e : ∀ k, q ≠ k → Nat.beq q k = false := fun k hk => by
    cases hb : Nat.beq q k with
    | false => rfl
    | true => exact absurd (Nat.eq_of_beq_eq_true hb) hk
  simp only [mHd, mScB_r h1 h2, e 41 (by omega), e 52 (by omega), Bool.false_and, Bool.or_self]
theorem mSk_r {q j : Nat} (h1 : 42 ≤ q) (h2 : q ≤ 51) : mSk q j = false := by
  have e : ∀ k, q ≠ k → Nat.beq q k = false := fun k hk => by
    cases hb : Nat.beq q k with
    | false => rfl
    | true => exact absurd (Nat.eq_of_beq_eq_true hb) hk
  simp only [mSk, mScB_r h1 h2, e 41 (by omega), Bool.false_and, Bool.or_self]
theorem INV.keepB {M' : Mem} (h : INV E T M) (k : mKeepB M M') : INV E T M' := by
  obtain ⟨n, rs, h1, h2, h3, h4, h5⟩ := id h
  exact h.mdl k.out (h3.keepB k) (h4.keepB k) (fun j hj => k 41 j (by rcases hj with rfl | rfl | rfl | rfl | rfl <;> rfl)) (fun q j a b => k q j (mScB_r a b))
theorem CI.hand {n : Nat} {rs : Nat → Nat} {M' : Mem} (h : CI E T M n rs) (f : Fr cHd M M') (hH : HandOK M') : CI E T M' n rs := by
  refine ⟨h.1.fr f rfl rfl rfl (fun q j hq => cHd_hi hq), hH, ?_, ?_⟩
  · rw [f 0 7 rfl]; exact h.2.2.1
  · rw [f 11 11 rfl]; exact h.2.2.2
theorem INV.handM {M' : Mem} (h : INV E T M) (hm : MI M') (f : Fr mHd M M') : INV E T M' := by
  obtain ⟨n, rs, h1, h2, h3, h4, h5⟩ := id h
  refine h.mdl (f.out (fun q j hq => mHd_o hq)) hm (h4.fr f (fun q j hq => ?_)) (fun j hj => f 41 j (by rcases hj with rfl | rfl | rfl | rfl | rfl <;> rfl)) (fun q j a b => f q j (mHd_r a b))
  unfold mLd at hq
  simp only [Bool.or_eq_true, Bool.and_eq_true, Nat.blt_eq, Nat.beq_eq] at hq
  have e : ∀ k, q ≠ k → Nat.beq q k = false := fun k hk => by
    cases hb : Nat.beq q k with
    | false => rfl
    | true => exact absurd (Nat.eq_of_beq_eq_true hb) hk
  have e2 : (Nat.blt 52 q && Nat.blt q 61) = false := by
    cases hb : (Nat.blt 52 q && Nat.blt q 61) with
    | false => rfl
    | true => simp only [Bool.and_eq_true, Nat.blt_eq] at hb; omega
  rcases hq with ⟨a1, a2⟩ | rfl | ⟨rfl, rfl⟩
  · simp only [mHd, mScB, e2, e 41 (by omega), e 52 (by omega), Bool.false_and, Bool.or_self]
  · rfl
  · rfl
-- calls that only look
theorem pair_facts {a b : Int32} (h : INV E T M) : EvG 11 miX8_facts [.ref 0, .int a, .int b] (hp (zz E T) M) (PairQ miX9_facts [.ref 41, .int a, .int b] (fun _ _ => True)) := by
  obtain ⟨n, rs, h1, h2, h3, h4, h5⟩ := id h
  refine pair_of (sc_facts h1.1 h1.2.1) (fun x M' f => ?_)
  have hI : INV E T M' := INV.cls h2 h3 h4 h5 (h1.fr f) f rfl (fun j => rfl) rfl (fun j => rfl) (fun q j hq => cB_m hq)
  exact evI_mono (sp_factsM hI.choose_spec.choose_spec.2.2.1) (fun y M'' k => ⟨hI.keepB k.toB, trivial⟩)
theorem pair_letters {a b c : Int32} (h : INV E T M) : EvG 11 miX8_letters [.ref 0, .int a, .int b, .int c] (hp (zz E T) M) (PairQ miX9_letters [.ref 41, .int a, .int b, .int c] (fun _ _ => True)) := by
  obtain ⟨n, rs, h1, h2, h3, h4, h5⟩ := id h
  refine pair_of (sc_letters h1.1 h1.2.1) (fun x M' f => ?_)
  have hI : INV E T M' := INV.cls h2 h3 h4 h5 (h1.fr f) f rfl (fun j => rfl) rfl (fun j => rfl) (fun q j hq => cB_m hq)
  exact evI_mono (sp_lettersM hI.choose_spec.choose_spec.2.2.1) (fun y M'' k => ⟨hI.keepB k.toB, trivial⟩)
theorem pair_broken (h : INV E T M) : EvG 11 miX8_broken [.ref 0] (hp (zz E T) M) (PairQ miX9_broken [.ref 41] (fun _ _ => True)) := by
  obtain ⟨n, rs, h1, h2, h3, h4, h5⟩ := id h
  refine pair_of (sc_broken h1.1 h1.2.1) (fun x M' f => ?_)
  have hI : INV E T M' := INV.cls h2 h3 h4 h5 (h1.fr f) f rfl (fun j => rfl) rfl (fun j => rfl) (fun q j hq => cB_m hq)
  exact evI_mono (sp_brokenM hI.choose_spec.choose_spec.2.2.1) (fun y M'' k => ⟨hI.keepB k.toB, trivial⟩)
theorem pair_why {a b c : Int32} (h : INV E T M) : EvG 11 miX8_why [.ref 0, .int a, .int b, .int c] (hp (zz E T) M) (PairQ miX9_why [.ref 41, .int a, .int b, .int c] (fun _ _ => True)) := by
  obtain ⟨n, rs, h1, h2, h3, h4, h5⟩ := id h
  refine pair_of (sc_why h1.1 h1.2.1) (fun x M' f => ?_)
  have hI : INV E T M' := INV.cls h2 h3 h4 h5 (h1.fr f) f rfl (fun j => rfl) rfl (fun j => rfl) (fun q j hq => cB_m hq)
  exact evI_mono (sp_whyM hI.choose_spec.choose_spec.2.2.1) (fun y M'' k => ⟨hI.keepB k.toB, trivial⟩)
theorem pair_mend (h : INV E T M) : EvG 11 miX8_mend [.ref 0] (hp (zz E T) M) (PairQ miX9_mend [.ref 41] (fun _ _ => True)) := by
  obtain ⟨n, rs, h1, h2, h3, h4, h5⟩ := id h
  refine pair_of (sc_mend h1.1) (fun x M' f => ?_)
  have hI : INV E T M' := INV.cls h2 h3 h4 h5 (h1.fr f) f rfl (fun j => rfl) rfl (fun j => rfl) (fun q j hq => cB_m hq)
  exact evI_mono (sp_mendM hI.choose_spec.choose_spec.2.2.1) (fun y M'' k => ⟨hI.keepB k, trivial⟩)
theorem cIs_nI {k n : Nat} (hk : k < n) (hn : n < 2147483648) : cIs (Int32.ofNat n) (Int32.ofNat k) = true := by
  have h1 : decide ((0 : Int32) ≤ Int32.ofNat k) = true := dT ((jn_le (a := 0) (by omega) (by omega)).mpr (by omega))
  have h2 : decide (Int32.ofNat k < Int32.ofNat n) = true := dT ((jn_lt (by omega) hn).mpr hk)
  unfold cIs
  rw [h1, h2]
  rfl
theorem eH4 (x : Int32) : cIs 4 x = mHost x := by
  unfold cIs mHost mIn
  congr 1
  rw [decide_eq_decide, Int32.lt_iff_toInt_lt, Int32.le_iff_toInt_le, show (4 : Int32).toInt = 4 from rfl, show (3 : Int32).toInt = 3 from rfl]
  omega
theorem eF8 (x : Int32) : cIs 8 x = mFact x := by
  unfold cIs mFact mIn
  congr 1
  rw [decide_eq_decide, Int32.lt_iff_toInt_lt, Int32.le_iff_toInt_le, show (8 : Int32).toInt = 8 from rfl, show (7 : Int32).toInt = 7 from rfl]
  omega
theorem pair_layer {a : Int32} (h : INV E T M) : EvG 11 miX8_layer [.ref 0, .int a] (hp (zz E T) M) (PairQ miX9_layer [.ref 41, .int a] (fun x y => x = y)) := by
  obtain ⟨n, rs, h1, h2, h3, h4, h5⟩ := id h
  refine pair_of sc_layer (fun x M' f => ?_)
  obtain ⟨rfl, hx⟩ := f
  refine evI_mono sp_layerM (fun y M'' k => ?_)
  obtain ⟨rfl, hy⟩ := k
  refine ⟨h, ?_⟩
  rcases hx with ⟨g, rfl⟩ | ⟨k, hk, rfl, rfl⟩
  · rcases hy with ⟨-, rfl⟩ | ⟨k, hk, rfl, -⟩
    · rfl
    · rw [eF8] at g
      exfalso
      have : mFact (Int32.ofNat k) = true := (eF8 _).symm.trans (cIs_nI (n := 8) hk (by omega))
      rw [this] at g
      cases g
  · rcases hy with ⟨g, rfl⟩ | ⟨k2, hk2, e, rfl⟩
    · exfalso
      have : mFact (Int32.ofNat k) = true := (eF8 _).symm.trans (cIs_nI (n := 8) hk (by omega))
      rw [this] at g
      cases g
    · have := jn_inj (by omega) (by omega) e
      subst this
      exact h5.2.1.2.2 k hk
theorem pair_count {a : Int32} (h : INV E T M) : EvG 11 miX8_count [.ref 0, .int a] (hp (zz E T) M) (PairQ miX9_count [.ref 41, .int a] (fun _ _ => True)) := by
  obtain ⟨n, rs, h1, h2, h3, h4, h5⟩ := id h
  refine pair_of (sc_count h1.1) (fun x M' f => ?_)
  subst f
  exact evI_mono (sp_countM h3) (fun y M'' k => ⟨by rw [k]; exact h, trivial⟩)
theorem pair_hand {a : Int32} (h : INV E T M) : EvG 11 miX8_hand [.ref 0, .int a] (hp (zz E T) M) (PairQ miX9_hand [.ref 41, .int a] (fun _ _ => True)) := by
  obtain ⟨n, rs, h1, h2, h3, h4, h5⟩ := id h
  refine pair_of (sc_hand h1.2.1) (fun x M' f => ?_)
  subst f
  exact evI_mono (sp_handM h3) (fun y M'' k => ⟨by rw [k]; exact h, trivial⟩)
theorem pair_found {a : Int32} (h : INV E T M) : EvG 11 miX8_found [.ref 0, .int a] (hp (zz E T) M) (PairQ miX9_found [.ref 41, .int a] (fun _ _ => True)) := by
  obtain ⟨n, rs, h1, h2, h3, h4, h5⟩ := id h
  refine pair_of (sc_found h1.2.2.1) (fun x M' f => ?_)
  subst f
  exact evI_mono (sp_found h3) (fun y M'' k => ⟨by rw [k]; exact h, trivial⟩)
theorem pair_weak {a : Int32} (h : INV E T M) : EvG 11 miX8_weak [.ref 0, .int a] (hp (zz E T) M) (PairQ miX9_weak [.ref 41, .int a] (fun _ _ => True)) := by
  obtain ⟨n, rs, h1, h2, h3, h4, h5⟩ := id h
  refine pair_of (sc_weak h1.1 h1.2.2.2) (fun x M' f => ?_)
  obtain ⟨f, hB⟩ := f
  have hC : CI E T M' n rs := ⟨h1.1.fr f rfl rfl rfl (fun q j hq => cL_hi hq), by
    obtain ⟨c, g2, g3, g4⟩ := h1.2.1
    exact ⟨c, g2, (f 0 6 rfl).trans g3, fun j hj => by rw [f 1 2 rfl, f 39 j rfl]; exact g4 j hj⟩, by rw [f 0 7 rfl]; exact h1.2.2.1, hB⟩
  have hI : INV E T M' := INV.cls h2 h3 h4 h5 hC f rfl (fun j => rfl) rfl (fun j => rfl) (fun q j hq => cL_m hq)
  exact evI_mono (sp_weakM hI.choose_spec.choose_spec.2.2.1) (fun y M'' k => ⟨hI.keepB k, trivial⟩)
theorem pair_seek (h : INV E T M) : EvG 11 miX8_seek [.ref 0] (hp (zz E T) M) (PairQ miX9_seek [.ref 41] (fun _ _ => True)) := by
  obtain ⟨n, rs, h1, h2, h3, h4, h5⟩ := id h
  refine pair_of (sc_seek h1.1 h1.2.2.2) (fun x M' f => ?_)
  obtain ⟨f, hB, hU⟩ := f
  have hC : CI E T M' n rs := ⟨h1.1.fr f rfl rfl rfl (fun q j hq => by
    have e : ∀ k, k < 61 → Nat.beq q k = false := fun k hk => by
      cases hb : Nat.beq q k with
      | false => rfl
      | true => have := Nat.eq_of_beq_eq_true hb; omega
    simp only [cSk, cL_hi hq, e 40 (by omega), e 0 (by omega), Bool.false_and, Bool.or_self]), by
    obtain ⟨c, g2, g3, g4⟩ := h1.2.1
    exact ⟨c, g2, (f 0 6 rfl).trans g3, fun j hj => by rw [f 1 2 rfl, f 39 j rfl]; exact g4 j hj⟩, hU, hB⟩
  have hI : INV E T M' := INV.cls h2 h3 h4 h5 hC f rfl (fun j => rfl) rfl (fun j => rfl) (fun q j hq => cSk_m hq)
  refine evI_mono (sp_seek hI.choose_spec.choose_spec.2.2.1) (fun y M'' k => ⟨?_, trivial⟩)
  refine hI.mdl (k.2.out (fun q j hq => mSk_o hq)) k.1 (hI.choose_spec.choose_spec.2.2.2.1.congr (fun q j hq => k.2 q j ?_)) (fun j hj => k.2 41 j (by rcases hj with rfl | rfl | rfl | rfl | rfl <;> rfl)) (fun q j a b => k.2 q j (mSk_r a b))
  unfold mLd at hq
  simp only [Bool.or_eq_true, Bool.and_eq_true, Nat.blt_eq, Nat.beq_eq] at hq
  have e : ∀ k, q ≠ k → Nat.beq q k = false := fun k hk => by
    cases hb : Nat.beq q k with
    | false => rfl
    | true => exact absurd (Nat.eq_of_beq_eq_true hb) hk
  have e2 : (Nat.blt 52 q && Nat.blt q 61) = false := by
    cases hb : (Nat.blt 52 q && Nat.blt q 61) with
    | false => rfl
    | true => simp only [Bool.and_eq_true, Nat.blt_eq] at hb; omega
  rcases hq with ⟨a1, a2⟩ | rfl | ⟨rfl, rfl⟩
  · simp only [mSk, mScB, e2, e 41 (by omega), Bool.false_and, Bool.or_self]
  · rfl
  · rfl
-- the hand
theorem pair_blow {a : Int32} (h : INV E T M) : EvG 11 miX8_blow [.ref 0, .int a] (hp (zz E T) M) (PairQ miX9_blow [.ref 41, .int a] (fun _ _ => True)) := by
  obtain ⟨n, rs, h1, h2, h3, h4, h5⟩ := id h
  refine pair_of (sc_blow h1.2.1) (fun x M' f => ?_)
  have hI : INV E T M' := INV.cls h2 h3 h4 h5 (h1.hand f.1 f.2) f.1 rfl (fun j => rfl) rfl (fun j => rfl) (fun q j hq => cHd_m hq)
  exact evI_mono (sp_blowM hI.choose_spec.choose_spec.2.2.1) (fun y M'' k => ⟨hI.handM k.1 k.2, trivial⟩)
theorem pair_shrink (h : INV E T M) : EvG 11 miX8_shrink [.ref 0] (hp (zz E T) M) (PairQ miX9_shrink [.ref 41] (fun _ _ => True)) := by
  obtain ⟨n, rs, h1, h2, h3, h4, h5⟩ := id h
  refine pair_of (sc_shrink h1.1 h1.2.1) (fun x M' f => ?_)
  have hI : INV E T M' := INV.cls h2 h3 h4 h5 (h1.hand f.1 f.2) f.1 rfl (fun j => rfl) rfl (fun j => rfl) (fun q j hq => cHd_m hq)
  exact evI_mono (sp_shrinkM hI.choose_spec.choose_spec.2.2.1) (fun y M'' k => ⟨hI.handM k.1 k.2, trivial⟩)
theorem pair_clear (h : INV E T M) : EvG 11 miX8_clear [.ref 0] (hp (zz E T) M) (PairQ miX9_clear [.ref 41] (fun _ _ => True)) := by
  obtain ⟨n, rs, h1, h2, h3, h4, h5⟩ := id h
  refine pair_of sc_clear (fun x M' f => ?_)
  have hI : INV E T M' := INV.cls h2 h3 h4 h5 (h1.hand f.1 f.2) f.1 rfl (fun j => rfl) rfl (fun j => rfl) (fun q j hq => cHd_m hq)
  refine evI_mono sp_clearM (fun y M'' k => ⟨?_, trivial⟩)
  subst k
  have hm := hI.choose_spec.choose_spec.2.2.1
  have f1 : Fr mHd M' (mup M' 41 19 0) := Fr.rf.up rfl
  exact hI.handM (MI.hand (k := 0) hm f1 (by omega) rfl (fun j hj => hm.2.2.2.2.2.2.2.1 j hj)) f1
-- the world
theorem pair_promise {a p b q : Int32} (h : INV E T M) : EvG 11 miX8_promise [.ref 0, .int a, .int p, .int b, .int q] (hp (zz E T) M) (PairQ miX9_promise [.ref 41, .int a, .int p, .int b, .int q] (fun x y => x = y)) := by
  obtain ⟨n, rs, h1, h2, h3, h4, h5⟩ := id h
  have eP : cProm a p b q = mProm a p b q := by unfold cProm mProm; rw [eH4, eF8, eH4, eF8]
  refine pair_of sc_promise (fun x M' f => ?_)
  rcases f with ⟨g, rfl, rfl⟩ | ⟨g, rfl, rfl⟩
  · refine evI_mono sp_promiseM (fun y M'' k => ?_)
    rcases k with ⟨-, rfl, rfl⟩ | ⟨g2, -, -⟩
    · exact ⟨h, rfl⟩
    · rw [eP, g2] at g; cases g
  · have hb : jH b := by
      unfold cProm at g
      simp only [Bool.and_eq_true] at g
      exact cIs_H g.2.2.1
    have ha : jH a := by
      unfold cProm at g
      simp only [Bool.and_eq_true] at g
      exact cIs_H g.1
    have hC : CI E T (cPromM M a p b q) n rs := by
      obtain ⟨⟨c1, c2, c3, c4, c5, c6⟩, g1, g2, g3⟩ := h1
      refine ⟨⟨c1, c2, c3, fun i hi => ?_, c5, hb⟩, g1, g2, g3⟩
      have := (c1.1 i hi).1
      unfold cPromM
      rw [mup_q (by omega), mup_q (by omega), mup_q (by omega), mup_q (by omega)]
      exact c4 i hi
    have f1 : Fr (fun q j => Nat.beq q 1 && (Nat.beq j 4 || (Nat.beq j 5 || Nat.beq j 6)) || (Nat.beq q 11 && Nat.beq j 10)) M (cPromM M a p b q) := (((Fr.rf.up rfl).up rfl).up rfl).up rfl
    have hI : INV E T (cPromM M a p b q) := INV.cls h2 h3 h4 h5 hC f1 rfl (fun j => rfl) rfl (fun j => rfl) (fun q j hq => by
      have e : ∀ k, k < 41 → Nat.beq q k = false := fun k hk => by
        cases hb : Nat.beq q k with
        | false => rfl
        | true => have := Nat.eq_of_beq_eq_true hb; omega
      simp only [e 1 (by omega), e 11 (by omega), Bool.false_and, Bool.or_self])
    refine evI_mono sp_promiseM (fun y M'' k => ?_)
    rcases k with ⟨g2, -, -⟩ | ⟨-, rfl, rfl⟩
    · rw [← eP, g] at g2; cases g2
    · refine ⟨?_, rfl⟩
      have hm := hI.choose_spec.choose_spec.2.2.1
      have hl := hI.choose_spec.choose_spec.2.2.2.1
      refine hI.mdl (fun q j hq => ?_) ?_ (hl.congr (fun q j hq => ?_)) (fun j hj => ?_) (fun q j a b => ?_)
      · rw [mup_q (by omega), mup_q (by omega), mup_q (by omega), mup_q (by omega)]
      · exact ⟨hm.1, hm.2.1, hm.2.2.1, hm.2.2.2.1, ha, hb, hm.2.2.2.2.2.2.1, hm.2.2.2.2.2.2.2.1, hm.2.2.2.2.2.2.2.2⟩
      · unfold mLd at hq
        simp only [Bool.or_eq_true, Bool.and_eq_true, Nat.blt_eq, Nat.beq_eq] at hq
        rw [mup_if, if_neg (by omega), mup_if, if_neg (by omega), mup_if, if_neg (by omega), mup_if, if_neg (by omega)]
      · rcases hj with rfl | rfl | rfl | rfl | rfl <;> rfl
      · rw [mup_q (by omega), mup_q (by omega), mup_q (by omega), mup_q (by omega)]
end PA
