/-! Both sides: rule -/
section PR
variable {E : Value} {T : List SH} {M : Mem}
theorem eq_m1 {x : Int32} : x = -1 ↔ x.toInt = -1 := by
  constructor
  · intro h; rw [h]; rfl
  · intro h
    apply Int32.toInt_inj.mp
    rw [h]
    rfl
theorem mIn_m1 {x k : Int32} {j : Int} (hk : k.toInt = j) (hj : -1 ≤ j) : mIn x (-1) k = (decide (x = -1) || (decide (0 ≤ x) && decide (x ≤ k))) := by
  rw [Bool.eq_iff_iff]
  simp only [mIn, Bool.and_eq_true, Bool.or_eq_true, decide_eq_true_eq, Int32.le_iff_toInt_le, eq_m1, show (-1 : Int32).toInt = -1 from rfl, show (0 : Int32).toInt = 0 from rfl, hk]
  omega
theorem valid_eq {host kind head a b nt to : Int32} : cValid host kind head a b nt to = mValid host kind head a b nt to := by
  unfold cValid mValid
  have e1 : (decide (host = -1) || cIs 4 host) = mIn host (-1) 3 := by rw [mIn_m1 (j := 3) rfl (by omega), eH4]; rfl
  have e2 : ∀ x, (decide (x = -1) || cIs 8 x) = mIn x (-1) 7 := fun x => by rw [mIn_m1 (j := 7) rfl (by omega), eF8]; rfl
  rw [e1, e2 b, e2 nt, eF8, eF8, eH4]
  unfold mIn
  cases decide (0 ≤ kind) <;> cases decide (kind ≤ 2) <;> cases mFact head <;> cases mFact a <;> simp [Bool.and_assoc]
theorem need_eq {Mc Mm : Mem} {L : Nat → Nat} {q r : Nat} {x y z : Int32} (h3 : Mc q 3 = x) (h4 : Mc q 4 = cB2 x y) (h5 : Mc q 5 = z) (m3 : Mm 45 r = x) (m4 : Mm 46 r = y) (m5 : Mm 47 r = z) : cNeed Mc L q = mNeed Mm L r := by
  unfold cNeed mNeed mv
  rw [h3, h4, h5, m3, m4, m5]
  by_cases e : y = -1
  · rw [if_pos e]
    unfold cB2
    rw [if_pos e]
    congr 1
    omega
  · rw [if_neg e]
    unfold cB2
    rw [if_neg e]
/-- the same rules, one more ahead or behind: the same fits -/
theorem sol_iff {Mc Mm : Mem} {n q : Nat} {rs : Nat → Nat} {L : Nat → Nat} (hn : Mc q 1 = Mm 43 n ∧ Mc q 2 = Mm 44 n ∧ Mc q 3 = Mm 45 n ∧ Mc q 4 = cB2 (Mm 45 n) (Mm 46 n) ∧ Mc q 5 = Mm 47 n) (hr : ∀ i, i < n → Mc (rs i) 1 = Mm 43 i ∧ Mc (rs i) 2 = Mm 44 i ∧ Mc (rs i) 3 = Mm 45 i ∧ Mc (rs i) 4 = cB2 (Mm 45 i) (Mm 46 i) ∧ Mc (rs i) 5 = Mm 47 i) : CSol Mc (wR q rs) (n + 1) L ↔ Sol Mm (n + 1) L := by
  have one : ∀ p i, Mc p 1 = Mm 43 i ∧ Mc p 2 = Mm 44 i ∧ Mc p 3 = Mm 45 i ∧ Mc p 4 = cB2 (Mm 45 i) (Mm 46 i) ∧ Mc p 5 = Mm 47 i → ((Mc p 1 = 0 → cNeed Mc L p ≤ L (mv Mc p 2)) ↔ (Mm 43 i = 0 → mNeed Mm L i ≤ L (mv Mm 44 i))) := by
    rintro p i ⟨g1, g2, g3, g4, g5⟩
    rw [g1, need_eq (L := L) g3 g4 g5 rfl rfl rfl, show mv Mc p 2 = mv Mm 44 i from by unfold mv; rw [g2]]
  constructor
  · intro h r hrn
    by_cases e : r = n
    · subst e
      exact (one q r hn).mp (h 0 (by omega))
    · exact (one (rs r) r (hr r (by omega))).mp (h (r + 1) (by omega))
  · intro h r hrn
    cases r with
    | zero => exact (one q n hn).mpr (h n (by omega))
    | succ r => exact (one (rs r) r (hr r (by omega))).mpr (h r (by omega))
/-- layers are the least that fit: there is but one such row -/
theorem lay_uniq {M' : Mem} {n : Nat} (h : ML M) (h' : ML M') (e : M 41 1 = Int32.ofNat n) (hn : n ≤ 12) (e' : M' 41 1 = Int32.ofNat n) (hr : ∀ q r, r < n → 42 < q → q < 48 → M' q r = M q r) : ∀ f, f < 8 → M' 51 f = M 51 f := by
  obtain ⟨k, l, h1, h2, h3, h4, h5, h6⟩ := h
  obtain ⟨k', l', g1, g2, g3, g4, g5, g6⟩ := h'
  have ek : k = n := jn_inj (by omega) (by omega) (h2.symm.trans e)
  have ek' : k' = n := jn_inj (by omega) (by omega) (g2.symm.trans e')
  subst ek ek'
  intro f hf
  rw [g3 f hf, h3 f hf]
  have a1 := g6 l (h5.congr (fun q r a b c => hr q r a b c)) f hf
  have a2 := h6 l' (g5.congr (fun q r a b c => (hr q r a b c).symm)) f hf
  rw [Nat.le_antisymm a1 a2]
theorem RuleEq.five {q i : Nat} (h : RuleEq M q i) : M q 1 = M 43 i ∧ M q 2 = M 44 i ∧ M q 3 = M 45 i ∧ M q 4 = cB2 (M 45 i) (M 46 i) ∧ M q 5 = M 47 i := ⟨h.2.1, h.2.2.1, h.2.2.2.1, h.2.2.2.2.1, h.2.2.2.2.2.1⟩
theorem put_n {n q : Nat} {host kind head a b nt to : Int32} : mPut M n host kind head a b nt to 42 n = host ∧ mPut M n host kind head a b nt to 43 n = kind ∧ mPut M n host kind head a b nt to 44 n = head ∧ mPut M n host kind head a b nt to 45 n = a ∧ mPut M n host kind head a b nt to 46 n = b ∧ mPut M n host kind head a b nt to 47 n = nt ∧ mPut M n host kind head a b nt to 48 n = to ∧ mPut M n host kind head a b nt to 49 n = -1 := by
  unfold mPut
  refine ⟨?_, ?_, ?_, ?_, ?_, ?_, ?_, ?_⟩ <;> simp [mup_if]
theorem nodup_bd : ∀ (n : Nat) (l : List Nat), l.Nodup → (∀ x ∈ l, x < n) → l.length ≤ n := by
  intro n
  induction n with
  | zero =>
    intro l _ h
    cases l with
    | nil => exact Nat.le_refl _
    | cons x l => exact absurd (h x List.mem_cons_self) (by omega)
  | succ n ih =>
    intro l hl h
    by_cases hm : n ∈ l
    · have h1 := ih (l.erase n) (hl.erase n) (fun x hx => by
        have h2 := (hl.mem_erase_iff).mp hx
        have := h x h2.2
        have := h2.1
        omega)
      rw [List.length_erase_of_mem hm] at h1
      omega
    · have h1 := ih l hl (fun x hx => by
        have := h x hx
        have : x ≠ n := fun e => hm (e ▸ hx)
        omega)
      omega
/-- eight facts, no gap: no layer above 7 -/
theorem least7 {w : Nat → Nat} {n : Nat} {L : Nat → Nat} (hR : ∀ j, j < n → ROK M (w j)) (h : Least M w n L) : ∀ f, f < 8 → L f ≤ 7 := by
  intro f hf
  apply Classical.byContradiction
  intro hgt
  have hv : ∀ v, v < 8 → ∃ g, g < 8 ∧ L g = v := fun v hv => h.gap hR ⟨f, hf, by omega⟩
  -- eight values below 8 and one above on eight facts
  have key : ∀ k, k ≤ 8 → ∃ l : List Nat, l.length = k ∧ l.Nodup ∧ ∀ g ∈ l, g < 8 ∧ L g < k := by
    intro k
    induction k with
    | zero => intro _; exact ⟨[], rfl, List.nodup_nil, fun g hg => absurd hg List.not_mem_nil⟩
    | succ k ih =>
      intro hk
      obtain ⟨l, h1, h2, h3⟩ := ih (by omega)
      obtain ⟨g, hg, eg⟩ := hv k (by omega)
      refine ⟨g :: l, by simp [h1], List.nodup_cons.mpr ⟨fun hm => ?_, h2⟩, fun x hx => ?_⟩
      · have := (h3 g hm).2; omega
      · rcases List.mem_cons.mp hx with rfl | hx
        · exact ⟨hg, by omega⟩
        · have := h3 x hx; exact ⟨this.1, by omega⟩
  obtain ⟨l, h1, h2, h3⟩ := key 8 (by omega)
  have hnd : (f :: l).Nodup := List.nodup_cons.mpr ⟨fun hm => by have := (h3 f hm).2; omega, h2⟩
  have hsub := nodup_bd 8 (f :: l) hnd (fun x hx => by
    rcases List.mem_cons.mp hx with rfl | hx
    · exact hf
    · exact (h3 x hx).1)
  simp [h1] at hsub
theorem CRW.cg {n : Nat} {rs : Nat → Nat} {R : RW} {M' : Mem} (h : CRW M n rs R) (e4 : ∀ j, M' 4 j = M 4 j) (e6 : M' 6 4 = M 6 4) (er : ∀ i, i < n → ∀ j, M' (rs i) j = M (rs i) j) : CRW M' n rs R := by
  obtain ⟨h1, h2, h3⟩ := h
  refine ⟨h1, h2, fun i hi => ?_⟩
  have e := er i hi
  obtain ⟨a1, a2, a3, a4, a5, a6⟩ := h3 i hi
  rw [e 1, e 2, e 6, e4, e6]
  refine ⟨a1, a2, a3, a4, fun h f => ?_, a6⟩
  rw [a5 h f]
  unfold cWorks
  rw [e 0, e 7, e 8]
theorem X2.ext {X : SH} {n : Nat} {rs : Nat → Nat} {V : VW} {M' : Mem} (h : X2 E T M n rs V) (hC : CW E (T ++ [X]) M' n rs) (lo : ∀ q j, q ≠ 5 → q < 61 + T.length → M' q j = M q j) : X2 E (T ++ [X]) M' n rs V := by
  obtain ⟨⟨b1, b2, b3, b4, b5, b6, b7⟩, h2, h3, h4, h5, h6⟩ := h
  have er : ∀ i, i < n → ∀ j, M' (rs i) j = M (rs i) j := fun i hi j => lo _ _ (by have := (b1.1.1 i hi).1; omega) (b1.1.lt hi)
  have e1 : ∀ j, M' 1 j = M 1 j := fun j => lo 1 j (by omega) (by omega)
  have hX : CX E (T ++ [X]) M' n rs V := by
    refine ⟨hC, b2.cg (fun j => lo 4 j (by omega) (by omega)) (lo 6 4 (by omega) (by omega)) er, ?_, ?_, ?_, ?_, ?_⟩
    · rw [e1]; exact b3
    · rw [e1]; exact b4
    · rw [e1]; exact b5
    · rw [e1]; exact b6
    · rw [e1]; exact b7
  have e3 : ∀ j, J3 j → M' 41 j = M 41 j := fun j _ => lo 41 j (by omega) (by omega)
  refine ⟨hX, h2.cg0 e3 (fun q j q1 q2 => lo q j (by omega) (by omega)), h3.cg (fun j => lo 7 j (by omega) (by omega)) (fun j => lo 8 j (by omega) (by omega)) (fun j => lo 9 j (by omega) (by omega)), ?_, fun i hi => ?_, fun g => ?_⟩
  · rw [lo 6 4 (by omega) (by omega)]; exact h4.cg (fun j hj => er j hj 9)
  · rw [lo 49 i (by omega) (by omega)]; exact h5 i hi
  · rw [lo 11 10 (by omega) (by omega)] at g
    rw [alM_c e3, boM_c e3]
    exact (h6 g).cg (fun j _ => lo 11 j (by omega) (by omega)) (fun j => lo 13 j (by omega) (by omega))
theorem MRW.row {M' : Mem} {R : RW} (h : MRW M R) (e1 : M' 41 1 = M 41 1) (e25 : M' 41 25 = M 41 25) (e2 : ∀ q i, 42 ≤ q → q ≤ 49 → i < rN R → M' q i = M q i) (e51 : ∀ f, f < 8 → M' 51 f = M 51 f) : MRW M' R := by
  obtain ⟨a1, a2, a3, a4⟩ := h
  refine ⟨a1, e1.trans a2, a3, fun i hi => ?_⟩
  obtain ⟨b1, b2, b3, b4, b5⟩ := a4 i hi
  obtain ⟨⟨k, hk, ek⟩, -⟩ := a3 i hi
  rw [e2 43 i (by omega) (by omega) hi, e2 44 i (by omega) (by omega) hi, e2 48 i (by omega) (by omega) hi]
  refine ⟨b1, b2, ?_, b4, fun k f => ?_⟩
  · rw [b3, ← b2, ek, clampNat (by omega), e51 k hk]
  · rw [b5 k f]
    unfold mCnt mFit
    rw [e2 42 i (by omega) (by omega) hi, e2 45 i (by omega) (by omega) hi, e2 46 i (by omega) (by omega) hi, e2 47 i (by omega) (by omega) hi, e2 49 i (by omega) (by omega) hi, e25]
theorem X2.row {n : Nat} {rs : Nat → Nat} {V : VW} {M' : Mem} (h : X2 E T M n rs V) (ho : OutS M M') (e3 : ∀ j, J3 j → M' 41 j = M 41 j) (e2 : ∀ q i, 42 ≤ q → q ≤ 49 → i < n → M' q i = M q i) (e50 : ∀ j, M' 50 j = M 50 j) (e51 : ∀ f, f < 8 → M' 51 f = M 51 f) : X2 E T M' n rs V := by
  obtain ⟨h1, ⟨v1, v2, v3, v4, v5, v6, v7, v8, v9⟩, h3, h4, h5, h6⟩ := h
  have hN : rN (vR V) = n := h1.2.1.1
  have m : ∀ j, J3 j → mup M' 41 25 0 41 j = mup M 41 25 0 41 j := fun j hj => by
    have hne : j ≠ 25 := by unfold J3 at hj; omega
    rw [mup_j hne, mup_j hne]
    exact e3 j hj
  refine ⟨h1.out ho, ⟨v1.row (m 1 (by unfold J3; omega)) rfl (fun q i q1 q2 hi => ?_) (fun f hf => ?_), fun k hk => ?_, (m 0 (by unfold J3; omega)).trans v3, v4, ⟨(m 12 (by unfold J3; omega)).trans v5.1, v5.2⟩, ⟨(m 13 (by unfold J3; omega)).trans v6.1, v6.2⟩, ⟨(m 14 (by unfold J3; omega)).trans v7.1, v7.2⟩, (m 15 (by unfold J3; omega)).trans v8, v9⟩, h3.cg (fun j => ho 7 j (by omega)) (fun j => ho 8 j (by omega)) (fun j => ho 9 j (by omega)), ?_, fun i hi => ?_, fun g => ?_⟩
  · rw [mup_q (by omega), mup_q (by omega)]; exact e2 q i q1 q2 (by omega)
  · rw [mup_q (by omega), mup_q (by omega)]; exact e51 f hf
  · rw [mup_q (by omega), e50, ← mup_q (M := M) (j := 25) (x := 0) (show 50 ≠ 41 by omega)]; exact v2 k hk
  · rw [ho 6 4 (by omega)]; exact h4.cg (fun j hj => ho _ _ (Or.inr (h1.1.1.1 j hj).1))
  · rw [e2 49 i (by omega) (by omega) hi]; exact h5 i hi
  · rw [ho 11 10 (by omega)] at g
    rw [alM_c e3, boM_c e3]
    exact (h6 g).cg (fun j _ => ho 11 j (by omega)) (fun j => ho 13 j (by omega))
set_option maxHeartbeats 2000000 in
theorem pair_rule {host kind head a b nt to : Int32} (h : INV E T M) : EvG 11 miX8_rule [.ref 0, .int host, .int kind, .int head, .int a, .int b, .int nt, .int to] (hp (zz E T) M) (PairQ miX9_rule [.ref 41, .int host, .int kind, .int head, .int a, .int b, .int nt, .int to] (fun x y => x = y)) := by
  obtain ⟨n, rs, h1, h2, h3, h4, h5, ⟨V, h6⟩, h7⟩ := id h
  have hn12 := h1.1.2.1
  have hLR := h1.1.1
  refine ev_mono (sc_rule (d := 2) h1.1 h2) ?_
  rintro v h' c s ⟨hc, hs, x, E', T', M', rfl, rfl, hP⟩
  refine ⟨hc, hs, x, E', T', M', rfl, rfl, ?_⟩
  rcases hP with ⟨hv, rfl, rfl, rfl, rfl⟩ | ⟨hv, hk, ht0, rfl, rfl, rfl, rfl⟩ | ⟨hv, hto, M1, hI, hP⟩
  · refine evI_mono (sp_ruleM h3 h4 h5.2.1.1 hn12) (fun y M'' k => ?_)
    rw [valid_eq] at hv
    rcases k with ⟨-, rfl, rfl⟩ | ⟨g, -⟩ | ⟨g, -⟩
    · exact ⟨h, rfl⟩
    · rw [g] at hv; cases hv
    · rw [g] at hv; cases hv
  · refine evI_mono (sp_ruleM h3 h4 h5.2.1.1 hn12) (fun y M'' k => ?_)
    rw [valid_eq] at hv
    rcases k with ⟨g, -⟩ | ⟨-, -, -, rfl, rfl⟩ | ⟨-, g, -⟩
    · rw [g] at hv; cases hv
    · exact ⟨h, rfl⟩
    · rcases g with g | g
      · exact absurd g hk
      · exact absurd g ht0
  · -- the new rule's cell and the reference's row say the same
    have lo1 : ∀ p j, p ≠ 61 + T.length → M1 p j = M p j := fun p j hp => init_lo hI hp
    have hcls : ∀ i, i < n → M1 (rs i) 1 = M 43 i ∧ M1 (rs i) 2 = M 44 i ∧ M1 (rs i) 3 = M 45 i ∧ M1 (rs i) 4 = cB2 (M 45 i) (M 46 i) ∧ M1 (rs i) 5 = M 47 i := fun i hi => by
      have a2 := hLR.lt hi
      have := (h5.2.1.2.1 i hi).five
      rw [lo1 _ _ (by omega), lo1 _ _ (by omega), lo1 _ _ (by omega), lo1 _ _ (by omega), lo1 _ _ (by omega)]
      exact this
    have sol : ∀ (Mm : Mem), MidS M Mm → ∀ L, CSol M1 (wR (61 + T.length) rs) (n + 1) L ↔ Sol (mPut Mm n host kind head a b nt to) (n + 1) L := by
      intro Mm mid L
      have pn := put_n (M := Mm) (n := n) (q := 0) (host := host) (kind := kind) (head := head) (a := a) (b := b) (nt := nt) (to := to)
      refine sol_iff ⟨?_, ?_, ?_, ?_, ?_⟩ (fun i hi => ?_)
      · rw [pn.2.1]; exact hI.2.2.1
      · rw [pn.2.2.1]; exact hI.2.2.2.1
      · rw [pn.2.2.2.1]; exact hI.2.2.2.2.1
      · rw [pn.2.2.2.1, pn.2.2.2.2.1]; exact hI.2.2.2.2.2.1
      · rw [pn.2.2.2.2.2.1]; exact hI.2.2.2.2.2.2.1
      · rw [mPut_r (by omega), mPut_r (by omega), mPut_r (by omega), mPut_r (by omega), mPut_r (by omega), mid 43 i (by omega) (by omega), mid 44 i (by omega) (by omega), mid 45 i (by omega) (by omega), mid 46 i (by omega) (by omega), mid 47 i (by omega) (by omega)]
        exact hcls i hi
    have hROK : ∀ j, j < n + 1 → ROK M1 (wR (61 + T.length) rs j) := by
      have hv2 := hv
      unfold cValid at hv2
      simp only [Bool.and_eq_true, Bool.or_eq_true, decide_eq_true_eq] at hv2
      obtain ⟨-, -, -, v4, ⟨v5, v6⟩, v7, v8⟩ := hv2
      intro j hj
      cases j with
      | zero =>
        show jF (M1 (61 + T.length) 2) ∧ jF (M1 (61 + T.length) 3) ∧ jF (M1 (61 + T.length) 4) ∧ jN (M1 (61 + T.length) 5)
        rw [hI.2.2.2.1, hI.2.2.2.2.1, hI.2.2.2.2.2.1, hI.2.2.2.2.2.2.1]
        refine ⟨cIs_F v4, cIs_F v5, ?_, v7.elim Or.inl (fun h => Or.inr (cIs_F h))⟩
        unfold cB2
        split
        · exact cIs_F v5
        · rename_i e
          exact cIs_F (v6.resolve_left e)
      | succ j =>
        have g2 := hLR.lt (i := j) (by omega)
        have g3 := h1.1.2.2.2.1 j (by omega)
        show jF (M1 (rs j) 2) ∧ jF (M1 (rs j) 3) ∧ jF (M1 (rs j) 4) ∧ jN (M1 (rs j) 5)
        rw [lo1 _ _ (by omega), lo1 _ _ (by omega), lo1 _ _ (by omega), lo1 _ _ (by omega)]
        exact ⟨g3.1, g3.2.1, g3.2.2.1, g3.2.2.2.1⟩
    have low7 : ∀ L, Least M1 (wR (61 + T.length) rs) (n + 1) L → ∀ f, f < 8 → L f ≤ 7 := by
      intro L hL
      exact least7 hROK hL
    -- refused on both sides
    have back : ∀ M', Fr cT M1 M' → MidS M M' ∧ INV E (T ++ [ruleSh]) M' := by
      intro M' f
      have lo : ∀ q j, q ≠ 5 → q < 61 + T.length → M' q j = M q j := fun q j g1 g2 => (cT_q f g1).trans (lo1 _ _ (by omega))
      have mid : MidS M M' := fun q j a b => lo q j (by omega) (by omega)
      refine ⟨mid, n, rs, h1.ext lo, h2.snoc, h3.mid mid, h4.mid mid, ⟨?_, ⟨(mid 41 1 (by omega) (by omega)).trans h5.2.1.1, fun i hi => ?_, fun f hf => ?_⟩, fun k hk => by rw [lo 1 3 (by omega) (by omega), lo 50 k (by omega) (by omega)]; exact h5.2.2 k hk⟩, ⟨V, h6.ext (h1.ext lo).1 lo⟩, h7.cg (lo 41 21 (by omega) (by omega)) (lo 0 7 (by omega) (by omega)) (fun j => lo 40 j (by omega) (by omega)) (fun j => lo 59 j (by omega) (by omega))⟩
      · rw [lo 1 2 (by omega) (by omega), lo 10 0 (by omega) (by omega), lo 10 1 (by omega) (by omega), lo 10 2 (by omega) (by omega), lo 41 0 (by omega) (by omega), lo 41 16 (by omega) (by omega), lo 41 17 (by omega) (by omega), lo 41 18 (by omega) (by omega)]
        exact h5.1
      · have a1 := (hLR.1 i hi).1
        have a2 := hLR.lt hi
        unfold RuleEq
        rw [lo _ _ (by omega) a2, lo _ _ (by omega) a2, lo _ _ (by omega) a2, lo _ _ (by omega) a2, lo _ _ (by omega) a2, lo _ _ (by omega) a2, lo _ _ (by omega) a2, lo _ _ (by omega) a2, lo _ _ (by omega) a2, lo _ _ (by omega) a2, lo 42 i (by omega) (by omega), lo 43 i (by omega) (by omega), lo 44 i (by omega) (by omega), lo 45 i (by omega) (by omega), lo 46 i (by omega) (by omega), lo 47 i (by omega) (by omega), lo 48 i (by omega) (by omega), lo 49 i (by omega) (by omega)]
        exact h5.2.1.2.1 i hi
      · rw [lo 4 f (by omega) (by omega), lo 51 f (by omega) (by omega)]
        exact h5.2.1.2.2 f hf
    have back2 : ∀ E0 T0 M' M'', INV E0 T0 M' → M' 41 1 = Int32.ofNat n → MI M'' → ML M'' → Fr mRu M' M'' → (∀ q r, r < n → 41 < q → q < 50 → M'' q r = M' q r) → M'' 41 1 = M' 41 1 → INV E0 T0 M'' := by
      intro E0 T0 M' M'' hI' em k1 k2 k3 k4 k5
      obtain ⟨n', rs', g1, g2, g3, g4, g5, ⟨V', g6⟩, g7⟩ := hI'
      have en : n' = n := jn_inj (by have := g1.1.2.1; omega) (by omega) (g5.2.1.1.symm.trans em)
      subst en
      have out := k3.out (fun q j hq => mRu_o hq)
      have lay := lay_uniq g4 k2 em hn12 (k5.trans em) (fun q r a b c => k4 q r a (by omega) (by omega))
      have j3 : ∀ j, J3 j → M'' 41 j = M' 41 j := fun j hj => by
        by_cases e : j = 1
        · rw [e]; exact k5
        · refine k3 41 j ?_
          unfold J3 at hj
          rcases hj with rfl | rfl | rfl | rfl | rfl | rfl | rfl | rfl | rfl | rfl
          · rfl
          · exact absurd rfl e
          all_goals rfl
      refine ⟨n', rs', g1.out out, g2, k1, k2, ⟨?_, ⟨k5.trans em, fun i hi => ?_, fun f hf => ?_⟩, fun k hk => by rw [out 1 3 (by omega), k3 50 k rfl]; exact g5.2.2 k hk⟩, ⟨V', g6.row out j3 (fun q i q1 q2 hi => k4 q i hi (by omega) (by omega)) (fun j => k3 50 j rfl) lay⟩, g7.cg (k3 41 21 rfl) (out 0 7 (by omega)) (fun j => out 40 j (by omega)) (fun j => k3 59 j rfl)⟩
      · rw [out 1 2 (by omega), out 10 0 (by omega), out 10 1 (by omega), out 10 2 (by omega), k3 41 0 rfl, k3 41 16 rfl, k3 41 17 rfl, k3 41 18 rfl]
        exact g5.1
      · have a1 := (g1.1.1.1 i hi).1
        unfold RuleEq
        rw [out _ _ (Or.inr a1), out _ _ (Or.inr a1), out _ _ (Or.inr a1), out _ _ (Or.inr a1), out _ _ (Or.inr a1), out _ _ (Or.inr a1), out _ _ (Or.inr a1), out _ _ (Or.inr a1), out _ _ (Or.inr a1), out _ _ (Or.inr a1), k4 42 i hi (by omega) (by omega), k4 43 i hi (by omega) (by omega), k4 44 i hi (by omega) (by omega), k4 45 i hi (by omega) (by omega), k4 46 i hi (by omega) (by omega), k4 47 i hi (by omega) (by omega), k4 48 i hi (by omega) (by omega), k4 49 i hi (by omega) (by omega)]
        exact g5.2.1.2.1 i hi
      · rw [out 4 f (by omega), lay f hf]
        exact g5.2.1.2.2 f hf
    rcases hP with ⟨rfl, rfl, rfl, f, hno⟩ | ⟨rfl, hn, rfl, rfl, f, L0, hL0⟩ | ⟨rfl, hn, hA, hLQ, M2, t, f2, ht, hLt, f3, x3⟩
    · obtain ⟨mid, hI'⟩ := back M' f
      have em : M' 41 1 = Int32.ofNat n := (mid 41 1 (by omega) (by omega)).trans h5.2.1.1
      refine evI_mono (sp_ruleM (h3.mid mid) (h4.mid mid) em hn12) (fun y M'' k => ?_)
      rcases k with ⟨g, -⟩ | ⟨-, g1, g2, -⟩ | ⟨-, -, k1, k2, k3, k4, k5⟩
      · rw [← valid_eq, hv] at g; cases g
      · rcases hto with e | e
        · exact absurd e g1
        · exact absurd e g2
      · rcases k5 with ⟨rfl, k5, -⟩ | ⟨-, -, -, L, hL, -⟩ | ⟨-, -, k5, k6⟩
        · exact ⟨back2 _ _ M' M'' hI' em k1 k2 k3 k4 k5, rfl⟩
        · exact absurd ((sol M' mid L).mpr hL) (hno L)
        · exfalso
          obtain ⟨n2, l2, hn2, e2, -, -, s2, -⟩ := k2
          have en : n2 = n + 1 := jn_inj (by omega) (by omega) (e2.symm.trans k5)
          subst en
          refine hno l2 ((sol M' mid l2).mpr (s2.congr (fun q r a b c => ?_)))
          by_cases e : r = n
          · subst e; exact (k6 q (by omega) (by omega)).symm
          · rw [mPut_r e]; exact (k4 q r (by omega) (by omega) (by omega)).symm
    · obtain ⟨mid, hI'⟩ := back M' f
      have em : M' 41 1 = Int32.ofNat n := (mid 41 1 (by omega) (by omega)).trans h5.2.1.1
      refine evI_mono (sp_ruleM (h3.mid mid) (h4.mid mid) em hn12) (fun y M'' k => ?_)
      rcases k with ⟨g, -⟩ | ⟨-, g1, g2, -⟩ | ⟨-, -, k1, k2, k3, k4, k5⟩
      · rw [← valid_eq, hv] at g; cases g
      · rcases hto with e | e
        · exact absurd e g1
        · exact absurd e g2
      · rcases k5 with ⟨-, -, k5⟩ | ⟨rfl, -, k5, -⟩ | ⟨-, k5, -⟩
        · exfalso
          obtain ⟨f0, hf0, h8⟩ := k5 L0 ((sol M' mid L0).mp hL0.1)
          have := low7 L0 hL0 f0 hf0
          omega
        · exact ⟨back2 _ _ M' M'' hI' em k1 k2 k3 k4 k5, rfl⟩
        · omega
    · have hv2 := hv
      unfold cValid at hv2
      simp only [Bool.and_eq_true, Bool.or_eq_true, decide_eq_true_eq] at hv2
      obtain ⟨-, -, -, v4, ⟨v5, v6⟩, v7, v8⟩ := hv2
      have j2 : jF a := cIs_F v5
      have j3 : jF (cB2 a b) := by
        unfold cB2
        split
        · exact j2
        · rename_i e
          exact cIs_F (v6.resolve_left e)
      have j4 : jN nt := v7.elim Or.inl (fun h => Or.inr (cIs_F h))
      have j5 : jH to := by
        rcases hto with e | e
        · rw [dT e] at v8
          rcases v8 with v8 | v8
          · cases v8
          · exact cIs_H v8
        · rw [e]; exact ⟨0, by omega, rfl⟩
      have hC3 := CW.take h1.1 hn hI f2 hA hLQ (cIs_F v4) j2 j3 j4 j5
      have lo : ∀ q j, q ≠ 5 → q ≠ 3 → q ≠ 4 → q < 61 → cB q j = false → M' q j = M q j := fun q j g1 g2 g3 g4 g5 => by
        rw [f3 q j g5, mcp_q g3, mup_q g2, mup_q g2, cT_q f2 g1]
        exact lo1 _ _ (by omega)
      have hi : ∀ q j, 61 ≤ q → M' q j = M1 q j := fun q j g => by
        rw [f3 q j (cB_hi g), mcp_q (by omega), mup_q (by omega), mup_q (by omega)]
        exact cT_q f2 (by omega)
      have lay4 : ∀ f, f < 8 → M' 4 f = Int32.ofNat (t f) := fun f hf => by
        rw [f3 4 f rfl, mcp_same hf, mup_q (by omega), mup_q (by omega)]
        exact ht f hf
      have mid : MidS M M' := fun q j a b => lo q j (by omega) (by omega) (by omega) b (cB_m a)
      have em : M' 41 1 = Int32.ofNat n := (mid 41 1 (by omega) (by omega)).trans h5.2.1.1
      refine evI_mono (sp_ruleM (h3.mid mid) (h4.mid mid) em hn12) (fun y M'' k => ?_)
      rcases k with ⟨g, -⟩ | ⟨-, g1, g2, -⟩ | ⟨-, -, k1, k2, k3, k4, k5⟩
      · rw [← valid_eq, hv] at g; cases g
      · rcases hto with e | e
        · exact absurd e g1
        · exact absurd e g2
      · rcases k5 with ⟨-, -, k5⟩ | ⟨-, k5, -⟩ | ⟨rfl, -, k5, k6⟩
        · exfalso
          obtain ⟨f0, hf0, h8⟩ := k5 t ((sol M' mid t).mp hLt.1)
          have := low7 t hLt f0 hf0
          omega
        · omega
        · refine ⟨?_, rfl⟩
          have out := k3.out (fun q j hq => mRu_o hq)
          have pn := put_n (M := M') (n := n) (q := 0) (host := host) (kind := kind) (head := head) (a := a) (b := b) (nt := nt) (to := to)
          have hCI2 : CI E' T' M'' (n + 1) (rsN n (61 + T.length) rs) := by
            have hCI : CI E' T' M' (n + 1) (rsN n (61 + T.length) rs) := by
              refine ⟨hC3.frB f3, ?_, ?_, ?_⟩
              · obtain ⟨c, g1, g2, g3⟩ := h1.2.1
                exact ⟨c, g1, (lo 0 6 (by omega) (by omega) (by omega) (by omega) rfl).trans g2, fun j hj => by rw [lo 1 2 (by omega) (by omega) (by omega) (by omega) rfl, lo 39 j (by omega) (by omega) (by omega) (by omega) rfl]; exact g3 j hj⟩
              · rw [lo 0 7 (by omega) (by omega) (by omega) (by omega) rfl]; exact h1.2.2.1
              · rw [lo 11 11 (by omega) (by omega) (by omega) (by omega) rfl]; exact h1.2.2.2
            exact hCI.out out
          have w1 : ∀ j, M'' 1 j = M 1 j := fun j => (out 1 j (by omega)).trans (lo 1 j (by omega) (by omega) (by omega) (by omega) rfl)
          have m41 : ∀ j, j ≠ 1 → M'' 41 j = M 41 j := fun j hj => by
            refine (k3 41 j ?_).trans (mid 41 j (by omega) (by omega))
            unfold mRu
            have : Nat.beq j 1 = false := by
              cases hb : Nat.beq j 1 with
              | false => rfl
              | true => exact absurd (Nat.eq_of_beq_eq_true hb) hj
            rw [this]
            rfl
          suffices hrel : REL M'' (n + 1) (rsN n (61 + T.length) rs) by
            refine ⟨n + 1, rsN n (61 + T.length) rs, hCI2, hLQ, k1, k2, hrel, X2.mk (V := V) hCI2.1 k1 k2 hrel.2.1 ?_ ?_ ?_ ?_ ?_ ?_ ?_ ?_ ?_ ?_ ?_ ?_ ?_ ?_ ?_, ?_⟩
            · rw [out 6 4 (by omega)]
              refine x3.2.1.cg (fun j hj => ?_)
              have := (hCI2.1.1.1 j hj).1
              rw [out _ _ (Or.inr this)]
              exact f3 _ _ (cB_hi this)
            · intro j
              rw [out 7 j (by omega)]
              exact x3.1 j
            · intro i hi2
              by_cases e : i = n
              · rw [e, k6 49 (by omega) (by omega), pn.2.2.2.2.2.2.2]
                decide
              · rw [k4 49 i (by omega) (by omega) (by omega), mid 49 i (by omega) (by omega)]
                exact h6.2.2.2.2.1 i (by omega)
            · rw [out 11 10 (by omega)]; exact x3.2.2
            · intro k hk; rw [w1]; exact h6.1.2.2.1 k hk
            · rw [w1]; exact h6.1.2.2.2.1
            · rw [w1]; exact h6.1.2.2.2.2.1
            · rw [w1]; exact h6.1.2.2.2.2.2.1
            · rw [w1]; exact h6.1.2.2.2.2.2.2
            · intro k hk; rw [k3 50 k rfl, mid 50 k (by omega) (by omega)]; exact h6.2.1.2.1 k hk
            · rw [m41 0 (by omega)]; exact h6.2.1.2.2.1
            · rw [m41 12 (by omega)]; exact h6.2.1.2.2.2.2.1.1
            · rw [m41 13 (by omega)]; exact h6.2.1.2.2.2.2.2.1.1
            · rw [m41 14 (by omega)]; exact h6.2.1.2.2.2.2.2.2.1.1
            · rw [m41 15 (by omega)]; exact h6.2.1.2.2.2.2.2.2.2.1
            · exact h7.cg (m41 21 (by omega)) ((out 0 7 (by omega)).trans (lo 0 7 (by omega) (by omega) (by omega) (by omega) rfl)) (fun j => (out 40 j (by omega)).trans (lo 40 j (by omega) (by omega) (by omega) (by omega) rfl)) (fun j => (k3 59 j rfl).trans (mid 59 j (by omega) (by omega)))
          refine ⟨?_, ⟨k5, fun i hi2 => ?_, fun f hf => ?_⟩, fun k hk => by rw [out 1 3 (by omega), k3 50 k rfl, lo 1 3 (by omega) (by omega) (by omega) (by omega) rfl, mid 50 k (by omega) (by omega)]; exact h5.2.2 k hk⟩
          · rw [out 1 2 (by omega), out 10 0 (by omega), out 10 1 (by omega), out 10 2 (by omega), k3 41 0 rfl, k3 41 16 rfl, k3 41 17 rfl, k3 41 18 rfl, lo 1 2 (by omega) (by omega) (by omega) (by omega) rfl, lo 10 0 (by omega) (by omega) (by omega) (by omega) rfl, lo 10 1 (by omega) (by omega) (by omega) (by omega) rfl, lo 10 2 (by omega) (by omega) (by omega) (by omega) rfl, mid 41 0 (by omega) (by omega), mid 41 16 (by omega) (by omega), mid 41 17 (by omega) (by omega), mid 41 18 (by omega) (by omega)]
            exact h5.1
          · unfold rsN
            split
            · rename_i e
              subst e
              have c : ∀ j, M'' (61 + T.length) j = M1 (61 + T.length) j := fun j => (out _ _ (by omega)).trans (hi _ _ (by omega))
              unfold RuleEq
              rw [c 0, c 1, c 2, c 3, c 4, c 5, c 6, c 7, c 8, c 9, k6 42 (by omega) (by omega), k6 43 (by omega) (by omega), k6 44 (by omega) (by omega), k6 45 (by omega) (by omega), k6 46 (by omega) (by omega), k6 47 (by omega) (by omega), k6 48 (by omega) (by omega), k6 49 (by omega) (by omega), pn.1, pn.2.1, pn.2.2.1, pn.2.2.2.1, pn.2.2.2.2.1, pn.2.2.2.2.2.1, pn.2.2.2.2.2.2.1, pn.2.2.2.2.2.2.2]
              exact hI.2
            · have a1 := (hLR.1 i (by omega)).1
              have a2 := hLR.lt (i := i) (by omega)
              have c : ∀ j, M'' (rs i) j = M (rs i) j := fun j => (out _ _ (by omega)).trans ((hi _ _ a1).trans (lo1 _ _ (by omega)))
              have m : ∀ q, 42 ≤ q → q ≤ 49 → M'' q i = M q i := fun q g1 g2 => (k4 q i (by omega) (by omega) (by omega)).trans (mid q i (by omega) (by omega))
              unfold RuleEq
              rw [c 0, c 1, c 2, c 3, c 4, c 5, c 6, c 7, c 8, c 9, m 42 (by omega) (by omega), m 43 (by omega) (by omega), m 44 (by omega) (by omega), m 45 (by omega) (by omega), m 46 (by omega) (by omega), m 47 (by omega) (by omega), m 48 (by omega) (by omega), m 49 (by omega) (by omega)]
              exact h5.2.1.2.1 i (by omega)
          · rw [out 4 f (by omega), lay4 f hf]
            obtain ⟨n2, l2, hn2, e2, la, -, s2, m2⟩ := k2
            have en : n2 = n + 1 := jn_inj (by omega) (by omega) (e2.symm.trans k5)
            subst en
            rw [la f hf]
            have cg : ∀ q r, r < n + 1 → 42 < q → q < 48 → M'' q r = mPut M' n host kind head a b nt to q r := fun q r g1 g2 g3 => by
              by_cases e : r = n
              · subst e; exact k6 q (by omega) (by omega)
              · rw [mPut_r e]; exact k4 q r (by omega) (by omega) (by omega)
            have b1 := hLt.2 l2 ((sol M' mid l2).mpr (s2.congr (fun q r g1 g2 g3 => (cg q r g1 g2 g3).symm))) f hf
            have b2 := m2 t (((sol M' mid t).mp hLt.1).congr (fun q r g1 g2 g3 => cg q r g1 g2 g3)) f hf
            rw [Nat.le_antisymm b1 b2]
end PR
