/-! The reference: rule, whole -/
section RV
variable {E : Value} {T : List SH} {M : Mem} {d : Nat}
set_option maxRecDepth 20000 in
theorem mPut_r {n r q : Nat} {host kind head a b nt to : Int32} (h : r ≠ n) : mPut M n host kind head a b nt to q r = M q r := by
  unfold mPut
  rw [mup_j h, mup_j h, mup_j h, mup_j h, mup_j h, mup_j h, mup_j h, mup_j h]
set_option maxRecDepth 20000 in
theorem mPut_ok {n : Nat} {host kind head a b nt to : Int32} (hn : n ≤ 12) (hR : RulesOK M) (h1 : jF head) (h2 : jF a) (h3 : jN b) (h4 : jN nt) (h5 : jH to) : RulesOK (mPut M n host kind head a b nt to) := by
  intro r hr
  by_cases e : r = n
  · subst e
    have e44 : mPut M r host kind head a b nt to 44 r = head := by unfold mPut; rw [mup_q (by omega), mup_q (by omega), mup_q (by omega), mup_q (by omega), mup_q (by omega), mup_same]
    have e45 : mPut M r host kind head a b nt to 45 r = a := by unfold mPut; rw [mup_q (by omega), mup_q (by omega), mup_q (by omega), mup_q (by omega), mup_same]
    have e46 : mPut M r host kind head a b nt to 46 r = b := by unfold mPut; rw [mup_q (by omega), mup_q (by omega), mup_q (by omega), mup_same]
    have e47 : mPut M r host kind head a b nt to 47 r = nt := by unfold mPut; rw [mup_q (by omega), mup_q (by omega), mup_same]
    have e48 : mPut M r host kind head a b nt to 48 r = to := by unfold mPut; rw [mup_q (by omega), mup_same]
    rw [e44, e45, e46, e47, e48]
    exact ⟨h1, h2, h3, h4, h5⟩
  · rw [mPut_r e, mPut_r e, mPut_r e, mPut_r e, mPut_r e]
    exact hR r hr
set_option maxRecDepth 20000 in
theorem RulesOK.congr {M' : Mem} (h : RulesOK M) (k : ∀ q r, 43 < q → q < 49 → M' q r = M q r) : RulesOK M' := by
  intro r hr
  rw [k 44 r (by omega) (by omega), k 45 r (by omega) (by omega), k 46 r (by omega) (by omega), k 47 r (by omega) (by omega), k 48 r (by omega) (by omega)]
  exact h r hr
set_option maxRecDepth 20000 in
theorem mLy_q {M' : Mem} (f : Fr mLy M M') {q j : Nat} (h : q ≠ 51) : M' q j = M q j := by
  apply f
  unfold mLy
  cases hb : Nat.beq q 51 with
  | false => rfl
  | true => exact absurd (Nat.eq_of_beq_eq_true hb) h
set_option maxRecDepth 20000 in
theorem mRu_of {M' : Mem} (h : ∀ q j, ¬ (41 < q ∧ q < 50) → q ≠ 51 → ¬ (q = 41 ∧ j = 1) → M' q j = M q j) : Fr mRu M M' := by
  intro q j hq
  unfold mRu at hq
  simp only [Bool.or_eq_false_iff, Bool.and_eq_false_iff] at hq
  obtain ⟨h1, h2, h3⟩ := hq
  refine h q j (fun g => ?_) (fun g => ?_) (fun g => ?_)
  · have a1 : Nat.blt 41 q = true := Nat.blt_eq.mpr g.1
    have a2 : Nat.blt q 50 = true := Nat.blt_eq.mpr g.2
    rw [a1, a2] at h1
    rcases h1 with h1 | h1 <;> cases h1
  · subst g; cases h2
  · obtain ⟨rfl, rfl⟩ := g
    rcases h3 with h3 | h3 <;> cases h3
set_option maxRecDepth 20000 in
theorem mPut_q {n q j : Nat} {host kind head a b nt to : Int32} (h : ¬ (41 < q ∧ q < 50)) : mPut M n host kind head a b nt to q j = M q j := by
  unfold mPut
  rw [mup_q (by omega), mup_q (by omega), mup_q (by omega), mup_q (by omega), mup_q (by omega), mup_q (by omega), mup_q (by omega), mup_q (by omega)]
set_option maxRecDepth 20000 in
/-- the state behind a refused rule -/
theorem rule_back {n : Nat} {host kind head a b nt to : Int32} {M3 M4 : Mem} {l4 : Nat → Nat} {x : Int32} (hI : MI M) (hL : ML M) (hr : M 41 1 = Int32.ofNat n) (hn : n ≤ 12) (e3 : ∀ q j, q ≠ 51 → ¬ (q = 41 ∧ j = 1) → M3 q j = mPut M n host kind head a b nt to q j) (r3 : M3 41 1 = Int32.ofNat n) (hR3 : RulesOK M3) (f4 : Fr mLy M3 M4) (hl4 : LayAt M4 l4) (hle : ∀ L, Sol M3 n L → ∀ f, f < 8 → l4 f ≤ L f) (hx : (x = 1 ∧ Sol M3 n l4 ∧ ∀ f, f < 8 → l4 f ≤ 7) ∨ (x = 0 ∧ ∃ f, f < 8 ∧ 8 ≤ l4 f)) : MI M4 ∧ ML M4 ∧ Fr mRu M M4 ∧ (∀ q r, r < n → 41 < q → q < 50 → M4 q r = M q r) ∧ M4 41 1 = M 41 1 := by
  obtain ⟨n', l, hn', hr', hla, h7, hs, hmin⟩ := hL
  have hnn : n' = n := jn_inj (by omega) (by omega) (hr'.symm.trans hr)
  subst hnn
  have low : ∀ q r, r < n' → 41 < q → q < 50 → M3 q r = M q r := fun q r h1 h2 h3 => (e3 q r (by omega) (by omega)).trans (mPut_r (by omega))
  have hs3 : Sol M3 n' l := hs.congr (fun q r h1 h2 h3 => low q r h1 (by omega) (by omega))
  have hgood : Sol M3 n' l4 ∧ ∀ f, f < 8 → l4 f ≤ 7 := by
    rcases hx with ⟨-, h1, h2⟩ | ⟨-, f, hf, h8⟩
    · exact ⟨h1, h2⟩
    · have a1 := hle l hs3 f hf
      have a2 := h7 f hf
      omega
  have e4 : ∀ q j, q ≠ 51 → M4 q j = M3 q j := fun q j h => mLy_q f4 h
  have e5 : ∀ q j, ¬ (41 < q ∧ q < 50) → q ≠ 51 → ¬ (q = 41 ∧ j = 1) → M4 q j = M q j := fun q j g1 g2 g3 => (e4 q j g2).trans ((e3 q j g2 g3).trans (mPut_q g1))
  have r4 : M4 41 1 = Int32.ofNat n' := (e4 41 1 (by omega)).trans r3
  refine ⟨?_, ?_, mRu_of e5, fun q r h1 h2 h3 => (e4 q r (by omega)).trans (low q r h1 h2 h3), r4.trans hr.symm⟩
  · obtain ⟨m1, m2, m3, m4, m5, m6, m7, m8, m9⟩ := hI
    refine ⟨?_, ⟨n', hn, r4⟩, ?_, fun f hf => ⟨l4 f, Nat.le_trans (hgood.2 f hf) (by omega), hl4 f hf⟩, ?_, ?_, ?_, fun k hk => ?_, ?_⟩
    · rw [e5 41 0 (by omega) (by omega) (by omega)]; exact m1
    · exact hR3.congr (fun q r h1 h2 => e4 q r (by omega))
    · rw [e5 41 12 (by omega) (by omega) (by omega)]; exact m5
    · rw [e5 41 14 (by omega) (by omega) (by omega)]; exact m6
    · rw [e5 41 19 (by omega) (by omega) (by omega)]; exact m7
    · rw [e5 52 k (by omega) (by omega) (by omega)]; exact m8 k hk
    · rw [e5 41 21 (by omega) (by omega) (by omega)]; exact m9
  · refine ⟨n', l4, hn, r4, hl4, hgood.2, hgood.1.congr (fun q r _ h1 h2 => e4 q r (by omega)), fun L hL => hle L (hL.congr (fun q r _ h1 h2 => (e4 q r (by omega)).symm))⟩
set_option maxRecDepth 20000 in
theorem st_rule95 {n : Nat} {host kind head a b nt to : Int32} {x8 : Value} (hI : MI M) (hL : ML M) (hr : M 41 1 = Int32.ofNat n) (hn : n ≤ 12) (hv : mValid host kind head a b nt to = true) (hto : kind = 2 ∨ to = 0) (h1 : jF head) (h2 : jF a) (h3 : jN b) (h4 : jN nt) (h5 : jH to) : Go [] (d + 3) (some .int) tabX9_rule 95 [(0, .ref 41), (1, .int host), (2, .int kind), (3, .int head), (4, .int a), (5, .int b), (6, .int nt), (7, .int to), (8, x8)] [] (hp (zz E T) M) 0 0 (QI (zz E T) (RuleQ M n host kind head a b nt to)) := by
  have hR : RulesOK M := hI.2.2.1
  have e1 : M 41 1 + 1 = Int32.ofNat (n + 1) := by rw [hr]; exact jn_add n 1
  have hR0 : RulesOK (mPut M n host kind head a b nt to) := mPut_ok hn hR h1 h2 h3 h4 h5
  have hR1 : RulesOK (mup (mPut M n host kind head a b nt to) 41 1 (M 41 1 + 1)) := hR0.congr (fun q r g1 g2 => by rw [mup_q (by omega)])
  refine g_aload_n (n := 96) rfl rfl rfl ?_
  refine g_aload_n (n := 97) rfl rfl rfl ?_
  refine g_getI (n := 100) rfl rfl z_41 rfl ?_
  rw [hr]
  refine g_iload_n (n := 101) rfl rfl rfl ?_
  refine g_iload_n (n := 102) rfl rfl rfl ?_
  refine g_iload_n (n := 103) rfl rfl rfl ?_
  refine g_iload (n := 105) rfl rfl rfl ?_
  refine g_iload (n := 107) rfl rfl rfl ?_
  refine g_iload (n := 109) rfl rfl rfl ?_
  refine g_iload (n := 111) rfl rfl rfl ?_
  refine g_cV9 (n := 114) rfl rfl rfl rfl mt_X9_sets rfl rfl (r_k z_41) (sp_putM (by omega)) ?_
  rintro M111 rfl
  refine g_aload_n (n := 115) rfl rfl rfl ?_
  refine g_dup (n := 116) rfl rfl ?_
  refine g_getI (n := 119) rfl rfl z_41 rfl ?_
  refine g_const (n := 120) rfl rfl (s_iconst (v := 1) (by decide)) ?_
  refine g_iadd (n := 121) rfl rfl ?_
  refine g_putI (n := 124) rfl rfl z_41 rfl rfl ?_
  refine g_aload_n (n := 125) rfl rfl rfl ?_
  refine g_cI1 (n := 128) rfl rfl rfl rfl mt_X9_lays rfl rfl (r_k z_41) (sp_lays (n := n + 1) e1 (by omega) hR1) ?_
  rintro x M2 ⟨f2, l2, hl2, hle2, hx2⟩
  have q2 : ∀ q j, q ≠ 51 → ¬ (q = 41 ∧ j = 1) → M2 q j = mPut M n host kind head a b nt to q j := fun q j g1 g2 => (mLy_q f2 g1).trans (by rw [mup_if, if_neg g2])
  have r2 : M2 41 1 = Int32.ofNat (n + 1) := (mLy_q f2 (by omega)).trans e1
  have sol : ∀ L, Sol (mup (mPut M n host kind head a b nt to) 41 1 (M 41 1 + 1)) (n + 1) L ↔ Sol (mPut M n host kind head a b nt to) (n + 1) L := fun L => ⟨fun h => h.congr (fun q r _ g1 g2 => by rw [mup_q (by omega)]), fun h => h.congr (fun q r _ g1 g2 => by rw [mup_q (by omega)])⟩
  refine g_istore (n := 130) rfl rfl ?_
  refine g_iload (n := 132) rfl rfl rfl ?_
  refine g_zeq (n := 135) rfl rfl (fun h132 => ?_) (fun h132 => ?_)
  · skip
    have hx0 : ∃ f, f < 8 ∧ 8 ≤ l2 f := by
      rcases hx2 with ⟨g, -⟩ | ⟨-, g⟩
      · rw [h132] at g; exact absurd g (by decide)
      · exact g
    refine g_aload_n (n := 145) rfl rfl rfl ?_
    refine g_dup (n := 146) rfl rfl ?_
    refine g_getI (n := 149) rfl rfl z_41 rfl ?_
    refine g_const (n := 150) rfl rfl (s_iconst (v := 1) (by decide)) ?_
    refine g_isub (n := 151) rfl rfl ?_
    refine g_putI (n := 154) rfl rfl z_41 rfl rfl ?_
    have r3 : M2 41 1 - 1 = Int32.ofNat n := by rw [r2]; exact jn_sub (b := 1) (by omega)
    have q3 : ∀ q j, q ≠ 51 → ¬ (q = 41 ∧ j = 1) → mup M2 41 1 (M2 41 1 - 1) q j = mPut M n host kind head a b nt to q j := fun q j g1 g2 => by rw [mup_if, if_neg g2]; exact q2 q j g1 g2
    have hR3 : RulesOK (mup M2 41 1 (M2 41 1 - 1)) := hR0.congr (fun q r g1 g2 => q3 q r (by omega) (by omega))
    refine g_aload_n (n := 155) rfl rfl rfl ?_
    refine g_cI1 (n := 158) rfl rfl rfl rfl mt_X9_lays rfl rfl (r_k z_41) (sp_lays (n := n) r3 (by omega) hR3) ?_
    rintro x2 M4 ⟨f4, l4, hl4, hle4, hx4⟩
    have hback := rule_back hI hL hr hn q3 r3 hR3 f4 hl4 hle4 hx4
    obtain ⟨b1, b2, b3, b4, b5⟩ := hback
    refine g_istore (n := 160) rfl rfl ?_
    refine g_iload (n := 162) rfl rfl rfl ?_
    refine g_zeq (n := 165) rfl rfl (fun h162 => ?_) (fun h162 => ?_)
    · skip
      refine g_const (n := 172) rfl rfl (s_bipush (v := (-3)) (by decide)) ?_
      refine g_retI rfl ?_
      refine Or.inr (Or.inr ⟨hv, hto, b1, b2, b3, b4, Or.inl ⟨rfl, b5, fun L hL => ?_⟩⟩)
      obtain ⟨f, hf, h8⟩ := hx0
      exact ⟨f, hf, Nat.le_trans h8 (hle2 L ((sol L).mpr hL) f hf)⟩
    · skip
      exact absurd h132 h162
  · skip
    have hx1 : Sol (mup (mPut M n host kind head a b nt to) 41 1 (M 41 1 + 1)) (n + 1) l2 ∧ ∀ f, f < 8 → l2 f ≤ 7 := by
      rcases hx2 with ⟨-, g1, g2⟩ | ⟨g, -⟩
      · exact ⟨g1, g2⟩
      · exact absurd g h132
    refine g_aload_n (n := 136) rfl rfl rfl ?_
    refine g_getI (n := 139) rfl rfl z_41 rfl ?_
    refine g_const (n := 141) rfl rfl (s_bipush (v := 12) (by decide)) ?_
    refine g_ile (n := 144) rfl rfl (fun h141 => ?_) (fun h141 => ?_)
    · skip
      rw [r2] at h141
      have g9 := (jn_le (b := 12) (by omega) (by omega)).mp h141
      refine g_aload_n (n := 174) rfl rfl rfl ?_
      refine g_getI (n := 177) rfl rfl z_41 rfl ?_
      refine g_const (n := 178) rfl rfl (s_iconst (v := 1) (by decide)) ?_
      refine g_isub (n := 179) rfl rfl ?_
      refine g_retI rfl ?_
      refine Or.inr (Or.inr ⟨hv, hto, ?_, ?_, ?_, ?_, Or.inr (Or.inr ⟨?_, by omega, r2, ?_⟩)⟩)
      · obtain ⟨m1, m2, m3, m4, m5, m6, m7, m8, m9⟩ := hI
        have e5 : ∀ q j, ¬ (41 < q ∧ q < 50) → q ≠ 51 → ¬ (q = 41 ∧ j = 1) → M2 q j = M q j := fun q j g1 g2 g3 => (q2 q j g2 g3).trans (mPut_q g1)
        refine ⟨?_, ⟨n + 1, by omega, r2⟩, ?_, fun f hf => ⟨l2 f, Nat.le_trans (hx1.2 f hf) (by omega), hl2 f hf⟩, ?_, ?_, ?_, fun k hk => ?_, ?_⟩
        · rw [e5 41 0 (by omega) (by omega) (by omega)]; exact m1
        · exact hR0.congr (fun q r g1 g2 => q2 q r (by omega) (by omega))
        · rw [e5 41 12 (by omega) (by omega) (by omega)]; exact m5
        · rw [e5 41 14 (by omega) (by omega) (by omega)]; exact m6
        · rw [e5 41 19 (by omega) (by omega) (by omega)]; exact m7
        · rw [e5 52 k (by omega) (by omega) (by omega)]; exact m8 k hk
        · rw [e5 41 21 (by omega) (by omega) (by omega)]; exact m9
      · refine ⟨n + 1, l2, by omega, r2, hl2, hx1.2, hx1.1.congr (fun q r _ g1 g2 => mLy_q f2 (by omega)), fun L hL => hle2 L (hL.congr (fun q r _ g1 g2 => (mLy_q f2 (by omega)).symm))⟩
      · exact mRu_of (fun q j g1 g2 g3 => (q2 q j g2 g3).trans (mPut_q g1))
      · exact fun q r g1 g2 g3 => (q2 q r (by omega) (by omega)).trans (mPut_r (by omega))
      · rw [r2]; exact jn_sub (b := 1) (by omega)
      · exact fun q g1 g2 => q2 q n (by omega) (by omega)
    · skip
      rw [r2] at h141
      have g9 := (jn_lt (a := 12) (by omega) (by omega)).mp h141
      refine g_aload_n (n := 145) rfl rfl rfl ?_
      refine g_dup (n := 146) rfl rfl ?_
      refine g_getI (n := 149) rfl rfl z_41 rfl ?_
      refine g_const (n := 150) rfl rfl (s_iconst (v := 1) (by decide)) ?_
      refine g_isub (n := 151) rfl rfl ?_
      refine g_putI (n := 154) rfl rfl z_41 rfl rfl ?_
      have r3 : M2 41 1 - 1 = Int32.ofNat n := by rw [r2]; exact jn_sub (b := 1) (by omega)
      have q3 : ∀ q j, q ≠ 51 → ¬ (q = 41 ∧ j = 1) → mup M2 41 1 (M2 41 1 - 1) q j = mPut M n host kind head a b nt to q j := fun q j g1 g2 => by rw [mup_if, if_neg g2]; exact q2 q j g1 g2
      have hR3 : RulesOK (mup M2 41 1 (M2 41 1 - 1)) := hR0.congr (fun q r g1 g2 => q3 q r (by omega) (by omega))
      refine g_aload_n (n := 155) rfl rfl rfl ?_
      refine g_cI1 (n := 158) rfl rfl rfl rfl mt_X9_lays rfl rfl (r_k z_41) (sp_lays (n := n) r3 (by omega) hR3) ?_
      rintro x2 M4 ⟨f4, l4, hl4, hle4, hx4⟩
      have hback := rule_back hI hL hr hn q3 r3 hR3 f4 hl4 hle4 hx4
      obtain ⟨b1, b2, b3, b4, b5⟩ := hback
      refine g_istore (n := 160) rfl rfl ?_
      refine g_iload (n := 162) rfl rfl rfl ?_
      refine g_zeq (n := 165) rfl rfl (fun h162 => ?_) (fun h162 => ?_)
      · skip
        exact absurd h162 h132
      · skip
        refine g_const (n := 167) rfl rfl (s_bipush (v := (-4)) (by decide)) ?_
        refine g_goto rfl ?_
        refine g_retI rfl ?_
        refine Or.inr (Or.inr ⟨hv, hto, b1, b2, b3, b4, Or.inr (Or.inl ⟨rfl, by omega, b5, l2, (sol l2).mp hx1.1, hx1.2⟩)⟩)
set_option maxRecDepth 20000 in
theorem st_rule42 {n : Nat} {host kind head a b nt to : Int32} {t : Bool} (hI : MI M) (hL : ML M) (hr : M 41 1 = Int32.ofNat n) (hn : n ≤ 12) (ht : t = (mFact head && (mFact a && (mIn b (-1) 7 && mIn nt (-1) 7)))) : Go [] (d + 3) (some .int) tabX9_rule 42 [(0, .ref 41), (1, .int host), (2, .int kind), (3, .int head), (4, .int a), (5, .int b), (6, .int nt), (7, .int to)] [.int (bI t)] (hp (zz E T) M) 0 0 (QI (zz E T) (RuleQ M n host kind head a b nt to)) := by
  refine g_istore (n := 44) rfl rfl ?_
  refine g_iload_n (n := 45) rfl rfl rfl ?_
  refine g_const (n := 46) rfl rfl (s_iconst (v := (-1)) (by decide)) ?_
  refine g_const (n := 47) rfl rfl (s_iconst (v := 3) (by decide)) ?_
  refine g_cP3 (n := 50) rfl rfl rfl rfl mt_X9_in rfl rfl rfl (sp_in) ?_
  refine g_bz (n := 53) rfl rfl (fun h50 => ?_) (fun h50 => ?_)
  · skip
    refine g_const (n := 81) rfl rfl (s_iconst (v := (-1)) (by decide)) ?_
    refine g_retI rfl ?_
    first | (exact Or.inl ⟨by unfold mValid; rw [h50]; rfl, rfl, rfl⟩) | (exact Or.inl ⟨by unfold mValid; rw [h50, h59]; rfl, rfl, rfl⟩) | (exact Or.inl ⟨by unfold mValid; rw [h50, h59, ← ht, h64]; rfl, rfl, rfl⟩) | (exact Or.inl ⟨by unfold mValid; rw [h50, h59, ← ht, h64, dT h69, h77]; rfl, rfl, rfl⟩) | (exact absurd h69 h84) | (exact absurd h84 h69) | (exact Or.inr (Or.inl ⟨by unfold mValid; rw [h50, h59, ← ht, h64, dF h69]; rfl, h69, h89, rfl, rfl⟩))
  · skip
    refine g_iload_n (n := 54) rfl rfl rfl ?_
    refine g_const (n := 55) rfl rfl (s_iconst (v := 0) (by decide)) ?_
    refine g_const (n := 56) rfl rfl (s_iconst (v := 2) (by decide)) ?_
    refine g_cP3 (n := 59) rfl rfl rfl rfl mt_X9_in rfl rfl rfl (sp_in) ?_
    refine g_bz (n := 62) rfl rfl (fun h59 => ?_) (fun h59 => ?_)
    · skip
      refine g_const (n := 81) rfl rfl (s_iconst (v := (-1)) (by decide)) ?_
      refine g_retI rfl ?_
      first | (exact Or.inl ⟨by unfold mValid; rw [h50]; rfl, rfl, rfl⟩) | (exact Or.inl ⟨by unfold mValid; rw [h50, h59]; rfl, rfl, rfl⟩) | (exact Or.inl ⟨by unfold mValid; rw [h50, h59, ← ht, h64]; rfl, rfl, rfl⟩) | (exact Or.inl ⟨by unfold mValid; rw [h50, h59, ← ht, h64, dT h69, h77]; rfl, rfl, rfl⟩) | (exact absurd h69 h84) | (exact absurd h84 h69) | (exact Or.inr (Or.inl ⟨by unfold mValid; rw [h50, h59, ← ht, h64, dF h69]; rfl, h69, h89, rfl, rfl⟩))
    · skip
      refine g_iload (n := 64) rfl rfl rfl ?_
      refine g_bz (n := 67) rfl rfl (fun h64 => ?_) (fun h64 => ?_)
      · skip
        refine g_const (n := 81) rfl rfl (s_iconst (v := (-1)) (by decide)) ?_
        refine g_retI rfl ?_
        first | (exact Or.inl ⟨by unfold mValid; rw [h50]; rfl, rfl, rfl⟩) | (exact Or.inl ⟨by unfold mValid; rw [h50, h59]; rfl, rfl, rfl⟩) | (exact Or.inl ⟨by unfold mValid; rw [h50, h59, ← ht, h64]; rfl, rfl, rfl⟩) | (exact Or.inl ⟨by unfold mValid; rw [h50, h59, ← ht, h64, dT h69, h77]; rfl, rfl, rfl⟩) | (exact absurd h69 h84) | (exact absurd h84 h69) | (exact Or.inr (Or.inl ⟨by unfold mValid; rw [h50, h59, ← ht, h64, dF h69]; rfl, h69, h89, rfl, rfl⟩))
      · skip
        have hF := ht.symm.trans h64
        simp only [Bool.and_eq_true] at hF
        obtain ⟨j1, j2, j3, j4⟩ := hF
        refine g_iload_n (n := 68) rfl rfl rfl ?_
        refine g_const (n := 69) rfl rfl (s_iconst (v := 2) (by decide)) ?_
        refine g_ine (n := 72) rfl rfl (fun h69 => ?_) (fun h69 => ?_)
        · skip
          refine g_iload_n (n := 83) rfl rfl rfl ?_
          refine g_const (n := 84) rfl rfl (s_iconst (v := 2) (by decide)) ?_
          refine g_ieq (n := 87) rfl rfl (fun h84 => ?_) (fun h84 => ?_)
          · skip
            first | exact st_rule95 hI hL hr hn (by unfold mValid; rw [h50, h59, ← ht, h64, dT h69, h77]; rfl) (Or.inl h69) (mIn_F j1) (mIn_F j2) (mIn_N j3) (mIn_N j4) (mIn_H h77) | exact absurd h84 h69 | exact st_rule95 hI hL hr hn (by unfold mValid; rw [h50, h59, ← ht, h64, dF h69]; rfl) (Or.inr h89) (mIn_F j1) (mIn_F j2) (mIn_N j3) (mIn_N j4) (by rw [h89]; exact ⟨0, by omega, rfl⟩) | exact absurd h69 h84
          · skip
            refine g_iload (n := 89) rfl rfl rfl ?_
            refine g_zeq (n := 92) rfl rfl (fun h89 => ?_) (fun h89 => ?_)
            · skip
              first | exact st_rule95 hI hL hr hn (by unfold mValid; rw [h50, h59, ← ht, h64, dT h69, h77]; rfl) (Or.inl h69) (mIn_F j1) (mIn_F j2) (mIn_N j3) (mIn_N j4) (mIn_H h77) | exact absurd h84 h69 | exact st_rule95 hI hL hr hn (by unfold mValid; rw [h50, h59, ← ht, h64, dF h69]; rfl) (Or.inr h89) (mIn_F j1) (mIn_F j2) (mIn_N j3) (mIn_N j4) (by rw [h89]; exact ⟨0, by omega, rfl⟩) | exact absurd h69 h84
            · skip
              refine g_const (n := 94) rfl rfl (s_bipush (v := (-2)) (by decide)) ?_
              refine g_retI rfl ?_
              first | (exact Or.inl ⟨by unfold mValid; rw [h50]; rfl, rfl, rfl⟩) | (exact Or.inl ⟨by unfold mValid; rw [h50, h59]; rfl, rfl, rfl⟩) | (exact Or.inl ⟨by unfold mValid; rw [h50, h59, ← ht, h64]; rfl, rfl, rfl⟩) | (exact Or.inl ⟨by unfold mValid; rw [h50, h59, ← ht, h64, dT h69, h77]; rfl, rfl, rfl⟩) | (exact absurd h69 h84) | (exact absurd h84 h69) | (exact Or.inr (Or.inl ⟨by unfold mValid; rw [h50, h59, ← ht, h64, dF h69]; rfl, h69, h89, rfl, rfl⟩))
        · skip
          refine g_iload (n := 74) rfl rfl rfl ?_
          refine g_cP1 (n := 77) rfl rfl rfl rfl mt_X9_isHost rfl rfl rfl (sp_isHost) ?_
          refine g_bnz (n := 80) rfl rfl (fun h77 => ?_) (fun h77 => ?_)
          · skip
            refine g_iload_n (n := 83) rfl rfl rfl ?_
            refine g_const (n := 84) rfl rfl (s_iconst (v := 2) (by decide)) ?_
            refine g_ieq (n := 87) rfl rfl (fun h84 => ?_) (fun h84 => ?_)
            · skip
              first | exact st_rule95 hI hL hr hn (by unfold mValid; rw [h50, h59, ← ht, h64, dT h69, h77]; rfl) (Or.inl h69) (mIn_F j1) (mIn_F j2) (mIn_N j3) (mIn_N j4) (mIn_H h77) | exact absurd h84 h69 | exact st_rule95 hI hL hr hn (by unfold mValid; rw [h50, h59, ← ht, h64, dF h69]; rfl) (Or.inr h89) (mIn_F j1) (mIn_F j2) (mIn_N j3) (mIn_N j4) (by rw [h89]; exact ⟨0, by omega, rfl⟩) | exact absurd h69 h84
            · skip
              refine g_iload (n := 89) rfl rfl rfl ?_
              refine g_zeq (n := 92) rfl rfl (fun h89 => ?_) (fun h89 => ?_)
              · skip
                first | exact st_rule95 hI hL hr hn (by unfold mValid; rw [h50, h59, ← ht, h64, dT h69, h77]; rfl) (Or.inl h69) (mIn_F j1) (mIn_F j2) (mIn_N j3) (mIn_N j4) (mIn_H h77) | exact absurd h84 h69 | exact st_rule95 hI hL hr hn (by unfold mValid; rw [h50, h59, ← ht, h64, dF h69]; rfl) (Or.inr h89) (mIn_F j1) (mIn_F j2) (mIn_N j3) (mIn_N j4) (by rw [h89]; exact ⟨0, by omega, rfl⟩) | exact absurd h69 h84
              · skip
                refine g_const (n := 94) rfl rfl (s_bipush (v := (-2)) (by decide)) ?_
                refine g_retI rfl ?_
                first | (exact Or.inl ⟨by unfold mValid; rw [h50]; rfl, rfl, rfl⟩) | (exact Or.inl ⟨by unfold mValid; rw [h50, h59]; rfl, rfl, rfl⟩) | (exact Or.inl ⟨by unfold mValid; rw [h50, h59, ← ht, h64]; rfl, rfl, rfl⟩) | (exact Or.inl ⟨by unfold mValid; rw [h50, h59, ← ht, h64, dT h69, h77]; rfl, rfl, rfl⟩) | (exact absurd h69 h84) | (exact absurd h84 h69) | (exact Or.inr (Or.inl ⟨by unfold mValid; rw [h50, h59, ← ht, h64, dF h69]; rfl, h69, h89, rfl, rfl⟩))
          · skip
            refine g_const (n := 81) rfl rfl (s_iconst (v := (-1)) (by decide)) ?_
            refine g_retI rfl ?_
            first | (exact Or.inl ⟨by unfold mValid; rw [h50]; rfl, rfl, rfl⟩) | (exact Or.inl ⟨by unfold mValid; rw [h50, h59]; rfl, rfl, rfl⟩) | (exact Or.inl ⟨by unfold mValid; rw [h50, h59, ← ht, h64]; rfl, rfl, rfl⟩) | (exact Or.inl ⟨by unfold mValid; rw [h50, h59, ← ht, h64, dT h69, h77]; rfl, rfl, rfl⟩) | (exact absurd h69 h84) | (exact absurd h84 h69) | (exact Or.inr (Or.inl ⟨by unfold mValid; rw [h50, h59, ← ht, h64, dF h69]; rfl, h69, h89, rfl, rfl⟩))
set_option maxRecDepth 20000 in
theorem sp_ruleM {n : Nat} {host kind head a b nt to : Int32} (hI : MI M) (hL : ML M) (hr : M 41 1 = Int32.ofNat n) (hn : n ≤ 12) : EvI (d + 4) miX9_rule [.ref 41, .int host, .int kind, .int head, .int a, .int b, .int nt, .int to] (zz E T) M (RuleQ M n host kind head a b nt to) := by
  refine ev_of mt_X9_rule rfl ?_
  refine g_iload_n (n := 1) rfl rfl rfl ?_
  refine g_cP1 (n := 4) rfl rfl rfl rfl mt_X9_isFact rfl rfl rfl (sp_isFact) ?_
  refine g_bz (n := 7) rfl rfl (fun h4 => ?_) (fun h4 => ?_)
  · skip
    refine g_const (n := 42) rfl rfl (s_iconst (v := 0) (by decide)) ?_
    first | exact st_rule42 (t := false) hI hL hr hn (by rw [h4]; rfl) | exact st_rule42 (t := false) hI hL hr hn (by rw [h4, h12]; rfl) | exact st_rule42 (t := false) hI hL hr hn (by rw [h4, h12, h23]; rfl) | exact st_rule42 (t := false) hI hL hr hn (by rw [h4, h12, h23, h34]; rfl) | exact st_rule42 (t := true) hI hL hr hn (by rw [h4, h12, h23, h34]; rfl)
  · skip
    refine g_iload (n := 9) rfl rfl rfl ?_
    refine g_cP1 (n := 12) rfl rfl rfl rfl mt_X9_isFact rfl rfl rfl (sp_isFact) ?_
    refine g_bz (n := 15) rfl rfl (fun h12 => ?_) (fun h12 => ?_)
    · skip
      refine g_const (n := 42) rfl rfl (s_iconst (v := 0) (by decide)) ?_
      first | exact st_rule42 (t := false) hI hL hr hn (by rw [h4]; rfl) | exact st_rule42 (t := false) hI hL hr hn (by rw [h4, h12]; rfl) | exact st_rule42 (t := false) hI hL hr hn (by rw [h4, h12, h23]; rfl) | exact st_rule42 (t := false) hI hL hr hn (by rw [h4, h12, h23, h34]; rfl) | exact st_rule42 (t := true) hI hL hr hn (by rw [h4, h12, h23, h34]; rfl)
    · skip
      refine g_iload (n := 17) rfl rfl rfl ?_
      refine g_const (n := 18) rfl rfl (s_iconst (v := (-1)) (by decide)) ?_
      refine g_const (n := 20) rfl rfl (s_bipush (v := 7) (by decide)) ?_
      refine g_cP3 (n := 23) rfl rfl rfl rfl mt_X9_in rfl rfl rfl (sp_in) ?_
      refine g_bz (n := 26) rfl rfl (fun h23 => ?_) (fun h23 => ?_)
      · skip
        refine g_const (n := 42) rfl rfl (s_iconst (v := 0) (by decide)) ?_
        first | exact st_rule42 (t := false) hI hL hr hn (by rw [h4]; rfl) | exact st_rule42 (t := false) hI hL hr hn (by rw [h4, h12]; rfl) | exact st_rule42 (t := false) hI hL hr hn (by rw [h4, h12, h23]; rfl) | exact st_rule42 (t := false) hI hL hr hn (by rw [h4, h12, h23, h34]; rfl) | exact st_rule42 (t := true) hI hL hr hn (by rw [h4, h12, h23, h34]; rfl)
      · skip
        refine g_iload (n := 28) rfl rfl rfl ?_
        refine g_const (n := 29) rfl rfl (s_iconst (v := (-1)) (by decide)) ?_
        refine g_const (n := 31) rfl rfl (s_bipush (v := 7) (by decide)) ?_
        refine g_cP3 (n := 34) rfl rfl rfl rfl mt_X9_in rfl rfl rfl (sp_in) ?_
        refine g_bz (n := 37) rfl rfl (fun h34 => ?_) (fun h34 => ?_)
        · skip
          refine g_const (n := 42) rfl rfl (s_iconst (v := 0) (by decide)) ?_
          first | exact st_rule42 (t := false) hI hL hr hn (by rw [h4]; rfl) | exact st_rule42 (t := false) hI hL hr hn (by rw [h4, h12]; rfl) | exact st_rule42 (t := false) hI hL hr hn (by rw [h4, h12, h23]; rfl) | exact st_rule42 (t := false) hI hL hr hn (by rw [h4, h12, h23, h34]; rfl) | exact st_rule42 (t := true) hI hL hr hn (by rw [h4, h12, h23, h34]; rfl)
        · skip
          refine g_const (n := 38) rfl rfl (s_iconst (v := 1) (by decide)) ?_
          refine g_goto rfl ?_
          first | exact st_rule42 (t := false) hI hL hr hn (by rw [h4]; rfl) | exact st_rule42 (t := false) hI hL hr hn (by rw [h4, h12]; rfl) | exact st_rule42 (t := false) hI hL hr hn (by rw [h4, h12, h23]; rfl) | exact st_rule42 (t := false) hI hL hr hn (by rw [h4, h12, h23, h34]; rfl) | exact st_rule42 (t := true) hI hL hr hn (by rw [h4, h12, h23, h34]; rfl)
end RV
