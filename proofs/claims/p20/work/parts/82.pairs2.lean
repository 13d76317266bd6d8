/-! Both sides: end, bounds, first, spare, rule -/
section PB
variable {E : Value} {T : List SH} {M : Mem}
theorem beq_no {q k : Nat} (h : q ≠ k) : Nat.beq q k = false := by
  cases hb : Nat.beq q k with
  | false => rfl
  | true => exact absurd (Nat.eq_of_beq_eq_true hb) h
theorem mIn_16 {t : Int32} (h : mIn t 1 6 = true) : ∃ e, 1 ≤ e ∧ e ≤ 6 ∧ t = Int32.ofNat e := by
  simp only [mIn, Bool.and_eq_true, decide_eq_true_eq] at h
  have h0 : (0 : Int32) ≤ t := Int32.le_trans (by decide) h.1
  obtain ⟨e, he, rfl⟩ := jn_of_le (k := 6) (by omega) h0 h.2
  exact ⟨e, (jn_le (a := 1) (by omega) (by omega)).mp h.1, he, rfl⟩
theorem pair_end {t : Int32} (h : INV E T M) : EvG 11 miX8_end [.ref 0, .int t] (hp (zz E T) M) (PairQ miX9_end [.ref 41, .int t] (fun x y => x = y)) := by
  obtain ⟨n, rs, h1, h2, h3, h4, h5, ⟨V, h6⟩, h7⟩ := id h
  refine pair_of sc_end (fun x M' f => ?_)
  rcases f with ⟨g, rfl, rfl⟩ | ⟨g, rfl, rfl⟩
  · refine evI_mono sp_endM (fun y M'' k => ?_)
    rcases k with ⟨-, rfl, rfl⟩ | ⟨g2, -, -⟩
    · exact ⟨h, rfl⟩
    · rw [g2] at g; cases g
  · obtain ⟨e, he1, he6, ee⟩ := mIn_16 g
    refine evI_mono sp_endM (fun y M'' k => ?_)
    rcases k with ⟨g2, -, -⟩ | ⟨-, rfl, rfl⟩
    · rw [g] at g2; cases g2
    · refine ⟨?_, h5.1.1⟩
      have mid : MidS M (cEndM M t) := fun q j a b => by
        unfold cEndM
        rw [mup_q (by omega), mup_q (by omega), mup_q (by omega), mup_q (by omega)]
      have hm := h3.mid mid
      have hl := h4.mid mid
      have f1 : Fr kV M (mup (mup (cEndM M t) 41 0 t) 41 19 0) := (((((Fr.rf.up rfl).up rfl).up rfl).up rfl).up rfl).up rfl
      refine INV.w (F := vF V) (e := e) (a := vA V) (p := vP V) (b := vB V) (q := vQ V) h2 h4 h6 ⟨?_, ⟨0, by omega, rfl, fun j hj => absurd hj (by omega)⟩, h1.2.2.1, h1.2.2.2⟩ ?_ f1 ⟨⟨rfl, h5.1.2.1, h5.1.2.2.1, h5.1.2.2.2.1, h5.1.2.2.2.2⟩, h5.2.1.fr h1.1.1 (fun j => rfl) (fun q j hq => ?_) rfl (fun q j a b => ?_), fun k hk => h5.2.2 k hk⟩ (h7.cg rfl rfl (fun j => rfl) (fun j => rfl)) rfl h6.1.2.2.1 ⟨ee, he6⟩ h6.1.2.2.2.2.1 h6.1.2.2.2.2.2.1 h6.1.2.2.2.2.2.2 h6.2.1.2.1 ee h6.2.1.2.2.2.2.1.1 h6.2.1.2.2.2.2.2.1.1 h6.2.1.2.2.2.2.2.2.1.1 h6.2.1.2.2.2.2.2.2.2.1
      · obtain ⟨c1, c2, c3, c4, c5, c6⟩ := h1.1
        refine ⟨c1, c2, c3, fun i hi => ?_, ⟨e, he1, he6, ee⟩, c6⟩
        have := (c1.1 i hi).1
        unfold cEndM
        rw [mup_q (by omega), mup_q (by omega), mup_q (by omega), mup_q (by omega), mup_q (by omega), mup_q (by omega)]
        exact c4 i hi
      · exact ⟨⟨e, he1, he6, ee⟩, hm.2.1, hm.2.2.1, hm.2.2.2.1, hm.2.2.2.2.1, hm.2.2.2.2.2.1, ⟨0, by omega, rfl⟩, hm.2.2.2.2.2.2.2.1, hm.2.2.2.2.2.2.2.2⟩
      · unfold cEndM
        rw [mup_q (by omega), mup_q (by omega), mup_q (by omega), mup_q (by omega), mup_q (by omega), mup_q (by omega)]
      · unfold cEndM
        rw [mup_q (by omega), mup_q (by omega), mup_q (by omega), mup_q (by omega), mup_q (by omega), mup_q (by omega)]
theorem pair_bounds {l f t : Int32} (h : INV E T M) : EvG 11 miX8_bounds [.ref 0, .int l, .int f, .int t] (hp (zz E T) M) (PairQ miX9_bounds [.ref 41, .int l, .int f, .int t] (fun x y => x = y)) := by
  obtain ⟨n, rs, h1, h2, h3, h4, h5, ⟨V, h6⟩, h7⟩ := id h
  refine pair_of sc_bounds (fun x M' fq => ?_)
  rcases fq with ⟨g, rfl, rfl⟩ | ⟨g, g1, rfl, rfl⟩ | ⟨g, g1, rfl, rfl⟩
  · refine evI_mono sp_boundsM (fun y M'' k => ?_)
    rcases k with ⟨-, rfl, rfl⟩ | ⟨g2, -⟩ | ⟨g2, -⟩
    · exact ⟨h, rfl⟩
    · rw [g2] at g; cases g
    · rw [g2] at g; cases g
  · refine evI_mono sp_boundsM (fun y M'' k => ?_)
    rcases k with ⟨g2, -⟩ | ⟨-, -, rfl, rfl⟩ | ⟨-, g2, -⟩
    · rw [g2] at g; cases g
    · exact ⟨h, rfl⟩
    · rw [g2] at g1; cases g1
  · refine evI_mono sp_boundsM (fun y M'' k => ?_)
    rcases k with ⟨g2, -⟩ | ⟨-, g2, -⟩ | ⟨-, -, rfl, rfl⟩
    · rw [g2] at g; cases g
    · rw [g2] at g1; cases g1
    · refine ⟨?_, rfl⟩
      have mid : MidS M (cBndM M l f t) := fun q j a b => by
        unfold cBndM
        rw [mup_q (by omega), mup_q (by omega), mup_q (by omega), mup_q (by omega)]
      have hm := h3.mid mid
      have hl := h4.mid mid
      simp only [Bool.and_eq_true] at g
      have f1 : Fr kV M (mup (mup (mup (cBndM M l f t) 41 16 l) 41 17 f) 41 18 t) := ((((((Fr.rf.up rfl).up rfl).up rfl).up rfl).up rfl).up rfl).up rfl
      refine INV.w (F := vF V) (e := vE V) (a := vA V) (p := vP V) (b := vB V) (q := vQ V) h2 h4 h6 ⟨?_, h1.2.1, h1.2.2.1, h1.2.2.2⟩ ⟨hm.1, hm.2.1, hm.2.2.1, hm.2.2.2.1, hm.2.2.2.2.1, hm.2.2.2.2.2.1, hm.2.2.2.2.2.2.1, hm.2.2.2.2.2.2.2.1, hm.2.2.2.2.2.2.2.2⟩ f1 ⟨⟨h5.1.1, rfl, rfl, rfl, g.1, g.2, g1⟩, h5.2.1.fr h1.1.1 (fun j => rfl) (fun q j hq => ?_) rfl (fun q j a b => ?_), fun k hk => h5.2.2 k hk⟩ (h7.cg rfl rfl (fun j => rfl) (fun j => rfl)) rfl h6.1.2.2.1 h6.1.2.2.2.1 h6.1.2.2.2.2.1 h6.1.2.2.2.2.2.1 h6.1.2.2.2.2.2.2 h6.2.1.2.1 h6.2.1.2.2.1 h6.2.1.2.2.2.2.1.1 h6.2.1.2.2.2.2.2.1.1 h6.2.1.2.2.2.2.2.2.1.1 h6.2.1.2.2.2.2.2.2.2.1
      · obtain ⟨c1, c2, c3, c4, c5, c6⟩ := h1.1
        refine ⟨c1, c2, c3, fun i hi => ?_, c5, c6⟩
        have := (c1.1 i hi).1
        unfold cBndM
        rw [mup_q (by omega), mup_q (by omega), mup_q (by omega), mup_q (by omega), mup_q (by omega), mup_q (by omega), mup_q (by omega)]
        exact c4 i hi
      · unfold cBndM
        rw [mup_q (by omega), mup_q (by omega), mup_q (by omega), mup_q (by omega), mup_q (by omega), mup_q (by omega), mup_q (by omega)]
      · unfold cBndM
        rw [mup_q (by omega), mup_q (by omega), mup_q (by omega), mup_q (by omega), mup_q (by omega), mup_q (by omega), mup_q (by omega)]
theorem CI.ext {X : SH} {n : Nat} {rs : Nat → Nat} {M' : Mem} (h : CI E T M n rs) (lo : ∀ q j, q ≠ 5 → q < 61 + T.length → M' q j = M q j) : CI E (T ++ [X]) M' n rs := by
  obtain ⟨⟨c1, c2, c3, c4, c5, c6⟩, ⟨c, g1, g2, g3⟩, g4, g5⟩ := h
  refine ⟨⟨c1.snoc, c2, ?_, fun i hi => ?_, ?_, ?_⟩, ⟨c, g1, ?_, fun j hj => ?_⟩, ?_, ?_⟩
  · rw [lo _ _ (by omega) (by omega)]; exact c3
  · have a1 := (c1.1 i hi).1
    have a2 := c1.lt hi
    rw [lo _ _ (by omega) a2, lo _ _ (by omega) a2, lo _ _ (by omega) a2, lo _ _ (by omega) a2, lo _ _ (by omega) a2]; exact c4 i hi
  · rw [lo _ _ (by omega) (by omega)]; exact c5
  · rw [lo _ _ (by omega) (by omega)]; exact c6
  · rw [lo _ _ (by omega) (by omega)]; exact g2
  · rw [lo _ _ (by omega) (by omega), lo _ _ (by omega) (by omega)]; exact g3 j hj
  · rw [lo _ _ (by omega) (by omega)]; exact g4
  · rw [lo _ _ (by omega) (by omega)]; exact g5
theorem cIs_mIn {n : Nat} {x : Int32} (hn : n ≤ 12) : cIs (Int32.ofNat n) x = mIn x 0 (Int32.ofNat n - 1) := by
  unfold cIs mIn
  congr 1
  rw [decide_eq_decide, Int32.lt_iff_toInt_lt, Int32.le_iff_toInt_le, Int32.toInt_sub, jn_toInt (by omega), show (1 : Int32).toInt = 1 from rfl, Int.bmod_eq_of_le (by omega) (by omega)]
  omega
theorem pair_spare {r p : Int32} (h : INV E T M) : EvG 11 miX8_spare [.ref 0, .int r, .int p] (hp (zz E T) M) (PairQ miX9_spare [.ref 41, .int r, .int p] (fun x y => x = y)) := by
  obtain ⟨n, rs, h1, h2, h3, h4, h5, ⟨V, h6⟩, h7⟩ := id h
  have hn12 := h1.1.2.1
  refine pair_of (sc_spare h1.1) (fun x M' fq => ?_)
  rcases fq with ⟨g, rfl, rfl⟩ | ⟨g, g1, rfl, rfl⟩ | ⟨g, g1, k, hk, rfl, rfl, f, fx⟩
  · refine evI_mono (sp_spareM h5.2.1.1 hn12) (fun y M'' k => ?_)
    rw [cIs_mIn hn12] at g
    rcases k with ⟨-, rfl, rfl⟩ | ⟨g2, -⟩ | ⟨-, k, hk, rfl, -⟩
    · exact ⟨h, rfl⟩
    · rw [g2] at g; cases g
    · exfalso
      rw [← cIs_mIn hn12] at g
      rw [cIs_nI hk (by omega)] at g
      cases g
  · refine evI_mono (sp_spareM h5.2.1.1 hn12) (fun y M'' k => ?_)
    rw [cIs_mIn hn12] at g
    rcases k with ⟨g2, -⟩ | ⟨-, -, rfl, rfl⟩ | ⟨g2, -⟩
    · rw [g2] at g; cases g
    · exact ⟨h, rfl⟩
    · rw [g2] at g1; cases g1
  · have hq := (h1.1.1.1 k hk).1
    have lo : ∀ q j, q < 61 → cB q j = false → M' q j = M q j := fun q j hl hb => by rw [f q j hb, mup_q (by omega)]
    have mid : MidS M M' := fun q j a b => lo q j b (cB_m a)
    have hi : ∀ q j, 61 ≤ q → M' q j = mup M (rs k) 9 p q j := fun q j hl => f q j (cB_hi hl)
    have hC0 : CI E T (mup M (rs k) 9 p) n rs := by
      have lo : ∀ q j, q < 61 → mup M (rs k) 9 p q j = M q j := fun q j hl => by rw [mup_q (by omega)]
      obtain ⟨⟨c1, c2, c3, c4, c5, c6⟩, ⟨c, g1, g2, g3⟩, g4, g5⟩ := h1
      refine ⟨⟨c1, c2, ?_, fun i hi => ?_, ?_, ?_⟩, ⟨c, g1, ?_, fun j hj => ?_⟩, ?_, ?_⟩
      · rw [lo _ _ (by omega)]; exact c3
      · rw [mup_j (by omega), mup_j (by omega), mup_j (by omega), mup_j (by omega), mup_j (by omega)]; exact c4 i hi
      · rw [lo _ _ (by omega)]; exact c5
      · rw [lo _ _ (by omega)]; exact c6
      · rw [lo _ _ (by omega)]; exact g2
      · rw [lo _ _ (by omega), lo _ _ (by omega)]; exact g3 j hj
      · rw [lo _ _ (by omega)]; exact g4
      · rw [lo _ _ (by omega)]; exact g5
    have em : M' 41 1 = Int32.ofNat n := (mid 41 1 (by omega) (by omega)).trans h5.2.1.1
    refine evI_mono (sp_spareM em hn12) (fun y M'' kq => ?_)
    rcases kq with ⟨g2, -⟩ | ⟨-, g2, -⟩ | ⟨-, k2, hk2, e2, rfl, rfl⟩
    · rw [← cIs_mIn hn12, g] at g2; cases g2
    · rw [g1] at g2; cases g2
    · have := jn_inj (by omega) (by omega) e2
      subst this
      have hR := h5.2.1.2.1 k hk
      have hmm : MI (mup M' 49 k p) := by
        have := h3.mid mid
        exact ⟨this.1, this.2.1, this.2.2.1, this.2.2.2.1, this.2.2.2.2.1, this.2.2.2.2.2.1, this.2.2.2.2.2.2.1, this.2.2.2.2.2.2.2.1, this.2.2.2.2.2.2.2.2⟩
      have hCI : CI E T (mup M' 49 k p) n rs := (hC0.fr f).out (fun q j hq => by rw [mup_q (by omega)])
      have hll : ML (mup M' 49 k p) := (h4.mid mid).congr (fun q j hq => by
        unfold mLd at hq
        simp only [Bool.or_eq_true, Bool.and_eq_true, Nat.blt_eq, Nat.beq_eq] at hq
        rw [mup_q (by omega)])
      suffices hrel : REL (mup M' 49 k p) n rs by
        refine ⟨⟨n, rs, hCI, h2, hmm, hll, hrel, X2.mk (V := V) hCI.1 hmm hll hrel.2.1 ?_ ?_ ?_ ?_ ?_ ?_ ?_ ?_ ?_ ?_ ?_ ?_ ?_ ?_ ?_, ?_⟩, ?_⟩
        · have e6 : mup M' 49 k p 6 4 = M' 6 4 := rfl
          rw [e6]
          exact fx.2.1.cg (fun j hj => by
            have := (h1.1.1.1 j hj).1
            rw [mup_q (show rs j ≠ 49 by omega)]
            exact f _ _ (cB_hi this))
        · intro j
          exact fx.1 j
        · intro i hi2
          by_cases e : i = k
          · rw [e, mup_same]; exact g1
          · rw [mup_j e, mid 49 i (by omega) (by omega)]; exact h6.2.2.2.2.1 i hi2
        · exact fx.2.2
        · intro k2 hk2
          have e : mup M' 49 k p 1 3 = M 1 3 := lo 1 3 (by omega) rfl
          rw [e]; exact h6.1.2.2.1 k2 hk2
        · have e : mup M' 49 k p 1 2 = M 1 2 := lo 1 2 (by omega) rfl
          rw [e]; exact h6.1.2.2.2.1
        · have e : mup M' 49 k p 1 4 = M 1 4 := lo 1 4 (by omega) rfl
          rw [e]; exact h6.1.2.2.2.2.1
        · have e : mup M' 49 k p 1 5 = M 1 5 := lo 1 5 (by omega) rfl
          rw [e]; exact h6.1.2.2.2.2.2.1
        · have e : mup M' 49 k p 1 6 = M 1 6 := lo 1 6 (by omega) rfl
          rw [e]; exact h6.1.2.2.2.2.2.2
        · intro k2 hk2
          have e : mup M' 49 k p 50 k2 = M 50 k2 := mid 50 k2 (by omega) (by omega)
          rw [e]; exact h6.2.1.2.1 k2 hk2
        · exact (mid 41 0 (by omega) (by omega)).trans h6.2.1.2.2.1
        · exact (mid 41 12 (by omega) (by omega)).trans h6.2.1.2.2.2.2.1.1
        · exact (mid 41 13 (by omega) (by omega)).trans h6.2.1.2.2.2.2.2.1.1
        · exact (mid 41 14 (by omega) (by omega)).trans h6.2.1.2.2.2.2.2.2.1.1
        · exact (mid 41 15 (by omega) (by omega)).trans h6.2.1.2.2.2.2.2.2.2.1
        · exact h7.cg (mid 41 21 (by omega) (by omega)) (lo 0 7 (by omega) rfl) (fun j => lo 40 j (by omega) rfl) (fun j => mid 59 j (by omega) (by omega))
        · show M (rs k) 9 = M' 49 k
          rw [mid 49 k (by omega) (by omega)]
          exact hR.2.2.2.2.2.2.2.2.2
      refine ⟨?_, ⟨em, fun i hi2 => ?_, fun f hf => ?_⟩, fun k hk => ?_⟩
      · show M' 1 2 = M' 41 0 ∧ M' 10 0 = M' 41 16 ∧ M' 10 1 = M' 41 17 ∧ M' 10 2 = M' 41 18 ∧ (mIn (M' 10 0) 0 2 = true ∧ mIn (M' 10 1) 0 2 = true ∧ mIn (M' 10 2) 0 6 = true)
        rw [lo 1 2 (by omega) rfl, lo 10 0 (by omega) rfl, lo 10 1 (by omega) rfl, lo 10 2 (by omega) rfl, lo 41 0 (by omega) (cB_m (by omega)), lo 41 16 (by omega) (cB_m (by omega)), lo 41 17 (by omega) (cB_m (by omega)), lo 41 18 (by omega) (cB_m (by omega))]
        exact h5.1
      · have hqi := (h1.1.1.1 i hi2).1
        have hRi := h5.2.1.2.1 i hi2
        have e : ∀ j, j ≠ 9 → mup M' 49 k p (rs i) j = M (rs i) j := fun j hj => by rw [mup_q (by omega), hi _ _ hqi, mup_j hj]
        have m : ∀ q, 42 ≤ q → q ≤ 48 → mup M' 49 k p q i = M q i := fun q a b => by rw [mup_q (by omega)]; exact mid q i (by omega) (by omega)
        unfold RuleEq
        rw [e 0 (by omega), e 1 (by omega), e 2 (by omega), e 3 (by omega), e 4 (by omega), e 5 (by omega), e 6 (by omega), e 7 (by omega), e 8 (by omega), m 42 (by omega) (by omega), m 43 (by omega) (by omega), m 44 (by omega) (by omega), m 45 (by omega) (by omega), m 46 (by omega) (by omega), m 47 (by omega) (by omega), m 48 (by omega) (by omega)]
        refine ⟨hRi.1, hRi.2.1, hRi.2.2.1, hRi.2.2.2.1, hRi.2.2.2.2.1, hRi.2.2.2.2.2.1, hRi.2.2.2.2.2.2.1, hRi.2.2.2.2.2.2.2.1, hRi.2.2.2.2.2.2.2.2.1, ?_⟩
        rw [mup_q (show rs i ≠ 49 by omega), hi _ _ hqi]
        by_cases ek : i = k
        · subst ek
          rw [mup_same, mup_same]
        · rw [mup_j ek, mup_q (fun e => ek (h1.1.1.2.1 i k hi2 hk e)), mid 49 i (by omega) (by omega)]
          exact hRi.2.2.2.2.2.2.2.2.2
      · show M' 4 f = M' 51 f
        rw [lo 4 f (by omega) rfl, mid 51 f (by omega) (by omega)]
        exact h5.2.1.2.2 f hf
      · show M' 50 k = byt (M' 1 3) k
        rw [lo 1 3 (by omega) rfl, mid 50 k (by omega) (by omega)]
        exact h5.2.2 k hk
end PB
