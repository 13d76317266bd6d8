/-! Both sides: end, bounds, first, spare, rule -/
section PB
variable {E : Value} {T : List SH} {M : Mem}
theorem beq_no {q k : Nat} (h : q ≠ k) : Nat.beq q k = false := by
  cases hb : Nat.beq q k with
  | false => rfl
  | true => exact absurd (Nat.eq_of_beq_eq_true hb) h
theorem mIn_16 {t : Int32} (h : mIn t 1 6 = true) : ∃ e, 1 ≤ e ∧ e ≤ 6 ∧ t = Int32.ofNat e := by
  simp only [mIn, Bool.and_eq_true, decide_eq_true_eq] at h
  have h0 : (0 : Int32) ≤ t := Int32.le_trans (by decide) h.1
  obtain ⟨e, he, rfl⟩ := jn_of_le (k := 6) (by omega) h0 h.2
  exact ⟨e, (jn_le (a := 1) (by omega) (by omega)).mp h.1, he, rfl⟩
theorem pair_end {t : Int32} (h : INV E T M) : EvG 11 miX8_end [.ref 0, .int t] (hp (zz E T) M) (PairQ miX9_end [.ref 41, .int t] (fun x y => x = y)) := by
  obtain ⟨n, rs, h1, h2, h3, h4, h5⟩ := id h
  refine pair_of sc_end (fun x M' f => ?_)
  rcases f with ⟨g, rfl, rfl⟩ | ⟨g, rfl, rfl⟩
  · refine evI_mono sp_endM (fun y M'' k => ?_)
    rcases k with ⟨-, rfl, rfl⟩ | ⟨g2, -, -⟩
    · exact ⟨h, rfl⟩
    · rw [g2] at g; cases g
  · obtain ⟨e, he1, he6, ee⟩ := mIn_16 g
    refine evI_mono sp_endM (fun y M'' k => ?_)
    rcases k with ⟨g2, -, -⟩ | ⟨-, rfl, rfl⟩
    · rw [g] at g2; cases g2
    · refine ⟨?_, h5.1⟩
      have mid : MidS M (cEndM M t) := fun q j a b => by
        unfold cEndM
        rw [mup_q (by omega), mup_q (by omega), mup_q (by omega), mup_q (by omega)]
      have hm := h3.mid mid
      have hl := h4.mid mid
      refine ⟨n, rs, ⟨?_, ⟨0, by omega, rfl, fun j hj => absurd hj (by omega)⟩, h1.2.2.1, h1.2.2.2⟩, h2, ?_, ?_, rfl, h5.2.1, h5.2.2.1, h5.2.2.2.1, h5.2.2.2.2⟩
      · obtain ⟨c1, c2, c3, c4, c5, c6⟩ := h1.1
        refine ⟨c1, c2, c3, fun i hi => ?_, ⟨e, he1, he6, ee⟩, c6⟩
        have := (c1.1 i hi).1
        unfold cEndM
        rw [mup_q (by omega), mup_q (by omega), mup_q (by omega), mup_q (by omega), mup_q (by omega), mup_q (by omega)]
        exact c4 i hi
      · exact ⟨⟨e, he1, he6, ee⟩, hm.2.1, hm.2.2.1, hm.2.2.2.1, hm.2.2.2.2.1, hm.2.2.2.2.2.1, ⟨0, by omega, rfl⟩, hm.2.2.2.2.2.2.2.1, hm.2.2.2.2.2.2.2.2⟩
      · refine hl.congr (fun q j hq => ?_)
        unfold mLd at hq
        simp only [Bool.or_eq_true, Bool.and_eq_true, Nat.blt_eq, Nat.beq_eq] at hq
        rw [mup_if, if_neg (by omega), mup_if, if_neg (by omega)]
theorem pair_bounds {l f t : Int32} (h : INV E T M) : EvG 11 miX8_bounds [.ref 0, .int l, .int f, .int t] (hp (zz E T) M) (PairQ miX9_bounds [.ref 41, .int l, .int f, .int t] (fun x y => x = y)) := by
  obtain ⟨n, rs, h1, h2, h3, h4, h5⟩ := id h
  refine pair_of sc_bounds (fun x M' fq => ?_)
  rcases fq with ⟨g, rfl, rfl⟩ | ⟨g, g1, rfl, rfl⟩ | ⟨g, g1, rfl, rfl⟩
  · refine evI_mono sp_boundsM (fun y M'' k => ?_)
    rcases k with ⟨-, rfl, rfl⟩ | ⟨g2, -⟩ | ⟨g2, -⟩
    · exact ⟨h, rfl⟩
    · rw [g2] at g; cases g
    · rw [g2] at g; cases g
  · refine evI_mono sp_boundsM (fun y M'' k => ?_)
    rcases k with ⟨g2, -⟩ | ⟨-, -, rfl, rfl⟩ | ⟨-, g2, -⟩
    · rw [g2] at g; cases g
    · exact ⟨h, rfl⟩
    · rw [g2] at g1; cases g1
  · refine evI_mono sp_boundsM (fun y M'' k => ?_)
    rcases k with ⟨g2, -⟩ | ⟨-, g2, -⟩ | ⟨-, -, rfl, rfl⟩
    · rw [g2] at g; cases g
    · rw [g2] at g1; cases g1
    · refine ⟨?_, rfl⟩
      have mid : MidS M (cBndM M l f t) := fun q j a b => by
        unfold cBndM
        rw [mup_q (by omega), mup_q (by omega), mup_q (by omega), mup_q (by omega)]
      have hm := h3.mid mid
      have hl := h4.mid mid
      simp only [Bool.and_eq_true] at g
      refine ⟨n, rs, ⟨?_, h1.2.1, h1.2.2.1, h1.2.2.2⟩, h2, ⟨hm.1, hm.2.1, hm.2.2.1, hm.2.2.2.1, hm.2.2.2.2.1, hm.2.2.2.2.2.1, hm.2.2.2.2.2.2.1, hm.2.2.2.2.2.2.2.1, hm.2.2.2.2.2.2.2.2⟩, ?_, h5.1, rfl, rfl, rfl, g.1, g.2, g1⟩
      · obtain ⟨c1, c2, c3, c4, c5, c6⟩ := h1.1
        refine ⟨c1, c2, c3, fun i hi => ?_, c5, c6⟩
        have := (c1.1 i hi).1
        unfold cBndM
        rw [mup_q (by omega), mup_q (by omega), mup_q (by omega), mup_q (by omega), mup_q (by omega), mup_q (by omega), mup_q (by omega)]
        exact c4 i hi
      · refine hl.congr (fun q j hq => ?_)
        unfold mLd at hq
        simp only [Bool.or_eq_true, Bool.and_eq_true, Nat.blt_eq, Nat.beq_eq] at hq
        rw [mup_if, if_neg (by omega), mup_if, if_neg (by omega), mup_if, if_neg (by omega)]
/-- first writes no cell that the invariant speaks of -/
theorem pair_first {a f is : Int32} (h : INV E T M) : EvG 11 miX8_first [.ref 0, .int a, .int f, .int is] (hp (zz E T) M) (PairQ miX9_first [.ref 41, .int a, .int f, .int is] (fun _ _ => True)) := by
  obtain ⟨n, rs, h1, h2, h3, h4, h5⟩ := id h
  have after : ∀ M', INV E T M' → EvI 11 miX9_first [.ref 41, .int a, .int f, .int is] (zz E T) M' (fun y M'' => INV E T M'' ∧ True) := by
    intro M' hI
    refine evI_mono sp_firstM (fun y M'' k => ⟨?_, trivial⟩)
    rcases k with ⟨-, -, rfl⟩ | ⟨-, -, -, rfl⟩ | ⟨-, k, j, -, -, -, -, -, rfl⟩
    · exact hI
    · exact hI
    · have hm := hI.choose_spec.choose_spec.2.2.1
      have hl := hI.choose_spec.choose_spec.2.2.2.1
      refine hI.mdl (fun q j hq => ?_) hm (hl.congr (fun q j hq => ?_)) (fun j hj => rfl)
      · rw [mup_q (by omega)]
      · unfold mLd at hq
        simp only [Bool.or_eq_true, Bool.and_eq_true, Nat.blt_eq, Nat.beq_eq] at hq
        rw [mup_q (by omega)]
  refine pair_of sc_first (fun x M' fq => ?_)
  rcases fq with ⟨-, -, rfl⟩ | ⟨-, -, -, rfl⟩ | ⟨-, -, -, rfl⟩
  · exact after _ h
  · exact after _ h
  · refine after _ ?_
    have mid : MidS M (cFirstM M (cBit a f) is) := fun q j a b => by
      unfold cFirstM
      rw [mup_q (by omega), mup_q (by omega), mup_q (by omega)]
    refine ⟨n, rs, ⟨?_, h1.2.1, h1.2.2.1, h1.2.2.2⟩, h2, h3.mid mid, h4.mid mid, h5⟩
    obtain ⟨c1, c2, c3, c4, c5, c6⟩ := h1.1
    refine ⟨c1, c2, c3, fun i hi => ?_, c5, c6⟩
    have := (c1.1 i hi).1
    unfold cFirstM
    rw [mup_q (by omega), mup_q (by omega), mup_q (by omega)]
    exact c4 i hi
theorem INV.spareM {M' : Mem} (hI : INV E T M') {k : Nat} {p : Int32} : INV E T (mup M' 49 k p) := by
  have hm := hI.choose_spec.choose_spec.2.2.1
  have hl := hI.choose_spec.choose_spec.2.2.2.1
  refine hI.mdl (fun q j hq => ?_) hm (hl.congr (fun q j hq => ?_)) (fun j hj => rfl)
  · rw [mup_q (by omega)]
  · unfold mLd at hq
    simp only [Bool.or_eq_true, Bool.and_eq_true, Nat.blt_eq, Nat.beq_eq] at hq
    rw [mup_q (by omega)]
theorem pair_spare {r p : Int32} (h : INV E T M) : EvG 11 miX8_spare [.ref 0, .int r, .int p] (hp (zz E T) M) (PairQ miX9_spare [.ref 41, .int r, .int p] (fun _ _ => True)) := by
  obtain ⟨n, rs, h1, h2, h3, h4, h5⟩ := id h
  have after : ∀ M', INV E T M' → EvI 11 miX9_spare [.ref 41, .int r, .int p] (zz E T) M' (fun y M'' => INV E T M'' ∧ True) := by
    intro M' hI
    obtain ⟨m, hm, em⟩ := hI.choose_spec.choose_spec.2.2.1.2.1
    refine evI_mono (sp_spareM em hm) (fun y M'' k => ⟨?_, trivial⟩)
    rcases k with ⟨-, -, rfl⟩ | ⟨-, -, -, rfl⟩ | ⟨-, k, -, -, -, rfl⟩
    · exact hI
    · exact hI
    · exact hI.spareM
  refine pair_of (sc_spare h1.1) (fun x M' fq => ?_)
  rcases fq with ⟨-, -, rfl⟩ | ⟨-, -, -, rfl⟩ | ⟨-, -, k, hk, -, -, f⟩
  · exact after _ h
  · exact after _ h
  · refine after _ ?_
    have hq := (h1.1.1.1 k hk).1
    have lo : ∀ q j, q < 61 → mup M (rs k) 9 p q j = M q j := fun q j hl => by rw [mup_q (by omega)]
    have hC : CI E T (mup M (rs k) 9 p) n rs := by
      obtain ⟨⟨c1, c2, c3, c4, c5, c6⟩, ⟨c, g1, g2, g3⟩, g4, g5⟩ := h1
      refine ⟨⟨c1, c2, ?_, fun i hi => ?_, ?_, ?_⟩, ⟨c, g1, ?_, fun j hj => ?_⟩, ?_, ?_⟩
      · rw [lo _ _ (by omega)]; exact c3
      · rw [mup_j (by omega), mup_j (by omega), mup_j (by omega), mup_j (by omega), mup_j (by omega)]; exact c4 i hi
      · rw [lo _ _ (by omega)]; exact c5
      · rw [lo _ _ (by omega)]; exact c6
      · rw [lo _ _ (by omega)]; exact g2
      · rw [lo _ _ (by omega), lo _ _ (by omega)]; exact g3 j hj
      · rw [lo _ _ (by omega)]; exact g4
      · rw [lo _ _ (by omega)]; exact g5
    have mid : MidS M (mup M (rs k) 9 p) := fun q j a b => lo q j b
    exact INV.cls h2 (h3.mid mid) (h4.mid mid) (h5.fr (lo 1 2 (by omega)) (fun j => lo 10 j (by omega)) (fun j _ => lo 41 j (by omega))) (hC.fr f) f rfl (fun j => rfl) (fun q j hq => cB_m hq)
theorem INV.ruleM {M' : Mem} (hI : INV E T M') {host kind head a b nt to : Int32} : EvI 11 miX9_rule [.ref 41, .int host, .int kind, .int head, .int a, .int b, .int nt, .int to] (zz E T) M' (fun y M'' => INV E T M'' ∧ True) := by
  have hm := hI.choose_spec.choose_spec.2.2.1
  have hl := hI.choose_spec.choose_spec.2.2.2.1
  obtain ⟨m, hm12, em⟩ := hm.2.1
  refine evI_mono (sp_ruleM hm hl em hm12) (fun y M'' k => ⟨?_, trivial⟩)
  rcases k with ⟨-, -, rfl⟩ | ⟨-, -, -, -, rfl⟩ | ⟨-, -, k1, k2, k3, -⟩
  · exact hI
  · exact hI
  · exact hI.mdl (k3.out (fun q j hq => mRu_o hq)) k1 k2 (fun j hj => k3 41 j (by rcases hj with rfl | rfl | rfl | rfl <;> rfl))
theorem CI.ext {X : SH} {n : Nat} {rs : Nat → Nat} {M' : Mem} (h : CI E T M n rs) (lo : ∀ q j, q ≠ 5 → q < 61 + T.length → M' q j = M q j) : CI E (T ++ [X]) M' n rs := by
  obtain ⟨⟨c1, c2, c3, c4, c5, c6⟩, ⟨c, g1, g2, g3⟩, g4, g5⟩ := h
  refine ⟨⟨c1.snoc, c2, ?_, fun i hi => ?_, ?_, ?_⟩, ⟨c, g1, ?_, fun j hj => ?_⟩, ?_, ?_⟩
  · rw [lo _ _ (by omega) (by omega)]; exact c3
  · have a1 := (c1.1 i hi).1
    have a2 := c1.lt hi
    rw [lo _ _ (by omega) a2, lo _ _ (by omega) a2, lo _ _ (by omega) a2, lo _ _ (by omega) a2, lo _ _ (by omega) a2]; exact c4 i hi
  · rw [lo _ _ (by omega) (by omega)]; exact c5
  · rw [lo _ _ (by omega) (by omega)]; exact c6
  · rw [lo _ _ (by omega) (by omega)]; exact g2
  · rw [lo _ _ (by omega) (by omega), lo _ _ (by omega) (by omega)]; exact g3 j hj
  · rw [lo _ _ (by omega) (by omega)]; exact g4
  · rw [lo _ _ (by omega) (by omega)]; exact g5
theorem pair_rule {host kind head a b nt to : Int32} (h : INV E T M) : EvG 11 miX8_rule [.ref 0, .int host, .int kind, .int head, .int a, .int b, .int nt, .int to] (hp (zz E T) M) (PairQ miX9_rule [.ref 41, .int host, .int kind, .int head, .int a, .int b, .int nt, .int to] (fun _ _ => True)) := by
  obtain ⟨n, rs, h1, h2, h3, h4, h5⟩ := id h
  refine ev_mono (sc_rule (d := 2) h1.1 h2) ?_
  rintro v h' c s ⟨hc, hs, x, E', T', M', rfl, rfl, hP⟩
  refine ⟨hc, hs, x, E', T', M', rfl, rfl, INV.ruleM ?_⟩
  have back : ∀ M1 M', InitQ (mfl M (61 + T.length) 0) (61 + T.length) host kind head a b nt to M1 → Fr cT M1 M' → INV E (T ++ [ruleSh]) M' := by
    intro M1 M' hI f
    have lo : ∀ q j, q ≠ 5 → q < 61 + T.length → M' q j = M q j := fun q j g1 g2 => (cT_q f g1).trans (init_lo hI (by omega))
    have mid : MidS M M' := fun q j a b => lo q j (by omega) (by omega)
    exact ⟨n, rs, h1.ext lo, h2.snoc, h3.mid mid, h4.mid mid, h5.fr (lo 1 2 (by omega) (by omega)) (fun j => lo 10 j (by omega) (by omega)) (fun j _ => lo 41 j (by omega) (by omega))⟩
  rcases hP with ⟨-, -, rfl, rfl, rfl⟩ | ⟨-, -, -, -, rfl, rfl, rfl⟩ | ⟨hv, hto, M1, hI, hP⟩
  · exact h
  · exact h
  · rcases hP with ⟨-, rfl, rfl, f, -⟩ | ⟨-, -, rfl, rfl, f, -⟩ | ⟨-, hn, hA, hLQ, M2, t, f2, ht, hLt, f3⟩
    · exact back M1 M' hI f
    · exact back M1 M' hI f
    · have hv2 := hv
      unfold cValid at hv2
      simp only [Bool.and_eq_true, Bool.or_eq_true, decide_eq_true_eq] at hv2
      obtain ⟨-, -, -, v4, ⟨v5, v6⟩, v7, v8⟩ := hv2
      have j2 : jF a := cIs_F v5
      have j3 : jF (cB2 a b) := by
        unfold cB2
        split
        · exact j2
        · rename_i e
          exact cIs_F (v6.resolve_left e)
      have j4 : jN nt := v7.elim Or.inl (fun h => Or.inr (cIs_F h))
      have j5 : jH to := by
        rcases hto with e | e
        · rw [dT e] at v8
          rcases v8 with v8 | v8
          · cases v8
          · exact cIs_H v8
        · rw [e]; exact ⟨0, by omega, rfl⟩
      have hC3 := CW.take h1.1 hn hI f2 hA hLQ (cIs_F v4) j2 j3 j4 j5
      have lo : ∀ q j, q ≠ 5 → q ≠ 3 → q ≠ 4 → q < 61 → cB q j = false → M' q j = M q j := fun q j g1 g2 g3 g4 g5 => by
        rw [f3 q j g5, mcp_q g3, mup_q g2, mup_q g2, cT_q f2 g1]
        exact init_lo hI (by omega)
      have mid : MidS M M' := fun q j a b => lo q j (by omega) (by omega) (by omega) b (cB_m a)
      refine ⟨n + 1, _, ⟨hC3.frB f3, ?_, ?_, ?_⟩, hLQ, h3.mid mid, h4.mid mid, h5.fr (lo 1 2 (by omega) (by omega) (by omega) (by omega) rfl) (fun j => lo 10 j (by omega) (by omega) (by omega) (by omega) rfl) (fun j _ => mid 41 j (by omega) (by omega))⟩
      · obtain ⟨c, g1, g2, g3⟩ := h1.2.1
        exact ⟨c, g1, (lo 0 6 (by omega) (by omega) (by omega) (by omega) rfl).trans g2, fun j hj => by rw [lo 1 2 (by omega) (by omega) (by omega) (by omega) rfl, lo 39 j (by omega) (by omega) (by omega) (by omega) rfl]; exact g3 j hj⟩
      · rw [lo 0 7 (by omega) (by omega) (by omega) (by omega) rfl]; exact h1.2.2.1
      · rw [lo 11 11 (by omega) (by omega) (by omega) (by omega) rfl]; exact h1.2.2.2
end PB
