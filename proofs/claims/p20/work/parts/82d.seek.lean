/-! Both sides: seek, found, weak, mend -/
section PK
variable {E : Value} {T : List SH} {M : Mem}
theorem tick_eq {a : Nat} (ha : a < 228) : cTick (Int32.ofNat a) = mTick (Int32.ofNat a) := by
  unfold cTick mTick
  by_cases h : a < 200
  · have hl : Int32.ofNat a < 200 := (jn_lt (b := 200) (by omega) (by omega)).mpr h
    rw [if_pos hl, if_pos hl, jn_shr4 (by omega)]
    exact (div_nI (k := 16) (by omega) (by omega)).symm
  · have hl : ¬ Int32.ofNat a < 200 := fun q => h ((jn_lt (b := 200) (by omega) (by omega)).mp q)
    rw [if_neg hl, if_neg hl, shr_sub (by omega) (by omega), show Int32.ofNat a - 200 = Int32.ofNat (a - 200) from jn_sub (b := 200) (by omega)]
    exact (div_nI (k := 4) (by omega) (by omega)).symm
theorem blow_eq {a : Nat} (ha : a < 228) : cBlow (M 41 0) (Int32.ofNat a) = mBlow M (Int32.ofNat a) := by
  unfold cBlow mBlow
  rw [tick_eq ha]
  by_cases h : a < 200
  · have hl : Int32.ofNat a < 200 := (jn_lt (b := 200) (by omega) (by omega)).mpr h
    have et : mTick (Int32.ofNat a) = Int32.ofNat a / 16 := if_pos hl
    have eh : cHost (Int32.ofNat a) = jrem (Int32.ofNat a / 4) 4 := by
      unfold cHost
      rw [if_pos hl, jn_shr2 (by omega), jn_and3 (by omega), show Int32.ofNat a / 4 = Int32.ofNat (a / 4) from div_nI (k := 4) (by omega) (by omega), jrem4 (by omega)]
    rw [decide_eq_true hl, cond_true, cond_true, et, eh, jn_and3 (by omega), jrem4 (show a < 2147483648 by omega)]
  · have hl : ¬ Int32.ofNat a < 200 := fun q => h ((jn_lt (b := 200) (by omega) (by omega)).mp q)
    rw [decide_eq_false hl, cond_false, cond_false]
theorem alw {n : Nat} {rs : Nat → Nat} (h : REL M n rs) : ALW M (alM M) := by
  intro x hx
  obtain ⟨⟨r1, r2, r3, r4, -⟩, -⟩ := h
  unfold cAllow alM mWith cMost mMost
  rw [r1, r2, r3, r4, blow_eq hx, tick_eq hx]
  cases mBlow M (Int32.ofNat x) <;> cases decide (mTick (Int32.ofNat x) ≤ M 41 18) <;> simp
theorem bot {n : Nat} {rs : Nat → Nat} (h : REL M n rs) : BOT M (boM M) := by
  intro a b _ _
  obtain ⟨⟨r1, r2, r3, r4, -⟩, -⟩ := h
  unfold cBoth boM mBo cMost mMost
  rw [r2, r3]
theorem bo_sw (a b : Nat) : boM M a b = boM M b a := by
  unfold boM mBo mMost
  have e1 : decide (bI true = bI false) = false := by decide
  have e2 : decide (bI false = bI true) = false := by decide
  cases decide (Int32.ofNat a < 200) <;> cases decide (Int32.ofNat b < 200)
  · rfl
  · rw [e1, e2, Bool.not_false, Bool.true_or, Bool.true_or]
  · rw [e1, e2, Bool.not_false, Bool.true_or, Bool.true_or]
  · rfl
theorem P1_eq {V : VW} : P1 V (alM M) = p1M M V := rfl
theorem P2_eq {V : VW} : P2 V (alM M) (boM M) = p2M M V := by
  funext a b
  show (mWith M (Int32.ofNat a) && (mWith M (Int32.ofNat b) && (mBo M (Int32.ofNat a) (Int32.ofNat b) && bk V [a, b]))) = ((mWith M (Int32.ofNat a) && (mWith M (Int32.ofNat b) && mBo M (Int32.ofNat a) (Int32.ofNat b))) && bk V [a, b])
  rw [Bool.and_assoc, Bool.and_assoc]
theorem kK_m {q j : Nat} (h : 41 ≤ q) : kK q j = false := by simp only [kK, kS, cSc_m h, beq_lo h (show 11 < 41 by omega), beq_lo h (show 12 < 41 by omega), beq_lo h (show 13 < 41 by omega), Bool.false_and, Bool.or_self]
theorem kM_m {q j : Nat} (h : 41 ≤ q) : kM q j = false := by simp only [kM, cSc_m h, beq_lo h (show 11 < 41 by omega), beq_lo h (show 12 < 41 by omega), beq_lo h (show 14 < 41 by omega), beq_lo h (show 6 < 41 by omega), Bool.false_and, Bool.or_self]
theorem pair_found {a : Int32} (h : INV E T M) : EvG 11 miX8_found [.ref 0, .int a] (hp (zz E T) M) (PairQ miX9_found [.ref 41, .int a] (fun x y => x = y)) := by
  obtain ⟨n, rs, h1, h2, h3, h4, h5, h6, h7⟩ := id h
  refine pair_of (sd_found h1.2.2.1) (fun x M' f => ?_)
  obtain ⟨rfl, hx⟩ := f
  refine evI_mono (sq_found h3) (fun y M'' k => ?_)
  obtain ⟨rfl, hy⟩ := k
  refine ⟨h, ?_⟩
  obtain ⟨f1, f2, f3, f4⟩ := h7
  have same : ∀ s, s ≤ 2 → 1 ≤ s → (M'' 0 7 = Int32.ofNat s ↔ M'' 41 21 = Int32.ofNat s) := fun s hs hs1 => by
    rw [f2]
    by_cases e : M'' 41 21 = 9
    · rw [if_pos e, e]
      constructor
      · intro q
        have := jn_inj (a := 0) (by omega) (by omega) (show Int32.ofNat 0 = Int32.ofNat s from q)
        omega
      · intro q
        have := jn_inj (a := 9) (by omega) (by omega) (show Int32.ofNat 9 = Int32.ofNat s from q)
        omega
    · rw [if_neg e]
  have e40 : ∀ k, k < 2 → M'' 40 k = M'' 59 k := fun k hk => by
    match k, hk with
    | 0, _ => exact f3
    | 1, _ => exact f4
  rcases hx with ⟨k, s, a1, a2, a3, a4, a5⟩ | ⟨a1, a2⟩
  · rcases hy with ⟨k', s', b1, b2, b3, b4, b5⟩ | ⟨b1, b2⟩
    · have := jn_inj (by omega) (by omega) (a4.symm.trans b4)
      subst this
      rw [a5, b5]
      exact e40 k (by omega)
    · exact (b1 k s a1 a2 ((same s a2 (by omega)).mp a3) a4).elim
  · rcases hy with ⟨k', s', b1, b2, b3, b4, b5⟩ | ⟨b1, b2⟩
    · exact (a1 k' s' b1 b2 ((same s' b2 (by omega)).mpr b3) b4).elim
    · rw [a2, b2]
theorem pair_weak {a : Int32} (h : INV E T M) : EvG 11 miX8_weak [.ref 0, .int a] (hp (zz E T) M) (PairQ miX9_weak [.ref 41, .int a] (fun x y => x = y)) := by
  obtain ⟨n, rs, h1, h2, h3, h4, h5, ⟨V, h6⟩, h7⟩ := id h
  refine pair_of (sd_weak h6.1 (alw h5) (bot h5) bo_sw h6.2.2.1 h6.2.2.2.2.2) (fun x M' f => ?_)
  rcases f with ⟨g, rfl, rfl⟩ | ⟨g, k, hk, rfl, f, m, l, rfl⟩
  · refine evI_mono (sq_weak h3 h6.2.1) (fun y M'' q => ?_)
    obtain ⟨q1, q2⟩ := q
    refine ⟨h.keepC q1, ?_⟩
    rcases q2 with ⟨-, rfl⟩ | ⟨q2, k, s, l, o, hk, rfl, -⟩
    · rfl
    · exfalso
      rw [h5.1.1, blow_eq hk, q2] at g
      cases g
  · have s3 : ∀ q j, 41 ≤ q → kK q j = false := fun q j hq => kK_m hq
    have hC : CI E T M' n rs := ⟨h1.1.fr f rfl rfl rfl (fun q j hq => kK_hi hq), by
      obtain ⟨c, g2, g3, g4⟩ := h1.2.1
      exact ⟨c, g2, (f 0 6 rfl).trans g3, fun j hj => by rw [f 1 2 rfl, f 39 j rfl]; exact g4 j hj⟩, by rw [f 0 7 rfl]; exact h1.2.2.1, l.1.sz⟩
    have hmid := f.mid s3
    have e3 : ∀ j, J3 j → M' 41 j = M 41 j := fun j _ => f 41 j (s3 41 j (by omega))
    have hx : X2 E T M' n rs V := h6.cg (h6.1.fr f rfl (fun _ => rfl) rfl (fun q j hq => kK_hi hq) (fun _ => rfl)) m e3 (fun q j q1 q2 => f q j (s3 q j (by omega))) (f 6 4 rfl) (fun j hj => f _ _ (kK_hi (h1.1.1.1 j hj).1)) (fun _ => l)
    have hI : INV E T M' := ⟨n, rs, hC, h2, h3.mid hmid, h4.mid hmid, h5.fr h1.1.1 (f 1 2 rfl) (fun j => f 10 j rfl) (fun j hj => e3 j (by unfold J3; omega)) (f 1 3 rfl) (fun j => f 4 j rfl) (fun q j hq => f q j (kK_hi hq)) (fun q j q1 q2 => f q j (s3 q j (by omega))), ⟨V, hx⟩, h7.cg (e3 21 (by unfold J3; omega)) (f 0 7 rfl) (fun j => f 40 j rfl) (fun j => f 59 j (s3 59 j (by omega)))⟩
    refine evI_mono (sq_weak (h3.mid hmid) hx.2.1) (fun y M'' q => ?_)
    obtain ⟨q1, q2⟩ := q
    refine ⟨hI.keepC q1, ?_⟩
    have eb : mBlow M' (Int32.ofNat k) = true := by
      have e0 := hmid 41 0 (by omega) (by omega)
      rw [← blow_eq hk, e0, ← h5.1.1]
      exact g
    rcases q2 with ⟨q2, -⟩ | ⟨-, k2, s, l2, o2, hk2, ek, hl, rfl⟩
    · rw [eb] at q2; cases q2
    · have := jn_inj (by omega) (by omega) ek
      subst this
      have l' : LKD V (alM M') (boM M') M' := by rw [alM_c e3, boM_c e3]; exact l
      have u := l'.1.uniq (by rw [P1_eq, P2_eq]; exact hl)
      rw [l'.2 k hk, u.1, P1_eq, P2_eq]
theorem pair_seek (h : INV E T M) : EvG 11 miX8_seek [.ref 0] (hp (zz E T) M) (PairQ miX9_seek [.ref 41] (fun x y => x = y)) := by
  obtain ⟨n, rs, h1, h2, h3, h4, h5, ⟨V, h6⟩, h7⟩ := id h
  refine pair_of (sd_seek h6.1 (alw h5) (bot h5) bo_sw h6.2.2.1 h6.2.2.2.2.2) (fun x M' f => ?_)
  obtain ⟨M1, f, m, l, rfl, hM'⟩ := f
  have o : ∀ q j, q ≠ 0 → q ≠ 40 → M' q j = M1 q j := fun q j q1 q2 => by rw [hM', mup_q q2, mup_q q2, mup_q q1]
  have o7 : M' 0 7 = (if M1 11 11 = 9 then 0 else M1 11 11) := by rw [hM']; rfl
  have o40 : M' 40 0 = M1 11 12 ∧ M' 40 1 = M1 11 13 := by rw [hM']; exact ⟨rfl, rfl⟩
  have o06 : M' 0 6 = M1 0 6 := by rw [hM']; rfl
  have s3 : ∀ q j, 41 ≤ q → kK q j = false := fun q j hq => kK_m hq
  have mid : MidS M M' := fun q j q1 q2 => (o q j (by omega) (by omega)).trans (f q j (s3 q j q1))
  have hiq : ∀ q j, 61 ≤ q → M' q j = M q j := fun q j hq => (o q j (by omega) (by omega)).trans (f q j (kK_hi hq))
  have lo : ∀ q j, q ≠ 0 → q ≠ 40 → kK q j = false → M' q j = M q j := fun q j q1 q2 q3 => (o q j q1 q2).trans (f q j q3)
  have hX1 : CX E T M1 n rs V := h6.1.fr f rfl (fun _ => rfl) rfl (fun q j hq => kK_hi hq) (fun _ => rfl)
  have f2 : Fr (fun q _ => Nat.beq q 0 || Nat.beq q 40) M1 M' := by rw [hM']; exact ((Fr.rf.up rfl).up rfl).up rfl
  have hX : CX E T M' n rs V := hX1.fr f2 rfl (fun _ => rfl) rfl (fun q j hq => by
    have e : ∀ k, k < 61 → Nat.beq q k = false := fun k hk => by
      cases hb : Nat.beq q k with
      | false => rfl
      | true => have := Nat.eq_of_beq_eq_true hb; omega
    simp only [e 0 (by omega), e 40 (by omega), Bool.or_self]) (fun _ => rfl)
  have hC : CI E T M' n rs := by
    refine ⟨hX.1, ?_, ?_, ?_⟩
    · obtain ⟨c, g2, g3, g4⟩ := h1.2.1
      exact ⟨c, g2, (o06.trans (f 0 6 rfl)).trans g3, fun j hj => by rw [lo 1 2 (by omega) (by omega) rfl, lo 39 j (by omega) (by omega) rfl]; exact g4 j hj⟩
    · rw [o7]
      rcases l.1.sz with e | e
      · rw [if_pos e]; exact ⟨0, by omega, rfl⟩
      · by_cases e9 : M1 11 11 = 9
        · rw [if_pos e9]; exact ⟨0, by omega, rfl⟩
        · rw [if_neg e9]; exact e
    · rw [o 11 11 (by omega) (by omega)]; exact l.1.sz
  have e3 : ∀ j, J3 j → M' 41 j = M 41 j := fun j _ => mid 41 j (by omega) (by omega)
  have m2 : ∀ q j, 42 ≤ q → q ≤ 51 → M' q j = M q j := fun q j q1 q2 => mid q j (by omega) (by omega)
  have hx : X2 E T M' n rs V := h6.cg hX (m.cg (fun j => o 7 j (by omega) (by omega)) (fun j => o 8 j (by omega) (by omega)) (fun j => o 9 j (by omega) (by omega))) e3 m2 (lo 6 4 (by omega) (by omega) rfl) (fun j hj => hiq _ _ (h1.1.1.1 j hj).1) (fun _ => l.cg (fun j _ => o 11 j (by omega) (by omega)) (fun j => o 13 j (by omega) (by omega)))
  refine evI_mono (sq_seek (h3.mid mid) hx.2.1) (fun y M'' k => ?_)
  obtain ⟨⟨k1, k2⟩, k3, k4⟩ := k
  have l' : LookP (bk V []) (p1M M' V) (p2M M' V) (M1 11 11) (M1 11 12) (M1 11 13) := by
    have := l.1
    rw [← alM_c e3, ← boM_c e3, P1_eq, P2_eq] at this
    exact this
  obtain ⟨u1, u2, u3⟩ := l'.uniq k3
  refine ⟨?_, u1⟩
  have out := k2.out (fun q j hq => mSk_o hq)
  have hl : ML M'' := (h4.mid mid).congr (fun q j hq => k2 q j (by
    unfold mLd at hq
    simp only [Bool.or_eq_true, Bool.and_eq_true, Nat.blt_eq, Nat.beq_eq] at hq
    rcases hq with ⟨a1, a2⟩ | rfl | ⟨rfl, rfl⟩
    · exact mSk_r (by omega) (by omega)
    · rfl
    · rfl))
  have j3 : ∀ j, j ≠ 21 → J3 j → M'' 41 j = M' 41 j := fun j hne hj => k2 41 j (by
    unfold J3 at hj
    rcases hj with rfl | rfl | rfl | rfl | rfl | rfl | rfl | rfl | rfl | rfl
    all_goals first | rfl | exact absurd rfl hne)
  have mm : ∀ q j, 42 ≤ q → q ≤ 51 → M'' q j = M' q j := fun q j q1 q2 => k2 q j (mSk_r q1 q2)
  have hr : REL M' n rs := h5.fr h1.1.1 (lo 1 2 (by omega) (by omega) rfl) (fun j => lo 10 j (by omega) (by omega) rfl) (fun j hj => e3 j (by unfold J3; omega)) (lo 1 3 (by omega) (by omega) rfl) (fun j => lo 4 j (by omega) (by omega) rfl) (fun q j hq => hiq q j hq) m2
  have hr2 : REL M'' n rs := hr.fr h1.1.1 (out 1 2 (by omega)) (fun j => out 10 j (by omega)) (fun j hj => j3 j (by omega) (by unfold J3; omega)) (out 1 3 (by omega)) (fun j => out 4 j (by omega)) (fun q j hq => out q j (by omega)) mm
  have al2 : alM M'' = alM M' := by
    funext a
    unfold alM mWith mBlow mMost
    rw [j3 0 (by omega) (by unfold J3; omega), j3 16 (by omega) (by unfold J3; omega), j3 17 (by omega) (by unfold J3; omega), j3 18 (by omega) (by unfold J3; omega)]
  have bo2 : boM M'' = boM M' := by
    funext a b
    unfold boM mBo mMost
    rw [j3 16 (by omega) (by unfold J3; omega), j3 17 (by omega) (by unfold J3; omega)]
  have hx2 : X2 E T M'' n rs V := by
    obtain ⟨b1, ⟨v1, v2, v3, v4, v5, v6, v7, v8, v9⟩, b3, b4, b5, b6⟩ := hx
    have m41 : ∀ j, j ≠ 21 → J3 j → mup M'' 41 25 0 41 j = mup M' 41 25 0 41 j := fun j hne hj => by
      have h25 : j ≠ 25 := by unfold J3 at hj; omega
      rw [mup_j h25, mup_j h25]
      exact j3 j hne hj
    have mq : ∀ q j, 42 ≤ q → q ≤ 51 → mup M'' 41 25 0 q j = mup M' 41 25 0 q j := fun q j q1 q2 => by
      rw [mup_q (by omega), mup_q (by omega)]
      exact mm q j q1 q2
    refine ⟨b1.out out, ⟨v1.cg (m41 1 (by omega) (by unfold J3; omega)) rfl (fun q j q1 q2 _ => mq q j q1 q2), fun k hk => (mq 50 k (by omega) (by omega)).trans (v2 k hk), (m41 0 (by omega) (by unfold J3; omega)).trans v3, v4, ⟨(m41 12 (by omega) (by unfold J3; omega)).trans v5.1, v5.2⟩, ⟨(m41 13 (by omega) (by unfold J3; omega)).trans v6.1, v6.2⟩, ⟨(m41 14 (by omega) (by unfold J3; omega)).trans v7.1, v7.2⟩, (m41 15 (by omega) (by unfold J3; omega)).trans v8, v9⟩, b3.cg (fun j => out 7 j (by omega)) (fun j => out 8 j (by omega)) (fun j => out 9 j (by omega)), ?_, fun i hi => ?_, fun g => ?_⟩
    · rw [out 6 4 (by omega)]; exact b4.cg (fun j hj => out _ _ (Or.inr (h1.1.1.1 j hj).1))
    · rw [mm 49 i (by omega) (by omega)]; exact b5 i hi
    · rw [out 11 10 (by omega)] at g
      rw [al2, bo2]
      exact (b6 g).cg (fun j _ => out 11 j (by omega)) (fun j => out 13 j (by omega))
  refine ⟨n, rs, hC.out out, h2, k1, hl, hr2, ⟨V, hx2⟩, ?_⟩
  unfold FND
  rw [k4, out 0 7 (by omega), out 40 0 (by omega), out 40 1 (by omega), o7, o40.1, o40.2, u1, u2, u3]
  exact ⟨k3.sz, rfl, rfl, rfl⟩
theorem sm_le {pr : Nat → Int32} {sl : List Nat} {s : Nat} (h : ∀ x, x ∈ sl → ∃ m, m ≤ 100 ∧ pr x = Int32.ofNat m) : ∀ k, k ≤ sl.length → ∃ m, m ≤ 100 * k ∧ smS pr sl s k = Int32.ofNat m := by
  intro k
  induction k with
  | zero => intro _; exact ⟨0, by omega, rfl⟩
  | succ k ih =>
    intro hk
    obtain ⟨m, hm, em⟩ := ih (by omega)
    obtain ⟨m2, hm2, em2⟩ := h _ (getD_mem (show k < sl.length by omega))
    show ∃ m, m ≤ 100 * (k + 1) ∧ smS pr sl s k + (bif bt1 s k then pr (sl.getD k 0) else 0) = Int32.ofNat m
    rw [em, em2]
    cases bt1 s k
    · exact ⟨m, by omega, Int32.add_zero _⟩
    · exact ⟨m + m2, by omega, jn_add m m2⟩
theorem pair_mend (h : INV E T M) : EvG 11 miX8_mend [.ref 0] (hp (zz E T) M) (PairQ miX9_mend [.ref 41] (fun x y => x = y)) := by
  obtain ⟨n, rs, h1, h2, h3, h4, h5, ⟨V, h6⟩, h7⟩ := id h
  have hn12 := h1.1.2.1
  refine pair_of (sd_mend (pr := M 49) h6.1 (alw h5) (fun i hi => (h5.2.1.2.1 i hi).2.2.2.2.2.2.2.2.2)) (fun x M' f => ?_)
  obtain ⟨⟨f, h7t, hns⟩, rfl⟩ := f
  have s3 : ∀ q j, 41 ≤ q → kM q j = false := fun q j hq => kM_m hq
  have hmid := f.mid s3
  have e3 : ∀ j, J3 j → M' 41 j = M 41 j := fun j _ => f 41 j (s3 41 j (by omega))
  have m2 : ∀ q j, 42 ≤ q → q ≤ 51 → M' q j = M q j := fun q j q1 q2 => f q j (s3 q j (by omega))
  have hX : CX E T M' n rs V := by
    have hX0 : CX E T M' n rs (vC V (rC (vR V))) := h6.1.cnt f (fun i hi => by
      rw [(h6.1.2.1.2.2 i hi).2.2.2.2.2, hns i (by omega), h6.2.2.2.1 i (by omega)])
    exact hX0
  have hx : X2 E T M' n rs V := by
    refine ⟨hX, h6.2.1.cg0 e3 m2, Memo.new h7t, hns.cg (fun j hj => f _ _ (kM_hi (h1.1.1.1 j hj).1)), fun i hi => ?_, fun g => ?_⟩
    · rw [m2 49 i (by omega) (by omega)]; exact h6.2.2.2.2.1 i hi
    · rw [f 11 10 rfl] at g
      rw [alM_c e3, boM_c e3]
      exact (h6.2.2.2.2.2 g).cg (fun j hj => f 11 j (by
        unfold kM
        have a8 : Nat.beq j 8 = false := by
          cases hb : Nat.beq j 8 with
          | false => rfl
          | true => have := Nat.eq_of_beq_eq_true hb; omega
        have a9 : Nat.beq j 9 = false := by
          cases hb : Nat.beq j 9 with
          | false => rfl
          | true => have := Nat.eq_of_beq_eq_true hb; omega
        rw [a8, a9]
        rfl)) (fun j => f 13 j rfl)
  have hC : CI E T M' n rs := by
    refine ⟨hX.1, ?_, ?_, ?_⟩
    · obtain ⟨c, g2, g3, g4⟩ := h1.2.1
      exact ⟨c, g2, (f 0 6 rfl).trans g3, fun j hj => by rw [f 1 2 rfl, f 39 j rfl]; exact g4 j hj⟩
    · rw [f 0 7 rfl]; exact h1.2.2.1
    · rw [f 11 11 rfl]; exact h1.2.2.2
  have hI : INV E T M' := ⟨n, rs, hC, h2, h3.mid hmid, h4.mid hmid, h5.fr h1.1.1 (f 1 2 rfl) (fun j => f 10 j rfl) (fun j hj => e3 j (by unfold J3; omega)) (f 1 3 rfl) (fun j => f 4 j rfl) (fun q j hq => f q j (kM_hi hq)) m2, ⟨V, hx⟩, h7.cg (e3 21 (by unfold J3; omega)) (f 0 7 rfl) (fun j => f 40 j rfl) (fun j => f 59 j (s3 59 j (by omega)))⟩
  have e49 : M' 49 = M 49 := funext (fun j => m2 49 j (by omega) (by omega))
  have h0 : ∀ i, i < rN (vR V) → ∀ k g, rW (vR V) i k g = ((decide (M' 42 i = -1) || decide (M' 42 i = k)) && mFit M' i g) := fun i hi k g => by
    have hi : i < n := by rw [← h6.1.2.1.1]; exact hi
    rw [(h6.1.2.1.2.2 i hi).2.2.2.2.1 k g, works_eq h3 (by omega) (h5.2.1.2.1 i hi)]
    unfold mFit
    rw [m2 42 i (by omega) (by omega), m2 45 i (by omega) (by omega), m2 46 i (by omega) (by omega), m2 47 i (by omega) (by omega)]
  refine evI_mono (sq_mend (n := n) (h3.mid hmid) hx.2.1 h0 ((hmid 41 1 (by omega) (by omega)).trans h5.2.1.1) hn12) (fun y M'' k => ?_)
  obtain ⟨k1, rfl⟩ := k
  refine ⟨hI.keepC k1, ?_⟩
  have esp : spM M' = spP (M 49) := by
    funext i
    show (!(decide (M' 49 i = -1))) = !(decide (M 49 i = -1))
    rw [e49]
  have ehd : ∀ sl, hdS M' V sl = hdG V (alM M) (M 49) sl := fun sl => by
    funext s
    unfold hdS hdG
    rw [← alM_c e3, e49]
    rfl
  rw [esp, ehd, e49]
  have hlen := spS_len (p := spP (M 49)) (n := n)
  have h32 : 2 ^ (spS (spP (M 49)) n).length ≤ 32 := Nat.pow_le_pow_right (by omega) hlen
  refine (fCM _ h32 (fun s _ => ?_)).1
  obtain ⟨mm, hmm, emm⟩ := sm_le (pr := M 49) (sl := spS (spP (M 49)) n) (s := s) (fun x hx => by
    obtain ⟨hxn, hp⟩ := spS_mem hx
    have hin := h6.2.2.2.2.1 x hxn
    unfold spP at hp
    have hne : ¬ M 49 x = -1 := fun e => by rw [decide_eq_true e] at hp; cases hp
    rw [mIn_m1 (j := 100) rfl (by omega), decide_eq_false hne, Bool.false_or, Bool.and_eq_true, decide_eq_true_eq, decide_eq_true_eq] at hin
    exact jn_of_le (k := 100) (by omega) hin.1 hin.2) (spS (spP (M 49)) n).length (Nat.le_refl _)
  show smS (M 49) (spS (spP (M 49)) n) s (spS (spP (M 49)) n).length < 501
  rw [emm]
  exact (jn_lt (b := 501) (by omega) (by omega)).mpr (by omega)
end PK
