/-! Both sides: first -/
section PF
variable {E : Value} {T : List SH} {M : Mem}
theorem shl_bit {x : Int32} {s i : Nat} (hx : (x.toBitVec.smod 32).toNat = s) (hs : s < 32) (hi : i < 32) : ((1 : Int32) <<< x).toBitVec.getLsbD i = decide (i = s) := by
  show (BitVec.shiftLeft 1#32 (x.toBitVec.smod 32).toNat).getLsbD i = _
  rw [hx]
  show (1#32 <<< s).getLsbD i = _
  rw [BitVec.getLsbD_shiftLeft]
  by_cases e : i = s
  · subst e
    simp [hi]
  · rw [decide_eq_false e]
    by_cases h : i < s
    · simp [h]
    · have : ¬ i - s = 0 := by omega
      simp [h, BitVec.getLsbD_one, this]
theorem shr_bit {v x : Int32} {s i : Nat} (hx : (x.toBitVec.smod 32).toNat = s) (h : s + i < 32) : (v >>> x).toBitVec.getLsbD i = v.toBitVec.getLsbD (s + i) := by
  show (v.toBitVec.sshiftRight' (x.toBitVec.smod 32)).getLsbD i = _
  rw [BitVec.sshiftRight_eq', hx, BitVec.getLsbD_sshiftRight]
  have : ¬ 32 ≤ i := by omega
  simp [this, h]
theorem sh1 : ∀ j, j < 8 → ((Int32.ofNat j &&& 31).toBitVec.smod 32).toNat = j := by decide
theorem sh9 : ∀ k, k < 4 → ∀ j, j < 8 → (((8 * Int32.ofNat k + Int32.ofNat j) &&& 31).toBitVec.smod 32).toNat = 8 * k + j := by decide
theorem b255 {i : Nat} : (255#32).getLsbD i = decide (i < 8) := by
  by_cases h : i < 32
  · have key : ∀ i, i < 32 → (255#32).getLsbD i = decide (i < 8) := by decide
    exact key i h
  · rw [BitVec.getLsbD_of_ge _ _ (by omega), decide_eq_false (by omega)]
theorem byt_bit {v : Int32} {k i : Nat} (hk : k < 4) (hi : i < 32) : (byt v k).toBitVec.getLsbD i = (decide (i < 8) && v.toBitVec.getLsbD (8 * k + i)) := by
  show ((v >>> (8 * Int32.ofNat k &&& 31)).toBitVec &&& 255#32).getLsbD i = _
  rw [BitVec.getLsbD_and, b255]
  by_cases h : i < 8
  · rw [shr_bit (sh8 k hk) (by omega), decide_eq_true h, Bool.and_true, Bool.true_and]
  · rw [decide_eq_false h, Bool.and_false, Bool.false_and]
theorem i32_ext {x y : Int32} (h : ∀ i, i < 32 → x.toBitVec.getLsbD i = y.toBitVec.getLsbD i) : x = y := Int32.toBitVec_inj.mp (BitVec.eq_of_getLsbD_eq (fun i hi => h i hi))
theorem m1_bit {i : Nat} (h : i < 32) : (-1 : Int32).toBitVec.getLsbD i = true := by
  have key : ∀ i, i < 32 → (-1 : Int32).toBitVec.getLsbD i = true := by decide
  exact key i h
theorem fst_bit {v bt is : Int32} {i : Nat} (hi : i < 32) : (cFst v bt is).toBitVec.getLsbD i = (if is = 1 then v.toBitVec.getLsbD i || bt.toBitVec.getLsbD i else v.toBitVec.getLsbD i && !(bt.toBitVec.getLsbD i)) := by
  unfold cFst
  split
  · show (v.toBitVec ||| bt.toBitVec).getLsbD i = _
    rw [BitVec.getLsbD_or]
  · show (v.toBitVec &&& (bt.toBitVec ^^^ (-1 : Int32).toBitVec)).getLsbD i = _
    rw [BitVec.getLsbD_and, BitVec.getLsbD_xor, m1_bit hi, Bool.xor_true]
theorem byt_set {v is : Int32} {k j k2 : Nat} (hk : k < 4) (hj : j < 8) (hk2 : k2 < 4) : byt (cFst v (cBit (Int32.ofNat k) (Int32.ofNat j)) is) k2 = (if k2 = k then mBit (byt v k) (Int32.ofNat j) is else byt v k2) := by
  have hc : ∀ i, i < 32 → (cBit (Int32.ofNat k) (Int32.ofNat j)).toBitVec.getLsbD i = decide (i = 8 * k + j) := fun i hi => shl_bit (sh9 k hk j hj) (by omega) hi
  by_cases e : k2 = k
  · subst e
    rw [if_pos rfl]
    have e2 : mBit (byt v k2) (Int32.ofNat j) is = cFst (byt v k2) (1 <<< (Int32.ofNat j &&& 31)) is := rfl
    rw [e2]
    apply i32_ext
    intro i hi
    rw [byt_bit hk2 hi, fst_bit hi, byt_bit hk2 hi, shl_bit (sh1 j hj) (by omega) hi]
    by_cases h8 : i < 8
    · rw [decide_eq_true h8, Bool.true_and, Bool.true_and, fst_bit (by omega), hc _ (by omega)]
      have : decide (8 * k2 + i = 8 * k2 + j) = decide (i = j) := by rw [decide_eq_decide]; omega
      rw [this]
    · rw [decide_eq_false h8, Bool.false_and, Bool.false_and, decide_eq_false (show ¬ i = j by omega)]
      split <;> rfl
  · rw [if_neg e]
    apply i32_ext
    intro i hi
    rw [byt_bit hk2 hi, byt_bit hk2 hi]
    by_cases h8 : i < 8
    · rw [fst_bit (by omega), hc _ (by omega), decide_eq_false (show ¬ 8 * k2 + i = 8 * k + j by omega)]
      split
      · rw [Bool.or_false]
      · rw [Bool.not_false, Bool.and_true]
    · rw [decide_eq_false h8, Bool.false_and, Bool.false_and]
theorem one_bit {i : Nat} : (1#32).getLsbD i = decide (i = 0) := by rw [BitVec.getLsbD_one]; simp
theorem first_ans {v : Int32} {k j : Nat} (hk : k < 4) (hj : j < 8) : (if v &&& cBit (Int32.ofNat k) (Int32.ofNat j) = 0 then (0 : Int32) else 1) = byt v k >>> (Int32.ofNat j &&& 31) &&& 1 := by
  have hc : ∀ i, i < 32 → (cBit (Int32.ofNat k) (Int32.ofNat j)).toBitVec.getLsbD i = decide (i = 8 * k + j) := fun i hi => shl_bit (sh9 k hk j hj) (by omega) hi
  have hr : ∀ i, i < 32 → (byt v k >>> (Int32.ofNat j &&& 31) &&& 1).toBitVec.getLsbD i = (decide (i = 0) && v.toBitVec.getLsbD (8 * k + j)) := by
    intro i hi
    show ((byt v k >>> (Int32.ofNat j &&& 31)).toBitVec &&& 1#32).getLsbD i = _
    rw [BitVec.getLsbD_and, one_bit]
    by_cases e : i = 0
    · subst e
      rw [shr_bit (sh1 j hj) (by omega), byt_bit hk (by omega), decide_eq_true (show j + 0 < 8 by omega), decide_eq_true rfl, Bool.true_and, Bool.and_true, Bool.true_and, Nat.add_zero]
    · rw [decide_eq_false e, Bool.and_false, Bool.false_and]
  cases hb : v.toBitVec.getLsbD (8 * k + j) with
  | false =>
    have hz : v &&& cBit (Int32.ofNat k) (Int32.ofNat j) = 0 := by
      apply i32_ext
      intro i hi
      show (v.toBitVec &&& (cBit (Int32.ofNat k) (Int32.ofNat j)).toBitVec).getLsbD i = (0#32).getLsbD i
      rw [BitVec.getLsbD_and, hc i hi]
      by_cases e : i = 8 * k + j
      · subst e; rw [hb]; simp
      · rw [decide_eq_false e]; simp
    rw [if_pos hz]
    apply i32_ext
    intro i hi
    rw [hr i hi, hb, Bool.and_false]
    show (0#32).getLsbD i = false
    simp
  | true =>
    have hz : ¬ v &&& cBit (Int32.ofNat k) (Int32.ofNat j) = 0 := by
      intro h
      have h1 : (v &&& cBit (Int32.ofNat k) (Int32.ofNat j)).toBitVec.getLsbD (8 * k + j) = (0#32).getLsbD (8 * k + j) := by rw [h]; rfl
      have h2 : (v &&& cBit (Int32.ofNat k) (Int32.ofNat j)).toBitVec.getLsbD (8 * k + j) = (v.toBitVec.getLsbD (8 * k + j) && (cBit (Int32.ofNat k) (Int32.ofNat j)).toBitVec.getLsbD (8 * k + j)) := BitVec.getLsbD_and
      rw [h2, hb, hc _ (by omega)] at h1
      simp at h1
    rw [if_neg hz]
    apply i32_ext
    intro i hi
    rw [hr i hi, hb, Bool.and_true]
    show (1#32).getLsbD i = _
    exact one_bit
theorem pair_first {a f is : Int32} (h : INV E T M) : EvG 11 miX8_first [.ref 0, .int a, .int f, .int is] (hp (zz E T) M) (PairQ miX9_first [.ref 41, .int a, .int f, .int is] (fun x y => x = y)) := by
  obtain ⟨n, rs, h1, h2, h3, h4, h5, ⟨V, h6⟩, h7⟩ := id h
  refine pair_of sc_first (fun x M' fq => ?_)
  rcases fq with ⟨g, rfl, rfl⟩ | ⟨g, g1, rfl, rfl⟩ | ⟨g, g1, rfl, rfl⟩
  · rw [eH4, eF8] at g
    refine evI_mono sp_firstM (fun y M'' k => ?_)
    rcases k with ⟨-, rfl, rfl⟩ | ⟨g2, -⟩ | ⟨-, k, j, hk, hj, rfl, rfl, -⟩
    · exact ⟨h, rfl⟩
    · rw [g2] at g; cases g
    · exfalso
      rw [← eH4, ← eF8] at g
      rw [show cIs 4 (Int32.ofNat k) = true from cIs_nI (n := 4) hk (by omega), show cIs 8 (Int32.ofNat j) = true from cIs_nI (n := 8) hj (by omega)] at g
      cases g
  · rw [eH4, eF8] at g
    refine evI_mono sp_firstM (fun y M'' k => ?_)
    rcases k with ⟨g2, -⟩ | ⟨-, -, rfl, rfl⟩ | ⟨g2, -⟩
    · rw [g2] at g; cases g
    · exact ⟨h, rfl⟩
    · rw [g2] at g1; cases g1
  · rw [eH4, eF8] at g
    refine evI_mono sp_firstM (fun y M'' k => ?_)
    rcases k with ⟨g2, -⟩ | ⟨-, g2, -⟩ | ⟨-, k, j, hk, hj, rfl, rfl, rfl, rfl⟩
    · rw [g2] at g; cases g
    · rw [g2] at g1; cases g1
    · obtain ⟨A, hA⟩ : ∃ A, A = mup (cFirstM M (cBit (Int32.ofNat k) (Int32.ofNat j)) is) 50 k (mBit (M 50 k) (Int32.ofNat j) is) := ⟨_, rfl⟩
      have eA : mup (cFirstM M (cBit (Int32.ofNat k) (Int32.ofNat j)) is) 50 k (mBit (cFirstM M (cBit (Int32.ofNat k) (Int32.ofNat j)) is 50 k) (Int32.ofNat j) is) = A := by rw [hA]; rfl
      rw [eA]
      have f1 : Fr kV M A := by rw [hA]; exact (((Fr.rf.up rfl).up rfl).up rfl).up rfl
      have o : ∀ q j, q ≠ 0 → q ≠ 1 → q ≠ 11 → q ≠ 50 → A q j = M q j := fun q j q0 q1 q2 q3 => by
        rw [hA, mup_q q3]
        unfold cFirstM
        rw [mup_q q2, mup_q q0, mup_q q1]
      have o1 : ∀ j, j ≠ 3 → A 1 j = M 1 j := fun j hj => by
        rw [hA, mup_q (by omega)]
        unfold cFirstM
        rw [mup_q (by omega), mup_q (by omega), mup_j hj]
      have o0 : ∀ j, j ≠ 8 → A 0 j = M 0 j := fun j hj => by
        rw [hA, mup_q (by omega)]
        unfold cFirstM
        rw [mup_q (by omega), mup_j hj, mup_q (by omega)]
      have e3 : A 1 3 = cFst (M 1 3) (cBit (Int32.ofNat k) (Int32.ofNat j)) is := by rw [hA]; rfl
      have hC : CI E T A n rs := by
        obtain ⟨⟨c1, c2, c3, c4, c5, c6⟩, ⟨c, g1, g2, g3⟩, g4, g5⟩ := h1
        refine ⟨⟨c1, c2, ?_, fun i hi => ?_, ?_, ?_⟩, ⟨c, g1, ?_, fun j hj => ?_⟩, ?_, ?_⟩
        · rw [o 3 2 (by omega) (by omega) (by omega) (by omega)]; exact c3
        · have := (c1.1 i hi).1
          have oi : ∀ j, A (rs i) j = M (rs i) j := fun j => o _ j (by omega) (by omega) (by omega) (by omega)
          rw [oi, oi, oi, oi, oi]
          exact c4 i hi
        · rw [o1 2 (by omega)]; exact c5
        · rw [o1 5 (by omega)]; exact c6
        · rw [o0 6 (by omega)]; exact g2
        · rw [o1 2 (by omega), o 39 j (by omega) (by omega) (by omega) (by omega)]; exact g3 j hj
        · rw [o0 7 (by omega)]; exact g4
        · have : A 11 11 = M 11 11 := by rw [hA]; rfl
          rw [this]; exact g5
      have hI : MI A := by
        obtain ⟨m1, m2, m3, m4, m5, m6, m7, m8, m9⟩ := h3
        have m : ∀ j, A 41 j = M 41 j := fun j => o 41 j (by omega) (by omega) (by omega) (by omega)
        refine ⟨?_, ?_, fun r hr => ?_, fun k hk => ?_, ?_, ?_, ?_, fun j hj => ?_, ?_⟩
        · rw [m]; exact m1
        · rw [m]; exact m2
        · rw [o 44 r (by omega) (by omega) (by omega) (by omega), o 45 r (by omega) (by omega) (by omega) (by omega), o 46 r (by omega) (by omega) (by omega) (by omega), o 47 r (by omega) (by omega) (by omega) (by omega), o 48 r (by omega) (by omega) (by omega) (by omega)]; exact m3 r hr
        · rw [o 51 k (by omega) (by omega) (by omega) (by omega)]; exact m4 k hk
        · rw [m]; exact m5
        · rw [m]; exact m6
        · rw [m]; exact m7
        · rw [o 52 j (by omega) (by omega) (by omega) (by omega)]; exact m8 j hj
        · rw [m]; exact m9
      have hRF : RF A := by
        intro k2 hk2
        rw [e3, byt_set hk hj hk2]
        by_cases e : k2 = k
        · subst e
          rw [if_pos rfl, hA, mup_same, h5.2.2 k2 hk2]
        · rw [if_neg e, hA, mup_j e]
          exact h5.2.2 k2 hk2
      have hr : REL A n rs := by
        refine ⟨?_, ⟨(o 41 1 (by omega) (by omega) (by omega) (by omega)).trans h5.2.1.1, fun i hi => ?_, fun f hf => ?_⟩, hRF⟩
        · rw [o1 2 (by omega), o 10 0 (by omega) (by omega) (by omega) (by omega), o 10 1 (by omega) (by omega) (by omega) (by omega), o 10 2 (by omega) (by omega) (by omega) (by omega), o 41 0 (by omega) (by omega) (by omega) (by omega), o 41 16 (by omega) (by omega) (by omega) (by omega), o 41 17 (by omega) (by omega) (by omega) (by omega), o 41 18 (by omega) (by omega) (by omega) (by omega)]
          exact h5.1
        · have := (h1.1.1.1 i hi).1
          have oi : ∀ j, A (rs i) j = M (rs i) j := fun j => o _ j (by omega) (by omega) (by omega) (by omega)
          have om : ∀ q, 42 ≤ q → q ≤ 49 → A q i = M q i := fun q q1 q2 => o q i (by omega) (by omega) (by omega) (by omega)
          unfold RuleEq
          rw [oi 0, oi 1, oi 2, oi 3, oi 4, oi 5, oi 6, oi 7, oi 8, oi 9, om 42 (by omega) (by omega), om 43 (by omega) (by omega), om 44 (by omega) (by omega), om 45 (by omega) (by omega), om 46 (by omega) (by omega), om 47 (by omega) (by omega), om 48 (by omega) (by omega), om 49 (by omega) (by omega)]
          exact h5.2.1.2.1 i hi
        · rw [o 4 f (by omega) (by omega) (by omega) (by omega), o 51 f (by omega) (by omega) (by omega) (by omega)]
          exact h5.2.1.2.2 f hf
      refine ⟨INV.w (F := A 50) (e := vE V) (a := vA V) (p := vP V) (b := vB V) (q := vQ V) h2 h4 h6 hC hI f1 hr (h7.cg (o 41 21 (by omega) (by omega) (by omega) (by omega)) (o0 7 (by omega)) (fun j => o 40 j (by omega) (by omega) (by omega) (by omega)) (fun j => o 59 j (by omega) (by omega) (by omega) (by omega))) (by rw [hA]; rfl) (fun k hk => (hRF k hk).symm) ?_ ?_ ?_ ?_ (fun k hk => rfl) ?_ ?_ ?_ ?_ ?_, ?_⟩
      · rw [o1 2 (by omega)]; exact h6.1.2.2.2.1
      · rw [o1 4 (by omega)]; exact h6.1.2.2.2.2.1
      · rw [o1 5 (by omega)]; exact h6.1.2.2.2.2.2.1
      · rw [o1 6 (by omega)]; exact h6.1.2.2.2.2.2.2
      · rw [o 41 0 (by omega) (by omega) (by omega) (by omega)]; exact h6.2.1.2.2.1
      · rw [o 41 12 (by omega) (by omega) (by omega) (by omega)]; exact h6.2.1.2.2.2.2.1.1
      · rw [o 41 13 (by omega) (by omega) (by omega) (by omega)]; exact h6.2.1.2.2.2.2.2.1.1
      · rw [o 41 14 (by omega) (by omega) (by omega) (by omega)]; exact h6.2.1.2.2.2.2.2.2.1.1
      · rw [o 41 15 (by omega) (by omega) (by omega) (by omega)]; exact h6.2.1.2.2.2.2.2.2.2.1
      · show (if M 1 3 &&& cBit (Int32.ofNat k) (Int32.ofNat j) = 0 then (0 : Int32) else 1) = M 50 k >>> (Int32.ofNat j &&& 31) &&& 1
        rw [h5.2.2 k hk]
        exact first_ans hk hj
end PF
