/-! Both sides: first -/
section PF
variable {E : Value} {T : List SH} {M : Mem}
theorem shl_bit {x : Int32} {s i : Nat} (hx : (x.toBitVec.smod 32).toNat = s) (hs : s < 32) (hi : i < 32) : ((1 : Int32) <<< x).toBitVec.getLsbD i = decide (i = s) := by
  show (BitVec.shiftLeft 1#32 (x.toBitVec.smod 32).toNat).getLsbD i = _
  rw [hx]
  show (1#32 <<< s).getLsbD i = _
  rw [BitVec.getLsbD_shiftLeft]
  by_cases e : i = s
  · subst e
    simp [hi]
  · rw [decide_eq_false e]
    by_cases h : i < s
    · simp [h]
    · have : ¬ i - s = 0 := by omega
      simp [h, BitVec.getLsbD_one, this]
theorem shr_bit {v x : Int32} {s i : Nat} (hx : (x.toBitVec.smod 32).toNat = s) (h : s + i < 32) : (v >>> x).toBitVec.getLsbD i = v.toBitVec.getLsbD (s + i) := by
  show (v.toBitVec.sshiftRight' (x.toBitVec.smod 32)).getLsbD i = _
  rw [BitVec.sshiftRight_eq', hx, BitVec.getLsbD_sshiftRight]
  have : ¬ 32 ≤ i := by omega
  simp [this, h]
theorem sh8 : ∀ k, k < 4 → ((8 * Int32.ofNat k &&& 31).toBitVec.smod 32).toNat = 8 * k := by decide
theorem sh1 : ∀ j, j < 8 → ((Int32.ofNat j &&& 31).toBitVec.smod 32).toNat = j := by decide
theorem sh9 : ∀ k, k < 4 → ∀ j, j < 8 → (((8 * Int32.ofNat k + Int32.ofNat j) &&& 31).toBitVec.smod 32).toNat = 8 * k + j := by decide
theorem b255 {i : Nat} : (255#32).getLsbD i = decide (i < 8) := by
  by_cases h : i < 32
  · have key : ∀ i, i < 32 → (255#32).getLsbD i = decide (i < 8) := by decide
    exact key i h
  · rw [BitVec.getLsbD_of_ge _ _ (by omega), decide_eq_false (by omega)]
theorem byt_bit {v : Int32} {k i : Nat} (hk : k < 4) (hi : i < 32) : (byt v k).toBitVec.getLsbD i = (decide (i < 8) && v.toBitVec.getLsbD (8 * k + i)) := by
  show ((v >>> (8 * Int32.ofNat k &&& 31)).toBitVec &&& 255#32).getLsbD i = _
  rw [BitVec.getLsbD_and, b255]
  by_cases h : i < 8
  · rw [shr_bit (sh8 k hk) (by omega), decide_eq_true h, Bool.and_true, Bool.true_and]
  · rw [decide_eq_false h, Bool.and_false, Bool.false_and]
theorem i32_ext {x y : Int32} (h : ∀ i, i < 32 → x.toBitVec.getLsbD i = y.toBitVec.getLsbD i) : x = y := Int32.toBitVec_inj.mp (BitVec.eq_of_getLsbD_eq (fun i hi => h i hi))
theorem m1_bit {i : Nat} (h : i < 32) : (-1 : Int32).toBitVec.getLsbD i = true := by
  have key : ∀ i, i < 32 → (-1 : Int32).toBitVec.getLsbD i = true := by decide
  exact key i h
theorem fst_bit {v bt is : Int32} {i : Nat} (hi : i < 32) : (cFst v bt is).toBitVec.getLsbD i = (if is = 1 then v.toBitVec.getLsbD i || bt.toBitVec.getLsbD i else v.toBitVec.getLsbD i && !(bt.toBitVec.getLsbD i)) := by
  unfold cFst
  split
  · show (v.toBitVec ||| bt.toBitVec).getLsbD i = _
    rw [BitVec.getLsbD_or]
  · show (v.toBitVec &&& (bt.toBitVec ^^^ (-1 : Int32).toBitVec)).getLsbD i = _
    rw [BitVec.getLsbD_and, BitVec.getLsbD_xor, m1_bit hi, Bool.xor_true]
theorem byt_set {v is : Int32} {k j k2 : Nat} (hk : k < 4) (hj : j < 8) (hk2 : k2 < 4) : byt (cFst v (cBit (Int32.ofNat k) (Int32.ofNat j)) is) k2 = (if k2 = k then mBit (byt v k) (Int32.ofNat j) is else byt v k2) := by
  have hc : ∀ i, i < 32 → (cBit (Int32.ofNat k) (Int32.ofNat j)).toBitVec.getLsbD i = decide (i = 8 * k + j) := fun i hi => shl_bit (sh9 k hk j hj) (by omega) hi
  by_cases e : k2 = k
  · subst e
    rw [if_pos rfl]
    have e2 : mBit (byt v k2) (Int32.ofNat j) is = cFst (byt v k2) (1 <<< (Int32.ofNat j &&& 31)) is := rfl
    rw [e2]
    apply i32_ext
    intro i hi
    rw [byt_bit hk2 hi, fst_bit hi, byt_bit hk2 hi, shl_bit (sh1 j hj) (by omega) hi]
    by_cases h8 : i < 8
    · rw [decide_eq_true h8, Bool.true_and, Bool.true_and, fst_bit (by omega), hc _ (by omega)]
      have : decide (8 * k2 + i = 8 * k2 + j) = decide (i = j) := by rw [decide_eq_decide]; omega
      rw [this]
    · rw [decide_eq_false h8, Bool.false_and, Bool.false_and, decide_eq_false (show ¬ i = j by omega)]
      split <;> rfl
  · rw [if_neg e]
    apply i32_ext
    intro i hi
    rw [byt_bit hk2 hi, byt_bit hk2 hi]
    by_cases h8 : i < 8
    · rw [fst_bit (by omega), hc _ (by omega), decide_eq_false (show ¬ 8 * k2 + i = 8 * k + j by omega)]
      split
      · rw [Bool.or_false]
      · rw [Bool.not_false, Bool.and_true]
    · rw [decide_eq_false h8, Bool.false_and, Bool.false_and]
theorem one_bit {i : Nat} : (1#32).getLsbD i = decide (i = 0) := by rw [BitVec.getLsbD_one]; simp
theorem first_ans {v : Int32} {k j : Nat} (hk : k < 4) (hj : j < 8) : (if v &&& cBit (Int32.ofNat k) (Int32.ofNat j) = 0 then (0 : Int32) else 1) = byt v k >>> (Int32.ofNat j &&& 31) &&& 1 := by
  have hc : ∀ i, i < 32 → (cBit (Int32.ofNat k) (Int32.ofNat j)).toBitVec.getLsbD i = decide (i = 8 * k + j) := fun i hi => shl_bit (sh9 k hk j hj) (by omega) hi
  have hr : ∀ i, i < 32 → (byt v k >>> (Int32.ofNat j &&& 31) &&& 1).toBitVec.getLsbD i = (decide (i = 0) && v.toBitVec.getLsbD (8 * k + j)) := by
    intro i hi
    show ((byt v k >>> (Int32.ofNat j &&& 31)).toBitVec &&& 1#32).getLsbD i = _
    rw [BitVec.getLsbD_and, one_bit]
    by_cases e : i = 0
    · subst e
      rw [shr_bit (sh1 j hj) (by omega), byt_bit hk (by omega), decide_eq_true (show j + 0 < 8 by omega), decide_eq_true rfl, Bool.true_and, Bool.and_true, Bool.true_and, Nat.add_zero]
    · rw [decide_eq_false e, Bool.and_false, Bool.false_and]
  cases hb : v.toBitVec.getLsbD (8 * k + j) with
  | false =>
    have hz : v &&& cBit (Int32.ofNat k) (Int32.ofNat j) = 0 := by
      apply i32_ext
      intro i hi
      show (v.toBitVec &&& (cBit (Int32.ofNat k) (Int32.ofNat j)).toBitVec).getLsbD i = (0#32).getLsbD i
      rw [BitVec.getLsbD_and, hc i hi]
      by_cases e : i = 8 * k + j
      · subst e; rw [hb]; simp
      · rw [decide_eq_false e]; simp
    rw [if_pos hz]
    apply i32_ext
    intro i hi
    rw [hr i hi, hb, Bool.and_false]
    show (0#32).getLsbD i = false
    simp
  | true =>
    have hz : ¬ v &&& cBit (Int32.ofNat k) (Int32.ofNat j) = 0 := by
      intro h
      have h1 : (v &&& cBit (Int32.ofNat k) (Int32.ofNat j)).toBitVec.getLsbD (8 * k + j) = (0#32).getLsbD (8 * k + j) := by rw [h]; rfl
      have h2 : (v &&& cBit (Int32.ofNat k) (Int32.ofNat j)).toBitVec.getLsbD (8 * k + j) = (v.toBitVec.getLsbD (8 * k + j) && (cBit (Int32.ofNat k) (Int32.ofNat j)).toBitVec.getLsbD (8 * k + j)) := BitVec.getLsbD_and
      rw [h2, hb, hc _ (by omega)] at h1
      simp at h1
    rw [if_neg hz]
    apply i32_ext
    intro i hi
    rw [hr i hi, hb, Bool.and_true]
    show (1#32).getLsbD i = _
    exact one_bit
theorem pair_first {a f is : Int32} (h : INV E T M) : EvG 11 miX8_first [.ref 0, .int a, .int f, .int is] (hp (zz E T) M) (PairQ miX9_first [.ref 41, .int a, .int f, .int is] (fun x y => x = y)) := by
  obtain ⟨n, rs, h1, h2, h3, h4, h5⟩ := id h
  refine pair_of sc_first (fun x M' fq => ?_)
  rcases fq with ⟨g, rfl, rfl⟩ | ⟨g, g1, rfl, rfl⟩ | ⟨g, g1, rfl, rfl⟩
  · rw [eH4, eF8] at g
    refine evI_mono sp_firstM (fun y M'' k => ?_)
    rcases k with ⟨-, rfl, rfl⟩ | ⟨g2, -⟩ | ⟨-, k, j, hk, hj, rfl, rfl, -⟩
    · exact ⟨h, rfl⟩
    · rw [g2] at g; cases g
    · exfalso
      rw [← eH4, ← eF8] at g
      rw [show cIs 4 (Int32.ofNat k) = true from cIs_nI (n := 4) hk (by omega), show cIs 8 (Int32.ofNat j) = true from cIs_nI (n := 8) hj (by omega)] at g
      cases g
  · rw [eH4, eF8] at g
    refine evI_mono sp_firstM (fun y M'' k => ?_)
    rcases k with ⟨g2, -⟩ | ⟨-, -, rfl, rfl⟩ | ⟨g2, -⟩
    · rw [g2] at g; cases g
    · exact ⟨h, rfl⟩
    · rw [g2] at g1; cases g1
  · rw [eH4, eF8] at g
    refine evI_mono sp_firstM (fun y M'' k => ?_)
    rcases k with ⟨g2, -⟩ | ⟨-, g2, -⟩ | ⟨-, k, j, hk, hj, rfl, rfl, rfl, rfl⟩
    · rw [g2] at g; cases g
    · rw [g2] at g1; cases g1
    · have mid : MidS M (cFirstM M (cBit (Int32.ofNat k) (Int32.ofNat j)) is) := fun q j a b => by
        unfold cFirstM
        rw [mup_q (by omega), mup_q (by omega), mup_q (by omega)]
      have hiC : ∀ q j, 61 ≤ q → ∀ (k : Nat) (v bt : Int32), mup (cFirstM M bt is) 50 k v q j = M q j := fun q j hq k v bt => by
        unfold cFirstM
        rw [mup_q (by omega), mup_q (by omega), mup_q (by omega), mup_q (by omega)]
      refine ⟨⟨n, rs, ⟨?_, h1.2.1, h1.2.2.1, h1.2.2.2⟩, h2, (by have hm := h3.mid mid; exact ⟨hm.1, hm.2.1, hm.2.2.1, hm.2.2.2.1, hm.2.2.2.2.1, hm.2.2.2.2.2.1, hm.2.2.2.2.2.2.1, hm.2.2.2.2.2.2.2.1, hm.2.2.2.2.2.2.2.2⟩), (h4.mid mid).congr (fun q j hq => ?_), h5.1, ?_, fun k2 hk2 => ?_⟩, ?_⟩
      · obtain ⟨c1, c2, c3, c4, c5, c6⟩ := h1.1
        refine ⟨c1, c2, c3, fun i hi => ?_, c5, c6⟩
        have := (c1.1 i hi).1
        rw [hiC _ _ this, hiC _ _ this, hiC _ _ this, hiC _ _ this, hiC _ _ this]
        exact c4 i hi
      · unfold mLd at hq
        simp only [Bool.or_eq_true, Bool.and_eq_true, Nat.blt_eq, Nat.beq_eq] at hq
        rw [mup_q (by omega)]
      · refine ⟨h5.2.1.1, fun i hi => ?_, h5.2.1.2.2⟩
        have hq := (h1.1.1.1 i hi).1
        unfold RuleEq
        rw [hiC _ _ hq, hiC _ _ hq, hiC _ _ hq, hiC _ _ hq, hiC _ _ hq, hiC _ _ hq, hiC _ _ hq, hiC _ _ hq, hiC _ _ hq, hiC _ _ hq]
        exact h5.2.1.2.1 i hi
      · show mup (cFirstM M (cBit (Int32.ofNat k) (Int32.ofNat j)) is) 50 k (mBit (M 50 k) (Int32.ofNat j) is) 50 k2 = byt (cFst (M 1 3) (cBit (Int32.ofNat k) (Int32.ofNat j)) is) k2
        rw [byt_set hk hj hk2]
        by_cases e : k2 = k
        · subst e
          rw [mup_same, if_pos rfl, h5.2.2 k2 hk2]
        · rw [mup_j e, if_neg e]
          exact h5.2.2 k2 hk2
      · show (if M 1 3 &&& cBit (Int32.ofNat k) (Int32.ofNat j) = 0 then (0 : Int32) else 1) = M 50 k >>> (Int32.ofNat j &&& 31) &&& 1
        rw [h5.2.2 k hk]
        exact first_ans hk hj
end PF
