/-! Bits of ints; the facts of a host: eight bits -/
def byt (v : Int32) (k : Nat) : Int32 := v >>> (8 * Int32.ofNat k &&& 31) &&& 255
def gb (x : Int32) (i : Nat) : Bool := x.toBitVec.getLsbD i
theorem gb_ext {x y : Int32} (h : ∀ i, i < 32 → gb x i = gb y i) : x = y := Int32.toBitVec_inj.mp (BitVec.eq_of_getLsbD_eq (fun i hi => h i hi))
theorem gb_hi {x : Int32} {i : Nat} (h : 32 ≤ i) : gb x i = false := BitVec.getLsbD_of_ge _ _ h
theorem gb_or {x y : Int32} {i : Nat} : gb (x ||| y) i = (gb x i || gb y i) := by
  show (x.toBitVec ||| y.toBitVec).getLsbD i = _
  rw [BitVec.getLsbD_or]
  rfl
theorem gb_and {x y : Int32} {i : Nat} : gb (x &&& y) i = (gb x i && gb y i) := by
  show (x.toBitVec &&& y.toBitVec).getLsbD i = _
  rw [BitVec.getLsbD_and]
  rfl
theorem gb_m1 {i : Nat} (h : i < 32) : gb (-1) i = true := by
  have key : ∀ i, i < 32 → gb (-1) i = true := by decide
  exact key i h
theorem gb_andn {x y : Int32} {i : Nat} (h : i < 32) : gb (x &&& (y ^^^ -1)) i = (gb x i && !(gb y i)) := by
  show (x.toBitVec &&& (y.toBitVec ^^^ (-1 : Int32).toBitVec)).getLsbD i = _
  rw [BitVec.getLsbD_and, BitVec.getLsbD_xor]
  show (gb x i && (gb y i ^^ gb (-1) i)) = _
  rw [gb_m1 h, Bool.xor_true]
theorem gb_0 {i : Nat} : gb 0 i = false := by
  show (0#32).getLsbD i = false
  simp
theorem gb_1 {i : Nat} : gb 1 i = decide (i = 0) := by
  show (1#32).getLsbD i = _
  rw [BitVec.getLsbD_one]
  simp
theorem gb_255 {i : Nat} : gb 255 i = decide (i < 8) := by
  by_cases h : i < 32
  · have key : ∀ i, i < 32 → gb 255 i = decide (i < 8) := by decide
    exact key i h
  · rw [gb_hi (by omega), decide_eq_false (by omega)]
theorem sh32 : ∀ j, j < 32 → ((Int32.ofNat j &&& 31).toBitVec.smod 32).toNat = j := by decide
theorem sh8 : ∀ k, k < 4 → ((8 * Int32.ofNat k &&& 31).toBitVec.smod 32).toNat = 8 * k := by decide
theorem gb_shrG {v x : Int32} {s i : Nat} (hx : (x.toBitVec.smod 32).toNat = s) (h : s + i < 32) : gb (v >>> x) i = gb v (s + i) := by
  show (v.toBitVec.sshiftRight' (x.toBitVec.smod 32)).getLsbD i = _
  rw [BitVec.sshiftRight_eq', hx, BitVec.getLsbD_sshiftRight]
  have : ¬ 32 ≤ i := by omega
  simp [this, h, gb]
theorem gb_shlG {v x : Int32} {s i : Nat} (hx : (x.toBitVec.smod 32).toNat = s) (hi : i < 32) : gb (v <<< x) i = (!(decide (i < s)) && gb v (i - s)) := by
  show (BitVec.shiftLeft v.toBitVec (x.toBitVec.smod 32).toNat).getLsbD i = _
  rw [hx]
  show (v.toBitVec <<< s).getLsbD i = _
  rw [BitVec.getLsbD_shiftLeft]
  simp [hi, gb]
theorem gb_shr {v : Int32} {j i : Nat} (hj : j < 32) (h : j + i < 32) : gb (v >>> (Int32.ofNat j &&& 31)) i = gb v (j + i) := gb_shrG (sh32 j hj) h
theorem gb_one {j i : Nat} (hj : j < 32) (hi : i < 32) : gb (1 <<< (Int32.ofNat j &&& 31)) i = decide (i = j) := by
  rw [gb_shlG (sh32 j hj) hi, gb_1]
  by_cases h : i < j
  · rw [decide_eq_true h, decide_eq_false (show ¬ i = j by omega)]; rfl
  · rw [decide_eq_false h]
    by_cases e : i = j
    · rw [decide_eq_true e, decide_eq_true (show i - j = 0 by omega)]; rfl
    · rw [decide_eq_false e, decide_eq_false (show ¬ i - j = 0 by omega)]; rfl
theorem bit_val {v : Int32} {j : Nat} (hj : j < 32) : v >>> (Int32.ofNat j &&& 31) &&& 1 = bI (gb v j) := by
  apply gb_ext
  intro i hi
  rw [gb_and, gb_1]
  by_cases e : i = 0
  · subst e
    rw [gb_shr hj (by omega), Nat.add_zero, decide_eq_true rfl, Bool.and_true]
    cases gb v j <;> decide
  · rw [decide_eq_false e, Bool.and_false]
    cases gb v j
    · exact gb_0.symm
    · show false = gb 1 i
      rw [gb_1, decide_eq_false e]
theorem bI_1 {t : Bool} : decide (bI t = 1) = t := by cases t <;> decide
theorem bI_0 {t : Bool} : decide (bI t = 0) = !t := by cases t <;> decide
theorem bit_1 {v : Int32} {j : Nat} (hj : j < 32) : decide (v >>> (Int32.ofNat j &&& 31) &&& 1 = 1) = gb v j := by rw [bit_val hj, bI_1]
theorem bit_0 {v : Int32} {j : Nat} (hj : j < 32) : decide (v >>> (Int32.ofNat j &&& 31) &&& 1 = 0) = !(gb v j) := by rw [bit_val hj, bI_0]
theorem gb_byt {v : Int32} {k i : Nat} (hk : k < 4) : gb (byt v k) i = (decide (i < 8) && gb v (8 * k + i)) := by
  unfold byt
  rw [gb_and, gb_255]
  by_cases h : i < 8
  · rw [gb_shrG (sh8 k hk) (by omega), Bool.and_comm]
  · rw [decide_eq_false h, Bool.and_false, Bool.false_and]
theorem byt_or {x y : Int32} {k : Nat} (hk : k < 4) : byt (x ||| y) k = byt x k ||| byt y k := by
  apply gb_ext
  intro i hi
  rw [gb_or, gb_byt hk, gb_byt hk, gb_byt hk, gb_or]
  cases decide (i < 8) <;> rfl
theorem byt_0 {k : Nat} (hk : k < 4) : byt 0 k = 0 := by
  apply gb_ext
  intro i hi
  rw [gb_byt hk, gb_0, gb_0, Bool.and_false]
/-- what is lost goes -/
theorem byt_andn {x y : Int32} {k : Nat} {c : Bool} (hk : k < 4) (hy : byt y k = bif c then 255 else 0) : byt (x &&& (y ^^^ -1)) k = bif c then 0 else byt x k := by
  apply gb_ext
  intro i hi
  have h1 : (decide (i < 8) && gb y (8 * k + i)) = gb (bif c then 255 else 0) i := by rw [← gb_byt hk, hy]
  rw [gb_byt hk]
  by_cases h : i < 8
  · rw [decide_eq_true h, Bool.true_and] at h1
    rw [decide_eq_true h, Bool.true_and, gb_andn (by omega), h1]
    cases c
    · show (_ && !(gb 0 i)) = gb (byt x k) i
      rw [gb_0, gb_byt hk, decide_eq_true h, Bool.not_false, Bool.and_true, Bool.true_and]
    · show (_ && !(gb 255 i)) = gb 0 i
      rw [gb_0, gb_255, decide_eq_true h, Bool.not_true, Bool.and_false]
  · rw [decide_eq_false h, Bool.false_and]
    cases c
    · show false = gb (byt x k) i
      rw [gb_byt hk, decide_eq_false h, Bool.false_and]
    · exact gb_0.symm
/-- eight bits -/
def E8 (x : Int32) : Prop := ∀ i, 8 ≤ i → gb x i = false
theorem E8.zero : E8 0 := fun _ _ => gb_0
theorem E8.or {x y : Int32} (h1 : E8 x) (h2 : E8 y) : E8 (x ||| y) := fun i hi => by rw [gb_or, h1 i hi, h2 i hi]; rfl
theorem E8.one {j : Nat} (hj : j < 8) : E8 (1 <<< (Int32.ofNat j &&& 31)) := fun i hi => by
  by_cases h : i < 32
  · rw [gb_one (by omega) h, decide_eq_false (by omega)]
  · exact gb_hi (by omega)
theorem E8_byt {v : Int32} {k : Nat} (hk : k < 4) : E8 (byt v k) := fun i hi => by rw [gb_byt hk, decide_eq_false (by omega), Bool.false_and]
theorem E8.nat {w : Nat} (hw : w < 256) : E8 (Int32.ofNat w) := fun i hi => by
  show (BitVec.ofNat 32 w).getLsbD i = false
  have h8 : 2 ^ 8 ≤ 2 ^ i := Nat.pow_le_pow_right (by omega) hi
  rw [BitVec.getLsbD_ofNat, Nat.testBit_lt_two_pow (show w < 2 ^ i by omega), Bool.and_false]
theorem E8.and {x : Int32} (h : E8 x) : x &&& 255 = x := by
  apply gb_ext
  intro i hi
  rw [gb_and, gb_255]
  by_cases e : i < 8
  · rw [decide_eq_true e, Bool.and_true]
  · rw [h i (by omega), Bool.false_and]
theorem byt_shl {f : Int32} {h k : Nat} (hf : E8 f) (hh : h < 4) (hk : k < 4) : byt (f <<< (8 * Int32.ofNat h &&& 31)) k = if k = h then f else 0 := by
  apply gb_ext
  intro i hi
  rw [gb_byt hk]
  by_cases h8 : i < 8
  · rw [decide_eq_true h8, Bool.true_and, gb_shlG (sh8 h hh) (by omega)]
    by_cases e : k = h
    · subst e
      rw [if_pos rfl, decide_eq_false (by omega), show 8 * k + i - 8 * k = i by omega]
      rfl
    · rw [if_neg e, gb_0]
      by_cases g : k < h
      · rw [decide_eq_true (show 8 * k + i < 8 * h by omega)]; rfl
      · rw [hf _ (show 8 ≤ 8 * k + i - 8 * h by omega), Bool.and_false]
  · rw [decide_eq_false h8, Bool.false_and]
    by_cases e : k = h
    · rw [if_pos e, hf i (by omega)]
    · rw [if_neg e, gb_0]
