/-! The reference: what seeking, found, weak and mend come to -/
section SeekF
variable {E : Value} {T : List SH} {M : Mem} {d : Nat}
/-- the reference's world -/
def MV (M : Mem) (V : VW) : Prop := MRW M (vR V) ∧ (∀ k, k < 4 → M 50 k = vF V k) ∧ M 41 0 = Int32.ofNat (vE V) ∧ vE V ≤ 6 ∧ (M 41 12 = Int32.ofNat (vA V) ∧ vA V < 4) ∧ (M 41 13 = Int32.ofNat (vP V) ∧ vP V < 8) ∧ (M 41 14 = Int32.ofNat (vB V) ∧ vB V < 4) ∧ M 41 15 = Int32.ofNat (vQ V) ∧ vQ V < 8
/-- what seeking and mending write of the reference's cells -/
def mScC (q j : Nat) : Bool := mScr q j || (Nat.beq q 53 || Nat.beq q 60)
def mKeepC (M M' : Mem) : Prop := ∀ q j, mScC q j = false → M' q j = M q j
set_option maxRecDepth 20000 in
theorem mKeepC.rf : mKeepC M M := fun _ _ _ => rfl
set_option maxRecDepth 20000 in
theorem mKeepC.tr {M M1 M2 : Mem} (h1 : mKeepC M M1) (h2 : mKeepC M1 M2) : mKeepC M M2 := fun q j h => (h2 q j h).trans (h1 q j h)
set_option maxRecDepth 20000 in
theorem mKeepC.up {M M1 : Mem} {q j : Nat} {x : Int32} (h : mKeepC M M1) (hs : mScC q j = true) : mKeepC M (mup M1 q j x) := by
  intro a b hab
  rw [mup_if, if_neg, h a b hab]
  rintro ⟨rfl, rfl⟩
  rw [hs] at hab
  cases hab
set_option maxRecDepth 20000 in
theorem mKeep.toC {M M' : Mem} (h : mKeep M M') : mKeepC M M' := by
  intro q j hq
  apply h
  cases hm : mScr q j with
  | false => rfl
  | true => unfold mScC at hq; rw [hm] at hq; cases hq
set_option maxRecDepth 20000 in
theorem mScC_B {q j : Nat} (h : mScC q j = true) : mScB q j = true := by
  unfold mScC at h
  rw [Bool.or_eq_true] at h
  rcases h with h | h
  · exact mScB_of h
  · unfold mScB
    simp only [Bool.or_eq_true, Bool.and_eq_true, Nat.blt_eq, Nat.beq_eq] at h ⊢
    exact Or.inl ⟨by omega, by omega⟩
set_option maxRecDepth 20000 in
theorem mKeepC.toB {M M' : Mem} (h : mKeepC M M') : mKeepB M M' := by
  intro q j hq
  apply h
  cases hm : mScC q j with
  | false => rfl
  | true => rw [mScC_B hm] at hq; cases hq
set_option maxRecDepth 20000 in
theorem MRW.rb {M M1 : Mem} {R : RW} (hR : MRW M R) (h : mKeepB M M1) (h25 : M1 41 25 = M 41 25) : MRW M1 R := by
  obtain ⟨a, b, c, e⟩ := hR
  refine ⟨a, (h 41 1 rfl).trans b, c, fun i hi => ?_⟩
  obtain ⟨e1, e2, e3, e4, e5⟩ := e i hi
  rw [h 43 i rfl, h 44 i rfl, h 48 i rfl, h 51 _ rfl]
  refine ⟨e1, e2, e3, e4, fun k f => ?_⟩
  rw [e5 k f]
  unfold mCnt mFit
  rw [h 42 i rfl, h 45 i rfl, h 46 i rfl, h 47 i rfl, h 49 i rfl, h25]
set_option maxRecDepth 20000 in
theorem MV.rb {M M1 : Mem} {V : VW} (hV : MV M V) (h : mKeepB M M1) (h25 : M1 41 25 = M 41 25) : MV M1 V := by
  obtain ⟨v1, v2, v3, v4, v5, v6, v7, v8, v9⟩ := hV
  refine ⟨v1.rb h h25, fun k hk => (h 50 k rfl).trans (v2 k hk), (h 41 0 rfl).trans v3, v4, ⟨(h 41 12 rfl).trans v5.1, v5.2⟩, ⟨(h 41 13 rfl).trans v6.1, v6.2⟩, ⟨(h 41 14 rfl).trans v7.1, v7.2⟩, (h 41 15 rfl).trans v8, v9⟩
set_option maxRecDepth 20000 in
theorem sq_isBroken {nb : Nat} {g : Nat → Nat} {V : VW} (hI : MI M) (hV : MV M V) (hb : BL M nb g) : EvI (d + 5) miX9_isBroken [.ref 41] (zz E T) M (fun x M' => x = bI (bk V (blL nb g)) ∧ mKeep M M' ∧ M' 41 25 = M 41 25) := by
  obtain ⟨hR, hF, he, he6, ⟨ea, ha⟩, ⟨ep, hp8⟩, ⟨eb, hb4⟩, eq, hq8⟩ := hV
  refine ev_of mt_X9_isBroken rfl ?_
  refine g_aload_n (n := 1) rfl rfl rfl ?_
  refine g_cV1 (n := 4) rfl rfl rfl rfl mt_X9_runs rfl rfl (r_k z_41) (sq_runs hI hR hF hb he he6) ?_
  rintro M1 ⟨hg, k1⟩
  have he1 : M1 41 0 = Int32.ofNat (vE V) := (k1.1.1 41 0 rfl).trans he
  have ea1 : M1 41 12 = Int32.ofNat (vA V) := (k1.1.1 41 12 rfl).trans ea
  have ep1 : M1 41 13 = Int32.ofNat (vP V) := (k1.1.1 41 13 rfl).trans ep
  have eb1 : M1 41 14 = Int32.ofNat (vB V) := (k1.1.1 41 14 rfl).trans eb
  have eq1 : M1 41 15 = Int32.ofNat (vQ V) := (k1.1.1 41 15 rfl).trans eq
  have h56 : ∀ h, h < 4 → M1 56 (4 * vE V + h) = hsB V (blL nb g) (vE V) h := fun h h4 => by
    have := (k1.2.2.2 (4 * vE V + h) (by omega)).1
    rw [show (4 * vE V + h) / 4 = vE V by omega, show (4 * vE V + h) % 4 = h by omega] at this
    exact this
  refine g_aload_n (n := 5) rfl rfl rfl ?_
  refine g_getR (n := 8) rfl rfl z_41 rfl ?_
  refine g_const (n := 9) rfl rfl (s_iconst (v := 4) (by decide)) ?_
  refine g_aload_n (n := 10) rfl rfl rfl ?_
  refine g_getI (n := 13) rfl rfl z_41 rfl ?_
  refine g_imul (n := 14) rfl rfl ?_
  refine g_aload_n (n := 15) rfl rfl rfl ?_
  refine g_getI (n := 18) rfl rfl z_41 rfl ?_
  refine g_iadd (n := 19) rfl rfl ?_
  refine g_iald (n := 20) rfl rfl z_56 rfl (by rw [he1, ea1]; exact ix44 _ _) (by omega) ?_
  refine g_aload_n (n := 21) rfl rfl rfl ?_
  refine g_getI (n := 24) rfl rfl z_41 rfl ?_
  refine g_ishr (n := 25) rfl rfl ?_
  refine g_const (n := 26) rfl rfl (s_iconst (v := 1) (by decide)) ?_
  refine g_iand (n := 27) rfl rfl ?_
  refine g_const (n := 28) rfl rfl (s_iconst (v := 1) (by decide)) ?_
  refine g_ine (n := 31) rfl rfl (fun h28 => ?_) (fun h28 => ?_)
  · skip
    rw [h56 _ ha, ep1] at h28
    have b28 := (bit_1 (show vP V < 32 by omega)).symm.trans (dF h28)
    refine g_const (n := 36) rfl rfl (s_iconst (v := 0) (by decide)) ?_
    refine g_istore_n (n := 37) rfl rfl ?_
    refine g_iload_n (n := 38) rfl rfl rfl ?_
    refine g_zeq (n := 41) rfl rfl (fun h38 => ?_) (fun h38 => ?_)
    · skip
      refine g_const (n := 87) rfl rfl (s_iconst (v := 0) (by decide)) ?_
      refine g_retZ rfl (by decide) ?_
      refine ⟨?_, k1.1.1, k1.1.2.2.2⟩
      unfold bk
      first
        | (rw [b28, b64, h79]; rfl)
        | (rw [b28, b64]; rfl)
        | (rw [b28]; rfl)
    · skip
      exact absurd h38 (by decide)
  · skip
    rw [h56 _ ha, ep1] at h28
    have b28 := (bit_1 (show vP V < 32 by omega)).symm.trans (dT h28)
    refine g_const (n := 32) rfl rfl (s_iconst (v := 1) (by decide)) ?_
    refine g_goto rfl ?_
    refine g_istore_n (n := 37) rfl rfl ?_
    refine g_iload_n (n := 38) rfl rfl rfl ?_
    refine g_zeq (n := 41) rfl rfl (fun h38 => ?_) (fun h38 => ?_)
    · skip
      exact absurd h38 (by decide)
    · skip
      refine g_aload_n (n := 42) rfl rfl rfl ?_
      refine g_getR (n := 45) rfl rfl z_41 rfl ?_
      refine g_const (n := 46) rfl rfl (s_iconst (v := 4) (by decide)) ?_
      refine g_aload_n (n := 47) rfl rfl rfl ?_
      refine g_getI (n := 50) rfl rfl z_41 rfl ?_
      refine g_imul (n := 51) rfl rfl ?_
      refine g_aload_n (n := 52) rfl rfl rfl ?_
      refine g_getI (n := 55) rfl rfl z_41 rfl ?_
      refine g_iadd (n := 56) rfl rfl ?_
      refine g_iald (n := 57) rfl rfl z_56 rfl (by rw [he1, eb1]; exact ix44 _ _) (by omega) ?_
      refine g_aload_n (n := 58) rfl rfl rfl ?_
      refine g_getI (n := 61) rfl rfl z_41 rfl ?_
      refine g_ishr (n := 62) rfl rfl ?_
      refine g_const (n := 63) rfl rfl (s_iconst (v := 1) (by decide)) ?_
      refine g_iand (n := 64) rfl rfl ?_
      refine g_zne (n := 67) rfl rfl (fun h64 => ?_) (fun h64 => ?_)
      · skip
        rw [h56 _ hb4, eq1] at h64
        have b64 := (bit_0 (show vQ V < 32 by omega)).symm.trans (dF h64)
        refine g_const (n := 87) rfl rfl (s_iconst (v := 0) (by decide)) ?_
        refine g_retZ rfl (by decide) ?_
        refine ⟨?_, k1.1.1, k1.1.2.2.2⟩
        unfold bk
        first
          | (rw [b28, b64, h79]; rfl)
          | (rw [b28, b64]; rfl)
          | (rw [b28]; rfl)
      · skip
        rw [h56 _ hb4, eq1] at h64
        have b64 := (bit_0 (show vQ V < 32 by omega)).symm.trans (dT h64)
        refine g_aload_n (n := 68) rfl rfl rfl ?_
        refine g_aload_n (n := 69) rfl rfl rfl ?_
        refine g_getI (n := 72) rfl rfl z_41 rfl ?_
        refine g_aload_n (n := 73) rfl rfl rfl ?_
        refine g_getI (n := 76) rfl rfl z_41 rfl ?_
        rw [eb1]
        refine g_cP3 (n := 79) rfl rfl rfl rfl mt_X9_isFallen rfl rfl (r_k z_41) (sp_isFallen hb4) ?_
        refine g_bnz (n := 82) rfl rfl (fun h79 => ?_) (fun h79 => ?_)
        · skip
          rw [he1, fall_eq k1.2.1 he6 hb4] at h79
          refine g_const (n := 87) rfl rfl (s_iconst (v := 0) (by decide)) ?_
          refine g_retZ rfl (by decide) ?_
          refine ⟨?_, k1.1.1, k1.1.2.2.2⟩
          unfold bk
          first
            | (rw [b28, b64, h79]; rfl)
            | (rw [b28, b64]; rfl)
            | (rw [b28]; rfl)
        · skip
          rw [he1, fall_eq k1.2.1 he6 hb4] at h79
          refine g_const (n := 83) rfl rfl (s_iconst (v := 1) (by decide)) ?_
          refine g_goto rfl ?_
          refine g_retZ rfl (by decide) ?_
          refine ⟨?_, k1.1.1, k1.1.2.2.2⟩
          unfold bk
          first
            | (rw [b28, b64, h79]; rfl)
            | (rw [b28, b64]; rfl)
            | (rw [b28]; rfl)
set_option maxRecDepth 20000 in
theorem sq_breaks55 {nb : Nat} {g : Nat → Nat} {V : VW} {M1 : Mem} {x y : Int32} (hI : MI M) (hV : MV M V) (k1 : mKeep M M1) (h25 : M1 41 25 = M 41 25) (hb : BL M1 nb g) : Go [] (d + 5) (some .boolean) tabX9_breaks 55 [(0, .ref 41), (1, .int x), (2, .int y)] [] (hp (zz E T) M1) 0 0 (QI (zz E T) (fun x M' => x = bI (bk V (blL nb g)) ∧ mKeep M M' ∧ M' 41 25 = M 41 25)) := by
  refine g_aload_n (n := 56) rfl rfl rfl ?_
  refine g_cI1 (n := 59) rfl rfl rfl rfl mt_X9_isBroken rfl rfl (r_k z_41) (sq_isBroken (hI.keep k1) (hV.rb k1.toB h25) hb) ?_
  rintro x56 M56 ⟨rfl, k2, k3⟩
  refine g_retZ rfl bI01 ?_
  exact ⟨rfl, k1.tr k2, k3.trans h25⟩
set_option maxRecDepth 20000 in
theorem sq_breaks0 {V : VW} (hI : MI M) (hV : MV M V) : EvI (d + 6) miX9_breaks [.ref 41, .int (-1), .int (-1)] (zz E T) M (fun x M' => x = bI (bk V []) ∧ mKeep M M' ∧ M' 41 25 = M 41 25) := by
  refine ev_of mt_X9_breaks rfl ?_
  refine g_aload_n (n := 1) rfl rfl rfl ?_
  refine g_const (n := 2) rfl rfl (s_iconst (v := 0) (by decide)) ?_
  refine g_putI (n := 5) rfl rfl z_41 rfl rfl ?_
  refine g_iload_n (n := 6) rfl rfl rfl ?_
  refine g_const (n := 7) rfl rfl (s_iconst (v := (-1)) (by decide)) ?_
  refine g_ieq (n := 10) rfl rfl (fun h7 => ?_) (fun h7 => ?_)
  · skip
    refine g_iload_n (n := 31) rfl rfl rfl ?_
    refine g_const (n := 32) rfl rfl (s_iconst (v := (-1)) (by decide)) ?_
    refine g_ieq (n := 35) rfl rfl (fun h32 => ?_) (fun h32 => ?_)
    · skip
      exact sq_breaks55 (nb := 0) (g := fun _ => 0) hI hV (mKeep.rf.up rfl) rfl ⟨by omega, rfl, fun k hk => absurd hk (by omega)⟩
    · skip
      exact absurd rfl h32
  · skip
    exact absurd rfl h7
set_option maxRecDepth 20000 in
theorem sq_breaks1 {V : VW} {a : Nat} (hI : MI M) (hV : MV M V) (ha : a < 2147483648) : EvI (d + 6) miX9_breaks [.ref 41, .int (Int32.ofNat a), .int (-1)] (zz E T) M (fun x M' => x = bI (bk V [a]) ∧ mKeep M M' ∧ M' 41 25 = M 41 25) := by
  refine ev_of mt_X9_breaks rfl ?_
  refine g_aload_n (n := 1) rfl rfl rfl ?_
  refine g_const (n := 2) rfl rfl (s_iconst (v := 0) (by decide)) ?_
  refine g_putI (n := 5) rfl rfl z_41 rfl rfl ?_
  refine g_iload_n (n := 6) rfl rfl rfl ?_
  refine g_const (n := 7) rfl rfl (s_iconst (v := (-1)) (by decide)) ?_
  refine g_ieq (n := 10) rfl rfl (fun h7 => ?_) (fun h7 => ?_)
  · skip
    exact absurd h7 (nI_m1 ha)
  · skip
    refine g_aload_n (n := 11) rfl rfl rfl ?_
    refine g_getR (n := 14) rfl rfl z_41 rfl ?_
    refine g_aload_n (n := 15) rfl rfl rfl ?_
    refine g_getI (n := 18) rfl rfl z_41 rfl ?_
    refine g_iload_n (n := 19) rfl rfl rfl ?_
    refine g_iast (n := 20) rfl rfl z_54 rfl (j := 0) rfl (by omega) ?_
    refine g_aload_n (n := 21) rfl rfl rfl ?_
    refine g_dup (n := 22) rfl rfl ?_
    refine g_getI (n := 25) rfl rfl z_41 rfl ?_
    refine g_const (n := 26) rfl rfl (s_iconst (v := 1) (by decide)) ?_
    refine g_iadd (n := 27) rfl rfl ?_
    refine g_putI (n := 30) rfl rfl z_41 rfl rfl ?_
    refine g_iload_n (n := 31) rfl rfl rfl ?_
    refine g_const (n := 32) rfl rfl (s_iconst (v := (-1)) (by decide)) ?_
    refine g_ieq (n := 35) rfl rfl (fun h32 => ?_) (fun h32 => ?_)
    · skip
      refine sq_breaks55 (nb := 1) (g := fun _ => a) hI hV (((mKeep.rf.up rfl).up rfl).up rfl) rfl ⟨by omega, rfl, fun k hk => ⟨ha, ?_⟩⟩
      obtain rfl : k = 0 := by omega
      rfl
    · skip
      exact absurd rfl h32
set_option maxRecDepth 20000 in
theorem sq_breaks2 {V : VW} {a b : Nat} (hI : MI M) (hV : MV M V) (ha : a < 2147483648) (hb : b < 2147483648) : EvI (d + 6) miX9_breaks [.ref 41, .int (Int32.ofNat a), .int (Int32.ofNat b)] (zz E T) M (fun x M' => x = bI (bk V [a, b]) ∧ mKeep M M' ∧ M' 41 25 = M 41 25) := by
  refine ev_of mt_X9_breaks rfl ?_
  refine g_aload_n (n := 1) rfl rfl rfl ?_
  refine g_const (n := 2) rfl rfl (s_iconst (v := 0) (by decide)) ?_
  refine g_putI (n := 5) rfl rfl z_41 rfl rfl ?_
  refine g_iload_n (n := 6) rfl rfl rfl ?_
  refine g_const (n := 7) rfl rfl (s_iconst (v := (-1)) (by decide)) ?_
  refine g_ieq (n := 10) rfl rfl (fun h7 => ?_) (fun h7 => ?_)
  · skip
    exact absurd h7 (nI_m1 ha)
  · skip
    refine g_aload_n (n := 11) rfl rfl rfl ?_
    refine g_getR (n := 14) rfl rfl z_41 rfl ?_
    refine g_aload_n (n := 15) rfl rfl rfl ?_
    refine g_getI (n := 18) rfl rfl z_41 rfl ?_
    refine g_iload_n (n := 19) rfl rfl rfl ?_
    refine g_iast (n := 20) rfl rfl z_54 rfl (j := 0) rfl (by omega) ?_
    refine g_aload_n (n := 21) rfl rfl rfl ?_
    refine g_dup (n := 22) rfl rfl ?_
    refine g_getI (n := 25) rfl rfl z_41 rfl ?_
    refine g_const (n := 26) rfl rfl (s_iconst (v := 1) (by decide)) ?_
    refine g_iadd (n := 27) rfl rfl ?_
    refine g_putI (n := 30) rfl rfl z_41 rfl rfl ?_
    refine g_iload_n (n := 31) rfl rfl rfl ?_
    refine g_const (n := 32) rfl rfl (s_iconst (v := (-1)) (by decide)) ?_
    refine g_ieq (n := 35) rfl rfl (fun h32 => ?_) (fun h32 => ?_)
    · skip
      exact absurd h32 (nI_m1 hb)
    · skip
      refine g_aload_n (n := 36) rfl rfl rfl ?_
      refine g_getR (n := 39) rfl rfl z_41 rfl ?_
      refine g_aload_n (n := 40) rfl rfl rfl ?_
      refine g_getI (n := 43) rfl rfl z_41 rfl ?_
      refine g_iload_n (n := 44) rfl rfl rfl ?_
      refine g_iast (n := 45) rfl rfl z_54 rfl (j := 1) rfl (by omega) ?_
      refine g_aload_n (n := 46) rfl rfl rfl ?_
      refine g_dup (n := 47) rfl rfl ?_
      refine g_getI (n := 50) rfl rfl z_41 rfl ?_
      refine g_const (n := 51) rfl rfl (s_iconst (v := 1) (by decide)) ?_
      refine g_iadd (n := 52) rfl rfl ?_
      refine g_putI (n := 55) rfl rfl z_41 rfl rfl ?_
      refine sq_breaks55 (nb := 2) (g := fun k => bif Nat.beq k 0 then a else b) hI hV (((((mKeep.rf.up rfl).up rfl).up rfl).up rfl).up rfl) rfl ⟨by omega, rfl, fun k hk => ?_⟩
      match k, hk with
      | 0, _ => exact ⟨ha, rfl⟩
      | 1, _ => exact ⟨hb, rfl⟩
-- seeking
def mBo (M : Mem) (x y : Int32) : Bool := !(decide (bI (decide (x < 200)) = bI (decide (y < 200)))) || decide (1 < mMost M x)
def p1M (M : Mem) (V : VW) (a : Nat) : Bool := mWith M (Int32.ofNat a) && bk V [a]
def p2M (M : Mem) (V : VW) (a b : Nat) : Bool := mWith2 M (Int32.ofNat a) (Int32.ofNat b) && bk V [a, b]
set_option maxRecDepth 20000 in
theorem mWith_k {M1 : Mem} {x : Int32} (k : mKeepB M M1) : mWith M1 x = mWith M x := by
  unfold mWith mBlow mMost
  rw [k 41 0 rfl, k 41 16 rfl, k 41 17 rfl, k 41 18 rfl]
set_option maxRecDepth 20000 in
theorem mWith2_k {M1 : Mem} {x y : Int32} (k : mKeepB M M1) : mWith2 M1 x y = mWith2 M x y := by
  unfold mWith2
  rw [mWith_k k, mWith_k k]
  unfold mMost
  rw [k 41 16 rfl, k 41 17 rfl]
set_option maxRecDepth 20000 in
theorem with2_1 {x y : Int32} (h : mWith M x = false) : mWith2 M x y = false := by
  unfold mWith2
  rw [h, Bool.false_and]
/-- while it seeks -/
def SKI (M : Mem) (V : VW) (M1 : Mem) : Prop := mKeepC M M1 ∧ MV M1 V ∧ M1 53 0 = -1 ∧ M1 53 1 = -1
set_option maxRecDepth 20000 in
theorem SKI.nx {V : VW} {M1 M2 : Mem} (h : SKI M V M1) (k : mKeep M1 M2) (h25 : M2 41 25 = M1 41 25) : SKI M V M2 := ⟨h.1.tr k.toC, h.2.1.rb k.toB h25, (k 53 0 rfl).trans h.2.2.1, (k 53 1 rfl).trans h.2.2.2⟩
def SKQ (M : Mem) (V : VW) (x : Int32) (M' : Mem) : Prop := LookP (bk V []) (p1M M V) (p2M M V) x (M' 53 0) (M' 53 1) ∧ mKeepC M M' ∧ MV M' V
set_option maxRecDepth 20000 in
theorem lq_seeks84 {a : Nat} {V : VW} (ha : a < 228) (hI : MI M) (H0 : bk V [] = false) (H1 : ∀ x, x < 228 → p1M M V x = false) (H2 : ∀ x y, x < a → x < y → y < 228 → p2M M V x y = false) (K : (∀ y, a < y → y < 228 → p2M M V a y = false) → ∀ M1, SKI M V M1 → Go [] (d + 6) (some .int) tabX9_seeks 139 [(0, .ref 41), (1, .int (Int32.ofNat a))] [] (hp (zz E T) M1) 0 0 (QI (zz E T) (SKQ M V))) : ∀ i, i ≤ 228 → a < i → (∀ y, a < y → y < i → p2M M V a y = false) → ∀ M1, SKI M V M1 → Go [] (d + 6) (some .int) tabX9_seeks 84 [(0, .ref 41), (1, .int (Int32.ofNat a)), (2, .int (Int32.ofNat i))] [] (hp (zz E T) M1) 0 0 (QI (zz E T) (SKQ M V)) := by
  refine loop_up 228 ?_
  intro i hi ih hai H3 M1 k1
  have nx : p2M M V a i = false → ∀ y, a < y → y < i + 1 → p2M M V a y = false := fun h y g1 g2 => by
    by_cases e : y = i
    · rw [e]; exact h
    · exact H3 y g1 (by omega)
  refine g_iload_n (n := 85) rfl rfl rfl ?_
  refine g_const (n := 88) rfl rfl (s_sipush (v := 228) (by decide)) ?_
  refine g_ige (n := 91) rfl rfl (fun h88 => ?_) (fun h88 => ?_)
  · skip
    have g9 := (jn_le (b := i) (a := 228) (by omega) (by omega)).mp h88
    refine go_only 2 ?_; exact K (fun y g1 g2 => H3 y g1 (by omega)) M1 k1
  · skip
    have g9 := (jn_lt (b := 228) (a := i) (by omega) (by omega)).mp h88
    refine g_aload_n (n := 92) rfl rfl rfl ?_
    refine g_iload_n (n := 93) rfl rfl rfl ?_
    refine g_cP2 (n := 96) rfl rfl rfl rfl mt_X9_isWithin rfl rfl (r_k z_41) (sp_isWithin) ?_
    refine g_bz (n := 99) rfl rfl (fun h96 => ?_) (fun h96 => ?_)
    · skip
      rw [mWith_k k1.1.toB] at h96
      refine go_only 2 ?_
      refine K (fun y g1 g2 => ?_) M1 k1
      unfold p2M
      rw [with2_1 h96, Bool.false_and]
    · skip
      refine g_aload_n (n := 100) rfl rfl rfl ?_
      refine g_iload_n (n := 101) rfl rfl rfl ?_
      refine g_iload_n (n := 102) rfl rfl rfl ?_
      refine g_cP3 (n := 105) rfl rfl rfl rfl mt_X9_areWithin rfl rfl (r_k z_41) (sp_areWithin) ?_
      refine g_bz (n := 108) rfl rfl (fun h105 => ?_) (fun h105 => ?_)
      · skip
        rw [mWith2_k k1.1.toB] at h105
        refine g_iinc (n := 136) rfl rfl rfl (jn_1 _) ?_
        refine g_goto rfl ?_
        refine ih g9 (by omega) (nx ?_) M1 k1
        unfold p2M
        rw [h105, Bool.false_and]
      · skip
        rw [mWith2_k k1.1.toB] at h105
        refine g_aload_n (n := 109) rfl rfl rfl ?_
        refine g_iload_n (n := 110) rfl rfl rfl ?_
        refine g_iload_n (n := 111) rfl rfl rfl ?_
        refine g_cI3 (n := 114) rfl rfl rfl rfl mt_X9_breaks rfl rfl (r_k z_41) (sq_breaks2 (hI.keepB k1.1.toB) k1.2.1 (by omega) (by omega)) ?_
        rintro x111 M111 ⟨rfl, k2, k3⟩
        have k4 := k1.nx k2 k3
        refine g_bz (n := 117) rfl rfl (fun h114 => ?_) (fun h114 => ?_)
        · skip
          refine g_iinc (n := 136) rfl rfl rfl (jn_1 _) ?_
          refine g_goto rfl ?_
          refine ih g9 (by omega) (nx ?_) _ k4
          unfold p2M
          rw [h114, Bool.and_false]
        · skip
          refine g_aload_n (n := 118) rfl rfl rfl ?_
          refine g_getR (n := 121) rfl rfl z_41 rfl ?_
          refine g_const (n := 122) rfl rfl (s_iconst (v := 0) (by decide)) ?_
          refine g_iload_n (n := 123) rfl rfl rfl ?_
          refine g_iast (n := 124) rfl rfl z_53 rfl (j := 0) rfl (by omega) ?_
          refine g_aload_n (n := 125) rfl rfl rfl ?_
          refine g_getR (n := 128) rfl rfl z_41 rfl ?_
          refine g_const (n := 129) rfl rfl (s_iconst (v := 1) (by decide)) ?_
          refine g_iload_n (n := 130) rfl rfl rfl ?_
          refine g_iast (n := 131) rfl rfl z_53 rfl (j := 1) rfl (by omega) ?_
          refine g_const (n := 132) rfl rfl (s_iconst (v := 2) (by decide)) ?_
          refine g_retI rfl ?_
          refine ⟨Or.inr (Or.inr (Or.inl ⟨H0, H1, a, i, hai, g9, ?_, H2, H3, rfl, rfl, rfl⟩)), (k4.1.up rfl).up rfl, k4.2.1.rb ((mKeepB.rf.up rfl).up rfl) rfl⟩
          unfold p2M
          rw [h105, h114]
          rfl
set_option maxRecDepth 20000 in
theorem lq_seeks73 {V : VW} (hI : MI M) (H0 : bk V [] = false) (H1 : ∀ x, x < 228 → p1M M V x = false) : ∀ i, i ≤ 228 → (∀ x y, x < i → x < y → y < 228 → p2M M V x y = false) → ∀ M1, SKI M V M1 → Go [] (d + 6) (some .int) tabX9_seeks 73 [(0, .ref 41), (1, .int (Int32.ofNat i))] [] (hp (zz E T) M1) 0 0 (QI (zz E T) (SKQ M V)) := by
  refine loop_up 228 ?_
  intro i hi ih H2 M1 k1
  have K2 : i < 228 → (∀ y, i < y → y < 228 → p2M M V i y = false) → ∀ M1, SKI M V M1 → Go [] (d + 6) (some .int) tabX9_seeks 139 [(0, .ref 41), (1, .int (Int32.ofNat i))] [] (hp (zz E T) M1) 0 0 (QI (zz E T) (SKQ M V)) := by
    intro g H3 M1 k1
    have H4 : ∀ x y, x < i + 1 → x < y → y < 228 → p2M M V x y = false := fun x y g1 g2 g3 => by
      by_cases e : x = i
      · subst e; exact H3 y g2 g3
      · exact H2 x y (by omega) g2 g3
    refine g_iinc (n := 142) rfl rfl rfl (jn_1 _) ?_
    refine g_goto rfl ?_
    exact ih g H4 M1 k1
  refine g_iload_n (n := 74) rfl rfl rfl ?_
  refine g_const (n := 77) rfl rfl (s_sipush (v := 228) (by decide)) ?_
  refine g_ige (n := 80) rfl rfl (fun h77 => ?_) (fun h77 => ?_)
  · skip
    have g9 := (jn_le (b := i) (a := 228) (by omega) (by omega)).mp h77
    refine g_const (n := 147) rfl rfl (s_bipush (v := 9) (by decide)) ?_
    refine g_retI rfl ?_
    exact ⟨Or.inr (Or.inr (Or.inr ⟨H0, H1, fun x y g1 g2 => H2 x y (by omega) g1 g2, rfl, k1.2.2.1, k1.2.2.2⟩)), k1.1, k1.2.1⟩
  · skip
    have g9 := (jn_lt (b := 228) (a := i) (by omega) (by omega)).mp h77
    refine g_iload_n (n := 81) rfl rfl rfl ?_
    refine g_const (n := 82) rfl rfl (s_iconst (v := 1) (by decide)) ?_
    refine g_iadd (n := 83) rfl rfl ?_
    rw [show Int32.ofNat i + 1 = Int32.ofNat (i + 1) from jn_add i 1]
    refine g_istore_n (n := 84) rfl rfl ?_
    exact lq_seeks84 g9 hI H0 H1 H2 (K2 g9) (i + 1) (by omega) (by omega) (fun y g1 g2 => absurd g1 (by omega)) M1 k1
set_option maxRecDepth 20000 in
theorem lq_seeks32 {V : VW} (hI : MI M) (H0 : bk V [] = false) : ∀ i, i ≤ 228 → (∀ x, x < i → p1M M V x = false) → ∀ M1, SKI M V M1 → Go [] (d + 6) (some .int) tabX9_seeks 32 [(0, .ref 41), (1, .int (Int32.ofNat i))] [] (hp (zz E T) M1) 0 0 (QI (zz E T) (SKQ M V)) := by
  refine loop_up 228 ?_
  intro i hi ih H1 M1 k1
  have nx : p1M M V i = false → ∀ y, y < i + 1 → p1M M V y = false := fun h y g2 => by
    by_cases e : y = i
    · rw [e]; exact h
    · exact H1 y (by omega)
  refine g_iload_n (n := 33) rfl rfl rfl ?_
  refine g_const (n := 36) rfl rfl (s_sipush (v := 228) (by decide)) ?_
  refine g_ige (n := 39) rfl rfl (fun h36 => ?_) (fun h36 => ?_)
  · skip
    have g9 := (jn_le (b := i) (a := 228) (by omega) (by omega)).mp h36
    refine g_const (n := 72) rfl rfl (s_iconst (v := 0) (by decide)) ?_
    refine g_istore_n (n := 73) rfl rfl ?_
    exact lq_seeks73 hI H0 (fun x hx => H1 x (by omega)) 0 (by omega) (fun x y g1 => absurd g1 (by omega)) M1 k1
  · skip
    have g9 := (jn_lt (b := 228) (a := i) (by omega) (by omega)).mp h36
    refine g_aload_n (n := 40) rfl rfl rfl ?_
    refine g_iload_n (n := 41) rfl rfl rfl ?_
    refine g_cP2 (n := 44) rfl rfl rfl rfl mt_X9_isWithin rfl rfl (r_k z_41) (sp_isWithin) ?_
    refine g_bz (n := 47) rfl rfl (fun h44 => ?_) (fun h44 => ?_)
    · skip
      rw [mWith_k k1.1.toB] at h44
      refine g_iinc (n := 68) rfl rfl rfl (jn_1 _) ?_
      refine g_goto rfl ?_
      refine ih g9 (nx ?_) M1 k1
      unfold p1M
      rw [h44, Bool.false_and]
    · skip
      rw [mWith_k k1.1.toB] at h44
      refine g_aload_n (n := 48) rfl rfl rfl ?_
      refine g_iload_n (n := 49) rfl rfl rfl ?_
      refine g_const (n := 50) rfl rfl (s_iconst (v := (-1)) (by decide)) ?_
      refine g_cI3 (n := 53) rfl rfl rfl rfl mt_X9_breaks rfl rfl (r_k z_41) (sq_breaks1 (hI.keepB k1.1.toB) k1.2.1 (by omega)) ?_
      rintro x50 M50 ⟨rfl, k2, k3⟩
      have k4 := k1.nx k2 k3
      refine g_bz (n := 56) rfl rfl (fun h53 => ?_) (fun h53 => ?_)
      · skip
        refine g_iinc (n := 68) rfl rfl rfl (jn_1 _) ?_
        refine g_goto rfl ?_
        refine ih g9 (nx ?_) _ k4
        unfold p1M
        rw [h53, Bool.and_false]
      · skip
        refine g_aload_n (n := 57) rfl rfl rfl ?_
        refine g_getR (n := 60) rfl rfl z_41 rfl ?_
        refine g_const (n := 61) rfl rfl (s_iconst (v := 0) (by decide)) ?_
        refine g_iload_n (n := 62) rfl rfl rfl ?_
        refine g_iast (n := 63) rfl rfl z_53 rfl (j := 0) rfl (by omega) ?_
        refine g_const (n := 64) rfl rfl (s_iconst (v := 1) (by decide)) ?_
        refine g_retI rfl ?_
        refine ⟨Or.inr (Or.inl ⟨H0, i, g9, ?_, H1, rfl, rfl, k4.2.2.2⟩), k4.1.up rfl, k4.2.1.rb (mKeepB.rf.up rfl) rfl⟩
        unfold p1M
        rw [h44, h53]
        rfl
set_option maxRecDepth 20000 in
theorem sq_seeks {V : VW} (hI : MI M) (hV : MV (mup M 41 25 0) V) : EvI (d + 7) miX9_seeks [.ref 41] (zz E T) M (SKQ M V) := by
  refine ev_of mt_X9_seeks rfl ?_
  have k0 : mKeepC M (mup (mup (mup M 41 25 0) 53 0 (-1)) 53 1 (-1)) := ((mKeepC.rf.up rfl).up rfl).up rfl
  have s0 : SKI M V (mup (mup (mup M 41 25 0) 53 0 (-1)) 53 1 (-1)) := ⟨k0, hV.rb ((mKeepB.rf.up rfl).up rfl) rfl, rfl, rfl⟩
  refine g_aload_n (n := 1) rfl rfl rfl ?_
  refine g_const (n := 2) rfl rfl (s_iconst (v := 0) (by decide)) ?_
  refine g_putI (n := 5) rfl rfl z_41 rfl rfl ?_
  refine g_aload_n (n := 6) rfl rfl rfl ?_
  refine g_getR (n := 9) rfl rfl z_41 rfl ?_
  refine g_const (n := 10) rfl rfl (s_iconst (v := 0) (by decide)) ?_
  refine g_const (n := 11) rfl rfl (s_iconst (v := (-1)) (by decide)) ?_
  refine g_iast (n := 12) rfl rfl z_53 rfl (j := 0) rfl (by omega) ?_
  refine g_aload_n (n := 13) rfl rfl rfl ?_
  refine g_getR (n := 16) rfl rfl z_41 rfl ?_
  refine g_const (n := 17) rfl rfl (s_iconst (v := 1) (by decide)) ?_
  refine g_const (n := 18) rfl rfl (s_iconst (v := (-1)) (by decide)) ?_
  refine g_iast (n := 19) rfl rfl z_53 rfl (j := 1) rfl (by omega) ?_
  refine g_aload_n (n := 20) rfl rfl rfl ?_
  refine g_const (n := 21) rfl rfl (s_iconst (v := (-1)) (by decide)) ?_
  refine g_const (n := 22) rfl rfl (s_iconst (v := (-1)) (by decide)) ?_
  refine g_cI3 (n := 25) rfl rfl rfl rfl mt_X9_breaks rfl rfl (r_k z_41) (sq_breaks0 (hI.keepB k0.toB) s0.2.1) ?_
  rintro x22 M22 ⟨rfl, k2, k3⟩
  have k4 := s0.nx k2 k3
  refine g_bz (n := 28) rfl rfl (fun h25 => ?_) (fun h25 => ?_)
  · skip
    refine g_const (n := 31) rfl rfl (s_iconst (v := 0) (by decide)) ?_
    refine g_istore_n (n := 32) rfl rfl ?_
    exact lq_seeks32 hI h25 0 (by omega) (fun x hx => absurd hx (by omega)) _ k4
  · skip
    refine g_const (n := 29) rfl rfl (s_iconst (v := 0) (by decide)) ?_
    refine g_retI rfl ?_
    exact ⟨Or.inl ⟨h25, rfl, k4.2.2.1, k4.2.2.2⟩, k4.1, k4.2.1⟩
set_option maxRecDepth 20000 in
theorem sq_seek {V : VW} (hI : MI M) (hV : MV (mup M 41 25 0) V) : EvI (d + 8) miX9_seek [.ref 41] (zz E T) M (fun x M' => (MI M' ∧ Fr mSk M M') ∧ LookP (bk V []) (p1M M V) (p2M M V) x (M' 59 0) (M' 59 1) ∧ M' 41 21 = x) := by
  refine ev_of mt_X9_seek rfl ?_
  refine g_aload_n (n := 1) rfl rfl rfl ?_
  refine g_aload_n (n := 2) rfl rfl rfl ?_
  refine g_cI1 (n := 5) rfl rfl rfl rfl mt_X9_seeks rfl rfl (r_k z_41) (sq_seeks hI hV) ?_
  rintro x2 M2 ⟨hx, k2, v2⟩
  have hx9 : jU 9 x2 := by
    rcases hx.sz with rfl | ⟨k, hk, rfl⟩
    · exact ⟨9, by omega, rfl⟩
    · exact ⟨k, by omega, rfl⟩
  refine g_putI (n := 8) rfl rfl z_41 rfl rfl ?_
  refine g_aload_n (n := 9) rfl rfl rfl ?_
  refine g_getR (n := 12) rfl rfl z_41 rfl ?_
  refine g_const (n := 13) rfl rfl (s_iconst (v := 0) (by decide)) ?_
  refine g_aload_n (n := 14) rfl rfl rfl ?_
  refine g_getR (n := 17) rfl rfl z_41 rfl ?_
  refine g_const (n := 18) rfl rfl (s_iconst (v := 0) (by decide)) ?_
  refine g_iald (n := 19) rfl rfl z_53 rfl (j := 0) rfl (by omega) ?_
  refine g_iast (n := 20) rfl rfl z_59 rfl (j := 0) rfl (by omega) ?_
  refine g_aload_n (n := 21) rfl rfl rfl ?_
  refine g_getR (n := 24) rfl rfl z_41 rfl ?_
  refine g_const (n := 25) rfl rfl (s_iconst (v := 1) (by decide)) ?_
  refine g_aload_n (n := 26) rfl rfl rfl ?_
  refine g_getR (n := 29) rfl rfl z_41 rfl ?_
  refine g_const (n := 30) rfl rfl (s_iconst (v := 1) (by decide)) ?_
  refine g_iald (n := 31) rfl rfl z_53 rfl (j := 1) rfl (by omega) ?_
  refine g_iast (n := 32) rfl rfl z_59 rfl (j := 1) rfl (by omega) ?_
  refine g_aload_n (n := 33) rfl rfl rfl ?_
  refine g_getI (n := 36) rfl rfl z_41 rfl ?_
  refine g_retI rfl ?_
  refine ⟨⟨?_, ?_⟩, hx, rfl⟩
  · exact (MI.seek (hI.keepB k2.toB) hx9).keepB ((mKeepB.rf.up rfl).up rfl)
  · exact (((Fr.of k2.toB mSk_of).up rfl).up rfl).up rfl
set_option maxRecDepth 20000 in
/-- what found tells: the i-th of the last break, or none -/
theorem sq_found {x : Int32} (hI : MI M) : EvI (d + 2) miX9_found [.ref 41, .int x] (zz E T) M (fun y M' => M' = M ∧ ((∃ k s, k < s ∧ s ≤ 2 ∧ M 41 21 = Int32.ofNat s ∧ x = Int32.ofNat k ∧ y = M 59 k) ∨ ((∀ k s, k < s → s ≤ 2 → M 41 21 = Int32.ofNat s → x = Int32.ofNat k → False) ∧ y = -1))) := by
  obtain ⟨b, hb, eb⟩ := hI.2.2.2.2.2.2.2.2
  refine ev_of mt_X9_found rfl ?_
  refine g_aload_n (n := 1) rfl rfl rfl ?_
  refine g_getI (n := 4) rfl rfl z_41 rfl ?_
  refine g_const (n := 5) rfl rfl (s_iconst (v := 2) (by decide)) ?_
  refine g_igt (n := 8) rfl rfl (fun h5 => ?_) (fun h5 => ?_)
  · skip
    rw [eb] at h5
    have h5 := (jn_lt (a := 2) (by omega) (by omega)).mp h5
    refine g_const (n := 32) rfl rfl (s_iconst (v := (-1)) (by decide)) ?_
    refine g_retI rfl ?_
    refine ⟨rfl, Or.inr ⟨fun k s h1 h2 h3 _ => ?_, rfl⟩⟩
    have := jn_inj (by omega) (by omega) (eb.symm.trans h3)
    omega
  · skip
    rw [eb] at h5
    have h5 := (jn_le (b := 2) (by omega) (by omega)).mp h5
    refine g_iload_n (n := 9) rfl rfl rfl ?_
    refine g_const (n := 10) rfl rfl (s_iconst (v := 0) (by decide)) ?_
    refine g_aload_n (n := 11) rfl rfl rfl ?_
    refine g_getI (n := 14) rfl rfl z_41 rfl ?_
    refine g_const (n := 15) rfl rfl (s_iconst (v := 1) (by decide)) ?_
    refine g_isub (n := 16) rfl rfl ?_
    refine g_cP3 (n := 19) rfl rfl rfl rfl mt_X9_in rfl rfl rfl (sp_in) ?_
    refine g_bz (n := 22) rfl rfl (fun h19 => ?_) (fun h19 => ?_)
    · skip
      rw [eb] at h19
      refine g_const (n := 32) rfl rfl (s_iconst (v := (-1)) (by decide)) ?_
      refine g_retI rfl ?_
      refine ⟨rfl, Or.inr ⟨fun k s h1 h2 h3 h4 => ?_, rfl⟩⟩
      have es := jn_inj (by omega) (by omega) (eb.symm.trans h3)
      subst es h4
      have t1 : decide ((0 : Int32) ≤ Int32.ofNat k) = true := dT ((jn_le (a := 0) (by omega) (by omega)).mpr (by omega))
      have t2 : decide (Int32.ofNat k ≤ Int32.ofNat b - 1) = true := by
        rw [show Int32.ofNat b - 1 = Int32.ofNat (b - 1) from jn_sub (b := 1) (by omega)]
        exact dT ((jn_le (by omega) (by omega)).mpr (by omega))
      unfold mIn at h19
      rw [t1, t2] at h19
      cases h19
    · skip
      rw [eb] at h19
      simp only [mIn, Bool.and_eq_true, decide_eq_true_eq] at h19
      obtain ⟨k, hk, rfl⟩ := jn_of h19.1
      have hk2 : k < b := by
        have h1 := Int32.le_iff_toInt_le.mp h19.2
        rw [jn_toInt hk, Int32.toInt_sub, jn_toInt (show b < 2147483648 by omega), show (1 : Int32).toInt = 1 from rfl, Int.bmod_eq_of_le (by omega) (by omega)] at h1
        omega
      refine g_aload_n (n := 23) rfl rfl rfl ?_
      refine g_getR (n := 26) rfl rfl z_41 rfl ?_
      refine g_iload_n (n := 27) rfl rfl rfl ?_
      refine g_iald (n := 28) rfl rfl z_59 rfl rfl (by omega) ?_
      refine g_goto rfl ?_
      refine g_retI rfl ?_
      exact ⟨rfl, Or.inl ⟨k, b, hk2, h5, eb, rfl, rfl⟩⟩
set_option maxRecDepth 20000 in
theorem mBlow_n {e : Nat} {x : Int32} (he : M 41 0 = Int32.ofNat e) (he6 : e ≤ 6) (h : mBlow M x = true) : ∃ n, n < 228 ∧ x = Int32.ofNat n := by
  unfold mBlow at h
  simp only [Bool.and_eq_true, decide_eq_true_eq] at h
  obtain ⟨h0, h1⟩ := h
  obtain ⟨n, hn, rfl⟩ := jn_of h0
  refine ⟨n, ?_, rfl⟩
  by_cases hl : n < 200
  · omega
  · have hl2 : ¬ Int32.ofNat n < 200 := fun g => hl ((jn_lt (b := 200) hn (by omega)).mp g)
    rw [decide_eq_false hl2, cond_false, decide_eq_true_eq, mTick_hi (by omega) hn, he] at h1
    have := (jn_le (by omega) (by omega)).mp h1
    omega
set_option maxRecDepth 20000 in
theorem lq_weak {n : Nat} {V : VW} (hn : n < 228) (hI : MI M) : ∀ i, i ≤ 228 → ∀ c M1, c = Int32.ofNat (wkS (p2M M V) n i) → mKeepC M M1 → MV M1 V → Go [] (d + 7) (some .int) tabX9_weak 48 [(0, .ref 41), (1, .int (Int32.ofNat n)), (2, .int 2), (3, .int c), (4, .int (Int32.ofNat i))] [] (hp (zz E T) M1) 0 0 (QI (zz E T) (fun y M' => mKeepC M M' ∧ y = Int32.ofNat (wkS (p2M M V) n 228))) := by
  refine loop_up 228 ?_
  intro i hi ih c M1 hc k1 v1
  have no : (!(decide (i = n)) && p2M M V n i) = false → c + 0 = Int32.ofNat (wkS (p2M M V) n (i + 1)) := fun h => by
    show _ = Int32.ofNat (wkS (p2M M V) n i + (bif !(decide (i = n)) && p2M M V n i then 1 else 0))
    rw [h, hc]
    exact Int32.add_zero _
  refine g_iload (n := 50) rfl rfl rfl ?_
  refine g_const (n := 53) rfl rfl (s_sipush (v := 228) (by decide)) ?_
  refine g_ige (n := 56) rfl rfl (fun h53 => ?_) (fun h53 => ?_)
  · skip
    have g9 := (jn_le (b := i) (a := 228) (by omega) (by omega)).mp h53
    refine g_iload_n (n := 102) rfl rfl rfl ?_
    refine g_retI rfl ?_
    refine ⟨k1, ?_⟩
    rw [hc, show i = 228 by omega]
  · skip
    have g9 := (jn_lt (b := 228) (a := i) (by omega) (by omega)).mp h53
    refine g_iload_n (n := 57) rfl rfl rfl ?_
    refine g_const (n := 58) rfl rfl (s_iconst (v := 2) (by decide)) ?_
    refine g_ine (n := 61) rfl rfl (fun h58 => ?_) (fun h58 => ?_)
    · skip
      exact absurd rfl h58
    · skip
      refine g_iload_n (n := 62) rfl rfl rfl ?_
      refine g_iload (n := 64) rfl rfl rfl ?_
      refine g_iload_n (n := 65) rfl rfl rfl ?_
      refine g_ieq (n := 68) rfl rfl (fun h65 => ?_) (fun h65 => ?_)
      · skip
        refine g_const (n := 93) rfl rfl (s_iconst (v := 0) (by decide)) ?_
        refine g_iadd (n := 94) rfl rfl ?_
        refine g_istore_n (n := 95) rfl rfl ?_
        refine g_iinc (n := 98) rfl rfl rfl (jn_1 _) ?_
        refine g_goto rfl ?_
        refine ih g9 _ M1 (no ?_) k1 v1
        rw [decide_eq_true (jn_inj (by omega) (by omega) h65)]
        rfl
      · skip
        refine g_aload_n (n := 69) rfl rfl rfl ?_
        refine g_iload_n (n := 70) rfl rfl rfl ?_
        refine g_iload (n := 72) rfl rfl rfl ?_
        refine g_cP3 (n := 75) rfl rfl rfl rfl mt_X9_areWithin rfl rfl (r_k z_41) (sp_areWithin) ?_
        refine g_bz (n := 78) rfl rfl (fun h75 => ?_) (fun h75 => ?_)
        · skip
          rw [mWith2_k k1.toB] at h75
          refine g_const (n := 93) rfl rfl (s_iconst (v := 0) (by decide)) ?_
          refine g_iadd (n := 94) rfl rfl ?_
          refine g_istore_n (n := 95) rfl rfl ?_
          refine g_iinc (n := 98) rfl rfl rfl (jn_1 _) ?_
          refine g_goto rfl ?_
          refine ih g9 _ M1 (no ?_) k1 v1
          unfold p2M
          rw [h75, Bool.false_and, Bool.and_false]
        · skip
          rw [mWith2_k k1.toB] at h75
          refine g_aload_n (n := 79) rfl rfl rfl ?_
          refine g_iload_n (n := 80) rfl rfl rfl ?_
          refine g_iload (n := 82) rfl rfl rfl ?_
          refine g_cI3 (n := 85) rfl rfl rfl rfl mt_X9_breaks rfl rfl (r_k z_41) (sq_breaks2 (hI.keepB k1.toB) v1 (by omega) (by omega)) ?_
          rintro x82 M82 ⟨rfl, k2, k3⟩
          have k4 := k1.tr k2.toC
          have v4 := v1.rb k2.toB k3
          refine g_bz (n := 88) rfl rfl (fun h85 => ?_) (fun h85 => ?_)
          · skip
            refine g_const (n := 93) rfl rfl (s_iconst (v := 0) (by decide)) ?_
            refine g_iadd (n := 94) rfl rfl ?_
            refine g_istore_n (n := 95) rfl rfl ?_
            refine g_iinc (n := 98) rfl rfl rfl (jn_1 _) ?_
            refine g_goto rfl ?_
            refine ih g9 _ _ (no ?_) k4 v4
            unfold p2M
            rw [h85, Bool.and_false, Bool.and_false]
          · skip
            refine g_const (n := 89) rfl rfl (s_iconst (v := 1) (by decide)) ?_
            refine g_goto rfl ?_
            refine g_iadd (n := 94) rfl rfl ?_
            refine g_istore_n (n := 95) rfl rfl ?_
            refine g_iinc (n := 98) rfl rfl rfl (jn_1 _) ?_
            refine g_goto rfl ?_
            refine ih g9 _ _ ?_ k4 v4
            have hp2 : p2M M V n i = true := by unfold p2M; rw [h75, h85]; rfl
            show c + 1 = Int32.ofNat (wkS (p2M M V) n i + (bif !(decide (i = n)) && p2M M V n i then 1 else 0))
            rw [hp2, decide_eq_false (fun e => h65 (by rw [e])), hc]
            exact jn_add _ 1
set_option maxRecDepth 20000 in
theorem lq_weak0 {m : Int32} {n : Nat} (hm : ¬ m = 2) : Go [] (d + 7) (some .int) tabX9_weak 48 [(0, .ref 41), (1, .int (Int32.ofNat n)), (2, .int m), (3, .int 0), (4, .int 0)] [] (hp (zz E T) M) 0 0 (QI (zz E T) (fun y M' => M' = M ∧ y = 0)) := by
  refine g_iload (n := 50) rfl rfl rfl ?_
  refine g_const (n := 53) rfl rfl (s_sipush (v := 228) (by decide)) ?_
  refine g_ige (n := 56) rfl rfl (fun h53 => ?_) (fun h53 => ?_)
  · skip
    exact absurd h53 (by decide)
  · skip
    refine g_iload_n (n := 57) rfl rfl rfl ?_
    refine g_const (n := 58) rfl rfl (s_iconst (v := 2) (by decide)) ?_
    refine g_ine (n := 61) rfl rfl (fun h58 => ?_) (fun h58 => ?_)
    · skip
      refine g_iload_n (n := 102) rfl rfl rfl ?_
      refine g_retI rfl ?_
      exact ⟨rfl, rfl⟩
    · skip
      exact absurd h58 hm
set_option maxRecDepth 20000 in
theorem sq_weak {x : Int32} {V : VW} (hI : MI M) (hV : MV (mup M 41 25 0) V) : EvI (d + 8) miX9_weak [.ref 41, .int x] (zz E T) M (fun y M' => mKeepC M M' ∧ ((mBlow M x = false ∧ y = -1) ∨ (mBlow M x = true ∧ ∃ n s l o, n < 228 ∧ x = Int32.ofNat n ∧ LookP (bk V []) (p1M M V) (p2M M V) s l o ∧ y = Int32.ofNat (wkN (p1M M V) (p2M M V) s n)))) := by
  refine ev_of mt_X9_weak rfl ?_
  refine g_aload_n (n := 1) rfl rfl rfl ?_
  refine g_iload_n (n := 2) rfl rfl rfl ?_
  refine g_cP2 (n := 5) rfl rfl rfl rfl mt_X9_isBlow rfl rfl (r_k z_41) (sp_isBlow) ?_
  refine g_bnz (n := 8) rfl rfl (fun h5 => ?_) (fun h5 => ?_)
  · skip
    obtain ⟨e, -, he6, he⟩ := hI.1
    obtain ⟨n, hn, rfl⟩ := mBlow_n he he6 h5
    refine g_aload_n (n := 11) rfl rfl rfl ?_
    refine g_cI1 (n := 14) rfl rfl rfl rfl mt_X9_seeks rfl rfl (r_k z_41) (sq_seeks hI hV) ?_
    rintro x11 M11 ⟨hx, k1, v1⟩
    refine g_istore_n (n := 15) rfl rfl ?_
    refine g_iload_n (n := 16) rfl rfl rfl ?_
    refine g_const (n := 17) rfl rfl (s_iconst (v := 1) (by decide)) ?_
    refine g_ine (n := 20) rfl rfl (fun h17 => ?_) (fun h17 => ?_)
    · skip
      refine g_const (n := 44) rfl rfl (s_iconst (v := 0) (by decide)) ?_
      refine g_istore_n (n := 45) rfl rfl ?_
      refine g_const (n := 46) rfl rfl (s_iconst (v := 0) (by decide)) ?_
      refine g_istore (n := 48) rfl rfl ?_
      by_cases e2 : x11 = 2
      · subst e2
        refine go_mono (lq_weak hn hI 0 (by omega) _ M11 rfl k1 v1) ?_
        rintro v h' c s ⟨rfl, rfl, y, M', rfl, rfl, k5, hy⟩
        refine ⟨rfl, rfl, y, M', rfl, rfl, k5, Or.inr ⟨h5, n, 2, _, _, hn, rfl, hx, ?_⟩⟩
        rw [hy]
        unfold wkN
        rw [if_neg (by decide), if_pos rfl]
      · refine go_mono (lq_weak0 e2) ?_
        rintro v h' c s ⟨rfl, rfl, y, M', rfl, rfl, rfl, hy⟩
        refine ⟨rfl, rfl, y, M', rfl, rfl, k1, Or.inr ⟨h5, n, x11, _, _, hn, rfl, hx, ?_⟩⟩
        rw [hy]
        unfold wkN
        rw [if_neg h17, if_neg e2]
        rfl
    · skip
      refine g_aload_n (n := 21) rfl rfl rfl ?_
      refine g_iload_n (n := 22) rfl rfl rfl ?_
      refine g_cP2 (n := 25) rfl rfl rfl rfl mt_X9_isWithin rfl rfl (r_k z_41) (sp_isWithin) ?_
      refine g_bz (n := 28) rfl rfl (fun h25 => ?_) (fun h25 => ?_)
      · skip
        rw [mWith_k k1.toB] at h25
        refine g_const (n := 42) rfl rfl (s_iconst (v := 0) (by decide)) ?_
        refine g_retI rfl ?_
        first
          | (refine ⟨k1.tr k2.toC, Or.inr ⟨h5, n, x11, _, _, hn, rfl, hx, ?_⟩⟩; unfold wkN p1M; rw [if_pos h17, h25, h34]; rfl)
          | (refine ⟨k1, Or.inr ⟨h5, n, x11, _, _, hn, rfl, hx, ?_⟩⟩; unfold wkN p1M; rw [if_pos h17, h25]; rfl)
      · skip
        rw [mWith_k k1.toB] at h25
        refine g_aload_n (n := 29) rfl rfl rfl ?_
        refine g_iload_n (n := 30) rfl rfl rfl ?_
        refine g_const (n := 31) rfl rfl (s_iconst (v := (-1)) (by decide)) ?_
        refine g_cI3 (n := 34) rfl rfl rfl rfl mt_X9_breaks rfl rfl (r_k z_41) (sq_breaks1 (hI.keepB k1.toB) v1 (by omega)) ?_
        rintro x31 M31 ⟨rfl, k2, k3⟩
        refine g_bz (n := 37) rfl rfl (fun h34 => ?_) (fun h34 => ?_)
        · skip
          refine g_const (n := 42) rfl rfl (s_iconst (v := 0) (by decide)) ?_
          refine g_retI rfl ?_
          first
            | (refine ⟨k1.tr k2.toC, Or.inr ⟨h5, n, x11, _, _, hn, rfl, hx, ?_⟩⟩; unfold wkN p1M; rw [if_pos h17, h25, h34]; rfl)
            | (refine ⟨k1, Or.inr ⟨h5, n, x11, _, _, hn, rfl, hx, ?_⟩⟩; unfold wkN p1M; rw [if_pos h17, h25]; rfl)
        · skip
          refine g_const (n := 38) rfl rfl (s_iconst (v := 1) (by decide)) ?_
          refine g_goto rfl ?_
          refine g_retI rfl ?_
          first
            | (refine ⟨k1.tr k2.toC, Or.inr ⟨h5, n, x11, _, _, hn, rfl, hx, ?_⟩⟩; unfold wkN p1M; rw [if_pos h17, h25, h34]; rfl)
            | (refine ⟨k1, Or.inr ⟨h5, n, x11, _, _, hn, rfl, hx, ?_⟩⟩; unfold wkN p1M; rw [if_pos h17, h25]; rfl)
  · skip
    refine g_const (n := 9) rfl rfl (s_iconst (v := (-1)) (by decide)) ?_
    refine g_retI rfl ?_
    exact ⟨mKeepC.rf, Or.inl ⟨h5, rfl⟩⟩
-- mend
set_option maxRecDepth 20000 in
theorem lq_isMended {V : VW} (hI : MI M) : ∀ i, i ≤ 228 → ∀ t M1, t = hld V (fun a => mWith M (Int32.ofNat a)) i → mKeep M M1 → MV M1 V → M1 41 25 = M 41 25 → Go [] (d + 6) (some .boolean) tabX9_isMended 17 [(0, .ref 41), (1, .int (bI t)), (2, .int (Int32.ofNat i))] [] (hp (zz E T) M1) 0 0 (QI (zz E T) (fun x M' => x = bI (hld V (fun a => mWith M (Int32.ofNat a)) 228) ∧ mKeep M M' ∧ M' 41 25 = M 41 25)) := by
  refine loop_up 228 ?_
  intro i hi ih t M1 ht k1 v1 e25
  have nx : ∀ b, (!(mWith M (Int32.ofNat i) && bk V [i])) = b → t = true → b = hld V (fun a => mWith M (Int32.ofNat a)) (i + 1) := fun b hb h => by
    show b = (hld V (fun a => mWith M (Int32.ofNat a)) i && !(mWith M (Int32.ofNat i) && bk V [i]))
    rw [← ht, h, hb, Bool.true_and]
  refine g_iload_n (n := 18) rfl rfl rfl ?_
  refine g_const (n := 21) rfl rfl (s_sipush (v := 228) (by decide)) ?_
  refine g_ige (n := 24) rfl rfl (fun h21 => ?_) (fun h21 => ?_)
  · skip
    have g9 := (jn_le (b := i) (a := 228) (by omega) (by omega)).mp h21
    refine g_iload_n (n := 58) rfl rfl rfl ?_
    refine g_retZ rfl bI01 ?_
    refine ⟨?_, k1, e25⟩
    rw [ht, show i = 228 by omega]
  · skip
    have g9 := (jn_lt (b := 228) (a := i) (by omega) (by omega)).mp h21
    refine g_iload_n (n := 25) rfl rfl rfl ?_
    refine g_bz (n := 28) rfl rfl (fun h25 => ?_) (fun h25 => ?_)
    · skip
      refine g_iload_n (n := 58) rfl rfl rfl ?_
      refine g_retZ rfl bI01 ?_
      refine ⟨?_, k1, e25⟩
      rw [h25]
      rw [hld_no (show i ≤ 228 by omega) (ht.symm.trans h25)]
    · skip
      refine g_aload_n (n := 29) rfl rfl rfl ?_
      refine g_iload_n (n := 30) rfl rfl rfl ?_
      refine g_cP2 (n := 33) rfl rfl rfl rfl mt_X9_isWithin rfl rfl (r_k z_41) (sp_isWithin) ?_
      refine g_bz (n := 36) rfl rfl (fun h33 => ?_) (fun h33 => ?_)
      · skip
        rw [mWith_k k1.toB] at h33
        refine g_const (n := 46) rfl rfl (s_iconst (v := 1) (by decide)) ?_
        refine g_goto rfl ?_
        refine g_istore_n (n := 51) rfl rfl ?_
        refine g_iinc (n := 54) rfl rfl rfl (jn_1 _) ?_
        refine g_goto rfl ?_
        exact ih g9 true _ (nx _ (by rw [h33]; rfl) h25) k1 v1 e25
      · skip
        rw [mWith_k k1.toB] at h33
        refine g_aload_n (n := 37) rfl rfl rfl ?_
        refine g_iload_n (n := 38) rfl rfl rfl ?_
        refine g_const (n := 39) rfl rfl (s_iconst (v := (-1)) (by decide)) ?_
        refine g_cI3 (n := 42) rfl rfl rfl rfl mt_X9_breaks rfl rfl (r_k z_41) (sq_breaks1 (hI.keep k1) v1 (by omega)) ?_
        rintro x39 M39 ⟨rfl, k2, k3⟩
        refine g_bnz (n := 45) rfl rfl (fun h42 => ?_) (fun h42 => ?_)
        · skip
          refine g_const (n := 50) rfl rfl (s_iconst (v := 0) (by decide)) ?_
          refine g_istore_n (n := 51) rfl rfl ?_
          refine g_iinc (n := 54) rfl rfl rfl (jn_1 _) ?_
          refine g_goto rfl ?_
          exact ih g9 false _ (nx _ (by rw [h33, h42]; rfl) h25) (k1.tr k2) (v1.rb k2.toB k3) (k3.trans e25)
        · skip
          refine g_const (n := 46) rfl rfl (s_iconst (v := 1) (by decide)) ?_
          refine g_goto rfl ?_
          refine g_istore_n (n := 51) rfl rfl ?_
          refine g_iinc (n := 54) rfl rfl rfl (jn_1 _) ?_
          refine g_goto rfl ?_
          exact ih g9 true _ (nx _ (by rw [h33, h42]; rfl) h25) (k1.tr k2) (v1.rb k2.toB k3) (k3.trans e25)
set_option maxRecDepth 20000 in
theorem sq_isMended14 {t : Bool} {V : VW} {M1 : Mem} (hI : MI M) (ht : t = !(bk V [])) (k1 : mKeep M M1) (v1 : MV M1 V) (e25 : M1 41 25 = M 41 25) : Go [] (d + 6) (some .boolean) tabX9_isMended 14 [(0, .ref 41)] [.int (bI t)] (hp (zz E T) M1) 0 0 (QI (zz E T) (fun x M' => x = bI (hld V (fun a => mWith M (Int32.ofNat a)) 228) ∧ mKeep M M' ∧ M' 41 25 = M 41 25)) := by
  refine g_istore_n (n := 15) rfl rfl ?_
  refine g_const (n := 16) rfl rfl (s_iconst (v := 0) (by decide)) ?_
  refine g_istore_n (n := 17) rfl rfl ?_
  exact lq_isMended hI 0 (by omega) t M1 ht k1 v1 e25
set_option maxRecDepth 20000 in
theorem sq_isMended {V : VW} (hI : MI M) (hV : MV M V) : EvI (d + 7) miX9_isMended [.ref 41] (zz E T) M (fun x M' => x = bI (hld V (fun a => mWith M (Int32.ofNat a)) 228) ∧ mKeep M M' ∧ M' 41 25 = M 41 25) := by
  refine ev_of mt_X9_isMended rfl ?_
  refine g_aload_n (n := 1) rfl rfl rfl ?_
  refine g_const (n := 2) rfl rfl (s_iconst (v := (-1)) (by decide)) ?_
  refine g_const (n := 3) rfl rfl (s_iconst (v := (-1)) (by decide)) ?_
  refine g_cI3 (n := 6) rfl rfl rfl rfl mt_X9_breaks rfl rfl (r_k z_41) (sq_breaks0 hI hV) ?_
  rintro x3 M3 ⟨rfl, k2, k3⟩
  refine g_bnz (n := 9) rfl rfl (fun h6 => ?_) (fun h6 => ?_)
  · skip
    refine g_const (n := 14) rfl rfl (s_iconst (v := 0) (by decide)) ?_
    exact sq_isMended14 (t := false) hI (by rw [h6]; rfl) k2 (hV.rb k2.toB k3) k3
  · skip
    refine g_const (n := 10) rfl rfl (s_iconst (v := 1) (by decide)) ?_
    refine g_goto rfl ?_
    exact sq_isMended14 (t := true) hI (by rw [h6]; rfl) k2 (hV.rb k2.toB k3) k3
/-- its list of spare rules -/
def SPM (M : Mem) (sl : List Nat) : Prop := ∀ j, j < sl.length → M 60 j = Int32.ofNat (sl.getD j 0)
def spM (M : Mem) (i : Nat) : Bool := !(decide (M 49 i = -1))
set_option maxRecDepth 20000 in
theorem smS_step {pr : Nat → Int32} {sl : List Nat} {s j : Nat} {x v : Int32} (hx : x = smS pr sl s j) (hv : v = bif bt1 s j then pr (sl.getD j 0) else 0) : x + v = smS pr sl s (j + 1) := by rw [hx, hv]; rfl
set_option maxRecDepth 20000 in
theorem inS_step {sl : List Nat} {s j : Nat} {x v : Int32} (hx : x = inS sl s j) (hv : v = bif bt1 s j then one8 (Int32.ofNat (sl.getD j 0)) else 0) : x ||| v = inS sl s (j + 1) := by rw [hx, hv]; rfl
set_option maxRecDepth 20000 in
theorem lq_mend67 {s : Nat} {sl : List Nat} {M1 : Mem} {b l : Int32} (hn : sl.length ≤ 5) (h13 : ∀ x, x ∈ sl → x < 13) (hs : SPM M1 sl) {Q : QT} (K : Go [] (d + 7) (some .int) tabX9_mend 140 [(0, .ref 41), (1, .int (Int32.ofNat sl.length)), (2, .int b), (3, .int l), (4, .int (Int32.ofNat s)), (5, .int (smS (M1 49) sl s sl.length)), (6, .int (inS sl s sl.length))] [] (hp (zz E T) M1) 0 0 Q) : ∀ i, i ≤ sl.length → ∀ sm pu, sm = smS (M1 49) sl s i → pu = inS sl s i → Go [] (d + 7) (some .int) tabX9_mend 67 [(0, .ref 41), (1, .int (Int32.ofNat sl.length)), (2, .int b), (3, .int l), (4, .int (Int32.ofNat s)), (5, .int sm), (6, .int pu), (7, .int (Int32.ofNat i))] [] (hp (zz E T) M1) 0 0 Q := by
  refine loop_up sl.length ?_
  intro i hi ih sm pu hsm hpu
  refine g_iload (n := 69) rfl rfl rfl ?_
  refine g_iload_n (n := 70) rfl rfl rfl ?_
  refine g_ige (n := 73) rfl rfl (fun h70 => ?_) (fun h70 => ?_)
  · skip
    have g9 := (jn_le (by omega) (by omega)).mp h70
    refine go_only 7 ?_
    obtain rfl : i = sl.length := by omega
    rw [hsm, hpu]
    exact K
  · skip
    have g9 := (jn_lt (by omega) (by omega)).mp h70
    have er := hs i g9
    have hr := h13 _ (getD_mem g9)
    refine g_iload (n := 75) rfl rfl rfl ?_
    refine g_iload (n := 77) rfl rfl rfl ?_
    refine g_iload (n := 79) rfl rfl rfl ?_
    refine g_ishr (n := 80) rfl rfl ?_
    refine g_const (n := 81) rfl rfl (s_iconst (v := 1) (by decide)) ?_
    refine g_iand (n := 82) rfl rfl ?_
    refine g_const (n := 83) rfl rfl (s_iconst (v := 1) (by decide)) ?_
    refine g_ine (n := 86) rfl rfl (fun h83 => ?_) (fun h83 => ?_)
    · skip
      have b83 : bt1 s i = false := dF h83
      refine g_const (n := 102) rfl rfl (s_iconst (v := 0) (by decide)) ?_
      refine g_iadd (n := 103) rfl rfl ?_
      refine g_istore (n := 105) rfl rfl ?_
      refine g_iload (n := 107) rfl rfl rfl ?_
      refine g_iload (n := 109) rfl rfl rfl ?_
      refine g_iload (n := 111) rfl rfl rfl ?_
      refine g_ishr (n := 112) rfl rfl ?_
      refine g_const (n := 113) rfl rfl (s_iconst (v := 1) (by decide)) ?_
      refine g_iand (n := 114) rfl rfl ?_
      refine g_const (n := 115) rfl rfl (s_iconst (v := 1) (by decide)) ?_
      refine g_ine (n := 118) rfl rfl (fun h115 => ?_) (fun h115 => ?_)
      · skip
        refine g_const (n := 131) rfl rfl (s_iconst (v := 0) (by decide)) ?_
        refine g_ior (n := 132) rfl rfl ?_
        refine g_istore (n := 134) rfl rfl ?_
        refine g_iinc (n := 137) rfl rfl rfl (jn_1 _) ?_
        refine g_goto rfl ?_
        first
          | exact ih g9 _ _ (smS_step hsm (by rw [b83]; rfl)) (inS_step hpu (by rw [b83]; rfl))
          | (refine ih g9 _ _ (smS_step hsm (by rw [b83]; rfl)) (inS_step hpu ?_); rw [b83, er]; rfl)
      · skip
        exact absurd h115 h83
    · skip
      have b83 : bt1 s i = true := dT h83
      refine g_aload_n (n := 87) rfl rfl rfl ?_
      refine g_getR (n := 90) rfl rfl z_41 rfl ?_
      refine g_aload_n (n := 91) rfl rfl rfl ?_
      refine g_getR (n := 94) rfl rfl z_41 rfl ?_
      refine g_iload (n := 96) rfl rfl rfl ?_
      refine g_iald (n := 97) rfl rfl z_60 rfl rfl (by omega) ?_
      refine g_iald (n := 98) rfl rfl z_49 rfl er (by omega) ?_
      refine g_goto rfl ?_
      refine g_iadd (n := 103) rfl rfl ?_
      refine g_istore (n := 105) rfl rfl ?_
      refine g_iload (n := 107) rfl rfl rfl ?_
      refine g_iload (n := 109) rfl rfl rfl ?_
      refine g_iload (n := 111) rfl rfl rfl ?_
      refine g_ishr (n := 112) rfl rfl ?_
      refine g_const (n := 113) rfl rfl (s_iconst (v := 1) (by decide)) ?_
      refine g_iand (n := 114) rfl rfl ?_
      refine g_const (n := 115) rfl rfl (s_iconst (v := 1) (by decide)) ?_
      refine g_ine (n := 118) rfl rfl (fun h115 => ?_) (fun h115 => ?_)
      · skip
        exact absurd h83 h115
      · skip
        refine g_const (n := 119) rfl rfl (s_iconst (v := 1) (by decide)) ?_
        refine g_aload_n (n := 120) rfl rfl rfl ?_
        refine g_getR (n := 123) rfl rfl z_41 rfl ?_
        refine g_iload (n := 125) rfl rfl rfl ?_
        refine g_iald (n := 126) rfl rfl z_60 rfl rfl (by omega) ?_
        refine g_ishl (n := 127) rfl rfl ?_
        refine g_goto rfl ?_
        refine g_ior (n := 132) rfl rfl ?_
        refine g_istore (n := 134) rfl rfl ?_
        refine g_iinc (n := 137) rfl rfl rfl (jn_1 _) ?_
        refine g_goto rfl ?_
        first
          | exact ih g9 _ _ (smS_step hsm (by rw [b83]; rfl)) (inS_step hpu (by rw [b83]; rfl))
          | (refine ih g9 _ _ (smS_step hsm (by rw [b83]; rfl)) (inS_step hpu ?_); rw [b83, er]; rfl)
set_option maxRecDepth 20000 in
theorem MV.put {V : VW} {c : Nat → Bool} {x : Int32} (h : MV (mup M 41 25 0) V) (hc : ∀ i, i < rN (vR V) → c i = (decide (M 49 i = -1) || gb x i)) (h0 : ∀ i, i < rN (vR V) → ∀ k f, rW (vR V) i k f = ((decide (M 42 i = -1) || decide (M 42 i = k)) && mFit M i f)) : MV (mup M 41 25 x) (vC V c) := by
  obtain ⟨⟨a1, a2, a3, a4⟩, v2, v3, v4, v5, v6, v7, v8, v9⟩ := h
  refine ⟨⟨a1, a2, a3, fun i hi => ?_⟩, v2, v3, v4, v5, v6, v7, v8, v9⟩
  have hi : i < rN (vR V) := hi
  obtain ⟨e1, e2, e3, e4, -⟩ := a4 i hi
  refine ⟨e1, e2, e3, e4, fun k f => ?_⟩
  show (c i && rW (vR V) i k f) = (mCnt (mup M 41 25 x) i k && mFit M i f)
  rw [hc i hi, h0 i hi k f]
  unfold mCnt
  have e25 : mup M 41 25 x 41 25 = x := rfl
  have e49 : mup M 41 25 x 49 i = M 49 i := rfl
  have e42 : mup M 41 25 x 42 i = M 42 i := rfl
  rw [e25, e49, e42, bit_1 (show i < 32 by omega), Bool.and_assoc]
/-- all that a set of spare rules is asked -/
def hdS (M : Mem) (V : VW) (sl : List Nat) (s : Nat) : Bool := hld (vC V (fun i => decide (M 49 i = -1) || gb (inS sl s sl.length) i)) (fun a => mWith M (Int32.ofNat a)) 228
set_option maxRecDepth 20000 in
theorem lq_mend50 {V : VW} {sl : List Nat} (hI : MI M) (hV : MV (mup M 41 25 0) V) (h0 : ∀ i, i < rN (vR V) → ∀ k f, rW (vR V) i k f = ((decide (M 42 i = -1) || decide (M 42 i = k)) && mFit M i f)) (hn : sl.length ≤ 5) (h13 : ∀ x, x ∈ sl → x < 13) : ∀ i, i ≤ 2 ^ sl.length → ∀ M1, mKeepC M M1 → SPM M1 sl → Go [] (d + 7) (some .int) tabX9_mend 50 [(0, .ref 41), (1, .int (Int32.ofNat sl.length)), (2, .int (fM (hdS M V sl) (fun s => smS (M 49) sl s sl.length) i).1), (3, .int (fM (hdS M V sl) (fun s => smS (M 49) sl s sl.length) i).2), (4, .int (Int32.ofNat i))] [] (hp (zz E T) M1) 0 0 (QI (zz E T) (fun y M' => mKeepC M M' ∧ y = (fM (hdS M V sl) (fun s => smS (M 49) sl s sl.length) (2 ^ sl.length)).1)) := by
  have h32 : 2 ^ sl.length ≤ 32 := Nat.pow_le_pow_right (by omega) hn
  refine loop_up (2 ^ sl.length) ?_
  intro i hi ih M1 k1 hs
  have e49 : M1 49 = M 49 := funext (fun j => k1 49 j rfl)
  have K2 : i < 2 ^ sl.length → Go [] (d + 7) (some .int) tabX9_mend 140 [(0, .ref 41), (1, .int (Int32.ofNat sl.length)), (2, .int (fM (hdS M V sl) (fun s => smS (M 49) sl s sl.length) i).1), (3, .int (fM (hdS M V sl) (fun s => smS (M 49) sl s sl.length) i).2), (4, .int (Int32.ofNat i)), (5, .int (smS (M1 49) sl i sl.length)), (6, .int (inS sl i sl.length))] [] (hp (zz E T) M1) 0 0 (QI (zz E T) (fun y M' => mKeepC M M' ∧ y = (fM (hdS M V sl) (fun s => smS (M 49) sl s sl.length) (2 ^ sl.length)).1)) := by
    intro g
    rw [e49]
    have k3 : mKeepC M (mup M1 41 25 (inS sl i sl.length)) := k1.up rfl
    have v3 : MV (mup M1 41 25 (inS sl i sl.length)) (vC V (fun j => decide (M 49 j = -1) || gb (inS sl i sl.length) j)) := by
      have v2 : MV (mup M 41 25 (inS sl i sl.length)) (vC V (fun j => decide (M 49 j = -1) || gb (inS sl i sl.length) j)) := hV.put (fun j hj => rfl) h0
      refine v2.rb (fun q j hq => ?_) rfl
      have hne : ¬ (q = 41 ∧ j = 25) := by rintro ⟨rfl, rfl⟩; exact absurd hq (by decide)
      rw [mup_if, if_neg hne, mup_if, if_neg hne]
      exact k1.toB q j hq
    have wth : (fun a => mWith (mup M1 41 25 (inS sl i sl.length)) (Int32.ofNat a)) = (fun a => mWith M (Int32.ofNat a)) := funext (fun a => mWith_k k3.toB)
    have nx : ∀ b, ((decide ((fM (hdS M V sl) (fun s => smS (M 49) sl s sl.length) i).1 = -1) || decide (smS (M 49) sl i sl.length < (fM (hdS M V sl) (fun s => smS (M 49) sl s sl.length) i).2)) && hdS M V sl i) = b → fM (hdS M V sl) (fun s => smS (M 49) sl s sl.length) (i + 1) = bif b then (Int32.ofNat i, smS (M 49) sl i sl.length) else fM (hdS M V sl) (fun s => smS (M 49) sl s sl.length) i := fun b hb => by rw [← hb]; rfl
    refine g_aload_n (n := 141) rfl rfl rfl ?_
    refine g_iload (n := 143) rfl rfl rfl ?_
    refine g_putI (n := 146) rfl rfl z_41 rfl rfl ?_
    refine g_iload_n (n := 147) rfl rfl rfl ?_
    refine g_const (n := 148) rfl rfl (s_iconst (v := (-1)) (by decide)) ?_
    refine g_ieq (n := 151) rfl rfl (fun h148 => ?_) (fun h148 => ?_)
    · skip
      refine g_aload_n (n := 158) rfl rfl rfl ?_
      refine g_cI1 (n := 161) rfl rfl rfl rfl mt_X9_isMended rfl rfl (r_k z_41) (sq_isMended (hI.keepB k3.toB) v3) ?_
      rw [wth]
      rintro x158 M158 ⟨rfl, k4, -⟩
      have k5 : mKeepC M M158 := k3.tr k4.toC
      have s5 : SPM M158 sl := fun j hj => (k4 60 j rfl).trans (hs j hj)
      refine g_bz (n := 164) rfl rfl (fun h161 => ?_) (fun h161 => ?_)
      · skip
        refine g_iinc (n := 173) rfl rfl rfl (jn_1 _) ?_
        refine g_goto rfl ?_
        refine go_only 5 ?_
        have e := nx false (by rw [show hdS M V sl i = false from h161, Bool.and_false])
        have := ih g _ k5 s5
        rw [e] at this
        exact this
      · skip
        refine g_iload (n := 166) rfl rfl rfl ?_
        refine g_istore_n (n := 167) rfl rfl ?_
        refine g_iload (n := 169) rfl rfl rfl ?_
        refine g_istore_n (n := 170) rfl rfl ?_
        refine g_iinc (n := 173) rfl rfl rfl (jn_1 _) ?_
        refine g_goto rfl ?_
        refine go_only 5 ?_
        have e := nx true (by rw [show hdS M V sl i = true from h161, dT h148]; rfl)
        have := ih g _ k5 s5
        rw [e] at this
        exact this
    · skip
      refine g_iload (n := 153) rfl rfl rfl ?_
      refine g_iload_n (n := 154) rfl rfl rfl ?_
      refine g_ige (n := 157) rfl rfl (fun h154 => ?_) (fun h154 => ?_)
      · skip
        refine g_iinc (n := 173) rfl rfl rfl (jn_1 _) ?_
        refine g_goto rfl ?_
        refine go_only 5 ?_
        have e := nx false (by rw [dF h148, dlt h154]; rfl)
        have := ih g _ k3 hs
        rw [e] at this
        exact this
      · skip
        refine g_aload_n (n := 158) rfl rfl rfl ?_
        refine g_cI1 (n := 161) rfl rfl rfl rfl mt_X9_isMended rfl rfl (r_k z_41) (sq_isMended (hI.keepB k3.toB) v3) ?_
        rw [wth]
        rintro x158 M158 ⟨rfl, k4, -⟩
        have k5 : mKeepC M M158 := k3.tr k4.toC
        have s5 : SPM M158 sl := fun j hj => (k4 60 j rfl).trans (hs j hj)
        refine g_bz (n := 164) rfl rfl (fun h161 => ?_) (fun h161 => ?_)
        · skip
          refine g_iinc (n := 173) rfl rfl rfl (jn_1 _) ?_
          refine g_goto rfl ?_
          refine go_only 5 ?_
          have e := nx false (by rw [show hdS M V sl i = false from h161, Bool.and_false])
          have := ih g _ k5 s5
          rw [e] at this
          exact this
        · skip
          refine g_iload (n := 166) rfl rfl rfl ?_
          refine g_istore_n (n := 167) rfl rfl ?_
          refine g_iload (n := 169) rfl rfl rfl ?_
          refine g_istore_n (n := 170) rfl rfl ?_
          refine g_iinc (n := 173) rfl rfl rfl (jn_1 _) ?_
          refine g_goto rfl ?_
          refine go_only 5 ?_
          have e := nx true (by rw [show hdS M V sl i = true from h161, dT h154, Bool.or_true]; rfl)
          have := ih g _ k5 s5
          rw [e] at this
          exact this
  refine g_iload (n := 52) rfl rfl rfl ?_
  refine g_const (n := 53) rfl rfl (s_iconst (v := 1) (by decide)) ?_
  refine g_iload_n (n := 54) rfl rfl rfl ?_
  refine g_ishl (n := 55) rfl rfl ?_
  rw [shl_pow sl.length (by omega)]
  refine g_ige (n := 58) rfl rfl (fun h55 => ?_) (fun h55 => ?_)
  · skip
    have g9 := (jn_le (by omega) (by omega)).mp h55
    refine g_aload_n (n := 177) rfl rfl rfl ?_
    refine g_const (n := 178) rfl rfl (s_iconst (v := 0) (by decide)) ?_
    refine g_putI (n := 181) rfl rfl z_41 rfl rfl ?_
    refine g_iload_n (n := 182) rfl rfl rfl ?_
    refine g_retI rfl ?_
    refine ⟨k1.up rfl, ?_⟩
    rw [show i = 2 ^ sl.length by omega]
  · skip
    have g9 := (jn_lt (by omega) (by omega)).mp h55
    refine g_const (n := 59) rfl rfl (s_iconst (v := 0) (by decide)) ?_
    refine g_istore (n := 61) rfl rfl ?_
    refine g_const (n := 62) rfl rfl (s_iconst (v := 0) (by decide)) ?_
    refine g_istore (n := 64) rfl rfl ?_
    refine g_const (n := 65) rfl rfl (s_iconst (v := 0) (by decide)) ?_
    refine g_istore (n := 67) rfl rfl ?_
    exact lq_mend67 hn h13 hs (K2 g9) 0 (by omega) _ _ rfl rfl
set_option maxRecDepth 20000 in
theorem lq_mend4 {n : Nat} (hr : M 41 1 = Int32.ofNat n) (hn : n ≤ 12) {Q : QT} (K : ∀ r M1, mKeepC M M1 → SPM M1 (spS (spM M) n) → Go [] (d + 7) (some .int) tabX9_mend 43 [(0, .ref 41), (1, .int (Int32.ofNat (spS (spM M) n).length)), (2, .int r)] [] (hp (zz E T) M1) 0 0 Q) : ∀ i, i ≤ n → ∀ M1, mKeepC M M1 → SPM M1 (spS (spM M) i) → Go [] (d + 7) (some .int) tabX9_mend 4 [(0, .ref 41), (1, .int (Int32.ofNat (spS (spM M) i).length)), (2, .int (Int32.ofNat i))] [] (hp (zz E T) M1) 0 0 Q := by
  refine loop_up n ?_
  intro i hi ih M1 k1 hs
  have h5 := spS_len (p := spM M) (n := i)
  refine g_iload_n (n := 5) rfl rfl rfl ?_
  refine g_aload_n (n := 6) rfl rfl rfl ?_
  refine g_getI (n := 9) rfl rfl z_41 rfl ?_
  refine g_ige (n := 12) rfl rfl (fun h9 => ?_) (fun h9 => ?_)
  · skip
    rw [k1 41 1 rfl, hr] at h9
    have g9 := (jn_le (by omega) (by omega)).mp h9
    obtain rfl : i = n := by omega
    exact K _ M1 k1 hs
  · skip
    rw [k1 41 1 rfl, hr] at h9
    have g9 := (jn_lt (by omega) (by omega)).mp h9
    refine g_iload_n (n := 13) rfl rfl rfl ?_
    refine g_const (n := 14) rfl rfl (s_iconst (v := 5) (by decide)) ?_
    refine g_ige (n := 17) rfl rfl (fun h14 => ?_) (fun h14 => ?_)
    · skip
      have g5 := (jn_le (a := 5) (by omega) (by omega)).mp h14
      have e := spS_full (p := spM M) g5 n hi
      have := K (Int32.ofNat i) M1 k1 (by rw [e]; exact hs)
      rw [e] at this
      exact this
    · skip
      have g5 := (jn_lt (b := 5) (by omega) (by omega)).mp h14
      refine g_aload_n (n := 18) rfl rfl rfl ?_
      refine g_getR (n := 21) rfl rfl z_41 rfl ?_
      refine g_iload_n (n := 22) rfl rfl rfl ?_
      refine g_iald (n := 23) rfl rfl z_49 rfl rfl (by omega) ?_
      refine g_const (n := 24) rfl rfl (s_iconst (v := (-1)) (by decide)) ?_
      refine g_ieq (n := 27) rfl rfl (fun h24 => ?_) (fun h24 => ?_)
      · skip
        rw [k1 49 i rfl] at h24
        have e := spS_no (p := spM M) (i := i) (by unfold spM; rw [dT h24]; rfl)
        refine g_iinc (n := 40) rfl rfl rfl (jn_1 _) ?_
        refine g_goto rfl ?_
        have := ih g9 M1 k1 (by rw [e]; exact hs)
        rw [e] at this
        exact this
      · skip
        rw [k1 49 i rfl] at h24
        have e := spS_yes (p := spM M) (i := i) (by unfold spM; rw [dF h24]; rfl) g5
        refine g_aload_n (n := 28) rfl rfl rfl ?_
        refine g_getR (n := 31) rfl rfl z_41 rfl ?_
        refine g_iload_n (n := 32) rfl rfl rfl ?_
        refine g_iload_n (n := 33) rfl rfl rfl ?_
        refine g_iast (n := 34) rfl rfl z_60 rfl rfl (by omega) ?_
        refine g_iinc (n := 37) rfl rfl rfl (jn_1 _) ?_
        refine g_iinc (n := 40) rfl rfl rfl (jn_1 _) ?_
        refine g_goto rfl ?_
        have := ih g9 (mup M1 60 (spS (spM M) i).length (Int32.ofNat i)) (k1.up rfl) (by
          rw [e]
          intro j hj
          rw [List.length_append] at hj
          simp only [List.length_cons, List.length_nil] at hj
          by_cases e2 : j = (spS (spM M) i).length
          · rw [e2, mup_same, getD_end]
          · rw [mup_j e2, getD_app (by omega)]
            exact hs j (by omega))
        rw [e, List.length_append] at this
        exact this
set_option maxRecDepth 20000 in
theorem sq_mend {V : VW} {n : Nat} (hI : MI M) (hV : MV (mup M 41 25 0) V) (h0 : ∀ i, i < rN (vR V) → ∀ k f, rW (vR V) i k f = ((decide (M 42 i = -1) || decide (M 42 i = k)) && mFit M i f)) (hr : M 41 1 = Int32.ofNat n) (hn : n ≤ 12) : EvI (d + 8) miX9_mend [.ref 41] (zz E T) M (fun y M' => mKeepC M M' ∧ y = (fM (hdS M V (spS (spM M) n)) (fun s => smS (M 49) (spS (spM M) n) s (spS (spM M) n).length) (2 ^ (spS (spM M) n).length)).1) := by
  have K2 : ∀ r M1, mKeepC M M1 → SPM M1 (spS (spM M) n) → Go [] (d + 7) (some .int) tabX9_mend 43 [(0, .ref 41), (1, .int (Int32.ofNat (spS (spM M) n).length)), (2, .int r)] [] (hp (zz E T) M1) 0 0 (QI (zz E T) (fun y M' => mKeepC M M' ∧ y = (fM (hdS M V (spS (spM M) n)) (fun s => smS (M 49) (spS (spM M) n) s (spS (spM M) n).length) (2 ^ (spS (spM M) n).length)).1)) := by
    intro r M1 k1 hs
    refine g_const (n := 44) rfl rfl (s_iconst (v := (-1)) (by decide)) ?_
    refine g_istore_n (n := 45) rfl rfl ?_
    refine g_const (n := 46) rfl rfl (s_iconst (v := 0) (by decide)) ?_
    refine g_istore_n (n := 47) rfl rfl ?_
    refine g_const (n := 48) rfl rfl (s_iconst (v := 0) (by decide)) ?_
    refine g_istore (n := 50) rfl rfl ?_
    exact lq_mend50 hI hV h0 spS_len (fun x hx => by have := (spS_mem hx).1; omega) 0 (Nat.zero_le _) M1 k1 hs
  refine ev_of mt_X9_mend rfl ?_
  refine g_const (n := 1) rfl rfl (s_iconst (v := 0) (by decide)) ?_
  refine g_istore_n (n := 2) rfl rfl ?_
  refine g_const (n := 3) rfl rfl (s_iconst (v := 0) (by decide)) ?_
  refine g_istore_n (n := 4) rfl rfl ?_
  exact lq_mend4 hr hn K2 0 (by omega) M mKeepC.rf (fun j hj => absurd hj (Nat.not_lt_zero _))
end SeekF
