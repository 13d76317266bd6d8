/-! The reference's runs: they come to an end and leave all but what they may write -/
section RM
variable {E : Value} {T : List SH} {M : Mem} {d : Nat}
def mAny (f : Nat → Bool) (n : Nat) : Bool := match n with
  | 0 => false
  | n + 1 => mAny f n || f n
theorem lp_isStruck {x : Int32} {nb : Nat} (hb : M 41 23 = Int32.ofNat nb) (hn : nb ≤ 4) : ∀ i, i ≤ nb → ∀ y, y = bI (mAny (fun k => decide (M 54 k = x)) i) → Go [] d (some .boolean) tabX9_isStruck 4 [(0, .ref 41), (1, .int x), (2, .int y), (3, .int (Int32.ofNat i))] [] (hp (zz E T) M) 0 0 (QP (hp (zz E T) M) (.int (bI (mAny (fun k => decide (M 54 k = x)) nb)))) := by
  refine loop_up nb ?_
  intro i hi ih y hy
  subst hy
  refine g_iload_n (n := 5) rfl rfl rfl ?_
  refine g_aload_n (n := 6) rfl rfl rfl ?_
  refine g_getI (n := 9) rfl rfl z_41 rfl ?_
  rw [hb]
  refine g_ige (n := 12) rfl rfl (fun h9 => ?_) (fun h9 => ?_)
  · skip
    have g9 := (jn_le (by omega) (by omega)).mp h9
    refine g_iload_n (n := 39) rfl rfl rfl ?_
    refine g_retPZ rfl bI01 ?_
    rw [show i = nb by omega]
  · skip
    have g9 := (jn_lt (by omega) (by omega)).mp h9
    refine g_iload_n (n := 13) rfl rfl rfl ?_
    refine g_bnz (n := 16) rfl rfl (fun h13 => ?_) (fun h13 => ?_)
    · skip
      refine g_const (n := 27) rfl rfl (s_iconst (v := 1) (by decide)) ?_
      refine g_goto rfl ?_
      refine g_istore_n (n := 32) rfl rfl ?_
      refine g_iinc (n := 35) rfl rfl rfl (jn_1 _) ?_
      refine g_goto rfl ?_
      exact ih g9 _ (by simp_all [mAny, bI])
    · skip
      refine g_aload_n (n := 17) rfl rfl rfl ?_
      refine g_getR (n := 20) rfl rfl z_41 rfl ?_
      refine g_iload_n (n := 21) rfl rfl rfl ?_
      refine g_iald (n := 22) rfl rfl z_54 rfl rfl (by omega) ?_
      refine g_iload_n (n := 23) rfl rfl rfl ?_
      refine g_ine (n := 26) rfl rfl (fun h23 => ?_) (fun h23 => ?_)
      · skip
        refine g_const (n := 31) rfl rfl (s_iconst (v := 0) (by decide)) ?_
        refine g_istore_n (n := 32) rfl rfl ?_
        refine g_iinc (n := 35) rfl rfl rfl (jn_1 _) ?_
        refine g_goto rfl ?_
        exact ih g9 _ (by simp_all [mAny, bI])
      · skip
        refine g_const (n := 27) rfl rfl (s_iconst (v := 1) (by decide)) ?_
        refine g_goto rfl ?_
        refine g_istore_n (n := 32) rfl rfl ?_
        refine g_iinc (n := 35) rfl rfl rfl (jn_1 _) ?_
        refine g_goto rfl ?_
        exact ih g9 _ (by simp_all [mAny, bI])
theorem sp_isStruck {x : Int32} {nb : Nat} (hb : M 41 23 = Int32.ofNat nb) (hn : nb ≤ 4) : EvP (d + 1) miX9_isStruck [.ref 41, .int x] (hp (zz E T) M) (.int (bI (mAny (fun k => decide (M 54 k = x)) nb))) := by
  refine ev_of mt_X9_isStruck rfl ?_
  refine g_const (n := 1) rfl rfl (s_iconst (v := 0) (by decide)) ?_
  refine g_istore_n (n := 2) rfl rfl ?_
  refine g_const (n := 3) rfl rfl (s_iconst (v := 0) (by decide)) ?_
  refine g_istore_n (n := 4) rfl rfl ?_
  exact lp_isStruck hb hn 0 (by omega) _ rfl
def mCnt (M : Mem) (r : Nat) (h : Int32) : Bool := (decide (M 49 r = -1) || decide ((M 41 25 >>> (Int32.ofNat r &&& 31)) &&& 1 = 1)) && (decide (M 42 r = -1) || decide (M 42 r = h))
theorem sp_counts {r : Nat} {h : Int32} (hr : r < 13) : EvP (d + 1) miX9_counts [.ref 41, .int (Int32.ofNat r), .int h] (hp (zz E T) M) (.int (bI (mCnt M r h))) := by
  refine ev_of mt_X9_counts rfl ?_
  refine g_aload_n (n := 1) rfl rfl rfl ?_
  refine g_getR (n := 4) rfl rfl z_41 rfl ?_
  refine g_iload_n (n := 5) rfl rfl rfl ?_
  refine g_iald (n := 6) rfl rfl z_49 rfl rfl (by omega) ?_
  refine g_const (n := 7) rfl rfl (s_iconst (v := (-1)) (by decide)) ?_
  refine g_ieq (n := 10) rfl rfl (fun h7 => ?_) (fun h7 => ?_)
  · skip
    refine g_aload_n (n := 23) rfl rfl rfl ?_
    refine g_getR (n := 26) rfl rfl z_41 rfl ?_
    refine g_iload_n (n := 27) rfl rfl rfl ?_
    refine g_iald (n := 28) rfl rfl z_42 rfl rfl (by omega) ?_
    refine g_const (n := 29) rfl rfl (s_iconst (v := (-1)) (by decide)) ?_
    refine g_ieq (n := 32) rfl rfl (fun h29 => ?_) (fun h29 => ?_)
    · skip
      refine g_const (n := 43) rfl rfl (s_iconst (v := 1) (by decide)) ?_
      refine g_goto rfl ?_
      refine g_retPZ rfl (by decide) ?_
      simp_all [mCnt, bI]
    · skip
      refine g_aload_n (n := 33) rfl rfl rfl ?_
      refine g_getR (n := 36) rfl rfl z_41 rfl ?_
      refine g_iload_n (n := 37) rfl rfl rfl ?_
      refine g_iald (n := 38) rfl rfl z_42 rfl rfl (by omega) ?_
      refine g_iload_n (n := 39) rfl rfl rfl ?_
      refine g_ine (n := 42) rfl rfl (fun h39 => ?_) (fun h39 => ?_)
      · skip
        refine g_const (n := 47) rfl rfl (s_iconst (v := 0) (by decide)) ?_
        refine g_retPZ rfl (by decide) ?_
        simp_all [mCnt, bI]
      · skip
        refine g_const (n := 43) rfl rfl (s_iconst (v := 1) (by decide)) ?_
        refine g_goto rfl ?_
        refine g_retPZ rfl (by decide) ?_
        simp_all [mCnt, bI]
  · skip
    refine g_aload_n (n := 11) rfl rfl rfl ?_
    refine g_getI (n := 14) rfl rfl z_41 rfl ?_
    refine g_iload_n (n := 15) rfl rfl rfl ?_
    refine g_ishr (n := 16) rfl rfl ?_
    refine g_const (n := 17) rfl rfl (s_iconst (v := 1) (by decide)) ?_
    refine g_iand (n := 18) rfl rfl ?_
    refine g_const (n := 19) rfl rfl (s_iconst (v := 1) (by decide)) ?_
    refine g_ine (n := 22) rfl rfl (fun h19 => ?_) (fun h19 => ?_)
    · skip
      refine g_const (n := 47) rfl rfl (s_iconst (v := 0) (by decide)) ?_
      refine g_retPZ rfl (by decide) ?_
      simp_all [mCnt, bI]
    · skip
      refine g_aload_n (n := 23) rfl rfl rfl ?_
      refine g_getR (n := 26) rfl rfl z_41 rfl ?_
      refine g_iload_n (n := 27) rfl rfl rfl ?_
      refine g_iald (n := 28) rfl rfl z_42 rfl rfl (by omega) ?_
      refine g_const (n := 29) rfl rfl (s_iconst (v := (-1)) (by decide)) ?_
      refine g_ieq (n := 32) rfl rfl (fun h29 => ?_) (fun h29 => ?_)
      · skip
        refine g_const (n := 43) rfl rfl (s_iconst (v := 1) (by decide)) ?_
        refine g_goto rfl ?_
        refine g_retPZ rfl (by decide) ?_
        simp_all [mCnt, bI]
      · skip
        refine g_aload_n (n := 33) rfl rfl rfl ?_
        refine g_getR (n := 36) rfl rfl z_41 rfl ?_
        refine g_iload_n (n := 37) rfl rfl rfl ?_
        refine g_iald (n := 38) rfl rfl z_42 rfl rfl (by omega) ?_
        refine g_iload_n (n := 39) rfl rfl rfl ?_
        refine g_ine (n := 42) rfl rfl (fun h39 => ?_) (fun h39 => ?_)
        · skip
          refine g_const (n := 47) rfl rfl (s_iconst (v := 0) (by decide)) ?_
          refine g_retPZ rfl (by decide) ?_
          simp_all [mCnt, bI]
        · skip
          refine g_const (n := 43) rfl rfl (s_iconst (v := 1) (by decide)) ?_
          refine g_goto rfl ?_
          refine g_retPZ rfl (by decide) ?_
          simp_all [mCnt, bI]
def mFit (M : Mem) (r : Nat) (f : Int32) : Bool := (decide ((f >>> (M 45 r &&& 31)) &&& 1 = 1) && (decide (M 46 r = -1) || decide ((f >>> (M 46 r &&& 31)) &&& 1 = 1))) && (decide (M 47 r = -1) || decide ((f >>> (M 47 r &&& 31)) &&& 1 = 0))
theorem sp_fits {r : Nat} {f : Int32} (hr : r < 13) : EvP (d + 1) miX9_fits [.ref 41, .int (Int32.ofNat r), .int f] (hp (zz E T) M) (.int (bI (mFit M r f))) := by
  refine ev_of mt_X9_fits rfl ?_
  refine g_iload_n (n := 1) rfl rfl rfl ?_
  refine g_aload_n (n := 2) rfl rfl rfl ?_
  refine g_getR (n := 5) rfl rfl z_41 rfl ?_
  refine g_iload_n (n := 6) rfl rfl rfl ?_
  refine g_iald (n := 7) rfl rfl z_45 rfl rfl (by omega) ?_
  refine g_ishr (n := 8) rfl rfl ?_
  refine g_const (n := 9) rfl rfl (s_iconst (v := 1) (by decide)) ?_
  refine g_iand (n := 10) rfl rfl ?_
  refine g_const (n := 11) rfl rfl (s_iconst (v := 1) (by decide)) ?_
  refine g_ine (n := 14) rfl rfl (fun h11 => ?_) (fun h11 => ?_)
  · skip
    refine g_const (n := 43) rfl rfl (s_iconst (v := 0) (by decide)) ?_
    refine g_istore_n (n := 44) rfl rfl ?_
    refine g_iload_n (n := 45) rfl rfl rfl ?_
    refine g_zeq (n := 48) rfl rfl (fun h45 => ?_) (fun h45 => ?_)
    · skip
      refine g_const (n := 76) rfl rfl (s_iconst (v := 0) (by decide)) ?_
      refine g_retPZ rfl (by decide) ?_
      simp_all [mFit, bI]
    · skip
      exact absurd h45 (by decide)
  · skip
    refine g_aload_n (n := 15) rfl rfl rfl ?_
    refine g_getR (n := 18) rfl rfl z_41 rfl ?_
    refine g_iload_n (n := 19) rfl rfl rfl ?_
    refine g_iald (n := 20) rfl rfl z_46 rfl rfl (by omega) ?_
    refine g_const (n := 21) rfl rfl (s_iconst (v := (-1)) (by decide)) ?_
    refine g_ieq (n := 24) rfl rfl (fun h21 => ?_) (fun h21 => ?_)
    · skip
      refine g_const (n := 39) rfl rfl (s_iconst (v := 1) (by decide)) ?_
      refine g_goto rfl ?_
      refine g_istore_n (n := 44) rfl rfl ?_
      refine g_iload_n (n := 45) rfl rfl rfl ?_
      refine g_zeq (n := 48) rfl rfl (fun h45 => ?_) (fun h45 => ?_)
      · skip
        exact absurd h45 (by decide)
      · skip
        refine g_aload_n (n := 49) rfl rfl rfl ?_
        refine g_getR (n := 52) rfl rfl z_41 rfl ?_
        refine g_iload_n (n := 53) rfl rfl rfl ?_
        refine g_iald (n := 54) rfl rfl z_47 rfl rfl (by omega) ?_
        refine g_const (n := 55) rfl rfl (s_iconst (v := (-1)) (by decide)) ?_
        refine g_ieq (n := 58) rfl rfl (fun h55 => ?_) (fun h55 => ?_)
        · skip
          refine g_const (n := 72) rfl rfl (s_iconst (v := 1) (by decide)) ?_
          refine g_goto rfl ?_
          refine g_retPZ rfl (by decide) ?_
          simp_all [mFit, bI]
        · skip
          refine g_iload_n (n := 59) rfl rfl rfl ?_
          refine g_aload_n (n := 60) rfl rfl rfl ?_
          refine g_getR (n := 63) rfl rfl z_41 rfl ?_
          refine g_iload_n (n := 64) rfl rfl rfl ?_
          refine g_iald (n := 65) rfl rfl z_47 rfl rfl (by omega) ?_
          refine g_ishr (n := 66) rfl rfl ?_
          refine g_const (n := 67) rfl rfl (s_iconst (v := 1) (by decide)) ?_
          refine g_iand (n := 68) rfl rfl ?_
          refine g_zne (n := 71) rfl rfl (fun h68 => ?_) (fun h68 => ?_)
          · skip
            refine g_const (n := 76) rfl rfl (s_iconst (v := 0) (by decide)) ?_
            refine g_retPZ rfl (by decide) ?_
            simp_all [mFit, bI]
          · skip
            refine g_const (n := 72) rfl rfl (s_iconst (v := 1) (by decide)) ?_
            refine g_goto rfl ?_
            refine g_retPZ rfl (by decide) ?_
            simp_all [mFit, bI]
    · skip
      refine g_iload_n (n := 25) rfl rfl rfl ?_
      refine g_aload_n (n := 26) rfl rfl rfl ?_
      refine g_getR (n := 29) rfl rfl z_41 rfl ?_
      refine g_iload_n (n := 30) rfl rfl rfl ?_
      refine g_iald (n := 31) rfl rfl z_46 rfl rfl (by omega) ?_
      refine g_ishr (n := 32) rfl rfl ?_
      refine g_const (n := 33) rfl rfl (s_iconst (v := 1) (by decide)) ?_
      refine g_iand (n := 34) rfl rfl ?_
      refine g_const (n := 35) rfl rfl (s_iconst (v := 1) (by decide)) ?_
      refine g_ine (n := 38) rfl rfl (fun h35 => ?_) (fun h35 => ?_)
      · skip
        refine g_const (n := 43) rfl rfl (s_iconst (v := 0) (by decide)) ?_
        refine g_istore_n (n := 44) rfl rfl ?_
        refine g_iload_n (n := 45) rfl rfl rfl ?_
        refine g_zeq (n := 48) rfl rfl (fun h45 => ?_) (fun h45 => ?_)
        · skip
          refine g_const (n := 76) rfl rfl (s_iconst (v := 0) (by decide)) ?_
          refine g_retPZ rfl (by decide) ?_
          simp_all [mFit, bI]
        · skip
          exact absurd h45 (by decide)
      · skip
        refine g_const (n := 39) rfl rfl (s_iconst (v := 1) (by decide)) ?_
        refine g_goto rfl ?_
        refine g_istore_n (n := 44) rfl rfl ?_
        refine g_iload_n (n := 45) rfl rfl rfl ?_
        refine g_zeq (n := 48) rfl rfl (fun h45 => ?_) (fun h45 => ?_)
        · skip
          exact absurd h45 (by decide)
        · skip
          refine g_aload_n (n := 49) rfl rfl rfl ?_
          refine g_getR (n := 52) rfl rfl z_41 rfl ?_
          refine g_iload_n (n := 53) rfl rfl rfl ?_
          refine g_iald (n := 54) rfl rfl z_47 rfl rfl (by omega) ?_
          refine g_const (n := 55) rfl rfl (s_iconst (v := (-1)) (by decide)) ?_
          refine g_ieq (n := 58) rfl rfl (fun h55 => ?_) (fun h55 => ?_)
          · skip
            refine g_const (n := 72) rfl rfl (s_iconst (v := 1) (by decide)) ?_
            refine g_goto rfl ?_
            refine g_retPZ rfl (by decide) ?_
            simp_all [mFit, bI]
          · skip
            refine g_iload_n (n := 59) rfl rfl rfl ?_
            refine g_aload_n (n := 60) rfl rfl rfl ?_
            refine g_getR (n := 63) rfl rfl z_41 rfl ?_
            refine g_iload_n (n := 64) rfl rfl rfl ?_
            refine g_iald (n := 65) rfl rfl z_47 rfl rfl (by omega) ?_
            refine g_ishr (n := 66) rfl rfl ?_
            refine g_const (n := 67) rfl rfl (s_iconst (v := 1) (by decide)) ?_
            refine g_iand (n := 68) rfl rfl ?_
            refine g_zne (n := 71) rfl rfl (fun h68 => ?_) (fun h68 => ?_)
            · skip
              refine g_const (n := 76) rfl rfl (s_iconst (v := 0) (by decide)) ?_
              refine g_retPZ rfl (by decide) ?_
              simp_all [mFit, bI]
            · skip
              refine g_const (n := 72) rfl rfl (s_iconst (v := 1) (by decide)) ?_
              refine g_goto rfl ?_
              refine g_retPZ rfl (by decide) ?_
              simp_all [mFit, bI]
/-- what closed adds by one rule -/
def mAdd (M : Mem) (h : Int32) (l : Int32) (r : Nat) (f : Int32) : Int32 := f ||| (bif decide (M 43 r = 0) && (mCnt M r h && (decide (M 51 (M 44 r).toNatClampNeg = l) && mFit M r f)) then 1 <<< (M 44 r &&& 31) else 0)
def mPass (M : Mem) (h : Int32) (l : Int32) (n : Nat) (f : Int32) : Int32 := match n with
  | 0 => f
  | n + 1 => mAdd M h l n (mPass M h l n f)
theorem mPass_ge {h l : Int32} {n : Nat} {f : Int32} : f.toBitVec.toNat ≤ (mPass M h l n f).toBitVec.toNat := by
  induction n with
  | zero => exact Nat.le_refl _
  | succ n ih => exact Nat.le_trans ih (or_ge _ _)
theorem clampNat {k : Nat} (h : k < 2147483648) : (Int32.ofNat k).toNatClampNeg = k := by
  show (Int32.ofNat k).toInt.toNat = k
  rw [jn_toInt h]
  omega
theorem lp_closed29 {h l w f0 : Int32} {n : Nat} (hI : MI M) (hn : n ≤ 12) (hr : M 41 1 = Int32.ofNat n) {Q : QT} (K : ∀ f, f = mPass M h l n f0 → Go [] d (some .int) tabX9_closed 17 [(0, .ref 41), (1, .int h), (2, .int w), (3, .int f), (4, .int l), (5, .int f0), (6, .int (Int32.ofNat n))] [] (hp (zz E T) M) 0 0 Q) : ∀ i, i ≤ n → ∀ f, f = mPass M h l i f0 → Go [] d (some .int) tabX9_closed 29 [(0, .ref 41), (1, .int h), (2, .int w), (3, .int f), (4, .int l), (5, .int f0), (6, .int (Int32.ofNat i))] [] (hp (zz E T) M) 0 0 Q := by
  refine loop_up n ?_
  intro i hi ih f hf
  obtain ⟨e1, e2, e3, e4, e5, e6, e7, e8⟩ := hI
  refine g_iload (n := 31) rfl rfl rfl ?_
  refine g_aload_n (n := 32) rfl rfl rfl ?_
  refine g_getI (n := 35) rfl rfl z_41 rfl ?_
  rw [hr]
  refine g_ige (n := 38) rfl rfl (fun h35 => ?_) (fun h35 => ?_)
  · skip
    have g9 := (jn_le (by omega) (by omega)).mp h35
    refine g_goto rfl ?_
    rw [show i = n by omega] at hf ⊢; exact K f hf
  · skip
    have g9 := (jn_lt (by omega) (by omega)).mp h35
    obtain ⟨⟨hd, hd8, hde⟩, -⟩ := e3 i (by omega)
    refine g_iload_n (n := 39) rfl rfl rfl ?_
    refine g_aload_n (n := 40) rfl rfl rfl ?_
    refine g_getR (n := 43) rfl rfl z_41 rfl ?_
    refine g_iload (n := 45) rfl rfl rfl ?_
    refine g_iald (n := 46) rfl rfl z_43 rfl rfl (by omega) ?_
    refine g_zne (n := 49) rfl rfl (fun h46 => ?_) (fun h46 => ?_)
    · skip
      refine g_const (n := 99) rfl rfl (s_iconst (v := 0) (by decide)) ?_
      refine g_ior (n := 100) rfl rfl ?_
      refine g_istore_n (n := 101) rfl rfl ?_
      refine g_iinc (n := 104) rfl rfl rfl (jn_1 _) ?_
      refine g_goto rfl ?_
      exact ih g9 _ (by simp_all [mPass, mAdd, clampNat (Nat.lt_trans hd8 (by decide))])
    · skip
      refine g_aload_n (n := 50) rfl rfl rfl ?_
      refine g_iload (n := 52) rfl rfl rfl ?_
      refine g_iload_n (n := 53) rfl rfl rfl ?_
      refine g_cP3 (n := 56) rfl rfl rfl rfl mt_X9_counts rfl rfl (r_k z_41) (sp_counts (by omega)) ?_
      refine g_bz (n := 59) rfl rfl (fun h56 => ?_) (fun h56 => ?_)
      · skip
        refine g_const (n := 99) rfl rfl (s_iconst (v := 0) (by decide)) ?_
        refine g_ior (n := 100) rfl rfl ?_
        refine g_istore_n (n := 101) rfl rfl ?_
        refine g_iinc (n := 104) rfl rfl rfl (jn_1 _) ?_
        refine g_goto rfl ?_
        exact ih g9 _ (by simp_all [mPass, mAdd, clampNat (Nat.lt_trans hd8 (by decide))])
      · skip
        refine g_aload_n (n := 60) rfl rfl rfl ?_
        refine g_getR (n := 63) rfl rfl z_41 rfl ?_
        refine g_aload_n (n := 64) rfl rfl rfl ?_
        refine g_getR (n := 67) rfl rfl z_41 rfl ?_
        refine g_iload (n := 69) rfl rfl rfl ?_
        refine g_iald (n := 70) rfl rfl z_44 rfl rfl (by omega) ?_
        refine g_iald (n := 71) rfl rfl z_51 rfl hde hd8 ?_
        refine g_iload (n := 73) rfl rfl rfl ?_
        refine g_ine (n := 76) rfl rfl (fun h73 => ?_) (fun h73 => ?_)
        · skip
          refine g_const (n := 99) rfl rfl (s_iconst (v := 0) (by decide)) ?_
          refine g_ior (n := 100) rfl rfl ?_
          refine g_istore_n (n := 101) rfl rfl ?_
          refine g_iinc (n := 104) rfl rfl rfl (jn_1 _) ?_
          refine g_goto rfl ?_
          exact ih g9 _ (by simp_all [mPass, mAdd, clampNat (Nat.lt_trans hd8 (by decide))])
        · skip
          refine g_aload_n (n := 77) rfl rfl rfl ?_
          refine g_iload (n := 79) rfl rfl rfl ?_
          refine g_iload_n (n := 80) rfl rfl rfl ?_
          refine g_cP3 (n := 83) rfl rfl rfl rfl mt_X9_fits rfl rfl (r_k z_41) (sp_fits (by omega)) ?_
          refine g_bz (n := 86) rfl rfl (fun h83 => ?_) (fun h83 => ?_)
          · skip
            refine g_const (n := 99) rfl rfl (s_iconst (v := 0) (by decide)) ?_
            refine g_ior (n := 100) rfl rfl ?_
            refine g_istore_n (n := 101) rfl rfl ?_
            refine g_iinc (n := 104) rfl rfl rfl (jn_1 _) ?_
            refine g_goto rfl ?_
            exact ih g9 _ (by simp_all [mPass, mAdd, clampNat (Nat.lt_trans hd8 (by decide))])
          · skip
            refine g_const (n := 87) rfl rfl (s_iconst (v := 1) (by decide)) ?_
            refine g_aload_n (n := 88) rfl rfl rfl ?_
            refine g_getR (n := 91) rfl rfl z_41 rfl ?_
            refine g_iload (n := 93) rfl rfl rfl ?_
            refine g_iald (n := 94) rfl rfl z_44 rfl rfl (by omega) ?_
            refine g_ishl (n := 95) rfl rfl ?_
            refine g_goto rfl ?_
            refine g_ior (n := 100) rfl rfl ?_
            refine g_istore_n (n := 101) rfl rfl ?_
            refine g_iinc (n := 104) rfl rfl rfl (jn_1 _) ?_
            refine g_goto rfl ?_
            exact ih g9 _ (by simp_all [mPass, mAdd, clampNat (Nat.lt_trans hd8 (by decide))])
end RM
