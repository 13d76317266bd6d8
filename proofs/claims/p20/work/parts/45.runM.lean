/-! The reference's runs: they come to an end and leave all but what they may write -/
section RM
variable {E : Value} {T : List SH} {M : Mem} {d : Nat}
def mAny (f : Nat → Bool) (n : Nat) : Bool := match n with
  | 0 => false
  | n + 1 => mAny f n || f n
set_option maxRecDepth 20000 in
theorem lp_isStruck {x : Int32} {nb : Nat} (hb : M 41 23 = Int32.ofNat nb) (hn : nb ≤ 4) : ∀ i, i ≤ nb → ∀ y, y = bI (mAny (fun k => decide (M 54 k = x)) i) → Go [] d (some .boolean) tabX9_isStruck 4 [(0, .ref 41), (1, .int x), (2, .int y), (3, .int (Int32.ofNat i))] [] (hp (zz E T) M) 0 0 (QP (hp (zz E T) M) (.int (bI (mAny (fun k => decide (M 54 k = x)) nb)))) := by
  refine loop_up nb ?_
  intro i hi ih y hy
  subst hy
  refine g_iload_n (n := 5) rfl rfl rfl ?_
  refine g_aload_n (n := 6) rfl rfl rfl ?_
  refine g_getI (n := 9) rfl rfl z_41 rfl ?_
  rw [hb]
  refine g_ige (n := 12) rfl rfl (fun h9 => ?_) (fun h9 => ?_)
  · skip
    have g9 := (jn_le (by omega) (by omega)).mp h9
    refine g_iload_n (n := 39) rfl rfl rfl ?_
    refine g_retPZ rfl bI01 ?_
    rw [show i = nb by omega]
  · skip
    have g9 := (jn_lt (by omega) (by omega)).mp h9
    refine g_iload_n (n := 13) rfl rfl rfl ?_
    refine g_bnz (n := 16) rfl rfl (fun h13 => ?_) (fun h13 => ?_)
    · skip
      refine g_const (n := 27) rfl rfl (s_iconst (v := 1) (by decide)) ?_
      refine g_goto rfl ?_
      refine g_istore_n (n := 32) rfl rfl ?_
      refine g_iinc (n := 35) rfl rfl rfl (jn_1 _) ?_
      refine g_goto rfl ?_
      exact ih g9 _ (by simp_all [mAny, bI])
    · skip
      refine g_aload_n (n := 17) rfl rfl rfl ?_
      refine g_getR (n := 20) rfl rfl z_41 rfl ?_
      refine g_iload_n (n := 21) rfl rfl rfl ?_
      refine g_iald (n := 22) rfl rfl z_54 rfl rfl (by omega) ?_
      refine g_iload_n (n := 23) rfl rfl rfl ?_
      refine g_ine (n := 26) rfl rfl (fun h23 => ?_) (fun h23 => ?_)
      · skip
        refine g_const (n := 31) rfl rfl (s_iconst (v := 0) (by decide)) ?_
        refine g_istore_n (n := 32) rfl rfl ?_
        refine g_iinc (n := 35) rfl rfl rfl (jn_1 _) ?_
        refine g_goto rfl ?_
        exact ih g9 _ (by simp_all [mAny, bI])
      · skip
        refine g_const (n := 27) rfl rfl (s_iconst (v := 1) (by decide)) ?_
        refine g_goto rfl ?_
        refine g_istore_n (n := 32) rfl rfl ?_
        refine g_iinc (n := 35) rfl rfl rfl (jn_1 _) ?_
        refine g_goto rfl ?_
        exact ih g9 _ (by simp_all [mAny, bI])
set_option maxRecDepth 20000 in
theorem sp_isStruck {x : Int32} {nb : Nat} (hb : M 41 23 = Int32.ofNat nb) (hn : nb ≤ 4) : EvP (d + 1) miX9_isStruck [.ref 41, .int x] (hp (zz E T) M) (.int (bI (mAny (fun k => decide (M 54 k = x)) nb))) := by
  refine ev_of mt_X9_isStruck rfl ?_
  refine g_const (n := 1) rfl rfl (s_iconst (v := 0) (by decide)) ?_
  refine g_istore_n (n := 2) rfl rfl ?_
  refine g_const (n := 3) rfl rfl (s_iconst (v := 0) (by decide)) ?_
  refine g_istore_n (n := 4) rfl rfl ?_
  exact lp_isStruck hb hn 0 (by omega) _ rfl
def mCnt (M : Mem) (r : Nat) (h : Int32) : Bool := (decide (M 49 r = -1) || decide ((M 41 25 >>> (Int32.ofNat r &&& 31)) &&& 1 = 1)) && (decide (M 42 r = -1) || decide (M 42 r = h))
set_option maxRecDepth 20000 in
theorem sp_counts {r : Nat} {h : Int32} (hr : r < 13) : EvP (d + 1) miX9_counts [.ref 41, .int (Int32.ofNat r), .int h] (hp (zz E T) M) (.int (bI (mCnt M r h))) := by
  refine ev_of mt_X9_counts rfl ?_
  refine g_aload_n (n := 1) rfl rfl rfl ?_
  refine g_getR (n := 4) rfl rfl z_41 rfl ?_
  refine g_iload_n (n := 5) rfl rfl rfl ?_
  refine g_iald (n := 6) rfl rfl z_49 rfl rfl (by omega) ?_
  refine g_const (n := 7) rfl rfl (s_iconst (v := (-1)) (by decide)) ?_
  refine g_ieq (n := 10) rfl rfl (fun h7 => ?_) (fun h7 => ?_)
  · skip
    refine g_aload_n (n := 23) rfl rfl rfl ?_
    refine g_getR (n := 26) rfl rfl z_41 rfl ?_
    refine g_iload_n (n := 27) rfl rfl rfl ?_
    refine g_iald (n := 28) rfl rfl z_42 rfl rfl (by omega) ?_
    refine g_const (n := 29) rfl rfl (s_iconst (v := (-1)) (by decide)) ?_
    refine g_ieq (n := 32) rfl rfl (fun h29 => ?_) (fun h29 => ?_)
    · skip
      refine g_const (n := 43) rfl rfl (s_iconst (v := 1) (by decide)) ?_
      refine g_goto rfl ?_
      refine g_retPZ rfl (by decide) ?_
      simp_all [mCnt, bI]
    · skip
      refine g_aload_n (n := 33) rfl rfl rfl ?_
      refine g_getR (n := 36) rfl rfl z_41 rfl ?_
      refine g_iload_n (n := 37) rfl rfl rfl ?_
      refine g_iald (n := 38) rfl rfl z_42 rfl rfl (by omega) ?_
      refine g_iload_n (n := 39) rfl rfl rfl ?_
      refine g_ine (n := 42) rfl rfl (fun h39 => ?_) (fun h39 => ?_)
      · skip
        refine g_const (n := 47) rfl rfl (s_iconst (v := 0) (by decide)) ?_
        refine g_retPZ rfl (by decide) ?_
        simp_all [mCnt, bI]
      · skip
        refine g_const (n := 43) rfl rfl (s_iconst (v := 1) (by decide)) ?_
        refine g_goto rfl ?_
        refine g_retPZ rfl (by decide) ?_
        simp_all [mCnt, bI]
  · skip
    refine g_aload_n (n := 11) rfl rfl rfl ?_
    refine g_getI (n := 14) rfl rfl z_41 rfl ?_
    refine g_iload_n (n := 15) rfl rfl rfl ?_
    refine g_ishr (n := 16) rfl rfl ?_
    refine g_const (n := 17) rfl rfl (s_iconst (v := 1) (by decide)) ?_
    refine g_iand (n := 18) rfl rfl ?_
    refine g_const (n := 19) rfl rfl (s_iconst (v := 1) (by decide)) ?_
    refine g_ine (n := 22) rfl rfl (fun h19 => ?_) (fun h19 => ?_)
    · skip
      refine g_const (n := 47) rfl rfl (s_iconst (v := 0) (by decide)) ?_
      refine g_retPZ rfl (by decide) ?_
      simp_all [mCnt, bI]
    · skip
      refine g_aload_n (n := 23) rfl rfl rfl ?_
      refine g_getR (n := 26) rfl rfl z_41 rfl ?_
      refine g_iload_n (n := 27) rfl rfl rfl ?_
      refine g_iald (n := 28) rfl rfl z_42 rfl rfl (by omega) ?_
      refine g_const (n := 29) rfl rfl (s_iconst (v := (-1)) (by decide)) ?_
      refine g_ieq (n := 32) rfl rfl (fun h29 => ?_) (fun h29 => ?_)
      · skip
        refine g_const (n := 43) rfl rfl (s_iconst (v := 1) (by decide)) ?_
        refine g_goto rfl ?_
        refine g_retPZ rfl (by decide) ?_
        simp_all [mCnt, bI]
      · skip
        refine g_aload_n (n := 33) rfl rfl rfl ?_
        refine g_getR (n := 36) rfl rfl z_41 rfl ?_
        refine g_iload_n (n := 37) rfl rfl rfl ?_
        refine g_iald (n := 38) rfl rfl z_42 rfl rfl (by omega) ?_
        refine g_iload_n (n := 39) rfl rfl rfl ?_
        refine g_ine (n := 42) rfl rfl (fun h39 => ?_) (fun h39 => ?_)
        · skip
          refine g_const (n := 47) rfl rfl (s_iconst (v := 0) (by decide)) ?_
          refine g_retPZ rfl (by decide) ?_
          simp_all [mCnt, bI]
        · skip
          refine g_const (n := 43) rfl rfl (s_iconst (v := 1) (by decide)) ?_
          refine g_goto rfl ?_
          refine g_retPZ rfl (by decide) ?_
          simp_all [mCnt, bI]
def mFit (M : Mem) (r : Nat) (f : Int32) : Bool := (decide ((f >>> (M 45 r &&& 31)) &&& 1 = 1) && (decide (M 46 r = -1) || decide ((f >>> (M 46 r &&& 31)) &&& 1 = 1))) && (decide (M 47 r = -1) || decide ((f >>> (M 47 r &&& 31)) &&& 1 = 0))
set_option maxRecDepth 20000 in
theorem sp_fits {r : Nat} {f : Int32} (hr : r < 13) : EvP (d + 1) miX9_fits [.ref 41, .int (Int32.ofNat r), .int f] (hp (zz E T) M) (.int (bI (mFit M r f))) := by
  refine ev_of mt_X9_fits rfl ?_
  refine g_iload_n (n := 1) rfl rfl rfl ?_
  refine g_aload_n (n := 2) rfl rfl rfl ?_
  refine g_getR (n := 5) rfl rfl z_41 rfl ?_
  refine g_iload_n (n := 6) rfl rfl rfl ?_
  refine g_iald (n := 7) rfl rfl z_45 rfl rfl (by omega) ?_
  refine g_ishr (n := 8) rfl rfl ?_
  refine g_const (n := 9) rfl rfl (s_iconst (v := 1) (by decide)) ?_
  refine g_iand (n := 10) rfl rfl ?_
  refine g_const (n := 11) rfl rfl (s_iconst (v := 1) (by decide)) ?_
  refine g_ine (n := 14) rfl rfl (fun h11 => ?_) (fun h11 => ?_)
  · skip
    refine g_const (n := 43) rfl rfl (s_iconst (v := 0) (by decide)) ?_
    refine g_istore_n (n := 44) rfl rfl ?_
    refine g_iload_n (n := 45) rfl rfl rfl ?_
    refine g_zeq (n := 48) rfl rfl (fun h45 => ?_) (fun h45 => ?_)
    · skip
      refine g_const (n := 76) rfl rfl (s_iconst (v := 0) (by decide)) ?_
      refine g_retPZ rfl (by decide) ?_
      simp_all [mFit, bI]
    · skip
      exact absurd h45 (by decide)
  · skip
    refine g_aload_n (n := 15) rfl rfl rfl ?_
    refine g_getR (n := 18) rfl rfl z_41 rfl ?_
    refine g_iload_n (n := 19) rfl rfl rfl ?_
    refine g_iald (n := 20) rfl rfl z_46 rfl rfl (by omega) ?_
    refine g_const (n := 21) rfl rfl (s_iconst (v := (-1)) (by decide)) ?_
    refine g_ieq (n := 24) rfl rfl (fun h21 => ?_) (fun h21 => ?_)
    · skip
      refine g_const (n := 39) rfl rfl (s_iconst (v := 1) (by decide)) ?_
      refine g_goto rfl ?_
      refine g_istore_n (n := 44) rfl rfl ?_
      refine g_iload_n (n := 45) rfl rfl rfl ?_
      refine g_zeq (n := 48) rfl rfl (fun h45 => ?_) (fun h45 => ?_)
      · skip
        exact absurd h45 (by decide)
      · skip
        refine g_aload_n (n := 49) rfl rfl rfl ?_
        refine g_getR (n := 52) rfl rfl z_41 rfl ?_
        refine g_iload_n (n := 53) rfl rfl rfl ?_
        refine g_iald (n := 54) rfl rfl z_47 rfl rfl (by omega) ?_
        refine g_const (n := 55) rfl rfl (s_iconst (v := (-1)) (by decide)) ?_
        refine g_ieq (n := 58) rfl rfl (fun h55 => ?_) (fun h55 => ?_)
        · skip
          refine g_const (n := 72) rfl rfl (s_iconst (v := 1) (by decide)) ?_
          refine g_goto rfl ?_
          refine g_retPZ rfl (by decide) ?_
          simp_all [mFit, bI]
        · skip
          refine g_iload_n (n := 59) rfl rfl rfl ?_
          refine g_aload_n (n := 60) rfl rfl rfl ?_
          refine g_getR (n := 63) rfl rfl z_41 rfl ?_
          refine g_iload_n (n := 64) rfl rfl rfl ?_
          refine g_iald (n := 65) rfl rfl z_47 rfl rfl (by omega) ?_
          refine g_ishr (n := 66) rfl rfl ?_
          refine g_const (n := 67) rfl rfl (s_iconst (v := 1) (by decide)) ?_
          refine g_iand (n := 68) rfl rfl ?_
          refine g_zne (n := 71) rfl rfl (fun h68 => ?_) (fun h68 => ?_)
          · skip
            refine g_const (n := 76) rfl rfl (s_iconst (v := 0) (by decide)) ?_
            refine g_retPZ rfl (by decide) ?_
            simp_all [mFit, bI]
          · skip
            refine g_const (n := 72) rfl rfl (s_iconst (v := 1) (by decide)) ?_
            refine g_goto rfl ?_
            refine g_retPZ rfl (by decide) ?_
            simp_all [mFit, bI]
    · skip
      refine g_iload_n (n := 25) rfl rfl rfl ?_
      refine g_aload_n (n := 26) rfl rfl rfl ?_
      refine g_getR (n := 29) rfl rfl z_41 rfl ?_
      refine g_iload_n (n := 30) rfl rfl rfl ?_
      refine g_iald (n := 31) rfl rfl z_46 rfl rfl (by omega) ?_
      refine g_ishr (n := 32) rfl rfl ?_
      refine g_const (n := 33) rfl rfl (s_iconst (v := 1) (by decide)) ?_
      refine g_iand (n := 34) rfl rfl ?_
      refine g_const (n := 35) rfl rfl (s_iconst (v := 1) (by decide)) ?_
      refine g_ine (n := 38) rfl rfl (fun h35 => ?_) (fun h35 => ?_)
      · skip
        refine g_const (n := 43) rfl rfl (s_iconst (v := 0) (by decide)) ?_
        refine g_istore_n (n := 44) rfl rfl ?_
        refine g_iload_n (n := 45) rfl rfl rfl ?_
        refine g_zeq (n := 48) rfl rfl (fun h45 => ?_) (fun h45 => ?_)
        · skip
          refine g_const (n := 76) rfl rfl (s_iconst (v := 0) (by decide)) ?_
          refine g_retPZ rfl (by decide) ?_
          simp_all [mFit, bI]
        · skip
          exact absurd h45 (by decide)
      · skip
        refine g_const (n := 39) rfl rfl (s_iconst (v := 1) (by decide)) ?_
        refine g_goto rfl ?_
        refine g_istore_n (n := 44) rfl rfl ?_
        refine g_iload_n (n := 45) rfl rfl rfl ?_
        refine g_zeq (n := 48) rfl rfl (fun h45 => ?_) (fun h45 => ?_)
        · skip
          exact absurd h45 (by decide)
        · skip
          refine g_aload_n (n := 49) rfl rfl rfl ?_
          refine g_getR (n := 52) rfl rfl z_41 rfl ?_
          refine g_iload_n (n := 53) rfl rfl rfl ?_
          refine g_iald (n := 54) rfl rfl z_47 rfl rfl (by omega) ?_
          refine g_const (n := 55) rfl rfl (s_iconst (v := (-1)) (by decide)) ?_
          refine g_ieq (n := 58) rfl rfl (fun h55 => ?_) (fun h55 => ?_)
          · skip
            refine g_const (n := 72) rfl rfl (s_iconst (v := 1) (by decide)) ?_
            refine g_goto rfl ?_
            refine g_retPZ rfl (by decide) ?_
            simp_all [mFit, bI]
          · skip
            refine g_iload_n (n := 59) rfl rfl rfl ?_
            refine g_aload_n (n := 60) rfl rfl rfl ?_
            refine g_getR (n := 63) rfl rfl z_41 rfl ?_
            refine g_iload_n (n := 64) rfl rfl rfl ?_
            refine g_iald (n := 65) rfl rfl z_47 rfl rfl (by omega) ?_
            refine g_ishr (n := 66) rfl rfl ?_
            refine g_const (n := 67) rfl rfl (s_iconst (v := 1) (by decide)) ?_
            refine g_iand (n := 68) rfl rfl ?_
            refine g_zne (n := 71) rfl rfl (fun h68 => ?_) (fun h68 => ?_)
            · skip
              refine g_const (n := 76) rfl rfl (s_iconst (v := 0) (by decide)) ?_
              refine g_retPZ rfl (by decide) ?_
              simp_all [mFit, bI]
            · skip
              refine g_const (n := 72) rfl rfl (s_iconst (v := 1) (by decide)) ?_
              refine g_goto rfl ?_
              refine g_retPZ rfl (by decide) ?_
              simp_all [mFit, bI]
/-- what closed adds by one rule -/
def mAdd (M : Mem) (h : Int32) (l : Int32) (r : Nat) (f : Int32) : Int32 := f ||| (bif decide (M 43 r = 0) && (mCnt M r h && (decide (M 51 (M 44 r).toNatClampNeg = l) && mFit M r f)) then 1 <<< (M 44 r &&& 31) else 0)
def mPass (M : Mem) (h : Int32) (l : Int32) (n : Nat) (f : Int32) : Int32 := match n with
  | 0 => f
  | n + 1 => mAdd M h l n (mPass M h l n f)
set_option maxRecDepth 20000 in
theorem mPass_ge {h l : Int32} {n : Nat} {f : Int32} : f.toBitVec.toNat ≤ (mPass M h l n f).toBitVec.toNat := by
  induction n with
  | zero => exact Nat.le_refl _
  | succ n ih => exact Nat.le_trans ih (or_ge _ _)
set_option maxRecDepth 20000 in
theorem clampNat {k : Nat} (h : k < 2147483648) : (Int32.ofNat k).toNatClampNeg = k := by
  show (Int32.ofNat k).toInt.toNat = k
  rw [jn_toInt h]
  omega
set_option maxRecDepth 20000 in
theorem lp_closed29 {h l w f0 : Int32} {n : Nat} (hI : MI M) (hn : n ≤ 12) (hr : M 41 1 = Int32.ofNat n) {Q : QT} (K : ∀ f, f = mPass M h l n f0 → Go [] (d + 1) (some .int) tabX9_closed 17 [(0, .ref 41), (1, .int h), (2, .int w), (3, .int f), (4, .int l), (5, .int f0)] [] (hp (zz E T) M) 0 0 Q) : ∀ i, i ≤ n → ∀ f, f = mPass M h l i f0 → Go [] (d + 1) (some .int) tabX9_closed 29 [(0, .ref 41), (1, .int h), (2, .int w), (3, .int f), (4, .int l), (5, .int f0), (6, .int (Int32.ofNat i))] [] (hp (zz E T) M) 0 0 Q := by
  refine loop_up n ?_
  intro i hi ih f hf
  obtain ⟨e1, e2, e3, e4, e5, e6, e7, e8⟩ := hI
  refine g_iload (n := 31) rfl rfl rfl ?_
  refine g_aload_n (n := 32) rfl rfl rfl ?_
  refine g_getI (n := 35) rfl rfl z_41 rfl ?_
  rw [hr]
  refine g_ige (n := 38) rfl rfl (fun h35 => ?_) (fun h35 => ?_)
  · skip
    have g9 := (jn_le (by omega) (by omega)).mp h35
    refine g_goto rfl ?_
    rw [show i = n by omega] at hf; refine go_only 6 ?_; exact K f hf
  · skip
    have g9 := (jn_lt (by omega) (by omega)).mp h35
    obtain ⟨⟨hd, hd8, hde⟩, -⟩ := e3 i (by omega)
    refine g_iload_n (n := 39) rfl rfl rfl ?_
    refine g_aload_n (n := 40) rfl rfl rfl ?_
    refine g_getR (n := 43) rfl rfl z_41 rfl ?_
    refine g_iload (n := 45) rfl rfl rfl ?_
    refine g_iald (n := 46) rfl rfl z_43 rfl rfl (by omega) ?_
    refine g_zne (n := 49) rfl rfl (fun h46 => ?_) (fun h46 => ?_)
    · skip
      refine g_const (n := 99) rfl rfl (s_iconst (v := 0) (by decide)) ?_
      refine g_ior (n := 100) rfl rfl ?_
      refine g_istore_n (n := 101) rfl rfl ?_
      refine g_iinc (n := 104) rfl rfl rfl (jn_1 _) ?_
      refine g_goto rfl ?_
      exact ih g9 _ (by simp_all [mPass, mAdd, clampNat (Nat.lt_trans hd8 (by decide))])
    · skip
      refine g_aload_n (n := 50) rfl rfl rfl ?_
      refine g_iload (n := 52) rfl rfl rfl ?_
      refine g_iload_n (n := 53) rfl rfl rfl ?_
      refine g_cP3 (n := 56) rfl rfl rfl rfl mt_X9_counts rfl rfl (r_k z_41) (sp_counts (by omega)) ?_
      refine g_bz (n := 59) rfl rfl (fun h56 => ?_) (fun h56 => ?_)
      · skip
        refine g_const (n := 99) rfl rfl (s_iconst (v := 0) (by decide)) ?_
        refine g_ior (n := 100) rfl rfl ?_
        refine g_istore_n (n := 101) rfl rfl ?_
        refine g_iinc (n := 104) rfl rfl rfl (jn_1 _) ?_
        refine g_goto rfl ?_
        exact ih g9 _ (by simp_all [mPass, mAdd, clampNat (Nat.lt_trans hd8 (by decide))])
      · skip
        refine g_aload_n (n := 60) rfl rfl rfl ?_
        refine g_getR (n := 63) rfl rfl z_41 rfl ?_
        refine g_aload_n (n := 64) rfl rfl rfl ?_
        refine g_getR (n := 67) rfl rfl z_41 rfl ?_
        refine g_iload (n := 69) rfl rfl rfl ?_
        refine g_iald (n := 70) rfl rfl z_44 rfl rfl (by omega) ?_
        refine g_iald (n := 71) rfl rfl z_51 rfl hde hd8 ?_
        refine g_iload (n := 73) rfl rfl rfl ?_
        refine g_ine (n := 76) rfl rfl (fun h73 => ?_) (fun h73 => ?_)
        · skip
          refine g_const (n := 99) rfl rfl (s_iconst (v := 0) (by decide)) ?_
          refine g_ior (n := 100) rfl rfl ?_
          refine g_istore_n (n := 101) rfl rfl ?_
          refine g_iinc (n := 104) rfl rfl rfl (jn_1 _) ?_
          refine g_goto rfl ?_
          exact ih g9 _ (by simp_all [mPass, mAdd, clampNat (Nat.lt_trans hd8 (by decide))])
        · skip
          refine g_aload_n (n := 77) rfl rfl rfl ?_
          refine g_iload (n := 79) rfl rfl rfl ?_
          refine g_iload_n (n := 80) rfl rfl rfl ?_
          refine g_cP3 (n := 83) rfl rfl rfl rfl mt_X9_fits rfl rfl (r_k z_41) (sp_fits (by omega)) ?_
          refine g_bz (n := 86) rfl rfl (fun h83 => ?_) (fun h83 => ?_)
          · skip
            refine g_const (n := 99) rfl rfl (s_iconst (v := 0) (by decide)) ?_
            refine g_ior (n := 100) rfl rfl ?_
            refine g_istore_n (n := 101) rfl rfl ?_
            refine g_iinc (n := 104) rfl rfl rfl (jn_1 _) ?_
            refine g_goto rfl ?_
            exact ih g9 _ (by simp_all [mPass, mAdd, clampNat (Nat.lt_trans hd8 (by decide))])
          · skip
            refine g_const (n := 87) rfl rfl (s_iconst (v := 1) (by decide)) ?_
            refine g_aload_n (n := 88) rfl rfl rfl ?_
            refine g_getR (n := 91) rfl rfl z_41 rfl ?_
            refine g_iload (n := 93) rfl rfl rfl ?_
            refine g_iald (n := 94) rfl rfl z_44 rfl rfl (by omega) ?_
            refine g_ishl (n := 95) rfl rfl ?_
            refine g_goto rfl ?_
            refine g_ior (n := 100) rfl rfl ?_
            refine g_istore_n (n := 101) rfl rfl ?_
            refine g_iinc (n := 104) rfl rfl rfl (jn_1 _) ?_
            refine g_goto rfl ?_
            exact ih g9 _ (by simp_all [mPass, mAdd, clampNat (Nat.lt_trans hd8 (by decide))])
set_option maxRecDepth 20000 in
theorem lp_closed17 {h l w : Int32} {n : Nat} (hI : MI M) (hn : n ≤ 12) (hr : M 41 1 = Int32.ofNat n) {Q : QT} (K : ∀ f, Go [] (d + 1) (some .int) tabX9_closed 110 [(0, .ref 41), (1, .int h), (2, .int w), (3, .int f), (4, .int l)] [] (hp (zz E T) M) 0 0 Q) : ∀ a : Int32 × Int32, Go [] (d + 1) (some .int) tabX9_closed 17 [(0, .ref 41), (1, .int h), (2, .int w), (3, .int a.1), (4, .int l), (5, .int a.2)] [] (hp (zz E T) M) 0 0 Q := by
  refine loop_ms (fun a => 2 * a.1.toBitVec.toNat + (if a.2 = a.1 then 1 else 0)) 8589934591 ?_
  rintro ⟨f, was⟩ ih
  refine g_iload (n := 19) rfl rfl rfl ?_
  refine g_iload_n (n := 20) rfl rfl rfl ?_
  refine g_ieq (n := 23) rfl rfl (fun h20 => ?_) (fun h20 => ?_)
  · skip
    refine go_only 5 ?_; exact K f
  · skip
    refine g_iload_n (n := 24) rfl rfl rfl ?_
    refine g_istore (n := 26) rfl rfl ?_
    refine g_const (n := 27) rfl rfl (s_iconst (v := 0) (by decide)) ?_
    refine g_istore (n := 29) rfl rfl ?_
    refine lp_closed29 hI hn hr (fun f' hf' => ?_) 0 (by omega) _ rfl
    refine ih (f', f) ?_ ?_
    · have h1 : f.toBitVec.toNat ≤ f'.toBitVec.toNat := by rw [hf']; exact mPass_ge
      simp only [if_neg h20]
      by_cases e : f = f'
      · rw [if_pos e]; omega
      · have := or_grow h1 e; omega
    · have := bv_top f'
      simp only
      split <;> omega
set_option maxRecDepth 20000 in
theorem st_closed110 {h l w f : Int32} {i : Nat} {Q : QT} (hl : l = Int32.ofNat i) (K : Go [] (d + 1) (some .int) tabX9_closed 5 [(0, .ref 41), (1, .int h), (2, .int w), (3, .int f), (4, .int (Int32.ofNat (i + 1)))] [] (hp (zz E T) M) 0 0 Q) : Go [] (d + 1) (some .int) tabX9_closed 110 [(0, .ref 41), (1, .int h), (2, .int w), (3, .int f), (4, .int l)] [] (hp (zz E T) M) 0 0 Q := by
  subst hl
  refine g_iinc (n := 113) rfl rfl rfl (jn_1 _) ?_
  refine g_goto rfl ?_
  exact K
set_option maxRecDepth 20000 in
theorem lp_closed5 {h w : Int32} {n hg : Nat} (hI : MI M) (hn : n ≤ 12) (hr : M 41 1 = Int32.ofNat n) (hh : M 41 30 = Int32.ofNat hg) (h8 : hg ≤ 8) : ∀ i, i ≤ hg + 1 → ∀ f, Go [] (d + 1) (some .int) tabX9_closed 5 [(0, .ref 41), (1, .int h), (2, .int w), (3, .int f), (4, .int (Int32.ofNat i))] [] (hp (zz E T) M) 0 0 (QI (zz E T) (fun _ M' => M' = M)) := by
  refine loop_up (hg + 1) ?_
  intro i hi ih f
  refine g_iload (n := 7) rfl rfl rfl ?_
  refine g_aload_n (n := 8) rfl rfl rfl ?_
  refine g_getI (n := 11) rfl rfl z_41 rfl ?_
  rw [hh]
  refine g_igt (n := 14) rfl rfl (fun h11 => ?_) (fun h11 => ?_)
  · skip
    have g9 := (jn_lt (by omega) (by omega)).mp h11
    refine g_iload_n (n := 117) rfl rfl rfl ?_
    refine g_retI rfl ?_
    rfl
  · skip
    have g9 := (jn_le (by omega) (by omega)).mp h11
    refine g_const (n := 15) rfl rfl (s_iconst (v := (-1)) (by decide)) ?_
    refine g_istore (n := 17) rfl rfl ?_
    exact lp_closed17 hI hn hr (fun f' => st_closed110 rfl (ih (by omega) f')) (f, -1)
set_option maxRecDepth 20000 in
theorem sp_closed {h f : Int32} {hg : Nat} (hI : MI M) (hh : M 41 30 = Int32.ofNat hg) (h8 : hg ≤ 8) : EvI (d + 2) miX9_closed [.ref 41, .int h, .int f] (zz E T) M (fun _ M' => M' = M) := by
  obtain ⟨n, hn, hr⟩ := hI.2.1
  refine ev_of mt_X9_closed rfl ?_
  refine g_iload_n (n := 1) rfl rfl rfl ?_
  refine g_istore_n (n := 2) rfl rfl ?_
  refine g_const (n := 3) rfl rfl (s_iconst (v := 0) (by decide)) ?_
  refine g_istore (n := 5) rfl rfl ?_
  exact lp_closed5 hI hn hr hh h8 0 (by omega) f
set_option maxRecDepth 20000 in
theorem lp_came {t h nb : Nat} (ht : 1 ≤ t) (ht6 : t ≤ 6) (h4 : h < 4) (hb : M 41 23 = Int32.ofNat nb) (hn : nb ≤ 4) : ∀ i, i ≤ 4 → ∀ f, Go [] (d + 1) (some .int) tabX9_came 5 [(0, .ref 41), (1, .int (Int32.ofNat h)), (2, .int (Int32.ofNat t)), (3, .int f), (4, .int (Int32.ofNat i))] [] (hp (zz E T) M) 0 0 (QI (zz E T) (fun _ M' => M' = M)) := by
  refine loop_up 4 ?_
  intro i hi ih f
  refine g_iload (n := 7) rfl rfl rfl ?_
  refine g_const (n := 8) rfl rfl (s_iconst (v := 4) (by decide)) ?_
  refine g_ige (n := 11) rfl rfl (fun h8 => ?_) (fun h8 => ?_)
  · skip
    have g9 := (jn_le (b := i) (a := 4) (by omega) (by omega)).mp h8
    refine g_iload_n (n := 81) rfl rfl rfl ?_
    refine g_retI rfl ?_
    rfl
  · skip
    have g9 := (jn_lt (b := 4) (a := i) (by omega) (by omega)).mp h8
    refine g_iload (n := 13) rfl rfl rfl ?_
    refine g_iload_n (n := 14) rfl rfl rfl ?_
    refine g_ieq (n := 17) rfl rfl (fun h14 => ?_) (fun h14 => ?_)
    · skip
      refine g_const (n := 42) rfl rfl (s_iconst (v := 0) (by decide)) ?_
      refine g_istore (n := 44) rfl rfl ?_
      refine g_iload_n (n := 45) rfl rfl rfl ?_
      refine g_iload (n := 47) rfl rfl rfl ?_
      refine g_zeq (n := 50) rfl rfl (fun h47 => ?_) (fun h47 => ?_)
      · skip
        refine g_aload_n (n := 55) rfl rfl rfl ?_
        refine g_getR (n := 58) rfl rfl z_41 rfl ?_
        refine g_const (n := 60) rfl rfl (s_bipush (v := 16) (by decide)) ?_
        refine g_iload_n (n := 61) rfl rfl rfl ?_
        refine g_const (n := 62) rfl rfl (s_iconst (v := 1) (by decide)) ?_
        refine g_isub (n := 63) rfl rfl ?_
        refine g_imul (n := 64) rfl rfl ?_
        refine g_const (n := 65) rfl rfl (s_iconst (v := 4) (by decide)) ?_
        refine g_iload (n := 67) rfl rfl rfl ?_
        refine g_imul (n := 68) rfl rfl ?_
        refine g_iadd (n := 69) rfl rfl ?_
        refine g_iload_n (n := 70) rfl rfl rfl ?_
        refine g_iadd (n := 71) rfl rfl ?_
        refine g_iald (n := 72) rfl rfl z_57 rfl (ix16 t i h ht) (by omega) ?_
        refine g_ior (n := 73) rfl rfl ?_
        refine g_istore_n (n := 74) rfl rfl ?_
        refine g_iinc (n := 77) rfl rfl rfl (jn_1 _) ?_
        refine g_goto rfl ?_
        refine go_only 5 ?_; exact ih g9 _
      · skip
        exact absurd h47 (by decide)
    · skip
      refine g_aload_n (n := 18) rfl rfl rfl ?_
      refine g_const (n := 20) rfl rfl (s_bipush (v := 16) (by decide)) ?_
      refine g_iload_n (n := 21) rfl rfl rfl ?_
      refine g_const (n := 22) rfl rfl (s_iconst (v := 1) (by decide)) ?_
      refine g_isub (n := 23) rfl rfl ?_
      refine g_imul (n := 24) rfl rfl ?_
      refine g_const (n := 25) rfl rfl (s_iconst (v := 4) (by decide)) ?_
      refine g_iload (n := 27) rfl rfl rfl ?_
      refine g_imul (n := 28) rfl rfl ?_
      refine g_iadd (n := 29) rfl rfl ?_
      refine g_iload_n (n := 30) rfl rfl rfl ?_
      refine g_iadd (n := 31) rfl rfl ?_
      refine g_cP2 (n := 34) rfl rfl rfl rfl mt_X9_isStruck rfl rfl (r_k z_41) (sp_isStruck hb hn) ?_
      refine g_bz (n := 37) rfl rfl (fun h34 => ?_) (fun h34 => ?_)
      · skip
        refine g_const (n := 42) rfl rfl (s_iconst (v := 0) (by decide)) ?_
        refine g_istore (n := 44) rfl rfl ?_
        refine g_iload_n (n := 45) rfl rfl rfl ?_
        refine g_iload (n := 47) rfl rfl rfl ?_
        refine g_zeq (n := 50) rfl rfl (fun h47 => ?_) (fun h47 => ?_)
        · skip
          refine g_aload_n (n := 55) rfl rfl rfl ?_
          refine g_getR (n := 58) rfl rfl z_41 rfl ?_
          refine g_const (n := 60) rfl rfl (s_bipush (v := 16) (by decide)) ?_
          refine g_iload_n (n := 61) rfl rfl rfl ?_
          refine g_const (n := 62) rfl rfl (s_iconst (v := 1) (by decide)) ?_
          refine g_isub (n := 63) rfl rfl ?_
          refine g_imul (n := 64) rfl rfl ?_
          refine g_const (n := 65) rfl rfl (s_iconst (v := 4) (by decide)) ?_
          refine g_iload (n := 67) rfl rfl rfl ?_
          refine g_imul (n := 68) rfl rfl ?_
          refine g_iadd (n := 69) rfl rfl ?_
          refine g_iload_n (n := 70) rfl rfl rfl ?_
          refine g_iadd (n := 71) rfl rfl ?_
          refine g_iald (n := 72) rfl rfl z_57 rfl (ix16 t i h ht) (by omega) ?_
          refine g_ior (n := 73) rfl rfl ?_
          refine g_istore_n (n := 74) rfl rfl ?_
          refine g_iinc (n := 77) rfl rfl rfl (jn_1 _) ?_
          refine g_goto rfl ?_
          refine go_only 5 ?_; exact ih g9 _
        · skip
          exact absurd h47 (by decide)
      · skip
        refine g_const (n := 38) rfl rfl (s_iconst (v := 1) (by decide)) ?_
        refine g_goto rfl ?_
        refine g_istore (n := 44) rfl rfl ?_
        refine g_iload_n (n := 45) rfl rfl rfl ?_
        refine g_iload (n := 47) rfl rfl rfl ?_
        refine g_zeq (n := 50) rfl rfl (fun h47 => ?_) (fun h47 => ?_)
        · skip
          exact absurd h47 (by decide)
        · skip
          refine g_const (n := 51) rfl rfl (s_iconst (v := 0) (by decide)) ?_
          refine g_goto rfl ?_
          refine g_ior (n := 73) rfl rfl ?_
          refine g_istore_n (n := 74) rfl rfl ?_
          refine g_iinc (n := 77) rfl rfl rfl (jn_1 _) ?_
          refine g_goto rfl ?_
          refine go_only 5 ?_; exact ih g9 _
set_option maxRecDepth 20000 in
theorem sp_came {t h nb : Nat} (ht : 1 ≤ t) (ht6 : t ≤ 6) (h4 : h < 4) (hb : M 41 23 = Int32.ofNat nb) (hn : nb ≤ 4) : EvI (d + 2) miX9_came [.ref 41, .int (Int32.ofNat h), .int (Int32.ofNat t)] (zz E T) M (fun _ M' => M' = M) := by
  refine ev_of mt_X9_came rfl ?_
  refine g_const (n := 1) rfl rfl (s_iconst (v := 0) (by decide)) ?_
  refine g_istore_n (n := 2) rfl rfl ?_
  refine g_const (n := 3) rfl rfl (s_iconst (v := 0) (by decide)) ?_
  refine g_istore (n := 5) rfl rfl ?_
  exact lp_came ht ht6 h4 hb hn 0 (by omega) _
set_option maxRecDepth 20000 in
theorem lp_keptBy {t h n : Nat} (hI : MI M) (ht6 : t ≤ 6) (h4 : h < 4) (hn : n ≤ 12) (hr : M 41 1 = Int32.ofNat n) : ∀ i, i ≤ n → ∀ f, Go [] (d + 1) (some .int) tabX9_keptBy 5 [(0, .ref 41), (1, .int (Int32.ofNat h)), (2, .int (Int32.ofNat t)), (3, .int f), (4, .int (Int32.ofNat i))] [] (hp (zz E T) M) 0 0 (QI (zz E T) (fun _ M' => M' = M)) := by
  refine loop_up n ?_
  intro i hi ih f
  refine g_iload (n := 7) rfl rfl rfl ?_
  refine g_aload_n (n := 8) rfl rfl rfl ?_
  refine g_getI (n := 11) rfl rfl z_41 rfl ?_
  rw [hr]
  refine g_ige (n := 14) rfl rfl (fun h11 => ?_) (fun h11 => ?_)
  · skip
    have g9 := (jn_le (by omega) (by omega)).mp h11
    refine g_iload_n (n := 86) rfl rfl rfl ?_
    refine g_retI rfl ?_
    rfl
  · skip
    have g9 := (jn_lt (by omega) (by omega)).mp h11
    refine g_iload_n (n := 15) rfl rfl rfl ?_
    refine g_aload_n (n := 16) rfl rfl rfl ?_
    refine g_iload_n (n := 17) rfl rfl rfl ?_
    refine g_iload_n (n := 18) rfl rfl rfl ?_
    refine g_cP3 (n := 21) rfl rfl rfl rfl mt_X9_isFallen rfl rfl (r_k z_41) (sp_isFallen h4) ?_
    refine g_bnz (n := 24) rfl rfl (fun h21 => ?_) (fun h21 => ?_)
    · skip
      refine g_const (n := 77) rfl rfl (s_iconst (v := 0) (by decide)) ?_
      refine g_ior (n := 78) rfl rfl ?_
      refine g_istore_n (n := 79) rfl rfl ?_
      refine g_iinc (n := 82) rfl rfl rfl (jn_1 _) ?_
      refine g_goto rfl ?_
      exact ih g9 _
    · skip
      refine g_aload_n (n := 25) rfl rfl rfl ?_
      refine g_getR (n := 28) rfl rfl z_41 rfl ?_
      refine g_iload (n := 30) rfl rfl rfl ?_
      refine g_iald (n := 31) rfl rfl z_43 rfl rfl (by omega) ?_
      refine g_const (n := 32) rfl rfl (s_iconst (v := 1) (by decide)) ?_
      refine g_ine (n := 35) rfl rfl (fun h32 => ?_) (fun h32 => ?_)
      · skip
        refine g_const (n := 77) rfl rfl (s_iconst (v := 0) (by decide)) ?_
        refine g_ior (n := 78) rfl rfl ?_
        refine g_istore_n (n := 79) rfl rfl ?_
        refine g_iinc (n := 82) rfl rfl rfl (jn_1 _) ?_
        refine g_goto rfl ?_
        exact ih g9 _
      · skip
        refine g_aload_n (n := 36) rfl rfl rfl ?_
        refine g_iload (n := 38) rfl rfl rfl ?_
        refine g_iload_n (n := 39) rfl rfl rfl ?_
        refine g_cP3 (n := 42) rfl rfl rfl rfl mt_X9_counts rfl rfl (r_k z_41) (sp_counts (by omega)) ?_
        refine g_bz (n := 45) rfl rfl (fun h42 => ?_) (fun h42 => ?_)
        · skip
          refine g_const (n := 77) rfl rfl (s_iconst (v := 0) (by decide)) ?_
          refine g_ior (n := 78) rfl rfl ?_
          refine g_istore_n (n := 79) rfl rfl ?_
          refine g_iinc (n := 82) rfl rfl rfl (jn_1 _) ?_
          refine g_goto rfl ?_
          exact ih g9 _
        · skip
          refine g_aload_n (n := 46) rfl rfl rfl ?_
          refine g_iload (n := 48) rfl rfl rfl ?_
          refine g_aload_n (n := 49) rfl rfl rfl ?_
          refine g_getR (n := 52) rfl rfl z_41 rfl ?_
          refine g_const (n := 53) rfl rfl (s_iconst (v := 4) (by decide)) ?_
          refine g_iload_n (n := 54) rfl rfl rfl ?_
          refine g_imul (n := 55) rfl rfl ?_
          refine g_iload_n (n := 56) rfl rfl rfl ?_
          refine g_iadd (n := 57) rfl rfl ?_
          refine g_iald (n := 58) rfl rfl z_56 rfl (ix44 t h) (by omega) ?_
          refine g_cP3 (n := 61) rfl rfl rfl rfl mt_X9_fits rfl rfl (r_k z_41) (sp_fits (by omega)) ?_
          refine g_bz (n := 64) rfl rfl (fun h61 => ?_) (fun h61 => ?_)
          · skip
            refine g_const (n := 77) rfl rfl (s_iconst (v := 0) (by decide)) ?_
            refine g_ior (n := 78) rfl rfl ?_
            refine g_istore_n (n := 79) rfl rfl ?_
            refine g_iinc (n := 82) rfl rfl rfl (jn_1 _) ?_
            refine g_goto rfl ?_
            exact ih g9 _
          · skip
            refine g_const (n := 65) rfl rfl (s_iconst (v := 1) (by decide)) ?_
            refine g_aload_n (n := 66) rfl rfl rfl ?_
            refine g_getR (n := 69) rfl rfl z_41 rfl ?_
            refine g_iload (n := 71) rfl rfl rfl ?_
            refine g_iald (n := 72) rfl rfl z_44 rfl rfl (by omega) ?_
            refine g_ishl (n := 73) rfl rfl ?_
            refine g_goto rfl ?_
            refine g_ior (n := 78) rfl rfl ?_
            refine g_istore_n (n := 79) rfl rfl ?_
            refine g_iinc (n := 82) rfl rfl rfl (jn_1 _) ?_
            refine g_goto rfl ?_
            exact ih g9 _
set_option maxRecDepth 20000 in
theorem sp_keptBy {t h : Nat} (hI : MI M) (ht6 : t ≤ 6) (h4 : h < 4) : EvI (d + 2) miX9_keptBy [.ref 41, .int (Int32.ofNat h), .int (Int32.ofNat t)] (zz E T) M (fun _ M' => M' = M) := by
  obtain ⟨n, hn, hr⟩ := hI.2.1
  refine ev_of mt_X9_keptBy rfl ?_
  refine g_const (n := 1) rfl rfl (s_iconst (v := 0) (by decide)) ?_
  refine g_istore_n (n := 2) rfl rfl ?_
  refine g_const (n := 3) rfl rfl (s_iconst (v := 0) (by decide)) ?_
  refine g_istore (n := 5) rfl rfl ?_
  exact lp_keptBy hI ht6 h4 hn hr 0 (by omega) _
/-- what the cells are while a run goes on -/
def RI (M M1 : Mem) : Prop := mKeep M M1 ∧ jU 8 (M1 41 30) ∧ M1 41 23 = M 41 23 ∧ ∀ k, M1 54 k = M 54 k
set_option maxRecDepth 20000 in
theorem lp_falls2 {Q : QT} (K : ∀ M1, mKeep M M1 → M1 41 23 = M 41 23 → (∀ k, M1 54 k = M 54 k) → Go [] (d + 2) none tabX9_falls 21 [(0, .ref 41)] [] (hp (zz E T) M1) 0 0 Q) : ∀ i, i ≤ 4 → ∀ M1, mKeep M M1 → M1 41 23 = M 41 23 → (∀ k, M1 54 k = M 54 k) → Go [] (d + 2) none tabX9_falls 2 [(0, .ref 41), (1, .int (Int32.ofNat i))] [] (hp (zz E T) M1) 0 0 Q := by
  refine loop_up 4 ?_
  intro i hi ih M1 k1 k2 k3
  refine g_iload_n (n := 3) rfl rfl rfl ?_
  refine g_const (n := 4) rfl rfl (s_iconst (v := 4) (by decide)) ?_
  refine g_ige (n := 7) rfl rfl (fun h4 => ?_) (fun h4 => ?_)
  · skip
    have g9 := (jn_le (b := i) (a := 4) (by omega) (by omega)).mp h4
    refine go_only 1 ?_; exact K M1 k1 k2 k3
  · skip
    have g9 := (jn_lt (b := 4) (a := i) (by omega) (by omega)).mp h4
    refine g_aload_n (n := 8) rfl rfl rfl ?_
    refine g_getR (n := 11) rfl rfl z_41 rfl ?_
    refine g_iload_n (n := 12) rfl rfl rfl ?_
    refine g_const (n := 14) rfl rfl (s_bipush (v := 100) (by decide)) ?_
    refine g_iast (n := 15) rfl rfl z_58 rfl rfl (by omega) ?_
    refine g_iinc (n := 18) rfl rfl rfl (jn_1 _) ?_
    refine g_goto rfl ?_
    exact ih g9 _ (k1.up rfl) k2 k3
set_option maxRecDepth 20000 in
theorem lp_falls23 {nb : Nat} (hb : M 41 23 = Int32.ofNat nb) (hn : nb ≤ 4) (hp0 : ∀ k, k < nb → 0 ≤ M 54 k) : ∀ i, i ≤ nb → ∀ M1, mKeep M M1 → M1 41 23 = M 41 23 → (∀ k, M1 54 k = M 54 k) → Go [] (d + 2) none tabX9_falls 23 [(0, .ref 41), (1, .int (Int32.ofNat i))] [] (hp (zz E T) M1) 0 0 (QV (zz E T) (fun M1 => mKeep M M1 ∧ M1 41 23 = M 41 23 ∧ ∀ k, M1 54 k = M 54 k)) := by
  refine loop_up nb ?_
  intro i hi ih M1 k1 k2 k3
  refine g_iload_n (n := 24) rfl rfl rfl ?_
  refine g_aload_n (n := 25) rfl rfl rfl ?_
  refine g_getI (n := 28) rfl rfl z_41 rfl ?_
  refine g_ige (n := 31) rfl rfl (fun h28 => ?_) (fun h28 => ?_)
  · skip
    rw [k2, hb] at h28
    have g9 := (jn_le (by omega) (by omega)).mp h28
    refine g_retV rfl ?_
    exact ⟨k1, k2, k3⟩
  · skip
    rw [k2, hb] at h28
    have g9 := (jn_lt (by omega) (by omega)).mp h28
    obtain ⟨j, hj, ej⟩ := rem4 (x := M1 54 i) (by rw [k3]; exact hp0 i (by omega))
    refine g_aload_n (n := 32) rfl rfl rfl ?_
    refine g_getR (n := 35) rfl rfl z_41 rfl ?_
    refine g_iload_n (n := 36) rfl rfl rfl ?_
    refine g_iald (n := 37) rfl rfl z_54 rfl rfl (by omega) ?_
    refine g_const (n := 38) rfl rfl (s_iconst (v := 4) (by decide)) ?_
    refine g_irem (n := 39) rfl rfl rfl ?_
    rw [ej]
    refine g_istore_n (n := 40) rfl rfl ?_
    refine g_aload_n (n := 41) rfl rfl rfl ?_
    refine g_getR (n := 44) rfl rfl z_41 rfl ?_
    refine g_iload_n (n := 45) rfl rfl rfl ?_
    refine g_aload_n (n := 46) rfl rfl rfl ?_
    refine g_getR (n := 49) rfl rfl z_41 rfl ?_
    refine g_iload_n (n := 50) rfl rfl rfl ?_
    refine g_iald (n := 51) rfl rfl z_54 rfl rfl (by omega) ?_
    refine g_cP1 (n := 54) rfl rfl rfl rfl mt_X9_isLoss rfl rfl rfl (sp_isLoss) ?_
    refine g_bnz (n := 57) rfl rfl (fun h54 => ?_) (fun h54 => ?_)
    · skip
      refine g_aload_n (n := 88) rfl rfl rfl ?_
      refine g_getR (n := 91) rfl rfl z_41 rfl ?_
      refine g_iload_n (n := 92) rfl rfl rfl ?_
      refine g_iald (n := 93) rfl rfl z_58 rfl rfl (by omega) ?_
      refine g_iast (n := 94) rfl rfl z_58 rfl rfl (by omega) ?_
      refine g_iinc (n := 97) rfl rfl rfl (jn_1 _) ?_
      refine g_goto rfl ?_
      refine go_only 2 ?_
      refine ih g9 _ ?_ ?_ ?_
      · exact k1.up rfl
      · exact k2
      · exact k3
    · skip
      refine g_aload_n (n := 58) rfl rfl rfl ?_
      refine g_getR (n := 61) rfl rfl z_41 rfl ?_
      refine g_iload_n (n := 62) rfl rfl rfl ?_
      refine g_iald (n := 63) rfl rfl z_54 rfl rfl (by omega) ?_
      refine g_cP1 (n := 66) rfl rfl rfl rfl mt_X9_tickOf rfl rfl rfl (sp_tickOf) ?_
      refine g_aload_n (n := 67) rfl rfl rfl ?_
      refine g_getR (n := 70) rfl rfl z_41 rfl ?_
      refine g_iload_n (n := 71) rfl rfl rfl ?_
      refine g_iald (n := 72) rfl rfl z_58 rfl rfl (by omega) ?_
      refine g_ige (n := 75) rfl rfl (fun h72 => ?_) (fun h72 => ?_)
      · skip
        refine g_aload_n (n := 88) rfl rfl rfl ?_
        refine g_getR (n := 91) rfl rfl z_41 rfl ?_
        refine g_iload_n (n := 92) rfl rfl rfl ?_
        refine g_iald (n := 93) rfl rfl z_58 rfl rfl (by omega) ?_
        refine g_iast (n := 94) rfl rfl z_58 rfl rfl (by omega) ?_
        refine g_iinc (n := 97) rfl rfl rfl (jn_1 _) ?_
        refine g_goto rfl ?_
        refine go_only 2 ?_
        refine ih g9 _ ?_ ?_ ?_
        · exact k1.up rfl
        · exact k2
        · exact k3
      · skip
        refine g_aload_n (n := 76) rfl rfl rfl ?_
        refine g_getR (n := 79) rfl rfl z_41 rfl ?_
        refine g_iload_n (n := 80) rfl rfl rfl ?_
        refine g_iald (n := 81) rfl rfl z_54 rfl rfl (by omega) ?_
        refine g_cP1 (n := 84) rfl rfl rfl rfl mt_X9_tickOf rfl rfl rfl (sp_tickOf) ?_
        refine g_goto rfl ?_
        refine g_iast (n := 94) rfl rfl z_58 rfl rfl (by omega) ?_
        refine g_iinc (n := 97) rfl rfl rfl (jn_1 _) ?_
        refine g_goto rfl ?_
        refine go_only 2 ?_
        refine ih g9 _ ?_ ?_ ?_
        · exact k1.up rfl
        · exact k2
        · exact k3
set_option maxRecDepth 20000 in
theorem sp_falls {nb : Nat} (hb : M 41 23 = Int32.ofNat nb) (hn : nb ≤ 4) (hp0 : ∀ k, k < nb → 0 ≤ M 54 k) : EvV (d + 3) miX9_falls [.ref 41] (zz E T) M (fun M1 => mKeep M M1 ∧ M1 41 23 = M 41 23 ∧ ∀ k, M1 54 k = M 54 k) := by
  refine ev_of mt_X9_falls rfl ?_
  refine g_const (n := 1) rfl rfl (s_iconst (v := 0) (by decide)) ?_
  refine g_istore_n (n := 2) rfl rfl ?_
  refine lp_falls2 (M := M) (fun M1 k1 k2 k3 => ?_) 0 (by omega) M mKeep.rf rfl (fun _ => rfl)
  refine g_const (n := 22) rfl rfl (s_iconst (v := 0) (by decide)) ?_
  refine g_istore_n (n := 23) rfl rfl ?_
  exact lp_falls23 hb hn hp0 0 (by omega) M1 k1 k2 k3
set_option maxRecDepth 20000 in
theorem RI.up {M M1 : Mem} {q j : Nat} {x : Int32} (h : RI M M1) (hq : (Nat.blt 54 q && Nat.blt q 59) = true) : RI M (mup M1 q j x) := by
  simp only [Bool.and_eq_true, Nat.blt_eq] at hq
  have hs : mScr q j = true := by
    have h1 : Nat.blt 53 q = true := Nat.blt_eq.mpr (by omega)
    have h2 : Nat.blt q 59 = true := Nat.blt_eq.mpr (by omega)
    simp only [mScr, h1, h2, Bool.and_self, Bool.true_or]
  refine ⟨h.1.up hs, ?_, ?_, fun k => ?_⟩
  · rw [mup_q (by omega)]; exact h.2.1
  · rw [mup_q (by omega)]; exact h.2.2.1
  · rw [mup_q (by omega)]; exact h.2.2.2 k
set_option maxRecDepth 20000 in
/-- runs: the letters of a host at a tick -/
theorem lp_runs204 {t h n : Nat} {fl : Bool} (hI : MI M) (ht6 : t ≤ 6) (h4 : h < 4) (hn : n ≤ 12) (hr : M 41 1 = Int32.ofNat n) {Q : QT} (K : ∀ M1, RI M M1 → Go [] (d + 3) none tabX9_runs 288 [(0, .ref 41), (1, .int (Int32.ofNat t)), (2, .int (Int32.ofNat h))] [] (hp (zz E T) M1) 0 0 Q) : ∀ i, i ≤ n → ∀ M1, RI M M1 → Go [] (d + 3) none tabX9_runs 204 [(0, .ref 41), (1, .int (Int32.ofNat t)), (2, .int (Int32.ofNat h)), (3, .int (Int32.ofNat (4 * t + h))), (4, .int (bI fl)), (5, .int (Int32.ofNat i))] [] (hp (zz E T) M1) 0 0 Q := by
  refine loop_up n ?_
  intro i hi ih M1 k1
  have hI1 := hI.keep k1.1
  have hr1 : M1 41 1 = Int32.ofNat n := (k1.1 41 1 rfl).trans hr
  refine g_iload (n := 206) rfl rfl rfl ?_
  refine g_aload_n (n := 207) rfl rfl rfl ?_
  refine g_getI (n := 210) rfl rfl z_41 rfl ?_
  refine g_ige (n := 213) rfl rfl (fun h210 => ?_) (fun h210 => ?_)
  · skip
    rw [hr1] at h210
    have g9 := (jn_le (by omega) (by omega)).mp h210
    refine go_only 3 ?_; exact K M1 k1
  · skip
    rw [hr1] at h210
    have g9 := (jn_lt (by omega) (by omega)).mp h210
    obtain ⟨-, -, -, -, ⟨to, hto, eto⟩⟩ := hI1.2.2.1 i (by omega)
    refine g_iload (n := 215) rfl rfl rfl ?_
    refine g_bnz (n := 218) rfl rfl (fun h215 => ?_) (fun h215 => ?_)
    · skip
      refine go_only 3 ?_; exact K M1 k1
    · skip
      refine g_aload_n (n := 219) rfl rfl rfl ?_
      refine g_getR (n := 222) rfl rfl z_41 rfl ?_
      refine g_iload (n := 224) rfl rfl rfl ?_
      refine g_iald (n := 225) rfl rfl z_43 rfl rfl (by omega) ?_
      refine g_const (n := 226) rfl rfl (s_iconst (v := 2) (by decide)) ?_
      refine g_ine (n := 229) rfl rfl (fun h226 => ?_) (fun h226 => ?_)
      · skip
        refine g_iinc (n := 285) rfl rfl rfl (jn_1 _) ?_
        refine g_goto rfl ?_
        refine ih g9 _ ?_
        first | exact k1 | exact k1.up rfl
      · skip
        refine g_aload_n (n := 230) rfl rfl rfl ?_
        refine g_iload (n := 232) rfl rfl rfl ?_
        refine g_iload_n (n := 233) rfl rfl rfl ?_
        refine g_cP3 (n := 236) rfl rfl rfl rfl mt_X9_counts rfl rfl (r_k z_41) (sp_counts (by omega)) ?_
        refine g_bz (n := 239) rfl rfl (fun h236 => ?_) (fun h236 => ?_)
        · skip
          refine g_iinc (n := 285) rfl rfl rfl (jn_1 _) ?_
          refine g_goto rfl ?_
          refine ih g9 _ ?_
          first | exact k1 | exact k1.up rfl
        · skip
          refine g_aload_n (n := 240) rfl rfl rfl ?_
          refine g_iload (n := 242) rfl rfl rfl ?_
          refine g_aload_n (n := 243) rfl rfl rfl ?_
          refine g_getR (n := 246) rfl rfl z_41 rfl ?_
          refine g_iload_n (n := 247) rfl rfl rfl ?_
          refine g_iald (n := 248) rfl rfl z_56 rfl rfl (by omega) ?_
          refine g_cP3 (n := 251) rfl rfl rfl rfl mt_X9_fits rfl rfl (r_k z_41) (sp_fits (by omega)) ?_
          refine g_bz (n := 254) rfl rfl (fun h251 => ?_) (fun h251 => ?_)
          · skip
            refine g_iinc (n := 285) rfl rfl rfl (jn_1 _) ?_
            refine g_goto rfl ?_
            refine ih g9 _ ?_
            first | exact k1 | exact k1.up rfl
          · skip
            refine g_aload_n (n := 255) rfl rfl rfl ?_
            refine g_getR (n := 258) rfl rfl z_41 rfl ?_
            refine g_const (n := 259) rfl rfl (s_iconst (v := 4) (by decide)) ?_
            refine g_iload_n (n := 260) rfl rfl rfl ?_
            refine g_imul (n := 261) rfl rfl ?_
            refine g_aload_n (n := 262) rfl rfl rfl ?_
            refine g_getR (n := 265) rfl rfl z_41 rfl ?_
            refine g_iload (n := 267) rfl rfl rfl ?_
            refine g_iald (n := 268) rfl rfl z_48 rfl rfl (by omega) ?_
            refine g_iadd (n := 269) rfl rfl ?_
            refine g_dup2 (n := 270) rfl rfl ?_
            refine g_iald (n := 271) rfl rfl z_57 rfl (by rw [eto]; exact ix44 _ _) (by omega) ?_
            refine g_const (n := 272) rfl rfl (s_iconst (v := 1) (by decide)) ?_
            refine g_aload_n (n := 273) rfl rfl rfl ?_
            refine g_getR (n := 276) rfl rfl z_41 rfl ?_
            refine g_iload (n := 278) rfl rfl rfl ?_
            refine g_iald (n := 279) rfl rfl z_44 rfl rfl (by omega) ?_
            refine g_ishl (n := 280) rfl rfl ?_
            refine g_ior (n := 281) rfl rfl ?_
            refine g_iast (n := 282) rfl rfl z_57 rfl (by rw [eto]; exact ix44 _ _) (by omega) ?_
            refine g_iinc (n := 285) rfl rfl rfl (jn_1 _) ?_
            refine g_goto rfl ?_
            refine ih g9 _ ?_
            first | exact k1 | exact k1.up rfl
set_option maxRecDepth 20000 in
theorem lp_runs177 {t h n : Nat} {fl : Bool} (hI : MI M) (ht6 : t ≤ 6) (h4 : h < 4) (hn : n ≤ 12) (hr : M 41 1 = Int32.ofNat n) {Q : QT} (K : ∀ M1, RI M M1 → Go [] (d + 3) none tabX9_runs 288 [(0, .ref 41), (1, .int (Int32.ofNat t)), (2, .int (Int32.ofNat h))] [] (hp (zz E T) M1) 0 0 Q) : ∀ i, i ≤ 4 → ∀ M1, RI M M1 → Go [] (d + 3) none tabX9_runs 177 [(0, .ref 41), (1, .int (Int32.ofNat t)), (2, .int (Int32.ofNat h)), (3, .int (Int32.ofNat (4 * t + h))), (4, .int (bI fl)), (5, .int (Int32.ofNat i))] [] (hp (zz E T) M1) 0 0 Q := by
  refine loop_up 4 ?_
  intro i hi ih M1 k1
  refine g_iload (n := 179) rfl rfl rfl ?_
  refine g_const (n := 180) rfl rfl (s_iconst (v := 4) (by decide)) ?_
  refine g_ige (n := 183) rfl rfl (fun h180 => ?_) (fun h180 => ?_)
  · skip
    have g9 := (jn_le (b := i) (a := 4) (by omega) (by omega)).mp h180
    refine g_const (n := 202) rfl rfl (s_iconst (v := 0) (by decide)) ?_
    refine g_istore (n := 204) rfl rfl ?_
    exact lp_runs204 hI ht6 h4 hn hr K 0 (by omega) M1 k1
  · skip
    have g9 := (jn_lt (b := 4) (a := i) (by omega) (by omega)).mp h180
    refine g_aload_n (n := 184) rfl rfl rfl ?_
    refine g_getR (n := 187) rfl rfl z_41 rfl ?_
    refine g_const (n := 188) rfl rfl (s_iconst (v := 4) (by decide)) ?_
    refine g_iload_n (n := 189) rfl rfl rfl ?_
    refine g_imul (n := 190) rfl rfl ?_
    refine g_iload (n := 192) rfl rfl rfl ?_
    refine g_iadd (n := 193) rfl rfl ?_
    refine g_const (n := 194) rfl rfl (s_iconst (v := 0) (by decide)) ?_
    refine g_iast (n := 195) rfl rfl z_57 rfl (ix44 _ _) (by omega) ?_
    refine g_iinc (n := 198) rfl rfl rfl (jn_1 _) ?_
    refine g_goto rfl ?_
    refine ih g9 _ ?_
    exact k1.up rfl
set_option maxRecDepth 20000 in
theorem st_runs147 {t h n : Nat} {fl : Bool} {v : Int32} (hI : MI M) (ht6 : t ≤ 6) (h4 : h < 4) (hn : n ≤ 12) (hr : M 41 1 = Int32.ofNat n) {Q : QT} (K : ∀ M1, RI M M1 → Go [] (d + 3) none tabX9_runs 288 [(0, .ref 41), (1, .int (Int32.ofNat t)), (2, .int (Int32.ofNat h))] [] (hp (zz E T) M1) 0 0 Q) {M1 : Mem} (k1 : RI M M1) : Go [] (d + 3) none tabX9_runs 147 [(0, .ref 41), (1, .int (Int32.ofNat t)), (2, .int (Int32.ofNat h)), (3, .int (Int32.ofNat (4 * t + h))), (4, .int (bI fl))] [.int v, .int (Int32.ofNat (4 * t + h)), .ref 55] (hp (zz E T) M1) 0 0 Q := by
  have k2 : RI M (mup M1 55 (4 * t + h) v) := k1.up rfl
  obtain ⟨hg, h8, eg⟩ := k2.2.1
  refine g_iast (n := 148) rfl rfl z_55 rfl rfl (by omega) ?_
  refine g_aload_n (n := 149) rfl rfl rfl ?_
  refine g_getR (n := 152) rfl rfl z_41 rfl ?_
  refine g_iload_n (n := 153) rfl rfl rfl ?_
  refine g_iload (n := 155) rfl rfl rfl ?_
  refine g_bz (n := 158) rfl rfl (fun h155 => ?_) (fun h155 => ?_)
  · skip
    refine g_aload_n (n := 163) rfl rfl rfl ?_
    refine g_iload_n (n := 164) rfl rfl rfl ?_
    refine g_aload_n (n := 165) rfl rfl rfl ?_
    refine g_getR (n := 168) rfl rfl z_41 rfl ?_
    refine g_iload_n (n := 169) rfl rfl rfl ?_
    refine g_iald (n := 170) rfl rfl z_55 rfl rfl (by omega) ?_
    refine g_cI3 (n := 173) rfl rfl rfl rfl mt_X9_closed rfl rfl (r_k z_41) (sp_closed (hI.keep k2.1) eg h8) ?_
    rintro x170 M170 rfl
    refine g_iast (n := 174) rfl rfl z_56 rfl rfl (by omega) ?_
    refine g_const (n := 175) rfl rfl (s_iconst (v := 0) (by decide)) ?_
    refine g_istore (n := 177) rfl rfl ?_
    refine lp_runs177 hI ht6 h4 hn hr K 0 (by omega) _ ?_
    exact k2.up rfl
  · skip
    refine g_const (n := 159) rfl rfl (s_iconst (v := 0) (by decide)) ?_
    refine g_goto rfl ?_
    refine g_iast (n := 174) rfl rfl z_56 rfl rfl (by omega) ?_
    refine g_const (n := 175) rfl rfl (s_iconst (v := 0) (by decide)) ?_
    refine g_istore (n := 177) rfl rfl ?_
    refine lp_runs177 hI ht6 h4 hn hr K 0 (by omega) _ ?_
    exact k2.up rfl
set_option maxRecDepth 20000 in
theorem lp_runs86 {t n nb : Nat} (hI : MI M) (ht6 : t ≤ 6) (hn : n ≤ 12) (hr : M 41 1 = Int32.ofNat n) (hb : M 41 23 = Int32.ofNat nb) (hn4 : nb ≤ 4) {Q : QT} (K : ∀ M1, RI M M1 → Go [] (d + 3) none tabX9_runs 294 [(0, .ref 41), (1, .int (Int32.ofNat t))] [] (hp (zz E T) M1) 0 0 Q) : ∀ i, i ≤ 4 → ∀ M1, RI M M1 → Go [] (d + 3) none tabX9_runs 86 [(0, .ref 41), (1, .int (Int32.ofNat t)), (2, .int (Int32.ofNat i))] [] (hp (zz E T) M1) 0 0 Q := by
  refine loop_up 4 ?_
  intro i hi ih M1 k1
  have K2 : i < 4 → ∀ M1, RI M M1 → Go [] (d + 3) none tabX9_runs 288 [(0, .ref 41), (1, .int (Int32.ofNat t)), (2, .int (Int32.ofNat i))] [] (hp (zz E T) M1) 0 0 Q := by
    intro g M1 k1
    refine g_iinc (n := 291) rfl rfl rfl (jn_1 _) ?_
    refine g_goto rfl ?_
    exact ih g M1 k1
  refine g_iload_n (n := 87) rfl rfl rfl ?_
  refine g_const (n := 88) rfl rfl (s_iconst (v := 4) (by decide)) ?_
  refine g_ige (n := 91) rfl rfl (fun h88 => ?_) (fun h88 => ?_)
  · skip
    have g9 := (jn_le (b := i) (a := 4) (by omega) (by omega)).mp h88
    refine go_only 2 ?_; exact K M1 k1
  · skip
    have g9 := (jn_lt (b := 4) (a := i) (by omega) (by omega)).mp h88
    refine g_const (n := 92) rfl rfl (s_iconst (v := 4) (by decide)) ?_
    refine g_iload_n (n := 93) rfl rfl rfl ?_
    refine g_imul (n := 94) rfl rfl ?_
    refine g_iload_n (n := 95) rfl rfl rfl ?_
    refine g_iadd (n := 96) rfl rfl ?_
    rw [ix44]
    refine g_istore_n (n := 97) rfl rfl ?_
    refine g_aload_n (n := 98) rfl rfl rfl ?_
    refine g_iload_n (n := 99) rfl rfl rfl ?_
    refine g_iload_n (n := 100) rfl rfl rfl ?_
    refine g_cP3 (n := 103) rfl rfl rfl rfl mt_X9_isFallen rfl rfl (r_k z_41) (sp_isFallen g9) ?_
    refine g_istore (n := 105) rfl rfl ?_
    refine g_aload_n (n := 106) rfl rfl rfl ?_
    refine g_getR (n := 109) rfl rfl z_41 rfl ?_
    refine g_iload_n (n := 110) rfl rfl rfl ?_
    refine g_iload (n := 112) rfl rfl rfl ?_
    refine g_bz (n := 115) rfl rfl (fun h112 => ?_) (fun h112 => ?_)
    · skip
      refine g_iload_n (n := 120) rfl rfl rfl ?_
      refine g_zne (n := 123) rfl rfl (fun h120 => ?_) (fun h120 => ?_)
      · skip
        have ht1 : 1 ≤ t := by
          rcases Nat.eq_zero_or_pos t with e | e
          · subst e; exact absurd rfl h120
          · exact e
        refine g_aload_n (n := 133) rfl rfl rfl ?_
        refine g_iload_n (n := 134) rfl rfl rfl ?_
        refine g_iload_n (n := 135) rfl rfl rfl ?_
        refine g_const (n := 136) rfl rfl (s_iconst (v := 1) (by decide)) ?_
        refine g_isub (n := 137) rfl rfl ?_
        rw [show Int32.ofNat t - 1 = Int32.ofNat (t - 1) from jn_sub (b := 1) ht1]
        refine g_cI3 (n := 140) rfl rfl rfl rfl mt_X9_keptBy rfl rfl (r_k z_41) (sp_keptBy (t := t - 1) (hI.keep k1.1) (by omega) g9) ?_
        rintro x137 M137 rfl
        refine g_aload_n (n := 141) rfl rfl rfl ?_
        refine g_iload_n (n := 142) rfl rfl rfl ?_
        refine g_iload_n (n := 143) rfl rfl rfl ?_
        refine g_cI3 (n := 146) rfl rfl rfl rfl mt_X9_came rfl rfl (r_k z_41) (sp_came (t := t) (h := i) (nb := nb) (by omega) ht6 g9 (k1.2.2.1.trans hb) hn4) ?_
        rintro x143 M143 rfl
        refine g_ior (n := 147) rfl rfl ?_
        exact st_runs147 hI ht6 g9 hn hr (K2 g9) k1
      · skip
        refine g_aload_n (n := 124) rfl rfl rfl ?_
        refine g_getR (n := 127) rfl rfl z_41 rfl ?_
        refine g_iload_n (n := 128) rfl rfl rfl ?_
        refine g_iald (n := 129) rfl rfl z_50 rfl rfl (by omega) ?_
        refine g_goto rfl ?_
        exact st_runs147 hI ht6 g9 hn hr (K2 g9) k1
    · skip
      refine g_const (n := 116) rfl rfl (s_iconst (v := 0) (by decide)) ?_
      refine g_goto rfl ?_
      exact st_runs147 hI ht6 g9 hn hr (K2 g9) k1
set_option maxRecDepth 20000 in
theorem lp_runs76 {n nb e : Nat} (hI : MI M) (hn : n ≤ 12) (hr : M 41 1 = Int32.ofNat n) (hb : M 41 23 = Int32.ofNat nb) (hn4 : nb ≤ 4) (he : M 41 0 = Int32.ofNat e) (he6 : e ≤ 6) : ∀ i, i ≤ e + 1 → ∀ M1, RI M M1 → Go [] (d + 3) none tabX9_runs 76 [(0, .ref 41), (1, .int (Int32.ofNat i))] [] (hp (zz E T) M1) 0 0 (QV (zz E T) (RI M)) := by
  refine loop_up (e + 1) ?_
  intro i hi ih M1 k1
  have K2 : i < e + 1 → ∀ M1, RI M M1 → Go [] (d + 3) none tabX9_runs 294 [(0, .ref 41), (1, .int (Int32.ofNat i))] [] (hp (zz E T) M1) 0 0 (QV (zz E T) (RI M)) := by
    intro g M1 k1
    refine g_iinc (n := 297) rfl rfl rfl (jn_1 _) ?_
    refine g_goto rfl ?_
    exact ih g M1 k1
  refine g_iload_n (n := 77) rfl rfl rfl ?_
  refine g_aload_n (n := 78) rfl rfl rfl ?_
  refine g_getI (n := 81) rfl rfl z_41 rfl ?_
  refine g_igt (n := 84) rfl rfl (fun h81 => ?_) (fun h81 => ?_)
  · skip
    rw [k1.1 41 0 rfl, he] at h81
    have g9 := (jn_lt (by omega) (by omega)).mp h81
    refine g_retV rfl ?_
    exact k1
  · skip
    rw [k1.1 41 0 rfl, he] at h81
    have g9 := (jn_le (by omega) (by omega)).mp h81
    refine g_const (n := 85) rfl rfl (s_iconst (v := 0) (by decide)) ?_
    refine g_istore_n (n := 86) rfl rfl ?_
    exact lp_runs86 hI (by omega) hn hr hb hn4 (K2 (by omega)) 0 (by omega) M1 k1
set_option maxRecDepth 20000 in
theorem lp_runs11 {n : Nat} (hI : MI M) (hn : n ≤ 12) (hr : M 41 1 = Int32.ofNat n) {Q : QT} (K : ∀ M1, RI M M1 → Go [] (d + 3) none tabX9_runs 74 [(0, .ref 41)] [] (hp (zz E T) M1) 0 0 Q) : ∀ i, i ≤ n → ∀ M1, RI M M1 → Go [] (d + 3) none tabX9_runs 11 [(0, .ref 41), (1, .int (Int32.ofNat i))] [] (hp (zz E T) M1) 0 0 Q := by
  refine loop_up n ?_
  intro i hi ih M1 k1
  have hI1 := hI.keep k1.1
  have hr1 : M1 41 1 = Int32.ofNat n := (k1.1 41 1 rfl).trans hr
  have up : ∀ v, jU 8 v → RI M (mup M1 41 30 v) := fun v hv => ⟨k1.1.up rfl, hv, k1.2.2.1, k1.2.2.2⟩
  refine g_iload_n (n := 12) rfl rfl rfl ?_
  refine g_aload_n (n := 13) rfl rfl rfl ?_
  refine g_getI (n := 16) rfl rfl z_41 rfl ?_
  refine g_ige (n := 19) rfl rfl (fun h16 => ?_) (fun h16 => ?_)
  · skip
    rw [hr1] at h16
    have g9 := (jn_le (by omega) (by omega)).mp h16
    refine go_only 1 ?_; exact K M1 k1
  · skip
    rw [hr1] at h16
    have g9 := (jn_lt (by omega) (by omega)).mp h16
    obtain ⟨⟨hd, hd8, hde⟩, -⟩ := hI1.2.2.1 i (by omega)
    refine g_aload_n (n := 20) rfl rfl rfl ?_
    refine g_aload_n (n := 21) rfl rfl rfl ?_
    refine g_getR (n := 24) rfl rfl z_41 rfl ?_
    refine g_iload_n (n := 25) rfl rfl rfl ?_
    refine g_iald (n := 26) rfl rfl z_43 rfl rfl (by omega) ?_
    refine g_zne (n := 29) rfl rfl (fun h26 => ?_) (fun h26 => ?_)
    · skip
      refine g_aload_n (n := 62) rfl rfl rfl ?_
      refine g_getI (n := 65) rfl rfl z_41 rfl ?_
      refine g_putI (n := 68) rfl rfl z_41 rfl rfl ?_
      refine g_iinc (n := 71) rfl rfl rfl (jn_1 _) ?_
      refine g_goto rfl ?_
      refine ih g9 _ ?_
      first | exact up _ k1.2.1 | exact up _ (hI1.2.2.2.1 _ hd8)
    · skip
      refine g_aload_n (n := 30) rfl rfl rfl ?_
      refine g_getR (n := 33) rfl rfl z_41 rfl ?_
      refine g_aload_n (n := 34) rfl rfl rfl ?_
      refine g_getR (n := 37) rfl rfl z_41 rfl ?_
      refine g_iload_n (n := 38) rfl rfl rfl ?_
      refine g_iald (n := 39) rfl rfl z_44 rfl rfl (by omega) ?_
      refine g_iald (n := 40) rfl rfl z_51 rfl hde hd8 ?_
      refine g_aload_n (n := 41) rfl rfl rfl ?_
      refine g_getI (n := 44) rfl rfl z_41 rfl ?_
      refine g_ile (n := 47) rfl rfl (fun h44 => ?_) (fun h44 => ?_)
      · skip
        refine g_aload_n (n := 62) rfl rfl rfl ?_
        refine g_getI (n := 65) rfl rfl z_41 rfl ?_
        refine g_putI (n := 68) rfl rfl z_41 rfl rfl ?_
        refine g_iinc (n := 71) rfl rfl rfl (jn_1 _) ?_
        refine g_goto rfl ?_
        refine ih g9 _ ?_
        first | exact up _ k1.2.1 | exact up _ (hI1.2.2.2.1 _ hd8)
      · skip
        refine g_aload_n (n := 48) rfl rfl rfl ?_
        refine g_getR (n := 51) rfl rfl z_41 rfl ?_
        refine g_aload_n (n := 52) rfl rfl rfl ?_
        refine g_getR (n := 55) rfl rfl z_41 rfl ?_
        refine g_iload_n (n := 56) rfl rfl rfl ?_
        refine g_iald (n := 57) rfl rfl z_44 rfl rfl (by omega) ?_
        refine g_iald (n := 58) rfl rfl z_51 rfl hde hd8 ?_
        refine g_goto rfl ?_
        refine g_putI (n := 68) rfl rfl z_41 rfl rfl ?_
        refine g_iinc (n := 71) rfl rfl rfl (jn_1 _) ?_
        refine g_goto rfl ?_
        refine ih g9 _ ?_
        first | exact up _ k1.2.1 | exact up _ (hI1.2.2.2.1 _ hd8)
set_option maxRecDepth 20000 in
theorem sp_runsR {nb : Nat} (hI : MI M) (hb : M 41 23 = Int32.ofNat nb) (hn4 : nb ≤ 4) (hp0 : ∀ k, k < nb → 0 ≤ M 54 k) : EvV (d + 4) miX9_runs [.ref 41] (zz E T) M (RI M) := by
  obtain ⟨⟨e, -, he6, he⟩, ⟨n, hn, hr⟩, -⟩ := id hI
  refine ev_of mt_X9_runs rfl ?_
  refine g_aload_n (n := 1) rfl rfl rfl ?_
  refine g_cV1 (n := 4) rfl rfl rfl rfl mt_X9_falls rfl rfl (r_k z_41) (sp_falls hb hn4 hp0) ?_
  rintro M1 ⟨k1, k2, k3⟩
  refine g_aload_n (n := 5) rfl rfl rfl ?_
  refine g_const (n := 6) rfl rfl (s_iconst (v := 0) (by decide)) ?_
  refine g_putI (n := 9) rfl rfl z_41 rfl rfl ?_
  refine g_const (n := 10) rfl rfl (s_iconst (v := 0) (by decide)) ?_
  refine g_istore_n (n := 11) rfl rfl ?_
  refine lp_runs11 (M := M) hI hn hr (fun M2 q2 => ?_) 0 (by omega) _ ?_
  · refine g_const (n := 75) rfl rfl (s_iconst (v := 0) (by decide)) ?_
    refine g_istore_n (n := 76) rfl rfl ?_
    exact lp_runs76 hI hn hr hb hn4 he he6 0 (by omega) M2 q2
  · exact ⟨k1.up rfl, ⟨0, by omega, rfl⟩, k2, k3⟩
set_option maxRecDepth 20000 in
theorem sp_runs {nb : Nat} (hI : MI M) (hb : M 41 23 = Int32.ofNat nb) (hn4 : nb ≤ 4) (hp0 : ∀ k, k < nb → 0 ≤ M 54 k) : EvV (d + 4) miX9_runs [.ref 41] (zz E T) M (mKeep M) := evV_mono (sp_runsR hI hb hn4 hp0) (fun M' h => h.1)
set_option maxRecDepth 20000 in
theorem sp_isBroken {nb : Nat} (hI : MI M) (hb : M 41 23 = Int32.ofNat nb) (hn4 : nb ≤ 4) (hp0 : ∀ k, k < nb → 0 ≤ M 54 k) : EvI (d + 5) miX9_isBroken [.ref 41] (zz E T) M (fun x M' => (x = 0 ∨ x = 1) ∧ mKeep M M') := by
  obtain ⟨⟨e, -, he6, he⟩, -, -, -, ⟨a, ha, ea⟩, ⟨b, hb4, eb⟩, -⟩ := id hI
  refine ev_of mt_X9_isBroken rfl ?_
  refine g_aload_n (n := 1) rfl rfl rfl ?_
  refine g_cV1 (n := 4) rfl rfl rfl rfl mt_X9_runs rfl rfl (r_k z_41) (sp_runs hI hb hn4 hp0) ?_
  intro M1 k1
  have he1 : M1 41 0 = Int32.ofNat e := (k1 41 0 rfl).trans he
  have ea1 : M1 41 12 = Int32.ofNat a := (k1 41 12 rfl).trans ea
  have eb1 : M1 41 14 = Int32.ofNat b := (k1 41 14 rfl).trans eb
  refine g_aload_n (n := 5) rfl rfl rfl ?_
  refine g_getR (n := 8) rfl rfl z_41 rfl ?_
  refine g_const (n := 9) rfl rfl (s_iconst (v := 4) (by decide)) ?_
  refine g_aload_n (n := 10) rfl rfl rfl ?_
  refine g_getI (n := 13) rfl rfl z_41 rfl ?_
  refine g_imul (n := 14) rfl rfl ?_
  refine g_aload_n (n := 15) rfl rfl rfl ?_
  refine g_getI (n := 18) rfl rfl z_41 rfl ?_
  refine g_iadd (n := 19) rfl rfl ?_
  refine g_iald (n := 20) rfl rfl z_56 rfl (by rw [he1, ea1]; exact ix44 _ _) (by omega) ?_
  refine g_aload_n (n := 21) rfl rfl rfl ?_
  refine g_getI (n := 24) rfl rfl z_41 rfl ?_
  refine g_ishr (n := 25) rfl rfl ?_
  refine g_const (n := 26) rfl rfl (s_iconst (v := 1) (by decide)) ?_
  refine g_iand (n := 27) rfl rfl ?_
  refine g_const (n := 28) rfl rfl (s_iconst (v := 1) (by decide)) ?_
  refine g_ine (n := 31) rfl rfl (fun h28 => ?_) (fun h28 => ?_)
  · skip
    refine g_const (n := 36) rfl rfl (s_iconst (v := 0) (by decide)) ?_
    refine g_istore_n (n := 37) rfl rfl ?_
    refine g_iload_n (n := 38) rfl rfl rfl ?_
    refine g_zeq (n := 41) rfl rfl (fun h38 => ?_) (fun h38 => ?_)
    · skip
      refine g_const (n := 87) rfl rfl (s_iconst (v := 0) (by decide)) ?_
      refine g_retZ rfl (by decide) ?_
      exact ⟨by decide, k1⟩
    · skip
      exact absurd h38 (by decide)
  · skip
    refine g_const (n := 32) rfl rfl (s_iconst (v := 1) (by decide)) ?_
    refine g_goto rfl ?_
    refine g_istore_n (n := 37) rfl rfl ?_
    refine g_iload_n (n := 38) rfl rfl rfl ?_
    refine g_zeq (n := 41) rfl rfl (fun h38 => ?_) (fun h38 => ?_)
    · skip
      exact absurd h38 (by decide)
    · skip
      refine g_aload_n (n := 42) rfl rfl rfl ?_
      refine g_getR (n := 45) rfl rfl z_41 rfl ?_
      refine g_const (n := 46) rfl rfl (s_iconst (v := 4) (by decide)) ?_
      refine g_aload_n (n := 47) rfl rfl rfl ?_
      refine g_getI (n := 50) rfl rfl z_41 rfl ?_
      refine g_imul (n := 51) rfl rfl ?_
      refine g_aload_n (n := 52) rfl rfl rfl ?_
      refine g_getI (n := 55) rfl rfl z_41 rfl ?_
      refine g_iadd (n := 56) rfl rfl ?_
      refine g_iald (n := 57) rfl rfl z_56 rfl (by rw [he1, eb1]; exact ix44 _ _) (by omega) ?_
      refine g_aload_n (n := 58) rfl rfl rfl ?_
      refine g_getI (n := 61) rfl rfl z_41 rfl ?_
      refine g_ishr (n := 62) rfl rfl ?_
      refine g_const (n := 63) rfl rfl (s_iconst (v := 1) (by decide)) ?_
      refine g_iand (n := 64) rfl rfl ?_
      refine g_zne (n := 67) rfl rfl (fun h64 => ?_) (fun h64 => ?_)
      · skip
        refine g_const (n := 87) rfl rfl (s_iconst (v := 0) (by decide)) ?_
        refine g_retZ rfl (by decide) ?_
        exact ⟨by decide, k1⟩
      · skip
        refine g_aload_n (n := 68) rfl rfl rfl ?_
        refine g_aload_n (n := 69) rfl rfl rfl ?_
        refine g_getI (n := 72) rfl rfl z_41 rfl ?_
        refine g_aload_n (n := 73) rfl rfl rfl ?_
        refine g_getI (n := 76) rfl rfl z_41 rfl ?_
        rw [eb1]
        refine g_cP3 (n := 79) rfl rfl rfl rfl mt_X9_isFallen rfl rfl (r_k z_41) (sp_isFallen hb4) ?_
        refine g_bnz (n := 82) rfl rfl (fun h79 => ?_) (fun h79 => ?_)
        · skip
          refine g_const (n := 87) rfl rfl (s_iconst (v := 0) (by decide)) ?_
          refine g_retZ rfl (by decide) ?_
          exact ⟨by decide, k1⟩
        · skip
          refine g_const (n := 83) rfl rfl (s_iconst (v := 1) (by decide)) ?_
          refine g_goto rfl ?_
          refine g_retZ rfl (by decide) ?_
          exact ⟨by decide, k1⟩
end RM
