/-! The reference: the other calls -/
section PO
variable {E : Value} {T : List SH} {M : Mem} {d : Nat}
set_option maxRecDepth 20000 in
theorem mIn_lt {n : Nat} {x : Int32} (hn : n < 2147483648) (h : mIn x 0 (Int32.ofNat n - 1) = true) : ∃ k, k < n ∧ x = Int32.ofNat k := by
  simp only [mIn, Bool.and_eq_true, decide_eq_true_eq] at h
  obtain ⟨k, hk, rfl⟩ := jn_of h.1
  refine ⟨k, ?_, rfl⟩
  rcases Nat.eq_zero_or_pos n with e | e
  · subst e
    have h1 := Int32.le_iff_toInt_le.mp h.2
    rw [jn_toInt hk, show (Int32.ofNat 0 - 1).toInt = -1 from rfl] at h1
    omega
  · rw [show Int32.ofNat n - 1 = Int32.ofNat (n - 1) from jn_sub (b := 1) e] at h
    have := (jn_le hk (by omega)).mp h.2
    omega
set_option maxRecDepth 20000 in
theorem mIn_le {n : Nat} {x : Int32} (hn : n < 2147483647) (h : mIn x 0 (Int32.ofNat n) = true) : ∃ k, k ≤ n ∧ x = Int32.ofNat k := by
  simp only [mIn, Bool.and_eq_true, decide_eq_true_eq] at h
  exact jn_of_le hn h.1 h.2
def EndQ (M : Mem) (t x : Int32) (M' : Mem) : Prop := (mIn t 1 6 = false ∧ x = -2 ∧ M' = M) ∨ (mIn t 1 6 = true ∧ x = M 41 0 ∧ M' = mup (mup M 41 0 t) 41 19 0)
set_option maxRecDepth 20000 in
theorem sp_endM {t : Int32} : EvI (d + 2) miX9_end [.ref 41, .int t] (zz E T) M (EndQ M t) := by
  refine ev_of mt_X9_end rfl ?_
  refine g_iload_n (n := 1) rfl rfl rfl ?_
  refine g_const (n := 2) rfl rfl (s_iconst (v := 1) (by decide)) ?_
  refine g_const (n := 4) rfl rfl (s_bipush (v := 6) (by decide)) ?_
  refine g_cP3 (n := 7) rfl rfl rfl rfl mt_X9_in rfl rfl rfl (sp_in) ?_
  refine g_bnz (n := 10) rfl rfl (fun h7 => ?_) (fun h7 => ?_)
  · skip
    refine g_aload_n (n := 14) rfl rfl rfl ?_
    refine g_getI (n := 17) rfl rfl z_41 rfl ?_
    refine g_istore_n (n := 18) rfl rfl ?_
    refine g_aload_n (n := 19) rfl rfl rfl ?_
    refine g_iload_n (n := 20) rfl rfl rfl ?_
    refine g_putI (n := 23) rfl rfl z_41 rfl rfl ?_
    refine g_aload_n (n := 24) rfl rfl rfl ?_
    refine g_const (n := 25) rfl rfl (s_iconst (v := 0) (by decide)) ?_
    refine g_putI (n := 28) rfl rfl z_41 rfl rfl ?_
    refine g_iload_n (n := 29) rfl rfl rfl ?_
    refine g_retI rfl ?_
    exact Or.inr ⟨h7, rfl, rfl⟩
  · skip
    refine g_const (n := 12) rfl rfl (s_bipush (v := (-2)) (by decide)) ?_
    refine g_retI rfl ?_
    exact Or.inl ⟨h7, rfl, rfl⟩
def SpareQ (M : Mem) (n : Nat) (r p x : Int32) (M' : Mem) : Prop := (mIn r 0 (Int32.ofNat n - 1) = false ∧ x = -1 ∧ M' = M) ∨ (mIn r 0 (Int32.ofNat n - 1) = true ∧ mIn p (-1) 100 = false ∧ x = -2 ∧ M' = M) ∨ (mIn p (-1) 100 = true ∧ ∃ k, k < n ∧ r = Int32.ofNat k ∧ x = M 49 k ∧ M' = mup M 49 k p)
set_option maxRecDepth 20000 in
theorem sp_spareM {r p : Int32} {n : Nat} (hr : M 41 1 = Int32.ofNat n) (hn : n ≤ 12) : EvI (d + 3) miX9_spare [.ref 41, .int r, .int p] (zz E T) M (SpareQ M n r p) := by
  refine ev_of mt_X9_spare rfl ?_
  refine g_aload_n (n := 1) rfl rfl rfl ?_
  refine g_iload_n (n := 2) rfl rfl rfl ?_
  refine g_cP2 (n := 5) rfl rfl rfl rfl mt_X9_isRule rfl rfl (r_k z_41) (sp_isRule) ?_
  refine g_bnz (n := 8) rfl rfl (fun h5 => ?_) (fun h5 => ?_)
  · skip
    rw [hr] at h5
    obtain ⟨k, hk, ek⟩ := mIn_lt (by omega) h5
    refine g_iload_n (n := 11) rfl rfl rfl ?_
    refine g_const (n := 12) rfl rfl (s_iconst (v := (-1)) (by decide)) ?_
    refine g_const (n := 14) rfl rfl (s_bipush (v := 100) (by decide)) ?_
    refine g_cP3 (n := 17) rfl rfl rfl rfl mt_X9_in rfl rfl rfl (sp_in) ?_
    refine g_bnz (n := 20) rfl rfl (fun h17 => ?_) (fun h17 => ?_)
    · skip
      refine g_aload_n (n := 24) rfl rfl rfl ?_
      refine g_getR (n := 27) rfl rfl z_41 rfl ?_
      refine g_iload_n (n := 28) rfl rfl rfl ?_
      refine g_iald (n := 29) rfl rfl z_49 rfl ek (by omega) ?_
      refine g_istore_n (n := 30) rfl rfl ?_
      refine g_aload_n (n := 31) rfl rfl rfl ?_
      refine g_getR (n := 34) rfl rfl z_41 rfl ?_
      refine g_iload_n (n := 35) rfl rfl rfl ?_
      refine g_iload_n (n := 36) rfl rfl rfl ?_
      refine g_iast (n := 37) rfl rfl z_49 rfl ek (by omega) ?_
      refine g_iload_n (n := 38) rfl rfl rfl ?_
      refine g_retI rfl ?_
      exact Or.inr (Or.inr ⟨h17, k, hk, ek, rfl, rfl⟩)
    · skip
      refine g_const (n := 22) rfl rfl (s_bipush (v := (-2)) (by decide)) ?_
      refine g_retI rfl ?_
      exact Or.inr (Or.inl ⟨h5, h17, rfl, rfl⟩)
  · skip
    rw [hr] at h5
    refine g_const (n := 9) rfl rfl (s_iconst (v := (-1)) (by decide)) ?_
    refine g_retI rfl ?_
    exact Or.inl ⟨h5, rfl, rfl⟩
/-- a row of bits with one of them set or not -/
def mBit (v f is : Int32) : Int32 := if is = 1 then v ||| 1 <<< (f &&& 31) else v &&& (1 <<< (f &&& 31) ^^^ -1)
def FirstQ (M : Mem) (h f is x : Int32) (M' : Mem) : Prop := ((mHost h && mFact f) = false ∧ x = -1 ∧ M' = M) ∨ ((mHost h && mFact f) = true ∧ mIn is 0 1 = false ∧ x = -2 ∧ M' = M) ∨ (mIn is 0 1 = true ∧ ∃ k j, k < 4 ∧ j < 8 ∧ h = Int32.ofNat k ∧ f = Int32.ofNat j ∧ x = M 50 k >>> (f &&& 31) &&& 1 ∧ M' = mup M 50 k (mBit (M 50 k) f is))
set_option maxRecDepth 20000 in
theorem sp_firstM {h f is : Int32} : EvI (d + 3) miX9_first [.ref 41, .int h, .int f, .int is] (zz E T) M (FirstQ M h f is) := by
  refine ev_of mt_X9_first rfl ?_
  refine g_iload_n (n := 1) rfl rfl rfl ?_
  refine g_cP1 (n := 4) rfl rfl rfl rfl mt_X9_isHost rfl rfl rfl (sp_isHost) ?_
  refine g_bz (n := 7) rfl rfl (fun h4 => ?_) (fun h4 => ?_)
  · skip
    refine g_const (n := 15) rfl rfl (s_iconst (v := (-1)) (by decide)) ?_
    refine g_retI rfl ?_
    first | exact Or.inl ⟨by rw [h4]; rfl, rfl, rfl⟩ | exact Or.inl ⟨by rw [h4, h11]; rfl, rfl, rfl⟩
  · skip
    refine g_iload_n (n := 8) rfl rfl rfl ?_
    refine g_cP1 (n := 11) rfl rfl rfl rfl mt_X9_isFact rfl rfl rfl (sp_isFact) ?_
    refine g_bnz (n := 14) rfl rfl (fun h11 => ?_) (fun h11 => ?_)
    · skip
      obtain ⟨k, hk, ek⟩ := mIn_H h4
      obtain ⟨j, hj, ej⟩ := mIn_F h11
      refine g_iload_n (n := 17) rfl rfl rfl ?_
      refine g_const (n := 18) rfl rfl (s_iconst (v := 0) (by decide)) ?_
      refine g_const (n := 19) rfl rfl (s_iconst (v := 1) (by decide)) ?_
      refine g_cP3 (n := 22) rfl rfl rfl rfl mt_X9_in rfl rfl rfl (sp_in) ?_
      refine g_bnz (n := 25) rfl rfl (fun h22 => ?_) (fun h22 => ?_)
      · skip
        refine g_aload_n (n := 29) rfl rfl rfl ?_
        refine g_getR (n := 32) rfl rfl z_41 rfl ?_
        refine g_iload_n (n := 33) rfl rfl rfl ?_
        refine g_iald (n := 34) rfl rfl z_50 rfl ek hk ?_
        refine g_iload_n (n := 35) rfl rfl rfl ?_
        refine g_ishr (n := 36) rfl rfl ?_
        refine g_const (n := 37) rfl rfl (s_iconst (v := 1) (by decide)) ?_
        refine g_iand (n := 38) rfl rfl ?_
        refine g_istore (n := 40) rfl rfl ?_
        refine g_aload_n (n := 41) rfl rfl rfl ?_
        refine g_getR (n := 44) rfl rfl z_41 rfl ?_
        refine g_iload_n (n := 45) rfl rfl rfl ?_
        refine g_iload_n (n := 46) rfl rfl rfl ?_
        refine g_const (n := 47) rfl rfl (s_iconst (v := 1) (by decide)) ?_
        refine g_ine (n := 50) rfl rfl (fun h47 => ?_) (fun h47 => ?_)
        · skip
          refine g_aload_n (n := 64) rfl rfl rfl ?_
          refine g_getR (n := 67) rfl rfl z_41 rfl ?_
          refine g_iload_n (n := 68) rfl rfl rfl ?_
          refine g_iald (n := 69) rfl rfl z_50 rfl ek hk ?_
          refine g_const (n := 70) rfl rfl (s_iconst (v := 1) (by decide)) ?_
          refine g_iload_n (n := 71) rfl rfl rfl ?_
          refine g_ishl (n := 72) rfl rfl ?_
          refine g_const (n := 73) rfl rfl (s_iconst (v := (-1)) (by decide)) ?_
          refine g_ixor (n := 74) rfl rfl ?_
          refine g_iand (n := 75) rfl rfl ?_
          refine g_iast (n := 76) rfl rfl z_50 rfl ek hk ?_
          refine g_iload (n := 78) rfl rfl rfl ?_
          refine g_retI rfl ?_
          first | exact Or.inr (Or.inr ⟨h22, k, j, hk, hj, ek, ej, rfl, by unfold mBit; rw [if_neg h47]⟩) | exact Or.inr (Or.inr ⟨h22, k, j, hk, hj, ek, ej, rfl, by unfold mBit; rw [if_pos h47]⟩)
        · skip
          refine g_aload_n (n := 51) rfl rfl rfl ?_
          refine g_getR (n := 54) rfl rfl z_41 rfl ?_
          refine g_iload_n (n := 55) rfl rfl rfl ?_
          refine g_iald (n := 56) rfl rfl z_50 rfl ek hk ?_
          refine g_const (n := 57) rfl rfl (s_iconst (v := 1) (by decide)) ?_
          refine g_iload_n (n := 58) rfl rfl rfl ?_
          refine g_ishl (n := 59) rfl rfl ?_
          refine g_ior (n := 60) rfl rfl ?_
          refine g_goto rfl ?_
          refine g_iast (n := 76) rfl rfl z_50 rfl ek hk ?_
          refine g_iload (n := 78) rfl rfl rfl ?_
          refine g_retI rfl ?_
          first | exact Or.inr (Or.inr ⟨h22, k, j, hk, hj, ek, ej, rfl, by unfold mBit; rw [if_neg h47]⟩) | exact Or.inr (Or.inr ⟨h22, k, j, hk, hj, ek, ej, rfl, by unfold mBit; rw [if_pos h47]⟩)
      · skip
        refine g_const (n := 27) rfl rfl (s_bipush (v := (-2)) (by decide)) ?_
        refine g_retI rfl ?_
        exact Or.inr (Or.inl ⟨by rw [h4, h11]; rfl, h22, rfl, rfl⟩)
    · skip
      refine g_const (n := 15) rfl rfl (s_iconst (v := (-1)) (by decide)) ?_
      refine g_retI rfl ?_
      first | exact Or.inl ⟨by rw [h4]; rfl, rfl, rfl⟩ | exact Or.inl ⟨by rw [h4, h11]; rfl, rfl, rfl⟩
def mProm (a p b q : Int32) : Bool := mHost a && (mFact p && (mHost b && mFact q))
def PromQ (M : Mem) (a p b q x : Int32) (M' : Mem) : Prop := (mProm a p b q = false ∧ x = -1 ∧ M' = M) ∨ (mProm a p b q = true ∧ x = 0 ∧ M' = mup (mup (mup (mup M 41 12 a) 41 13 p) 41 14 b) 41 15 q)
set_option maxRecDepth 20000 in
theorem sp_promiseM {a p b q : Int32} : EvI (d + 3) miX9_promise [.ref 41, .int a, .int p, .int b, .int q] (zz E T) M (PromQ M a p b q) := by
  refine ev_of mt_X9_promise rfl ?_
  refine g_iload_n (n := 1) rfl rfl rfl ?_
  refine g_cP1 (n := 4) rfl rfl rfl rfl mt_X9_isHost rfl rfl rfl (sp_isHost) ?_
  refine g_bz (n := 7) rfl rfl (fun h4 => ?_) (fun h4 => ?_)
  · skip
    refine g_const (n := 30) rfl rfl (s_iconst (v := (-1)) (by decide)) ?_
    refine g_retI rfl ?_
    first | exact Or.inl ⟨by unfold mProm; rw [h4]; rfl, rfl, rfl⟩ | exact Or.inl ⟨by unfold mProm; rw [h4, h11]; rfl, rfl, rfl⟩ | exact Or.inl ⟨by unfold mProm; rw [h4, h11, h18]; rfl, rfl, rfl⟩ | exact Or.inl ⟨by unfold mProm; rw [h4, h11, h18, h26]; rfl, rfl, rfl⟩
  · skip
    refine g_iload_n (n := 8) rfl rfl rfl ?_
    refine g_cP1 (n := 11) rfl rfl rfl rfl mt_X9_isFact rfl rfl rfl (sp_isFact) ?_
    refine g_bz (n := 14) rfl rfl (fun h11 => ?_) (fun h11 => ?_)
    · skip
      refine g_const (n := 30) rfl rfl (s_iconst (v := (-1)) (by decide)) ?_
      refine g_retI rfl ?_
      first | exact Or.inl ⟨by unfold mProm; rw [h4]; rfl, rfl, rfl⟩ | exact Or.inl ⟨by unfold mProm; rw [h4, h11]; rfl, rfl, rfl⟩ | exact Or.inl ⟨by unfold mProm; rw [h4, h11, h18]; rfl, rfl, rfl⟩ | exact Or.inl ⟨by unfold mProm; rw [h4, h11, h18, h26]; rfl, rfl, rfl⟩
    · skip
      refine g_iload_n (n := 15) rfl rfl rfl ?_
      refine g_cP1 (n := 18) rfl rfl rfl rfl mt_X9_isHost rfl rfl rfl (sp_isHost) ?_
      refine g_bz (n := 21) rfl rfl (fun h18 => ?_) (fun h18 => ?_)
      · skip
        refine g_const (n := 30) rfl rfl (s_iconst (v := (-1)) (by decide)) ?_
        refine g_retI rfl ?_
        first | exact Or.inl ⟨by unfold mProm; rw [h4]; rfl, rfl, rfl⟩ | exact Or.inl ⟨by unfold mProm; rw [h4, h11]; rfl, rfl, rfl⟩ | exact Or.inl ⟨by unfold mProm; rw [h4, h11, h18]; rfl, rfl, rfl⟩ | exact Or.inl ⟨by unfold mProm; rw [h4, h11, h18, h26]; rfl, rfl, rfl⟩
      · skip
        refine g_iload (n := 23) rfl rfl rfl ?_
        refine g_cP1 (n := 26) rfl rfl rfl rfl mt_X9_isFact rfl rfl rfl (sp_isFact) ?_
        refine g_bnz (n := 29) rfl rfl (fun h26 => ?_) (fun h26 => ?_)
        · skip
          refine g_aload_n (n := 32) rfl rfl rfl ?_
          refine g_iload_n (n := 33) rfl rfl rfl ?_
          refine g_putI (n := 36) rfl rfl z_41 rfl rfl ?_
          refine g_aload_n (n := 37) rfl rfl rfl ?_
          refine g_iload_n (n := 38) rfl rfl rfl ?_
          refine g_putI (n := 41) rfl rfl z_41 rfl rfl ?_
          refine g_aload_n (n := 42) rfl rfl rfl ?_
          refine g_iload_n (n := 43) rfl rfl rfl ?_
          refine g_putI (n := 46) rfl rfl z_41 rfl rfl ?_
          refine g_aload_n (n := 47) rfl rfl rfl ?_
          refine g_iload (n := 49) rfl rfl rfl ?_
          refine g_putI (n := 52) rfl rfl z_41 rfl rfl ?_
          refine g_const (n := 53) rfl rfl (s_iconst (v := 0) (by decide)) ?_
          refine g_retI rfl ?_
          exact Or.inr ⟨by unfold mProm; rw [h4, h11, h18, h26]; rfl, rfl, rfl⟩
        · skip
          refine g_const (n := 30) rfl rfl (s_iconst (v := (-1)) (by decide)) ?_
          refine g_retI rfl ?_
          first | exact Or.inl ⟨by unfold mProm; rw [h4]; rfl, rfl, rfl⟩ | exact Or.inl ⟨by unfold mProm; rw [h4, h11]; rfl, rfl, rfl⟩ | exact Or.inl ⟨by unfold mProm; rw [h4, h11, h18]; rfl, rfl, rfl⟩ | exact Or.inl ⟨by unfold mProm; rw [h4, h11, h18, h26]; rfl, rfl, rfl⟩
def BndQ (M : Mem) (l f t x : Int32) (M' : Mem) : Prop := ((mIn l 0 2 && mIn f 0 2) = false ∧ x = -2 ∧ M' = M) ∨ ((mIn l 0 2 && mIn f 0 2) = true ∧ mIn t 0 6 = false ∧ x = -1 ∧ M' = M) ∨ ((mIn l 0 2 && mIn f 0 2) = true ∧ mIn t 0 6 = true ∧ x = 0 ∧ M' = mup (mup (mup M 41 16 l) 41 17 f) 41 18 t)
set_option maxRecDepth 20000 in
theorem sp_boundsM {l f t : Int32} : EvI (d + 2) miX9_bounds [.ref 41, .int l, .int f, .int t] (zz E T) M (BndQ M l f t) := by
  refine ev_of mt_X9_bounds rfl ?_
  refine g_iload_n (n := 1) rfl rfl rfl ?_
  refine g_const (n := 2) rfl rfl (s_iconst (v := 0) (by decide)) ?_
  refine g_const (n := 3) rfl rfl (s_iconst (v := 2) (by decide)) ?_
  refine g_cP3 (n := 6) rfl rfl rfl rfl mt_X9_in rfl rfl rfl (sp_in) ?_
  refine g_bz (n := 9) rfl rfl (fun h6 => ?_) (fun h6 => ?_)
  · skip
    refine g_const (n := 20) rfl rfl (s_bipush (v := (-2)) (by decide)) ?_
    refine g_retI rfl ?_
    first | exact Or.inl ⟨by rw [h6]; rfl, rfl, rfl⟩ | exact Or.inl ⟨by rw [h6, h15]; rfl, rfl, rfl⟩
  · skip
    refine g_iload_n (n := 10) rfl rfl rfl ?_
    refine g_const (n := 11) rfl rfl (s_iconst (v := 0) (by decide)) ?_
    refine g_const (n := 12) rfl rfl (s_iconst (v := 2) (by decide)) ?_
    refine g_cP3 (n := 15) rfl rfl rfl rfl mt_X9_in rfl rfl rfl (sp_in) ?_
    refine g_bnz (n := 18) rfl rfl (fun h15 => ?_) (fun h15 => ?_)
    · skip
      refine g_iload_n (n := 22) rfl rfl rfl ?_
      refine g_const (n := 23) rfl rfl (s_iconst (v := 0) (by decide)) ?_
      refine g_const (n := 25) rfl rfl (s_bipush (v := 6) (by decide)) ?_
      refine g_cP3 (n := 28) rfl rfl rfl rfl mt_X9_in rfl rfl rfl (sp_in) ?_
      refine g_bnz (n := 31) rfl rfl (fun h28 => ?_) (fun h28 => ?_)
      · skip
        refine g_aload_n (n := 34) rfl rfl rfl ?_
        refine g_iload_n (n := 35) rfl rfl rfl ?_
        refine g_putI (n := 38) rfl rfl z_41 rfl rfl ?_
        refine g_aload_n (n := 39) rfl rfl rfl ?_
        refine g_iload_n (n := 40) rfl rfl rfl ?_
        refine g_putI (n := 43) rfl rfl z_41 rfl rfl ?_
        refine g_aload_n (n := 44) rfl rfl rfl ?_
        refine g_iload_n (n := 45) rfl rfl rfl ?_
        refine g_putI (n := 48) rfl rfl z_41 rfl rfl ?_
        refine g_const (n := 49) rfl rfl (s_iconst (v := 0) (by decide)) ?_
        refine g_retI rfl ?_
        exact Or.inr (Or.inr ⟨by rw [h6, h15]; rfl, h28, rfl, rfl⟩)
      · skip
        refine g_const (n := 32) rfl rfl (s_iconst (v := (-1)) (by decide)) ?_
        refine g_retI rfl ?_
        exact Or.inr (Or.inl ⟨by rw [h6, h15]; rfl, h28, rfl, rfl⟩)
    · skip
      refine g_const (n := 20) rfl rfl (s_bipush (v := (-2)) (by decide)) ?_
      refine g_retI rfl ?_
      first | exact Or.inl ⟨by rw [h6]; rfl, rfl, rfl⟩ | exact Or.inl ⟨by rw [h6, h15]; rfl, rfl, rfl⟩
set_option maxRecDepth 20000 in
theorem sp_layerM {f : Int32} : EvI (d + 3) miX9_layer [.ref 41, .int f] (zz E T) M (fun x M' => M' = M ∧ ((mFact f = false ∧ x = -1) ∨ ∃ k, k < 8 ∧ f = Int32.ofNat k ∧ x = M 51 k)) := by
  refine ev_of mt_X9_layer rfl ?_
  refine g_iload_n (n := 1) rfl rfl rfl ?_
  refine g_cP1 (n := 4) rfl rfl rfl rfl mt_X9_isFact rfl rfl rfl (sp_isFact) ?_
  refine g_bz (n := 7) rfl rfl (fun h4 => ?_) (fun h4 => ?_)
  · skip
    refine g_const (n := 17) rfl rfl (s_iconst (v := (-1)) (by decide)) ?_
    refine g_retI rfl ?_
    first | exact ⟨rfl, Or.inl ⟨h4, rfl⟩⟩ | exact ⟨rfl, Or.inr ⟨k, hk, ek, rfl⟩⟩
  · skip
    obtain ⟨k, hk, ek⟩ := mIn_F h4
    refine g_aload_n (n := 8) rfl rfl rfl ?_
    refine g_getR (n := 11) rfl rfl z_41 rfl ?_
    refine g_iload_n (n := 12) rfl rfl rfl ?_
    refine g_iald (n := 13) rfl rfl z_51 rfl ek hk ?_
    refine g_goto rfl ?_
    refine g_retI rfl ?_
    first | exact ⟨rfl, Or.inl ⟨h4, rfl⟩⟩ | exact ⟨rfl, Or.inr ⟨k, hk, ek, rfl⟩⟩
set_option maxRecDepth 20000 in
theorem sp_clearM : EvI (d + 1) miX9_clear [.ref 41] (zz E T) M (fun _ M' => M' = mup M 41 19 0) := by
  refine ev_of mt_X9_clear rfl ?_
  refine g_aload_n (n := 1) rfl rfl rfl ?_
  refine g_getI (n := 4) rfl rfl z_41 rfl ?_
  refine g_istore_n (n := 5) rfl rfl ?_
  refine g_aload_n (n := 6) rfl rfl rfl ?_
  refine g_const (n := 7) rfl rfl (s_iconst (v := 0) (by decide)) ?_
  refine g_putI (n := 10) rfl rfl z_41 rfl rfl ?_
  refine g_iload_n (n := 11) rfl rfl rfl ?_
  refine g_retI rfl ?_
  rfl
set_option maxRecDepth 20000 in
theorem sp_handM {i : Int32} (hI : MI M) : EvI (d + 2) miX9_hand [.ref 41, .int i] (zz E T) M (fun _ M' => M' = M) := by
  obtain ⟨k, hk4, hk⟩ := hI.2.2.2.2.2.2.1
  refine ev_of mt_X9_hand rfl ?_
  refine g_iload_n (n := 1) rfl rfl rfl ?_
  refine g_const (n := 2) rfl rfl (s_iconst (v := 0) (by decide)) ?_
  refine g_aload_n (n := 3) rfl rfl rfl ?_
  refine g_getI (n := 6) rfl rfl z_41 rfl ?_
  refine g_const (n := 7) rfl rfl (s_iconst (v := 1) (by decide)) ?_
  refine g_isub (n := 8) rfl rfl ?_
  refine g_cP3 (n := 11) rfl rfl rfl rfl mt_X9_in rfl rfl rfl (sp_in) ?_
  refine g_bz (n := 14) rfl rfl (fun h11 => ?_) (fun h11 => ?_)
  · skip
    refine g_const (n := 24) rfl rfl (s_iconst (v := (-1)) (by decide)) ?_
    refine g_retI rfl ?_
    rfl
  · skip
    rw [hk] at h11
    obtain ⟨j, hj, ej⟩ := mIn_lt (by omega) h11
    refine g_aload_n (n := 15) rfl rfl rfl ?_
    refine g_getR (n := 18) rfl rfl z_41 rfl ?_
    refine g_iload_n (n := 19) rfl rfl rfl ?_
    refine g_iald (n := 20) rfl rfl z_52 rfl ej (by omega) ?_
    refine g_goto rfl ?_
    refine g_retI rfl ?_
    rfl
set_option maxRecDepth 20000 in
theorem MI.hand {k : Nat} {M1 : Mem} (h : MI M) (hf : Fr mHd M M1) (hk : k ≤ 4) (e : M1 41 19 = Int32.ofNat k) (hp : ∀ j, j < 4 → 0 ≤ M1 52 j) : MI M1 := by
  obtain ⟨m1, m2, m3, m4, m5, m6, m7, m8, m9⟩ := h
  refine ⟨?_, ?_, fun r hr => ?_, fun f hf1 => ?_, ?_, ?_, ⟨k, hk, e⟩, hp, ?_⟩
  · rw [hf 41 0 rfl]; exact m1
  · rw [hf 41 1 rfl]; exact m2
  · rw [hf 44 r rfl, hf 45 r rfl, hf 46 r rfl, hf 47 r rfl, hf 48 r rfl]; exact m3 r hr
  · rw [hf 51 f rfl]; exact m4 f hf1
  · rw [hf 41 12 rfl]; exact m5
  · rw [hf 41 14 rfl]; exact m6
  · rw [hf 41 21 rfl]; exact m9
set_option maxRecDepth 20000 in
theorem lp_blowM {x : Int32} {k : Nat} (hI : MI M) (hk : M 41 19 = Int32.ofNat k) (hk4 : k ≤ 4) (hx : 0 ≤ x) : ∀ i, i ≤ k → Go [] (d + 3) (some .int) tabX9_blow 12 [(0, .ref 41), (1, .int x), (2, .int (Int32.ofNat i))] [] (hp (zz E T) M) 0 0 (QI (zz E T) (fun _ M' => MI M' ∧ Fr mHd M M')) := by
  refine loop_up k ?_
  intro i hi ih
  refine g_iload_n (n := 13) rfl rfl rfl ?_
  refine g_aload_n (n := 14) rfl rfl rfl ?_
  refine g_getI (n := 17) rfl rfl z_41 rfl ?_
  refine g_ige (n := 20) rfl rfl (fun h17 => ?_) (fun h17 => ?_)
  · skip
    rw [hk] at h17
    have g9 := (jn_le (by omega) (by omega)).mp h17
    refine g_aload_n (n := 40) rfl rfl rfl ?_
    refine g_getI (n := 43) rfl rfl z_41 rfl ?_
    refine g_const (n := 44) rfl rfl (s_iconst (v := 4) (by decide)) ?_
    refine g_ine (n := 47) rfl rfl (fun h44 => ?_) (fun h44 => ?_)
    · skip
      have k3 : k < 4 := by
        rcases Nat.lt_or_ge k 4 with g | g
        · exact g
        · exact absurd (show M 41 19 = 4 by rw [hk, show k = 4 by omega]; rfl) h44
      refine g_aload_n (n := 51) rfl rfl rfl ?_
      refine g_getR (n := 54) rfl rfl z_41 rfl ?_
      refine g_aload_n (n := 55) rfl rfl rfl ?_
      refine g_getI (n := 58) rfl rfl z_41 rfl ?_
      refine g_iload_n (n := 59) rfl rfl rfl ?_
      refine g_iast (n := 60) rfl rfl z_52 rfl hk k3 ?_
      refine g_aload_n (n := 61) rfl rfl rfl ?_
      refine g_dup (n := 62) rfl rfl ?_
      refine g_getI (n := 65) rfl rfl z_41 rfl ?_
      refine g_const (n := 66) rfl rfl (s_iconst (v := 1) (by decide)) ?_
      refine g_iadd (n := 67) rfl rfl ?_
      refine g_putI (n := 70) rfl rfl z_41 rfl rfl ?_
      refine g_aload_n (n := 71) rfl rfl rfl ?_
      refine g_getI (n := 74) rfl rfl z_41 rfl ?_
      refine g_retI rfl ?_
      refine ⟨MI.hand (k := k + 1) hI ?_ (by omega) ?_ (fun j hj => ?_), ?_⟩
      · exact (Fr.rf.up rfl).up rfl
      · show M 41 19 + 1 = _; rw [hk]; exact jn_add k 1
      · show 0 ≤ mup M 52 k x 52 j
        by_cases e : j = k
        · subst e; rw [mup_same]; exact hx
        · rw [mup_j e]; exact hI.2.2.2.2.2.2.2.1 j hj
      · exact (Fr.rf.up rfl).up rfl
    · skip
      refine g_const (n := 49) rfl rfl (s_bipush (v := (-4)) (by decide)) ?_
      refine g_retI rfl ?_
      exact ⟨hI, Fr.rf⟩
  · skip
    rw [hk] at h17
    have g9 := (jn_lt (by omega) (by omega)).mp h17
    refine g_aload_n (n := 21) rfl rfl rfl ?_
    refine g_getR (n := 24) rfl rfl z_41 rfl ?_
    refine g_iload_n (n := 25) rfl rfl rfl ?_
    refine g_iald (n := 26) rfl rfl z_52 rfl rfl (by omega) ?_
    refine g_iload_n (n := 27) rfl rfl rfl ?_
    refine g_ine (n := 30) rfl rfl (fun h27 => ?_) (fun h27 => ?_)
    · skip
      refine g_iinc (n := 36) rfl rfl rfl (jn_1 _) ?_
      refine g_goto rfl ?_
      exact ih g9
    · skip
      refine g_const (n := 32) rfl rfl (s_bipush (v := (-2)) (by decide)) ?_
      refine g_retI rfl ?_
      exact ⟨hI, Fr.rf⟩
set_option maxRecDepth 20000 in
theorem sp_blowM {x : Int32} (hI : MI M) : EvI (d + 4) miX9_blow [.ref 41, .int x] (zz E T) M (fun _ M' => MI M' ∧ Fr mHd M M') := by
  obtain ⟨k, hk4, hk⟩ := hI.2.2.2.2.2.2.1
  refine ev_of mt_X9_blow rfl ?_
  refine g_aload_n (n := 1) rfl rfl rfl ?_
  refine g_iload_n (n := 2) rfl rfl rfl ?_
  refine g_cP2 (n := 5) rfl rfl rfl rfl mt_X9_isBlow rfl rfl (r_k z_41) (sp_isBlow) ?_
  refine g_bnz (n := 8) rfl rfl (fun h5 => ?_) (fun h5 => ?_)
  · skip
    have hx : 0 ≤ x := by
      unfold mBlow at h5
      simp only [Bool.and_eq_true, decide_eq_true_eq] at h5
      exact h5.1
    refine g_const (n := 11) rfl rfl (s_iconst (v := 0) (by decide)) ?_
    refine g_istore_n (n := 12) rfl rfl ?_
    exact lp_blowM hI hk hk4 hx 0 (by omega)
  · skip
    refine g_const (n := 9) rfl rfl (s_iconst (v := (-1)) (by decide)) ?_
    refine g_retI rfl ?_
    exact ⟨hI, Fr.rf⟩
set_option maxRecDepth 20000 in
theorem sp_factsM {h t : Int32} (hI : MI M) : EvI (d + 5) miX9_facts [.ref 41, .int h, .int t] (zz E T) M (fun _ M' => mKeep M M') := by
  obtain ⟨k, hk4, hk⟩ := hI.2.2.2.2.2.2.1
  obtain ⟨e, -, he6, he⟩ := hI.1
  refine ev_of mt_X9_facts rfl ?_
  refine g_iload_n (n := 1) rfl rfl rfl ?_
  refine g_cP1 (n := 4) rfl rfl rfl rfl mt_X9_isHost rfl rfl rfl (sp_isHost) ?_
  refine g_bz (n := 7) rfl rfl (fun h4 => ?_) (fun h4 => ?_)
  · skip
    refine g_const (n := 16) rfl rfl (s_iconst (v := (-1)) (by decide)) ?_
    refine g_retI rfl ?_
    exact mKeep.rf
  · skip
    refine g_aload_n (n := 8) rfl rfl rfl ?_
    refine g_iload_n (n := 9) rfl rfl rfl ?_
    refine g_cP2 (n := 12) rfl rfl rfl rfl mt_X9_isTick rfl rfl (r_k z_41) (sp_isTick) ?_
    refine g_bnz (n := 15) rfl rfl (fun h12 => ?_) (fun h12 => ?_)
    · skip
      obtain ⟨a, ha, ea⟩ := mIn_H h4
      rw [he] at h12
      obtain ⟨b, hb, eb⟩ := mIn_le (by omega) h12
      subst ea eb
      refine g_aload_n (n := 18) rfl rfl rfl ?_
      refine g_cV1 (n := 21) rfl rfl rfl rfl mt_X9_takesHand rfl rfl (r_k z_41) (sp_takesHand hk hk4) ?_
      rintro M1 ⟨k1, k2, k3, -⟩
      refine g_aload_n (n := 22) rfl rfl rfl ?_
      refine g_cV1 (n := 25) rfl rfl rfl rfl mt_X9_runs rfl rfl (r_k z_41) (sp_runs (hI.keep k1) k2 hk4 (fun j hj => by rw [k3 j hj]; exact hI.2.2.2.2.2.2.2.1 j (by omega))) ?_
      intro M2 k4
      refine g_aload_n (n := 26) rfl rfl rfl ?_
      refine g_getR (n := 29) rfl rfl z_41 rfl ?_
      refine g_const (n := 30) rfl rfl (s_iconst (v := 4) (by decide)) ?_
      refine g_iload_n (n := 31) rfl rfl rfl ?_
      refine g_imul (n := 32) rfl rfl ?_
      refine g_iload_n (n := 33) rfl rfl rfl ?_
      refine g_iadd (n := 34) rfl rfl ?_
      refine g_iald (n := 35) rfl rfl z_56 rfl (ix44 b a) (by omega) ?_
      refine g_retI rfl ?_
      exact k1.tr k4
    · skip
      refine g_const (n := 16) rfl rfl (s_iconst (v := (-1)) (by decide)) ?_
      refine g_retI rfl ?_
      exact mKeep.rf
set_option maxRecDepth 20000 in
theorem lp_bits {v : Int32} {h : AH} : ∀ i, i ≤ 31 → ∀ n, n = mSum (fun k => v >>> (Int32.ofNat k &&& 31) &&& 1) i → Go [] d (some .int) tabX9_bits 4 [(0, .int v), (1, .int n), (2, .int (Int32.ofNat i))] [] h 0 0 (QP h (.int (mSum (fun k => v >>> (Int32.ofNat k &&& 31) &&& 1) 31))) := by
  refine loop_up 31 ?_
  intro i hi ih n hn
  refine g_iload_n (n := 5) rfl rfl rfl ?_
  refine g_const (n := 7) rfl rfl (s_bipush (v := 31) (by decide)) ?_
  refine g_ige (n := 10) rfl rfl (fun h7 => ?_) (fun h7 => ?_)
  · skip
    have g9 := (jn_le (b := i) (a := 31) (by omega) (by omega)).mp h7
    refine g_iload_n (n := 25) rfl rfl rfl ?_
    refine g_retP rfl ?_
    rw [hn, show i = 31 by omega]
  · skip
    have g9 := (jn_lt (b := 31) (a := i) (by omega) (by omega)).mp h7
    refine g_iload_n (n := 11) rfl rfl rfl ?_
    refine g_iload_n (n := 12) rfl rfl rfl ?_
    refine g_iload_n (n := 13) rfl rfl rfl ?_
    refine g_ishr (n := 14) rfl rfl ?_
    refine g_const (n := 15) rfl rfl (s_iconst (v := 1) (by decide)) ?_
    refine g_iand (n := 16) rfl rfl ?_
    refine g_iadd (n := 17) rfl rfl ?_
    refine g_istore_n (n := 18) rfl rfl ?_
    refine g_iinc (n := 21) rfl rfl rfl (jn_1 _) ?_
    refine g_goto rfl ?_
    exact ih g9 _ (by rw [hn]; rfl)
set_option maxRecDepth 20000 in
theorem sp_bits {v : Int32} {h : AH} : EvP (d + 1) miX9_bits [.int v] h (.int (mSum (fun k => v >>> (Int32.ofNat k &&& 31) &&& 1) 31)) := by
  refine ev_of mt_X9_bits rfl ?_
  refine g_const (n := 1) rfl rfl (s_iconst (v := 0) (by decide)) ?_
  refine g_istore_n (n := 2) rfl rfl ?_
  refine g_const (n := 3) rfl rfl (s_iconst (v := 0) (by decide)) ?_
  refine g_istore_n (n := 4) rfl rfl ?_
  exact lp_bits 0 (by omega) _ rfl
set_option maxRecDepth 20000 in
theorem ix164 (t s h : Nat) : (16 : Int32) * Int32.ofNat t + 4 * Int32.ofNat s + Int32.ofNat h = Int32.ofNat (16 * t + 4 * s + h) := by
  show Int32.ofNat 16 * _ + Int32.ofNat 4 * _ + _ = _
  rw [jn_mul, jn_mul, jn_add, jn_add]
set_option maxRecDepth 20000 in
theorem sp_lettersM {t f g : Int32} (hI : MI M) : EvI (d + 5) miX9_letters [.ref 41, .int t, .int f, .int g] (zz E T) M (fun _ M' => mKeep M M') := by
  obtain ⟨k, hk4, hk⟩ := hI.2.2.2.2.2.2.1
  obtain ⟨e, -, he6, he⟩ := hI.1
  refine ev_of mt_X9_letters rfl ?_
  refine g_aload_n (n := 1) rfl rfl rfl ?_
  refine g_iload_n (n := 2) rfl rfl rfl ?_
  refine g_cP2 (n := 5) rfl rfl rfl rfl mt_X9_isTick rfl rfl (r_k z_41) (sp_isTick) ?_
  refine g_bz (n := 8) rfl rfl (fun h5 => ?_) (fun h5 => ?_)
  · skip
    refine g_const (n := 23) rfl rfl (s_iconst (v := (-1)) (by decide)) ?_
    refine g_retI rfl ?_
    exact mKeep.rf
  · skip
    refine g_iload_n (n := 9) rfl rfl rfl ?_
    refine g_cP1 (n := 12) rfl rfl rfl rfl mt_X9_isHost rfl rfl rfl (sp_isHost) ?_
    refine g_bz (n := 15) rfl rfl (fun h12 => ?_) (fun h12 => ?_)
    · skip
      refine g_const (n := 23) rfl rfl (s_iconst (v := (-1)) (by decide)) ?_
      refine g_retI rfl ?_
      exact mKeep.rf
    · skip
      refine g_iload_n (n := 16) rfl rfl rfl ?_
      refine g_cP1 (n := 19) rfl rfl rfl rfl mt_X9_isHost rfl rfl rfl (sp_isHost) ?_
      refine g_bnz (n := 22) rfl rfl (fun h19 => ?_) (fun h19 => ?_)
      · skip
        obtain ⟨a, ha, ea⟩ := mIn_H h12
        obtain ⟨c, hc, ec⟩ := mIn_H h19
        rw [he] at h5
        obtain ⟨b, hb, eb⟩ := mIn_le (by omega) h5
        subst ea eb ec
        refine g_aload_n (n := 25) rfl rfl rfl ?_
        refine g_cV1 (n := 28) rfl rfl rfl rfl mt_X9_takesHand rfl rfl (r_k z_41) (sp_takesHand hk hk4) ?_
        rintro M1 ⟨k1, k2, k3, -⟩
        refine g_aload_n (n := 29) rfl rfl rfl ?_
        refine g_cV1 (n := 32) rfl rfl rfl rfl mt_X9_runs rfl rfl (r_k z_41) (sp_runs (hI.keep k1) k2 hk4 (fun j hj => by rw [k3 j hj]; exact hI.2.2.2.2.2.2.2.1 j (by omega))) ?_
        intro M2 k4
        refine g_aload_n (n := 33) rfl rfl rfl ?_
        refine g_getR (n := 36) rfl rfl z_41 rfl ?_
        refine g_const (n := 38) rfl rfl (s_bipush (v := 16) (by decide)) ?_
        refine g_iload_n (n := 39) rfl rfl rfl ?_
        refine g_imul (n := 40) rfl rfl ?_
        refine g_const (n := 41) rfl rfl (s_iconst (v := 4) (by decide)) ?_
        refine g_iload_n (n := 42) rfl rfl rfl ?_
        refine g_imul (n := 43) rfl rfl ?_
        refine g_iadd (n := 44) rfl rfl ?_
        refine g_iload_n (n := 45) rfl rfl rfl ?_
        refine g_iadd (n := 46) rfl rfl ?_
        refine g_iald (n := 47) rfl rfl z_57 rfl (ix164 b a c) (by omega) ?_
        refine g_cP1 (n := 50) rfl rfl rfl rfl mt_X9_bits rfl rfl rfl (sp_bits) ?_
        refine g_retI rfl ?_
        exact k1.tr k4
      · skip
        refine g_const (n := 23) rfl rfl (s_iconst (v := (-1)) (by decide)) ?_
        refine g_retI rfl ?_
        exact mKeep.rf
set_option maxRecDepth 20000 in
theorem lp_leastNow {h f x : Int32} {n : Nat} (hr : M 41 1 = Int32.ofNat n) (hn : n ≤ 12) : ∀ i, i ≤ n → Go [] (d + 1) (some .int) tabX9_leastNow 3 [(0, .ref 41), (1, .int h), (2, .int f), (3, .int x), (4, .int (Int32.ofNat i))] [] (hp (zz E T) M) 0 0 (QI (zz E T) (fun _ M' => M' = M)) := by
  refine loop_up n ?_
  intro i hi ih
  refine g_iload (n := 5) rfl rfl rfl ?_
  refine g_aload_n (n := 6) rfl rfl rfl ?_
  refine g_getI (n := 9) rfl rfl z_41 rfl ?_
  refine g_ige (n := 12) rfl rfl (fun h9 => ?_) (fun h9 => ?_)
  · skip
    refine g_const (n := 63) rfl rfl (s_iconst (v := (-1)) (by decide)) ?_
    refine g_retI rfl ?_
    rfl
  · skip
    rw [hr] at h9
    have g9 := (jn_lt (by omega) (by omega)).mp h9
    refine g_aload_n (n := 13) rfl rfl rfl ?_
    refine g_getR (n := 16) rfl rfl z_41 rfl ?_
    refine g_iload (n := 18) rfl rfl rfl ?_
    refine g_iald (n := 19) rfl rfl z_43 rfl rfl (by omega) ?_
    refine g_zne (n := 22) rfl rfl (fun h19 => ?_) (fun h19 => ?_)
    · skip
      refine g_iinc (n := 59) rfl rfl rfl (jn_1 _) ?_
      refine g_goto rfl ?_
      exact ih g9
    · skip
      refine g_aload_n (n := 23) rfl rfl rfl ?_
      refine g_getR (n := 26) rfl rfl z_41 rfl ?_
      refine g_iload (n := 28) rfl rfl rfl ?_
      refine g_iald (n := 29) rfl rfl z_44 rfl rfl (by omega) ?_
      refine g_iload_n (n := 30) rfl rfl rfl ?_
      refine g_ine (n := 33) rfl rfl (fun h30 => ?_) (fun h30 => ?_)
      · skip
        refine g_iinc (n := 59) rfl rfl rfl (jn_1 _) ?_
        refine g_goto rfl ?_
        exact ih g9
      · skip
        refine g_aload_n (n := 34) rfl rfl rfl ?_
        refine g_iload (n := 36) rfl rfl rfl ?_
        refine g_iload_n (n := 37) rfl rfl rfl ?_
        refine g_cP3 (n := 40) rfl rfl rfl rfl mt_X9_counts rfl rfl (r_k z_41) (sp_counts (by omega)) ?_
        refine g_bz (n := 43) rfl rfl (fun h40 => ?_) (fun h40 => ?_)
        · skip
          refine g_iinc (n := 59) rfl rfl rfl (jn_1 _) ?_
          refine g_goto rfl ?_
          exact ih g9
        · skip
          refine g_aload_n (n := 44) rfl rfl rfl ?_
          refine g_iload (n := 46) rfl rfl rfl ?_
          refine g_iload_n (n := 47) rfl rfl rfl ?_
          refine g_cP3 (n := 50) rfl rfl rfl rfl mt_X9_fits rfl rfl (r_k z_41) (sp_fits (by omega)) ?_
          refine g_bz (n := 53) rfl rfl (fun h50 => ?_) (fun h50 => ?_)
          · skip
            refine g_iinc (n := 59) rfl rfl rfl (jn_1 _) ?_
            refine g_goto rfl ?_
            exact ih g9
          · skip
            refine g_iload (n := 55) rfl rfl rfl ?_
            refine g_retI rfl ?_
            rfl
set_option maxRecDepth 20000 in
theorem sp_leastNow {h f x : Int32} {n : Nat} (hr : M 41 1 = Int32.ofNat n) (hn : n ≤ 12) : EvI (d + 2) miX9_leastNow [.ref 41, .int h, .int f, .int x] (zz E T) M (fun _ M' => M' = M) := by
  refine ev_of mt_X9_leastNow rfl ?_
  refine g_const (n := 1) rfl rfl (s_iconst (v := 0) (by decide)) ?_
  refine g_istore (n := 3) rfl rfl ?_
  exact lp_leastNow hr hn 0 (by omega)
set_option maxRecDepth 20000 in
theorem lp_letterOf15 {x : Int32} {h t i n nb : Nat} (h4 : h < 4) (ht : 1 ≤ t) (ht6 : t ≤ 6) (hi : i < n) (hn : n ≤ 12) (hb : M 41 23 = Int32.ofNat nb) (hnb : nb ≤ 4) (K : Go [] (d + 1) (some .int) tabX9_letterOf 152 [(0, .ref 41), (1, .int (Int32.ofNat h)), (2, .int (Int32.ofNat t)), (3, .int x), (4, .int (Int32.ofNat i))] [] (hp (zz E T) M) 0 0 (QI (zz E T) (fun _ M' => M' = M))) : ∀ j, j ≤ 4 → Go [] (d + 1) (some .int) tabX9_letterOf 15 [(0, .ref 41), (1, .int (Int32.ofNat h)), (2, .int (Int32.ofNat t)), (3, .int x), (4, .int (Int32.ofNat i)), (5, .int (Int32.ofNat j))] [] (hp (zz E T) M) 0 0 (QI (zz E T) (fun _ M' => M' = M)) := by
  refine loop_up 4 ?_
  intro j hj ih
  refine g_iload (n := 17) rfl rfl rfl ?_
  refine g_const (n := 18) rfl rfl (s_iconst (v := 4) (by decide)) ?_
  refine g_ige (n := 21) rfl rfl (fun h18 => ?_) (fun h18 => ?_)
  · skip
    refine go_only 5 ?_; exact K
  · skip
    have g9 := (jn_lt (b := 4) (a := j) (by omega) (by omega)).mp h18
    refine g_aload_n (n := 22) rfl rfl rfl ?_
    refine g_getR (n := 25) rfl rfl z_41 rfl ?_
    refine g_iload (n := 27) rfl rfl rfl ?_
    refine g_iald (n := 28) rfl rfl z_43 rfl rfl (by omega) ?_
    refine g_const (n := 29) rfl rfl (s_iconst (v := 2) (by decide)) ?_
    refine g_ine (n := 32) rfl rfl (fun h29 => ?_) (fun h29 => ?_)
    · skip
      refine go_only 5 ?_; exact K
    · skip
      refine g_aload_n (n := 33) rfl rfl rfl ?_
      refine g_getR (n := 36) rfl rfl z_41 rfl ?_
      refine g_iload (n := 38) rfl rfl rfl ?_
      refine g_iald (n := 39) rfl rfl z_44 rfl rfl (by omega) ?_
      refine g_iload_n (n := 40) rfl rfl rfl ?_
      refine g_ine (n := 43) rfl rfl (fun h40 => ?_) (fun h40 => ?_)
      · skip
        refine go_only 5 ?_; exact K
      · skip
        refine g_aload_n (n := 44) rfl rfl rfl ?_
        refine g_getR (n := 47) rfl rfl z_41 rfl ?_
        refine g_iload (n := 49) rfl rfl rfl ?_
        refine g_iald (n := 50) rfl rfl z_48 rfl rfl (by omega) ?_
        refine g_iload_n (n := 51) rfl rfl rfl ?_
        refine g_ine (n := 54) rfl rfl (fun h51 => ?_) (fun h51 => ?_)
        · skip
          refine go_only 5 ?_; exact K
        · skip
          refine g_iload (n := 56) rfl rfl rfl ?_
          refine g_iload_n (n := 57) rfl rfl rfl ?_
          refine g_ieq (n := 60) rfl rfl (fun h57 => ?_) (fun h57 => ?_)
          · skip
            refine g_const (n := 85) rfl rfl (s_iconst (v := 0) (by decide)) ?_
            refine g_istore (n := 87) rfl rfl ?_
            refine g_iload (n := 89) rfl rfl rfl ?_
            refine g_zne (n := 92) rfl rfl (fun h89 => ?_) (fun h89 => ?_)
            · skip
              exact absurd h89 (by decide)
            · skip
              refine g_aload_n (n := 93) rfl rfl rfl ?_
              refine g_iload (n := 95) rfl rfl rfl ?_
              refine g_iload_n (n := 96) rfl rfl rfl ?_
              refine g_const (n := 97) rfl rfl (s_iconst (v := 1) (by decide)) ?_
              refine g_isub (n := 98) rfl rfl ?_
              rw [show Int32.ofNat t - 1 = Int32.ofNat (t - 1) from jn_sub (b := 1) ht]
              refine g_cP3 (n := 101) rfl rfl rfl rfl mt_X9_isFallen rfl rfl (r_k z_41) (sp_isFallen g9) ?_
              refine g_bnz (n := 104) rfl rfl (fun h101 => ?_) (fun h101 => ?_)
              · skip
                refine g_iinc (n := 149) rfl rfl rfl (jn_1 _) ?_
                refine g_goto rfl ?_
                refine go_only 6 ?_; exact ih g9
              · skip
                refine g_aload_n (n := 105) rfl rfl rfl ?_
                refine g_iload (n := 107) rfl rfl rfl ?_
                refine g_iload (n := 109) rfl rfl rfl ?_
                refine g_cP3 (n := 112) rfl rfl rfl rfl mt_X9_counts rfl rfl (r_k z_41) (sp_counts (by omega)) ?_
                refine g_bz (n := 115) rfl rfl (fun h112 => ?_) (fun h112 => ?_)
                · skip
                  refine g_iinc (n := 149) rfl rfl rfl (jn_1 _) ?_
                  refine g_goto rfl ?_
                  refine go_only 6 ?_; exact ih g9
                · skip
                  refine g_aload_n (n := 116) rfl rfl rfl ?_
                  refine g_iload (n := 118) rfl rfl rfl ?_
                  refine g_aload_n (n := 119) rfl rfl rfl ?_
                  refine g_getR (n := 122) rfl rfl z_41 rfl ?_
                  refine g_const (n := 123) rfl rfl (s_iconst (v := 4) (by decide)) ?_
                  refine g_iload_n (n := 124) rfl rfl rfl ?_
                  refine g_const (n := 125) rfl rfl (s_iconst (v := 1) (by decide)) ?_
                  refine g_isub (n := 126) rfl rfl ?_
                  refine g_imul (n := 127) rfl rfl ?_
                  refine g_iload (n := 129) rfl rfl rfl ?_
                  refine g_iadd (n := 130) rfl rfl ?_
                  refine g_iald (n := 131) rfl rfl z_56 rfl (by rw [show Int32.ofNat t - 1 = Int32.ofNat (t - 1) from jn_sub (b := 1) ht]; exact ix44 _ _) (by omega) ?_
                  refine g_cP3 (n := 134) rfl rfl rfl rfl mt_X9_fits rfl rfl (r_k z_41) (sp_fits (by omega)) ?_
                  refine g_bz (n := 137) rfl rfl (fun h134 => ?_) (fun h134 => ?_)
                  · skip
                    refine g_iinc (n := 149) rfl rfl rfl (jn_1 _) ?_
                    refine g_goto rfl ?_
                    refine go_only 6 ?_; exact ih g9
                  · skip
                    refine g_const (n := 139) rfl rfl (s_bipush (v := 20) (by decide)) ?_
                    refine g_iload (n := 141) rfl rfl rfl ?_
                    refine g_imul (n := 142) rfl rfl ?_
                    refine g_iload (n := 144) rfl rfl rfl ?_
                    refine g_iadd (n := 145) rfl rfl ?_
                    refine g_retI rfl ?_
                    rfl
          · skip
            refine g_aload_n (n := 61) rfl rfl rfl ?_
            refine g_const (n := 63) rfl rfl (s_bipush (v := 16) (by decide)) ?_
            refine g_iload_n (n := 64) rfl rfl rfl ?_
            refine g_const (n := 65) rfl rfl (s_iconst (v := 1) (by decide)) ?_
            refine g_isub (n := 66) rfl rfl ?_
            refine g_imul (n := 67) rfl rfl ?_
            refine g_const (n := 68) rfl rfl (s_iconst (v := 4) (by decide)) ?_
            refine g_iload (n := 70) rfl rfl rfl ?_
            refine g_imul (n := 71) rfl rfl ?_
            refine g_iadd (n := 72) rfl rfl ?_
            refine g_iload_n (n := 73) rfl rfl rfl ?_
            refine g_iadd (n := 74) rfl rfl ?_
            refine g_cP2 (n := 77) rfl rfl rfl rfl mt_X9_isStruck rfl rfl (r_k z_41) (sp_isStruck hb hnb) ?_
            refine g_bz (n := 80) rfl rfl (fun h77 => ?_) (fun h77 => ?_)
            · skip
              refine g_const (n := 85) rfl rfl (s_iconst (v := 0) (by decide)) ?_
              refine g_istore (n := 87) rfl rfl ?_
              refine g_iload (n := 89) rfl rfl rfl ?_
              refine g_zne (n := 92) rfl rfl (fun h89 => ?_) (fun h89 => ?_)
              · skip
                exact absurd h89 (by decide)
              · skip
                refine g_aload_n (n := 93) rfl rfl rfl ?_
                refine g_iload (n := 95) rfl rfl rfl ?_
                refine g_iload_n (n := 96) rfl rfl rfl ?_
                refine g_const (n := 97) rfl rfl (s_iconst (v := 1) (by decide)) ?_
                refine g_isub (n := 98) rfl rfl ?_
                rw [show Int32.ofNat t - 1 = Int32.ofNat (t - 1) from jn_sub (b := 1) ht]
                refine g_cP3 (n := 101) rfl rfl rfl rfl mt_X9_isFallen rfl rfl (r_k z_41) (sp_isFallen g9) ?_
                refine g_bnz (n := 104) rfl rfl (fun h101 => ?_) (fun h101 => ?_)
                · skip
                  refine g_iinc (n := 149) rfl rfl rfl (jn_1 _) ?_
                  refine g_goto rfl ?_
                  refine go_only 6 ?_; exact ih g9
                · skip
                  refine g_aload_n (n := 105) rfl rfl rfl ?_
                  refine g_iload (n := 107) rfl rfl rfl ?_
                  refine g_iload (n := 109) rfl rfl rfl ?_
                  refine g_cP3 (n := 112) rfl rfl rfl rfl mt_X9_counts rfl rfl (r_k z_41) (sp_counts (by omega)) ?_
                  refine g_bz (n := 115) rfl rfl (fun h112 => ?_) (fun h112 => ?_)
                  · skip
                    refine g_iinc (n := 149) rfl rfl rfl (jn_1 _) ?_
                    refine g_goto rfl ?_
                    refine go_only 6 ?_; exact ih g9
                  · skip
                    refine g_aload_n (n := 116) rfl rfl rfl ?_
                    refine g_iload (n := 118) rfl rfl rfl ?_
                    refine g_aload_n (n := 119) rfl rfl rfl ?_
                    refine g_getR (n := 122) rfl rfl z_41 rfl ?_
                    refine g_const (n := 123) rfl rfl (s_iconst (v := 4) (by decide)) ?_
                    refine g_iload_n (n := 124) rfl rfl rfl ?_
                    refine g_const (n := 125) rfl rfl (s_iconst (v := 1) (by decide)) ?_
                    refine g_isub (n := 126) rfl rfl ?_
                    refine g_imul (n := 127) rfl rfl ?_
                    refine g_iload (n := 129) rfl rfl rfl ?_
                    refine g_iadd (n := 130) rfl rfl ?_
                    refine g_iald (n := 131) rfl rfl z_56 rfl (by rw [show Int32.ofNat t - 1 = Int32.ofNat (t - 1) from jn_sub (b := 1) ht]; exact ix44 _ _) (by omega) ?_
                    refine g_cP3 (n := 134) rfl rfl rfl rfl mt_X9_fits rfl rfl (r_k z_41) (sp_fits (by omega)) ?_
                    refine g_bz (n := 137) rfl rfl (fun h134 => ?_) (fun h134 => ?_)
                    · skip
                      refine g_iinc (n := 149) rfl rfl rfl (jn_1 _) ?_
                      refine g_goto rfl ?_
                      refine go_only 6 ?_; exact ih g9
                    · skip
                      refine g_const (n := 139) rfl rfl (s_bipush (v := 20) (by decide)) ?_
                      refine g_iload (n := 141) rfl rfl rfl ?_
                      refine g_imul (n := 142) rfl rfl ?_
                      refine g_iload (n := 144) rfl rfl rfl ?_
                      refine g_iadd (n := 145) rfl rfl ?_
                      refine g_retI rfl ?_
                      rfl
            · skip
              refine g_const (n := 81) rfl rfl (s_iconst (v := 1) (by decide)) ?_
              refine g_goto rfl ?_
              refine g_istore (n := 87) rfl rfl ?_
              refine g_iload (n := 89) rfl rfl rfl ?_
              refine g_zne (n := 92) rfl rfl (fun h89 => ?_) (fun h89 => ?_)
              · skip
                refine g_iinc (n := 149) rfl rfl rfl (jn_1 _) ?_
                refine g_goto rfl ?_
                refine go_only 6 ?_; exact ih g9
              · skip
                exact absurd h89 (by decide)
set_option maxRecDepth 20000 in
theorem lp_letterOf3 {x : Int32} {h t n nb : Nat} (h4 : h < 4) (ht : 1 ≤ t) (ht6 : t ≤ 6) (hr : M 41 1 = Int32.ofNat n) (hn : n ≤ 12) (hb : M 41 23 = Int32.ofNat nb) (hnb : nb ≤ 4) : ∀ i, i ≤ n → Go [] (d + 1) (some .int) tabX9_letterOf 3 [(0, .ref 41), (1, .int (Int32.ofNat h)), (2, .int (Int32.ofNat t)), (3, .int x), (4, .int (Int32.ofNat i))] [] (hp (zz E T) M) 0 0 (QI (zz E T) (fun _ M' => M' = M)) := by
  refine loop_up n ?_
  intro i hi ih
  have K2 : i < n → Go [] (d + 1) (some .int) tabX9_letterOf 152 [(0, .ref 41), (1, .int (Int32.ofNat h)), (2, .int (Int32.ofNat t)), (3, .int x), (4, .int (Int32.ofNat i))] [] (hp (zz E T) M) 0 0 (QI (zz E T) (fun _ M' => M' = M)) := by
    intro g
    refine g_iinc (n := 155) rfl rfl rfl (jn_1 _) ?_
    refine g_goto rfl ?_
    exact ih g
  refine g_iload (n := 5) rfl rfl rfl ?_
  refine g_aload_n (n := 6) rfl rfl rfl ?_
  refine g_getI (n := 9) rfl rfl z_41 rfl ?_
  refine g_ige (n := 12) rfl rfl (fun h9 => ?_) (fun h9 => ?_)
  · skip
    refine g_const (n := 159) rfl rfl (s_iconst (v := (-1)) (by decide)) ?_
    refine g_retI rfl ?_
    rfl
  · skip
    rw [hr] at h9
    have g9 := (jn_lt (by omega) (by omega)).mp h9
    refine g_const (n := 13) rfl rfl (s_iconst (v := 0) (by decide)) ?_
    refine g_istore (n := 15) rfl rfl ?_
    exact lp_letterOf15 h4 ht ht6 g9 hn hb hnb (K2 g9) 0 (by omega)
set_option maxRecDepth 20000 in
theorem sp_letterOf {x : Int32} {h t n nb : Nat} (h4 : h < 4) (ht : 1 ≤ t) (ht6 : t ≤ 6) (hr : M 41 1 = Int32.ofNat n) (hn : n ≤ 12) (hb : M 41 23 = Int32.ofNat nb) (hnb : nb ≤ 4) : EvI (d + 2) miX9_letterOf [.ref 41, .int (Int32.ofNat h), .int (Int32.ofNat t), .int x] (zz E T) M (fun _ M' => M' = M) := by
  refine ev_of mt_X9_letterOf rfl ?_
  refine g_const (n := 1) rfl rfl (s_iconst (v := 0) (by decide)) ?_
  refine g_istore (n := 3) rfl rfl ?_
  exact lp_letterOf3 h4 ht ht6 hr hn hb hnb 0 (by omega)
end PO
