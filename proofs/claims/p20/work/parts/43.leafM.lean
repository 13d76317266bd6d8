/-! The reference's small methods -/
section LM
variable {E : Value} {T : List SH} {M : Mem} {d : Nat} {h : AH}
def mIn (v lo hi : Int32) : Bool := decide (lo ≤ v) && decide (v ≤ hi)
set_option maxRecDepth 20000 in
theorem sp_in {v lo hi : Int32} : EvP (d + 1) miX9_in [.int v, .int lo, .int hi] h (.int (bI (mIn v lo hi))) := by
  refine ev_of mt_X9_in rfl ?_
  refine g_iload_n (n := 1) rfl rfl rfl ?_
  refine g_iload_n (n := 2) rfl rfl rfl ?_
  refine g_ilt (n := 5) rfl rfl (fun h2 => ?_) (fun h2 => ?_)
  · skip
    refine g_const (n := 15) rfl rfl (s_iconst (v := 0) (by decide)) ?_
    refine g_retPZ rfl (by decide) ?_
    first | (unfold mIn; rw [dT h2, dT h7]; rfl) | (unfold mIn; rw [dT h2, dle h7]; rfl) | (unfold mIn; rw [dle h2]; rfl)
  · skip
    refine g_iload_n (n := 6) rfl rfl rfl ?_
    refine g_iload_n (n := 7) rfl rfl rfl ?_
    refine g_igt (n := 10) rfl rfl (fun h7 => ?_) (fun h7 => ?_)
    · skip
      refine g_const (n := 15) rfl rfl (s_iconst (v := 0) (by decide)) ?_
      refine g_retPZ rfl (by decide) ?_
      first | (unfold mIn; rw [dT h2, dT h7]; rfl) | (unfold mIn; rw [dT h2, dle h7]; rfl) | (unfold mIn; rw [dle h2]; rfl)
    · skip
      refine g_const (n := 11) rfl rfl (s_iconst (v := 1) (by decide)) ?_
      refine g_goto rfl ?_
      refine g_retPZ rfl (by decide) ?_
      first | (unfold mIn; rw [dT h2, dT h7]; rfl) | (unfold mIn; rw [dT h2, dle h7]; rfl) | (unfold mIn; rw [dle h2]; rfl)
def mHost (x : Int32) : Bool := mIn x 0 3
def mFact (x : Int32) : Bool := mIn x 0 7
set_option maxRecDepth 20000 in
theorem sp_isHost {x : Int32} : EvP (d + 2) miX9_isHost [.int x] h (.int (bI (mHost x))) := by
  refine ev_of mt_X9_isHost rfl ?_
  refine g_iload_n (n := 1) rfl rfl rfl ?_
  refine g_const (n := 2) rfl rfl (s_iconst (v := 0) (by decide)) ?_
  refine g_const (n := 3) rfl rfl (s_iconst (v := 3) (by decide)) ?_
  refine g_cP3 (n := 6) rfl rfl rfl rfl mt_X9_in rfl rfl rfl (sp_in) ?_
  refine g_retPZ rfl bI01 ?_
  rfl
set_option maxRecDepth 20000 in
theorem sp_isFact {x : Int32} : EvP (d + 2) miX9_isFact [.int x] h (.int (bI (mFact x))) := by
  refine ev_of mt_X9_isFact rfl ?_
  refine g_iload_n (n := 1) rfl rfl rfl ?_
  refine g_const (n := 2) rfl rfl (s_iconst (v := 0) (by decide)) ?_
  refine g_const (n := 4) rfl rfl (s_bipush (v := 7) (by decide)) ?_
  refine g_cP3 (n := 7) rfl rfl rfl rfl mt_X9_in rfl rfl rfl (sp_in) ?_
  refine g_retPZ rfl bI01 ?_
  rfl
set_option maxRecDepth 20000 in
theorem sp_isTick {x : Int32} : EvP (d + 2) miX9_isTick [.ref 41, .int x] (hp (zz E T) M) (.int (bI (mIn x 0 (M 41 0)))) := by
  refine ev_of mt_X9_isTick rfl ?_
  refine g_iload_n (n := 1) rfl rfl rfl ?_
  refine g_const (n := 2) rfl rfl (s_iconst (v := 0) (by decide)) ?_
  refine g_aload_n (n := 3) rfl rfl rfl ?_
  refine g_getI (n := 6) rfl rfl z_41 rfl ?_
  refine g_cP3 (n := 9) rfl rfl rfl rfl mt_X9_in rfl rfl rfl (sp_in) ?_
  refine g_retPZ rfl bI01 ?_
  rfl
set_option maxRecDepth 20000 in
theorem sp_isRule {x : Int32} : EvP (d + 2) miX9_isRule [.ref 41, .int x] (hp (zz E T) M) (.int (bI (mIn x 0 (M 41 1 - 1)))) := by
  refine ev_of mt_X9_isRule rfl ?_
  refine g_iload_n (n := 1) rfl rfl rfl ?_
  refine g_const (n := 2) rfl rfl (s_iconst (v := 0) (by decide)) ?_
  refine g_aload_n (n := 3) rfl rfl rfl ?_
  refine g_getI (n := 6) rfl rfl z_41 rfl ?_
  refine g_const (n := 7) rfl rfl (s_iconst (v := 1) (by decide)) ?_
  refine g_isub (n := 8) rfl rfl ?_
  refine g_cP3 (n := 11) rfl rfl rfl rfl mt_X9_in rfl rfl rfl (sp_in) ?_
  refine g_retPZ rfl bI01 ?_
  rfl
set_option maxRecDepth 20000 in
theorem sp_isLoss {x : Int32} : EvP (d + 1) miX9_isLoss [.int x] h (.int (bI (decide (x < 200)))) := by
  refine ev_of mt_X9_isLoss rfl ?_
  refine g_iload_n (n := 1) rfl rfl rfl ?_
  refine g_const (n := 4) rfl rfl (s_sipush (v := 200) (by decide)) ?_
  refine g_ige (n := 7) rfl rfl (fun h4 => ?_) (fun h4 => ?_)
  · skip
    refine g_const (n := 12) rfl rfl (s_iconst (v := 0) (by decide)) ?_
    refine g_retPZ rfl (by decide) ?_
    first | (rw [dT h4]; rfl) | (rw [dlt h4]; rfl)
  · skip
    refine g_const (n := 8) rfl rfl (s_iconst (v := 1) (by decide)) ?_
    refine g_goto rfl ?_
    refine g_retPZ rfl (by decide) ?_
    first | (rw [dT h4]; rfl) | (rw [dlt h4]; rfl)
def mTick (x : Int32) : Int32 := if x < 200 then x / 16 else (x - 200) / 4
set_option maxRecDepth 20000 in
theorem sp_tickOf {x : Int32} : EvP (d + 2) miX9_tickOf [.int x] h (.int (mTick x)) := by
  refine ev_of mt_X9_tickOf rfl ?_
  refine g_iload_n (n := 1) rfl rfl rfl ?_
  refine g_cP1 (n := 4) rfl rfl rfl rfl mt_X9_isLoss rfl rfl rfl (sp_isLoss) ?_
  refine g_bz (n := 7) rfl rfl (fun h4 => ?_) (fun h4 => ?_)
  · skip
    refine g_iload_n (n := 15) rfl rfl rfl ?_
    refine g_const (n := 18) rfl rfl (s_sipush (v := 200) (by decide)) ?_
    refine g_isub (n := 19) rfl rfl ?_
    refine g_const (n := 20) rfl rfl (s_iconst (v := 4) (by decide)) ?_
    refine g_idiv (n := 21) rfl rfl rfl ?_
    refine g_retP rfl ?_
    first | (unfold mTick; rw [if_pos (of_decide_eq_true h4)]) | (unfold mTick; rw [if_neg (of_decide_eq_false h4)])
  · skip
    refine g_iload_n (n := 8) rfl rfl rfl ?_
    refine g_const (n := 10) rfl rfl (s_bipush (v := 16) (by decide)) ?_
    refine g_idiv (n := 11) rfl rfl rfl ?_
    refine g_goto rfl ?_
    refine g_retP rfl ?_
    first | (unfold mTick; rw [if_pos (of_decide_eq_true h4)]) | (unfold mTick; rw [if_neg (of_decide_eq_false h4)])
set_option maxRecDepth 20000 in
theorem sp_isFallen {k : Nat} {t : Int32} (hk : k < 4) : EvP (d + 1) miX9_isFallen [.ref 41, .int (Int32.ofNat k), .int t] (hp (zz E T) M) (.int (bI (decide (M 58 k ≤ t)))) := by
  refine ev_of mt_X9_isFallen rfl ?_
  refine g_aload_n (n := 1) rfl rfl rfl ?_
  refine g_getR (n := 4) rfl rfl z_41 rfl ?_
  refine g_iload_n (n := 5) rfl rfl rfl ?_
  refine g_iald (n := 6) rfl rfl z_58 rfl rfl (by omega) ?_
  refine g_iload_n (n := 7) rfl rfl rfl ?_
  refine g_igt (n := 10) rfl rfl (fun h7 => ?_) (fun h7 => ?_)
  · skip
    refine g_const (n := 15) rfl rfl (s_iconst (v := 0) (by decide)) ?_
    refine g_retPZ rfl (by decide) ?_
    first | (rw [dT h7]; rfl) | (rw [dle h7]; rfl)
  · skip
    refine g_const (n := 11) rfl rfl (s_iconst (v := 1) (by decide)) ?_
    refine g_goto rfl ?_
    refine g_retPZ rfl (by decide) ?_
    first | (rw [dT h7]; rfl) | (rw [dle h7]; rfl)
end LM
