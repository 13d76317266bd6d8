/-! The program: small methods -/
section LC
variable {E : Value} {T : List SH} {M : Mem} {d : Nat} {h : AH}
def cIs (k x : Int32) : Bool := decide (0 ≤ x) && decide (x < k)
set_option maxRecDepth 20000 in
theorem sc_isHost {x : Int32} : EvP (d + 1) miX8_isHost [.int x] h (.int (bI (cIs 4 x))) := by
  refine ev_of mt_X8_isHost rfl ?_
  refine g_iload_n (n := 1) rfl rfl rfl ?_
  refine g_zlt (n := 4) rfl rfl (fun h1 => ?_) (fun h1 => ?_)
  · skip
    refine g_const (n := 14) rfl rfl (s_iconst (v := 0) (by decide)) ?_
    refine g_retPZ rfl (by decide) ?_
    first | (unfold cIs; rw [dle h1]; rfl) | (unfold cIs; rw [dT h1, dT h6]; rfl) | (unfold cIs; rw [dT h1, dlt h6]; rfl)
  · skip
    refine g_iload_n (n := 5) rfl rfl rfl ?_
    refine g_const (n := 6) rfl rfl (s_iconst (v := 4) (by decide)) ?_
    refine g_ige (n := 9) rfl rfl (fun h6 => ?_) (fun h6 => ?_)
    · skip
      refine g_const (n := 14) rfl rfl (s_iconst (v := 0) (by decide)) ?_
      refine g_retPZ rfl (by decide) ?_
      first | (unfold cIs; rw [dle h1]; rfl) | (unfold cIs; rw [dT h1, dT h6]; rfl) | (unfold cIs; rw [dT h1, dlt h6]; rfl)
    · skip
      refine g_const (n := 10) rfl rfl (s_iconst (v := 1) (by decide)) ?_
      refine g_goto rfl ?_
      refine g_retPZ rfl (by decide) ?_
      first | (unfold cIs; rw [dle h1]; rfl) | (unfold cIs; rw [dT h1, dT h6]; rfl) | (unfold cIs; rw [dT h1, dlt h6]; rfl)
set_option maxRecDepth 20000 in
theorem sc_isFact {x : Int32} : EvP (d + 1) miX8_isFact [.int x] h (.int (bI (cIs 8 x))) := by
  refine ev_of mt_X8_isFact rfl ?_
  refine g_iload_n (n := 1) rfl rfl rfl ?_
  refine g_zlt (n := 4) rfl rfl (fun h1 => ?_) (fun h1 => ?_)
  · skip
    refine g_const (n := 15) rfl rfl (s_iconst (v := 0) (by decide)) ?_
    refine g_retPZ rfl (by decide) ?_
    first | (unfold cIs; rw [dle h1]; rfl) | (unfold cIs; rw [dT h1, dT h7]; rfl) | (unfold cIs; rw [dT h1, dlt h7]; rfl)
  · skip
    refine g_iload_n (n := 5) rfl rfl rfl ?_
    refine g_const (n := 7) rfl rfl (s_bipush (v := 8) (by decide)) ?_
    refine g_ige (n := 10) rfl rfl (fun h7 => ?_) (fun h7 => ?_)
    · skip
      refine g_const (n := 15) rfl rfl (s_iconst (v := 0) (by decide)) ?_
      refine g_retPZ rfl (by decide) ?_
      first | (unfold cIs; rw [dle h1]; rfl) | (unfold cIs; rw [dT h1, dT h7]; rfl) | (unfold cIs; rw [dT h1, dlt h7]; rfl)
    · skip
      refine g_const (n := 11) rfl rfl (s_iconst (v := 1) (by decide)) ?_
      refine g_goto rfl ?_
      refine g_retPZ rfl (by decide) ?_
      first | (unfold cIs; rw [dle h1]; rfl) | (unfold cIs; rw [dT h1, dT h7]; rfl) | (unfold cIs; rw [dT h1, dlt h7]; rfl)
set_option maxRecDepth 20000 in
theorem sc_isTick {x : Int32} : EvP (d + 1) miX8_isTick [.ref 0, .int x] (hp (zz E T) M) (.int (bI (mIn x 0 (M 1 2)))) := by
  refine ev_of mt_X8_isTick rfl ?_
  refine g_iload_n (n := 1) rfl rfl rfl ?_
  refine g_zlt (n := 4) rfl rfl (fun h1 => ?_) (fun h1 => ?_)
  · skip
    refine g_const (n := 20) rfl rfl (s_iconst (v := 0) (by decide)) ?_
    refine g_retPZ rfl (by decide) ?_
    first | (unfold mIn; rw [dle h1]; rfl) | (unfold mIn; rw [dT h1, dT h12]; rfl) | (unfold mIn; rw [dT h1, dle h12]; rfl)
  · skip
    refine g_iload_n (n := 5) rfl rfl rfl ?_
    refine g_aload_n (n := 6) rfl rfl rfl ?_
    refine g_getR (n := 9) rfl rfl z_0 rfl ?_
    refine g_getI (n := 12) rfl rfl z_1 rfl ?_
    refine g_igt (n := 15) rfl rfl (fun h12 => ?_) (fun h12 => ?_)
    · skip
      refine g_const (n := 20) rfl rfl (s_iconst (v := 0) (by decide)) ?_
      refine g_retPZ rfl (by decide) ?_
      first | (unfold mIn; rw [dle h1]; rfl) | (unfold mIn; rw [dT h1, dT h12]; rfl) | (unfold mIn; rw [dT h1, dle h12]; rfl)
    · skip
      refine g_const (n := 16) rfl rfl (s_iconst (v := 1) (by decide)) ?_
      refine g_goto rfl ?_
      refine g_retPZ rfl (by decide) ?_
      first | (unfold mIn; rw [dle h1]; rfl) | (unfold mIn; rw [dT h1, dT h12]; rfl) | (unfold mIn; rw [dT h1, dle h12]; rfl)
def cBit (h f : Int32) : Int32 := 1 <<< ((8 * h + f) &&& 31)
set_option maxRecDepth 20000 in
theorem sc_bitOf {x f : Int32} : EvP (d + 1) miX8_bitOf [.int x, .int f] h (.int (cBit x f)) := by
  refine ev_of mt_X8_bitOf rfl ?_
  refine g_const (n := 1) rfl rfl (s_iconst (v := 1) (by decide)) ?_
  refine g_const (n := 3) rfl rfl (s_bipush (v := 8) (by decide)) ?_
  refine g_iload_n (n := 4) rfl rfl rfl ?_
  refine g_imul (n := 5) rfl rfl ?_
  refine g_iload_n (n := 6) rfl rfl rfl ?_
  refine g_iadd (n := 7) rfl rfl ?_
  refine g_ishl (n := 8) rfl rfl ?_
  refine g_retP rfl ?_
  rfl
set_option maxRecDepth 20000 in
theorem sc_isLoss {x : Int32} : EvP (d + 1) miX0_isLoss [.int x] h (.int (bI (decide (x < 200)))) := by
  refine ev_of mt_X0_isLoss rfl ?_
  refine g_iload_n (n := 1) rfl rfl rfl ?_
  refine g_const (n := 4) rfl rfl (s_sipush (v := 200) (by decide)) ?_
  refine g_ige (n := 7) rfl rfl (fun h4 => ?_) (fun h4 => ?_)
  · skip
    refine g_const (n := 12) rfl rfl (s_iconst (v := 0) (by decide)) ?_
    refine g_retPZ rfl (by decide) ?_
    first | (rw [dT h4]; rfl) | (rw [dlt h4]; rfl)
  · skip
    refine g_const (n := 8) rfl rfl (s_iconst (v := 1) (by decide)) ?_
    refine g_goto rfl ?_
    refine g_retPZ rfl (by decide) ?_
    first | (rw [dT h4]; rfl) | (rw [dlt h4]; rfl)
def cTick (x : Int32) : Int32 := if x < 200 then x >>> ((4 : Int32) &&& 31) else (x - 200) >>> ((2 : Int32) &&& 31)
set_option maxRecDepth 20000 in
theorem sc_tickOf {x : Int32} : EvP (d + 2) miX0_tickOf [.int x] h (.int (cTick x)) := by
  refine ev_of mt_X0_tickOf rfl ?_
  refine g_iload_n (n := 1) rfl rfl rfl ?_
  refine g_cP1 (n := 4) rfl rfl rfl rfl mt_X0_isLoss rfl rfl rfl (sc_isLoss) ?_
  refine g_bz (n := 7) rfl rfl (fun h4 => ?_) (fun h4 => ?_)
  · skip
    refine g_iload_n (n := 14) rfl rfl rfl ?_
    refine g_const (n := 17) rfl rfl (s_sipush (v := 200) (by decide)) ?_
    refine g_isub (n := 18) rfl rfl ?_
    refine g_const (n := 19) rfl rfl (s_iconst (v := 2) (by decide)) ?_
    refine g_ishr (n := 20) rfl rfl ?_
    refine g_retP rfl ?_
    first | (unfold cTick; rw [if_pos (of_decide_eq_true h4)]) | (unfold cTick; rw [if_neg (of_decide_eq_false h4)])
  · skip
    refine g_iload_n (n := 8) rfl rfl rfl ?_
    refine g_const (n := 9) rfl rfl (s_iconst (v := 4) (by decide)) ?_
    refine g_ishr (n := 10) rfl rfl ?_
    refine g_goto rfl ?_
    refine g_retP rfl ?_
    first | (unfold cTick; rw [if_pos (of_decide_eq_true h4)]) | (unfold cTick; rw [if_neg (of_decide_eq_false h4)])
def cHost (x : Int32) : Int32 := if x < 200 then x >>> ((2 : Int32) &&& 31) &&& 3 else x &&& 3
set_option maxRecDepth 20000 in
theorem sc_hostOf {x : Int32} : EvP (d + 2) miX0_hostOf [.int x] h (.int (cHost x)) := by
  refine ev_of mt_X0_hostOf rfl ?_
  refine g_iload_n (n := 1) rfl rfl rfl ?_
  refine g_cP1 (n := 4) rfl rfl rfl rfl mt_X0_isLoss rfl rfl rfl (sc_isLoss) ?_
  refine g_bz (n := 7) rfl rfl (fun h4 => ?_) (fun h4 => ?_)
  · skip
    refine g_iload_n (n := 16) rfl rfl rfl ?_
    refine g_const (n := 17) rfl rfl (s_iconst (v := 3) (by decide)) ?_
    refine g_iand (n := 18) rfl rfl ?_
    refine g_retP rfl ?_
    first | (unfold cHost; rw [if_pos (of_decide_eq_true h4)]) | (unfold cHost; rw [if_neg (of_decide_eq_false h4)])
  · skip
    refine g_iload_n (n := 8) rfl rfl rfl ?_
    refine g_const (n := 9) rfl rfl (s_iconst (v := 2) (by decide)) ?_
    refine g_ishr (n := 10) rfl rfl ?_
    refine g_const (n := 11) rfl rfl (s_iconst (v := 3) (by decide)) ?_
    refine g_iand (n := 12) rfl rfl ?_
    refine g_goto rfl ?_
    refine g_retP rfl ?_
    first | (unfold cHost; rw [if_pos (of_decide_eq_true h4)]) | (unfold cHost; rw [if_neg (of_decide_eq_false h4)])
set_option maxRecDepth 20000 in
theorem sc_targetOf {x : Int32} : EvP (d + 1) miX0_targetOf [.int x] h (.int (x &&& 3)) := by
  refine ev_of mt_X0_targetOf rfl ?_
  refine g_iload_n (n := 1) rfl rfl rfl ?_
  refine g_const (n := 2) rfl rfl (s_iconst (v := 3) (by decide)) ?_
  refine g_iand (n := 3) rfl rfl ?_
  refine g_retP rfl ?_
  rfl
def cBlow (e x : Int32) : Bool := decide (0 ≤ x) && (bif decide (x < 200) then decide (cTick x < e) && !(decide (cHost x = x &&& 3)) else decide (cTick x ≤ e))
set_option maxRecDepth 20000 in
theorem sc_exists {x e : Int32} : EvP (d + 3) miX0_exists [.int x, .int e] h (.int (bI (cBlow e x))) := by
  refine ev_of mt_X0_exists rfl ?_
  refine g_iload_n (n := 1) rfl rfl rfl ?_
  refine g_zge (n := 4) rfl rfl (fun h1 => ?_) (fun h1 => ?_)
  · skip
    refine g_iload_n (n := 7) rfl rfl rfl ?_
    refine g_cP1 (n := 10) rfl rfl rfl rfl mt_X0_isLoss rfl rfl rfl (sc_isLoss) ?_
    refine g_bz (n := 13) rfl rfl (fun h10 => ?_) (fun h10 => ?_)
    · skip
      refine g_iload_n (n := 39) rfl rfl rfl ?_
      refine g_cP1 (n := 42) rfl rfl rfl rfl mt_X0_tickOf rfl rfl rfl (sc_tickOf) ?_
      refine g_iload_n (n := 43) rfl rfl rfl ?_
      refine g_igt (n := 46) rfl rfl (fun h43 => ?_) (fun h43 => ?_)
      · skip
        refine g_const (n := 51) rfl rfl (s_iconst (v := 0) (by decide)) ?_
        refine g_retPZ rfl (by decide) ?_
        first | (unfold cBlow; rw [dT h1, h10, dT h18, dT h29]; rfl) | (unfold cBlow; rw [dT h1, h10, dT h18, dF h29]; rfl) | (unfold cBlow; rw [dT h1, h10, dlt h18]; rfl) | (unfold cBlow; rw [dT h1, h10, dT h43]; rfl) | (unfold cBlow; rw [dT h1, h10, dle h43]; rfl)
      · skip
        refine g_const (n := 47) rfl rfl (s_iconst (v := 1) (by decide)) ?_
        refine g_goto rfl ?_
        refine g_retPZ rfl (by decide) ?_
        first | (unfold cBlow; rw [dT h1, h10, dT h18, dT h29]; rfl) | (unfold cBlow; rw [dT h1, h10, dT h18, dF h29]; rfl) | (unfold cBlow; rw [dT h1, h10, dlt h18]; rfl) | (unfold cBlow; rw [dT h1, h10, dT h43]; rfl) | (unfold cBlow; rw [dT h1, h10, dle h43]; rfl)
    · skip
      refine g_iload_n (n := 14) rfl rfl rfl ?_
      refine g_cP1 (n := 17) rfl rfl rfl rfl mt_X0_tickOf rfl rfl rfl (sc_tickOf) ?_
      refine g_iload_n (n := 18) rfl rfl rfl ?_
      refine g_ige (n := 21) rfl rfl (fun h18 => ?_) (fun h18 => ?_)
      · skip
        refine g_const (n := 37) rfl rfl (s_iconst (v := 0) (by decide)) ?_
        refine g_retPZ rfl (by decide) ?_
        first | (unfold cBlow; rw [dT h1, h10, dT h18, dT h29]; rfl) | (unfold cBlow; rw [dT h1, h10, dT h18, dF h29]; rfl) | (unfold cBlow; rw [dT h1, h10, dlt h18]; rfl) | (unfold cBlow; rw [dT h1, h10, dT h43]; rfl) | (unfold cBlow; rw [dT h1, h10, dle h43]; rfl)
      · skip
        refine g_iload_n (n := 22) rfl rfl rfl ?_
        refine g_cP1 (n := 25) rfl rfl rfl rfl mt_X0_hostOf rfl rfl rfl (sc_hostOf) ?_
        refine g_iload_n (n := 26) rfl rfl rfl ?_
        refine g_cP1 (n := 29) rfl rfl rfl rfl mt_X0_targetOf rfl rfl rfl (sc_targetOf) ?_
        refine g_ieq (n := 32) rfl rfl (fun h29 => ?_) (fun h29 => ?_)
        · skip
          refine g_const (n := 37) rfl rfl (s_iconst (v := 0) (by decide)) ?_
          refine g_retPZ rfl (by decide) ?_
          first | (unfold cBlow; rw [dT h1, h10, dT h18, dT h29]; rfl) | (unfold cBlow; rw [dT h1, h10, dT h18, dF h29]; rfl) | (unfold cBlow; rw [dT h1, h10, dlt h18]; rfl) | (unfold cBlow; rw [dT h1, h10, dT h43]; rfl) | (unfold cBlow; rw [dT h1, h10, dle h43]; rfl)
        · skip
          refine g_const (n := 33) rfl rfl (s_iconst (v := 1) (by decide)) ?_
          refine g_goto rfl ?_
          refine g_retPZ rfl (by decide) ?_
          first | (unfold cBlow; rw [dT h1, h10, dT h18, dT h29]; rfl) | (unfold cBlow; rw [dT h1, h10, dT h18, dF h29]; rfl) | (unfold cBlow; rw [dT h1, h10, dlt h18]; rfl) | (unfold cBlow; rw [dT h1, h10, dT h43]; rfl) | (unfold cBlow; rw [dT h1, h10, dle h43]; rfl)
  · skip
    refine g_const (n := 5) rfl rfl (s_iconst (v := 0) (by decide)) ?_
    refine g_retPZ rfl (by decide) ?_
    unfold cBlow; rw [dle h1]; rfl
set_option maxRecDepth 20000 in
theorem sc_share {x k : Int32} : EvP (d + 1) miX4_share [.int x, .int k] h (.int (x >>> (8 * k &&& 31) &&& 255)) := by
  refine ev_of mt_X4_share rfl ?_
  refine g_iload_n (n := 1) rfl rfl rfl ?_
  refine g_const (n := 3) rfl rfl (s_bipush (v := 8) (by decide)) ?_
  refine g_iload_n (n := 4) rfl rfl rfl ?_
  refine g_imul (n := 5) rfl rfl ?_
  refine g_ishr (n := 6) rfl rfl ?_
  refine g_const (n := 9) rfl rfl (s_sipush (v := 255) (by decide)) ?_
  refine g_iand (n := 10) rfl rfl ?_
  refine g_retP rfl ?_
  rfl
set_option maxRecDepth 20000 in
theorem sc_placeOf {x k : Int32} : EvP (d + 1) miX6_placeOf [.int x, .int k] h (.int (256 * x + k)) := by
  refine ev_of mt_X6_placeOf rfl ?_
  refine g_const (n := 3) rfl rfl (s_sipush (v := 256) (by decide)) ?_
  refine g_iload_n (n := 4) rfl rfl rfl ?_
  refine g_imul (n := 5) rfl rfl ?_
  refine g_iload_n (n := 6) rfl rfl rfl ?_
  refine g_iadd (n := 7) rfl rfl ?_
  refine g_retP rfl ?_
  rfl
set_option maxRecDepth 20000 in
theorem sc_counts {r : Int32} : EvP (d + 1) miX6_counts [.ref 6, .int r] (hp (zz E T) M) (.int (bI (decide (M 6 4 >>> (r &&& 31) &&& 1 = 1)))) := by
  refine ev_of mt_X6_counts rfl ?_
  refine g_aload_n (n := 1) rfl rfl rfl ?_
  refine g_getI (n := 4) rfl rfl z_6 rfl ?_
  refine g_iload_n (n := 5) rfl rfl rfl ?_
  refine g_ishr (n := 6) rfl rfl ?_
  refine g_const (n := 7) rfl rfl (s_iconst (v := 1) (by decide)) ?_
  refine g_iand (n := 8) rfl rfl ?_
  refine g_const (n := 9) rfl rfl (s_iconst (v := 1) (by decide)) ?_
  refine g_ine (n := 12) rfl rfl (fun h9 => ?_) (fun h9 => ?_)
  · skip
    refine g_const (n := 17) rfl rfl (s_iconst (v := 0) (by decide)) ?_
    refine g_retPZ rfl (by decide) ?_
    first | (rw [dT h9]; rfl) | (rw [dF h9]; rfl)
  · skip
    refine g_const (n := 13) rfl rfl (s_iconst (v := 1) (by decide)) ?_
    refine g_goto rfl ?_
    refine g_retPZ rfl (by decide) ?_
    first | (rw [dT h9]; rfl) | (rw [dF h9]; rfl)
set_option maxRecDepth 20000 in
theorem sc_knows {p : Nat} (hp1 : p < 1024) : EvP (d + 1) miX6_knows [.ref 6, .int (Int32.ofNat p)] (hp (zz E T) M) (.int (bI (!(decide (M 7 p = -1))))) := by
  refine ev_of mt_X6_knows rfl ?_
  refine g_aload_n (n := 1) rfl rfl rfl ?_
  refine g_getR (n := 4) rfl rfl z_6 rfl ?_
  refine g_iload_n (n := 5) rfl rfl rfl ?_
  refine g_iald (n := 6) rfl rfl z_7 rfl rfl (by omega) ?_
  refine g_const (n := 7) rfl rfl (s_iconst (v := (-1)) (by decide)) ?_
  refine g_ieq (n := 10) rfl rfl (fun h7 => ?_) (fun h7 => ?_)
  · skip
    refine g_const (n := 15) rfl rfl (s_iconst (v := 0) (by decide)) ?_
    refine g_retPZ rfl (by decide) ?_
    first | (rw [dT h7]; rfl) | (rw [dF h7]; rfl)
  · skip
    refine g_const (n := 11) rfl rfl (s_iconst (v := 1) (by decide)) ?_
    refine g_goto rfl ?_
    refine g_retPZ rfl (by decide) ?_
    first | (rw [dT h7]; rfl) | (rw [dF h7]; rfl)
set_option maxRecDepth 20000 in
theorem sc_size : EvP (d + 1) miJx4a65c_size_8abf5 [.ref 3] (hp (zz E T) M) (.int (M 3 2)) := by
  refine ev_of mt_Jx4a65c_size_8abf5 rfl ?_
  refine g_aload_n (n := 1) rfl rfl rfl ?_
  refine g_getI (n := 4) rfl rfl z_3 rfl ?_
  refine g_retP rfl ?_
  rfl
set_option maxRecDepth 20000 in
theorem sc_bitCount {x : Int32} {Z : List SH} : EvI (d + 1) miJ6_bitCount_0f7a4 [.int x] Z M (fun _ M' => M' = M) := by
  refine ev_of mt_J6_bitCount_0f7a4 rfl ?_
  refine g_iload_n (n := 1) rfl rfl rfl ?_
  refine g_iload_n (n := 2) rfl rfl rfl ?_
  refine g_const (n := 3) rfl rfl (s_iconst (v := 1) (by decide)) ?_
  refine g_iushr (n := 4) rfl rfl ?_
  refine g_const (n := 7) rfl rfl rfl ?_
  refine g_iand (n := 8) rfl rfl ?_
  refine g_isub (n := 9) rfl rfl ?_
  refine g_istore_n (n := 10) rfl rfl ?_
  refine g_iload_n (n := 11) rfl rfl rfl ?_
  refine g_const (n := 14) rfl rfl rfl ?_
  refine g_iand (n := 15) rfl rfl ?_
  refine g_iload_n (n := 16) rfl rfl rfl ?_
  refine g_const (n := 17) rfl rfl (s_iconst (v := 2) (by decide)) ?_
  refine g_iushr (n := 18) rfl rfl ?_
  refine g_const (n := 21) rfl rfl rfl ?_
  refine g_iand (n := 22) rfl rfl ?_
  refine g_iadd (n := 23) rfl rfl ?_
  refine g_istore_n (n := 24) rfl rfl ?_
  refine g_iload_n (n := 25) rfl rfl rfl ?_
  refine g_iload_n (n := 26) rfl rfl rfl ?_
  refine g_const (n := 27) rfl rfl (s_iconst (v := 4) (by decide)) ?_
  refine g_iushr (n := 28) rfl rfl ?_
  refine g_iadd (n := 29) rfl rfl ?_
  refine g_const (n := 32) rfl rfl rfl ?_
  refine g_iand (n := 33) rfl rfl ?_
  refine g_istore_n (n := 34) rfl rfl ?_
  refine g_iload_n (n := 35) rfl rfl rfl ?_
  refine g_iload_n (n := 36) rfl rfl rfl ?_
  refine g_const (n := 38) rfl rfl (s_bipush (v := 8) (by decide)) ?_
  refine g_iushr (n := 39) rfl rfl ?_
  refine g_iadd (n := 40) rfl rfl ?_
  refine g_istore_n (n := 41) rfl rfl ?_
  refine g_iload_n (n := 42) rfl rfl rfl ?_
  refine g_iload_n (n := 43) rfl rfl rfl ?_
  refine g_const (n := 45) rfl rfl (s_bipush (v := 16) (by decide)) ?_
  refine g_iushr (n := 46) rfl rfl ?_
  refine g_iadd (n := 47) rfl rfl ?_
  refine g_istore_n (n := 48) rfl rfl ?_
  refine g_iload_n (n := 49) rfl rfl rfl ?_
  refine g_const (n := 51) rfl rfl (s_bipush (v := 63) (by decide)) ?_
  refine g_iand (n := 52) rfl rfl ?_
  refine g_retI rfl ?_
  rfl
set_option maxRecDepth 20000 in
theorem sc_ck3 {i n : Nat} {v : Value} (hi : i < n) (hn : n < 2147483648) : EvP (d + 1) miJ3_checkIndex_8e157 [.int (Int32.ofNat i), .int (Int32.ofNat n), v] h (.int (Int32.ofNat i)) := by
  refine ev_of mt_J3_checkIndex_8e157 rfl ?_
  refine g_iload_n (n := 1) rfl rfl rfl ?_
  refine g_zlt (n := 4) rfl rfl (fun h1 => ?_) (fun h1 => ?_)
  · skip
    exact absurd ((jn_lt (b := 0) (by omega) (by omega)).mp h1) (by omega)
  · skip
    refine g_iload_n (n := 5) rfl rfl rfl ?_
    refine g_iload_n (n := 6) rfl rfl rfl ?_
    refine g_ilt (n := 9) rfl rfl (fun h6 => ?_) (fun h6 => ?_)
    · skip
      refine g_iload_n (n := 17) rfl rfl rfl ?_
      refine g_retP rfl ?_
      rfl
    · skip
      exact absurd ((jn_le (by omega) (by omega)).mp h6) (by omega)
set_option maxRecDepth 20000 in
theorem sc_ck15 {i n : Nat} (hi : i < n) (hn : n < 2147483648) : EvP (d + 2) miJ15_checkIndex_7cf53 [.int (Int32.ofNat i), .int (Int32.ofNat n)] h (.int (Int32.ofNat i)) := by
  refine ev_of mt_J15_checkIndex_7cf53 rfl ?_
  refine g_iload_n (n := 1) rfl rfl rfl ?_
  refine g_iload_n (n := 2) rfl rfl rfl ?_
  refine g_null (n := 3) rfl rfl ?_
  refine g_cP3 (n := 6) rfl rfl rfl rfl mt_J3_checkIndex_8e157 rfl rfl rfl (sc_ck3 hi hn) ?_
  refine g_retP rfl ?_
  rfl
abbrev ruleSh : SH := .inr (.inr (2, [none, none, none, none, none, none, none, none, none, none]))
/-- the list's n rules are the cells rs 0, rs 1 .. -/
def LR (E : Value) (T : List SH) (n : Nat) (rs : Nat → Nat) : Prop := (∀ i, i < n → 61 ≤ rs i ∧ a_at (zz E T) (rs i) = some ruleSh) ∧ (∀ i j, i < n → j < n → rs i = rs j → i = j) ∧ (0 < n → ∃ e refs, E = .ref e ∧ a_at (zz E T) e = some (.inr (.inl refs)) ∧ ∀ i, i < n → a_at refs i = some (some (rs i)))
set_option maxRecDepth 20000 in
theorem sc_elem {e i r : Nat} {refs : List (Option Nat)} (hze : a_at (zz (.ref e) T) e = some (.inr (.inl refs))) (hx : a_at refs i = some (some r)) (hi : i < 2147483648) : EvP (d + 1) miJx4a65c_elementData_915e3 [.ref 3, .int (Int32.ofNat i)] (hp (zz (.ref e) T) M) (.ref r) := by
  refine ev_of mt_Jx4a65c_elementData_915e3 rfl ?_
  refine g_aload_n (n := 1) rfl rfl rfl ?_
  refine g_getR (n := 4) rfl rfl z_3 rfl ?_
  refine g_iload_n (n := 5) rfl rfl rfl ?_
  refine g_aald (n := 6) rfl rfl hze rfl hi hx ?_
  refine g_retPR rfl ?_
  rfl
set_option maxRecDepth 20000 in
theorem sc_get {n i : Nat} {rs : Nat → Nat} (hL : LR E T n rs) (hn : M 3 2 = Int32.ofNat n) (hn12 : n ≤ 12) (hi : i < n) : EvP (d + 3) miJx4a65c_get_915e3 [.ref 3, .int (Int32.ofNat i)] (hp (zz E T) M) (.ref (rs i)) := by
  obtain ⟨e, refs, rfl, hze, hx⟩ := hL.2.2 (by omega)
  refine ev_of mt_Jx4a65c_get_915e3 rfl ?_
  refine g_iload_n (n := 1) rfl rfl rfl ?_
  refine g_aload_n (n := 2) rfl rfl rfl ?_
  refine g_getI (n := 5) rfl rfl z_3 rfl ?_
  rw [hn]
  refine g_cP2 (n := 8) rfl rfl rfl rfl mt_J15_checkIndex_7cf53 rfl rfl rfl (sc_ck15 hi (by omega)) ?_
  refine g_pop (n := 9) rfl rfl ?_
  refine g_aload_n (n := 10) rfl rfl rfl ?_
  refine g_iload_n (n := 11) rfl rfl rfl ?_
  refine g_cP2 (n := 14) rfl rfl rfl rfl mt_Jx4a65c_elementData_915e3 rfl rfl (r_k z_3) (sc_elem hze (hx i hi) (by omega)) ?_
  refine g_retPR rfl ?_
  rfl
def cWorks (M : Mem) (q : Nat) (h f : Int32) : Bool := (decide (M q 0 = -1) || decide (M q 0 = h)) && (decide (f &&& M q 7 = M q 7) && decide (f &&& M q 8 = 0))
set_option maxRecDepth 20000 in
theorem sc_works {q : Nat} {k f : Int32} (hq : a_at (zz E T) q = some ruleSh) : EvP (d + 1) miX2_works [.ref q, .int k, .int f] (hp (zz E T) M) (.int (bI (cWorks M q k f))) := by
  refine ev_of mt_X2_works rfl ?_
  refine g_aload_n (n := 1) rfl rfl rfl ?_
  refine g_getI (n := 4) rfl rfl hq rfl ?_
  refine g_const (n := 5) rfl rfl (s_iconst (v := (-1)) (by decide)) ?_
  refine g_ieq (n := 8) rfl rfl (fun h5 => ?_) (fun h5 => ?_)
  · skip
    refine g_iload_n (n := 17) rfl rfl rfl ?_
    refine g_aload_n (n := 18) rfl rfl rfl ?_
    refine g_getI (n := 21) rfl rfl hq rfl ?_
    refine g_iand (n := 22) rfl rfl ?_
    refine g_aload_n (n := 23) rfl rfl rfl ?_
    refine g_getI (n := 26) rfl rfl hq rfl ?_
    refine g_ine (n := 29) rfl rfl (fun h26 => ?_) (fun h26 => ?_)
    · skip
      refine g_const (n := 43) rfl rfl (s_iconst (v := 0) (by decide)) ?_
      refine g_retPZ rfl (by decide) ?_
      simp_all [cWorks, bI]
    · skip
      refine g_iload_n (n := 30) rfl rfl rfl ?_
      refine g_aload_n (n := 31) rfl rfl rfl ?_
      refine g_getI (n := 34) rfl rfl hq rfl ?_
      refine g_iand (n := 35) rfl rfl ?_
      refine g_zne (n := 38) rfl rfl (fun h35 => ?_) (fun h35 => ?_)
      · skip
        refine g_const (n := 43) rfl rfl (s_iconst (v := 0) (by decide)) ?_
        refine g_retPZ rfl (by decide) ?_
        simp_all [cWorks, bI]
      · skip
        refine g_const (n := 39) rfl rfl (s_iconst (v := 1) (by decide)) ?_
        refine g_goto rfl ?_
        refine g_retPZ rfl (by decide) ?_
        simp_all [cWorks, bI]
  · skip
    refine g_aload_n (n := 9) rfl rfl rfl ?_
    refine g_getI (n := 12) rfl rfl hq rfl ?_
    refine g_iload_n (n := 13) rfl rfl rfl ?_
    refine g_ine (n := 16) rfl rfl (fun h13 => ?_) (fun h13 => ?_)
    · skip
      refine g_const (n := 43) rfl rfl (s_iconst (v := 0) (by decide)) ?_
      refine g_retPZ rfl (by decide) ?_
      simp_all [cWorks, bI]
    · skip
      refine g_iload_n (n := 17) rfl rfl rfl ?_
      refine g_aload_n (n := 18) rfl rfl rfl ?_
      refine g_getI (n := 21) rfl rfl hq rfl ?_
      refine g_iand (n := 22) rfl rfl ?_
      refine g_aload_n (n := 23) rfl rfl rfl ?_
      refine g_getI (n := 26) rfl rfl hq rfl ?_
      refine g_ine (n := 29) rfl rfl (fun h26 => ?_) (fun h26 => ?_)
      · skip
        refine g_const (n := 43) rfl rfl (s_iconst (v := 0) (by decide)) ?_
        refine g_retPZ rfl (by decide) ?_
        simp_all [cWorks, bI]
      · skip
        refine g_iload_n (n := 30) rfl rfl rfl ?_
        refine g_aload_n (n := 31) rfl rfl rfl ?_
        refine g_getI (n := 34) rfl rfl hq rfl ?_
        refine g_iand (n := 35) rfl rfl ?_
        refine g_zne (n := 38) rfl rfl (fun h35 => ?_) (fun h35 => ?_)
        · skip
          refine g_const (n := 43) rfl rfl (s_iconst (v := 0) (by decide)) ?_
          refine g_retPZ rfl (by decide) ?_
          simp_all [cWorks, bI]
        · skip
          refine g_const (n := 39) rfl rfl (s_iconst (v := 1) (by decide)) ?_
          refine g_goto rfl ?_
          refine g_retPZ rfl (by decide) ?_
          simp_all [cWorks, bI]
set_option maxRecDepth 20000 in
theorem sc_isSpare {q : Nat} (hq : a_at (zz E T) q = some ruleSh) : EvP (d + 1) miX2_isSpare [.ref q] (hp (zz E T) M) (.int (bI (!(decide (M q 9 = -1))))) := by
  refine ev_of mt_X2_isSpare rfl ?_
  refine g_aload_n (n := 1) rfl rfl rfl ?_
  refine g_getI (n := 4) rfl rfl hq rfl ?_
  refine g_const (n := 5) rfl rfl (s_iconst (v := (-1)) (by decide)) ?_
  refine g_ieq (n := 8) rfl rfl (fun h5 => ?_) (fun h5 => ?_)
  · skip
    refine g_const (n := 13) rfl rfl (s_iconst (v := 0) (by decide)) ?_
    refine g_retPZ rfl (by decide) ?_
    first | (rw [dT h5]; rfl) | (rw [dF h5]; rfl)
  · skip
    refine g_const (n := 9) rfl rfl (s_iconst (v := 1) (by decide)) ?_
    refine g_goto rfl ?_
    refine g_retPZ rfl (by decide) ?_
    first | (rw [dT h5]; rfl) | (rw [dF h5]; rfl)
end LC
