/-! The reference's other methods -/
section SM
variable {E : Value} {T : List SH} {M : Mem} {d : Nat}
def jrem (x y : Int32) : Int32 := x - x / y * y
def mBlow (M : Mem) (x : Int32) : Bool := decide (0 ≤ x) && (bif decide (x < 200) then decide (x / 16 < M 41 0) && !(decide (jrem (x / 4) 4 = jrem x 4)) else decide (mTick x ≤ M 41 0))
set_option maxRecDepth 20000 in
theorem sp_isBlow {x : Int32} : EvP (d + 3) miX9_isBlow [.ref 41, .int x] (hp (zz E T) M) (.int (bI (mBlow M x))) := by
  refine ev_of mt_X9_isBlow rfl ?_
  refine g_iload_n (n := 1) rfl rfl rfl ?_
  refine g_zge (n := 4) rfl rfl (fun h1 => ?_) (fun h1 => ?_)
  · skip
    refine g_iload_n (n := 7) rfl rfl rfl ?_
    refine g_cP1 (n := 10) rfl rfl rfl rfl mt_X9_isLoss rfl rfl rfl (sp_isLoss) ?_
    refine g_bz (n := 13) rfl rfl (fun h10 => ?_) (fun h10 => ?_)
    · skip
      refine g_iload_n (n := 44) rfl rfl rfl ?_
      refine g_cP1 (n := 47) rfl rfl rfl rfl mt_X9_tickOf rfl rfl rfl (sp_tickOf) ?_
      refine g_aload_n (n := 48) rfl rfl rfl ?_
      refine g_getI (n := 51) rfl rfl z_41 rfl ?_
      refine g_igt (n := 54) rfl rfl (fun h51 => ?_) (fun h51 => ?_)
      · skip
        refine g_const (n := 59) rfl rfl (s_iconst (v := 0) (by decide)) ?_
        refine g_retPZ rfl (by decide) ?_
        first | (unfold mBlow; rw [dT h1, h10, dT h21, dT (p := jrem (x / 4) 4 = jrem x 4) h32]; rfl) | (unfold mBlow; rw [dT h1, h10, dT h21, dF (p := jrem (x / 4) 4 = jrem x 4) h32]; rfl) | (unfold mBlow; rw [dT h1, h10, dlt h21]; rfl) | (unfold mBlow; rw [dT h1, h10, dT h51]; rfl) | (unfold mBlow; rw [dT h1, h10, dle h51]; rfl)
      · skip
        refine g_const (n := 55) rfl rfl (s_iconst (v := 1) (by decide)) ?_
        refine g_goto rfl ?_
        refine g_retPZ rfl (by decide) ?_
        first | (unfold mBlow; rw [dT h1, h10, dT h21, dT (p := jrem (x / 4) 4 = jrem x 4) h32]; rfl) | (unfold mBlow; rw [dT h1, h10, dT h21, dF (p := jrem (x / 4) 4 = jrem x 4) h32]; rfl) | (unfold mBlow; rw [dT h1, h10, dlt h21]; rfl) | (unfold mBlow; rw [dT h1, h10, dT h51]; rfl) | (unfold mBlow; rw [dT h1, h10, dle h51]; rfl)
    · skip
      refine g_iload_n (n := 14) rfl rfl rfl ?_
      refine g_const (n := 16) rfl rfl (s_bipush (v := 16) (by decide)) ?_
      refine g_idiv (n := 17) rfl rfl rfl ?_
      refine g_aload_n (n := 18) rfl rfl rfl ?_
      refine g_getI (n := 21) rfl rfl z_41 rfl ?_
      refine g_ige (n := 24) rfl rfl (fun h21 => ?_) (fun h21 => ?_)
      · skip
        refine g_const (n := 40) rfl rfl (s_iconst (v := 0) (by decide)) ?_
        refine g_goto rfl ?_
        refine g_retPZ rfl (by decide) ?_
        first | (unfold mBlow; rw [dT h1, h10, dT h21, dT (p := jrem (x / 4) 4 = jrem x 4) h32]; rfl) | (unfold mBlow; rw [dT h1, h10, dT h21, dF (p := jrem (x / 4) 4 = jrem x 4) h32]; rfl) | (unfold mBlow; rw [dT h1, h10, dlt h21]; rfl) | (unfold mBlow; rw [dT h1, h10, dT h51]; rfl) | (unfold mBlow; rw [dT h1, h10, dle h51]; rfl)
      · skip
        refine g_iload_n (n := 25) rfl rfl rfl ?_
        refine g_const (n := 26) rfl rfl (s_iconst (v := 4) (by decide)) ?_
        refine g_idiv (n := 27) rfl rfl rfl ?_
        refine g_const (n := 28) rfl rfl (s_iconst (v := 4) (by decide)) ?_
        refine g_irem (n := 29) rfl rfl rfl ?_
        refine g_iload_n (n := 30) rfl rfl rfl ?_
        refine g_const (n := 31) rfl rfl (s_iconst (v := 4) (by decide)) ?_
        refine g_irem (n := 32) rfl rfl rfl ?_
        refine g_ieq (n := 35) rfl rfl (fun h32 => ?_) (fun h32 => ?_)
        · skip
          refine g_const (n := 40) rfl rfl (s_iconst (v := 0) (by decide)) ?_
          refine g_goto rfl ?_
          refine g_retPZ rfl (by decide) ?_
          first | (unfold mBlow; rw [dT h1, h10, dT h21, dT (p := jrem (x / 4) 4 = jrem x 4) h32]; rfl) | (unfold mBlow; rw [dT h1, h10, dT h21, dF (p := jrem (x / 4) 4 = jrem x 4) h32]; rfl) | (unfold mBlow; rw [dT h1, h10, dlt h21]; rfl) | (unfold mBlow; rw [dT h1, h10, dT h51]; rfl) | (unfold mBlow; rw [dT h1, h10, dle h51]; rfl)
        · skip
          refine g_const (n := 36) rfl rfl (s_iconst (v := 1) (by decide)) ?_
          refine g_goto rfl ?_
          refine g_retPZ rfl (by decide) ?_
          first | (unfold mBlow; rw [dT h1, h10, dT h21, dT (p := jrem (x / 4) 4 = jrem x 4) h32]; rfl) | (unfold mBlow; rw [dT h1, h10, dT h21, dF (p := jrem (x / 4) 4 = jrem x 4) h32]; rfl) | (unfold mBlow; rw [dT h1, h10, dlt h21]; rfl) | (unfold mBlow; rw [dT h1, h10, dT h51]; rfl) | (unfold mBlow; rw [dT h1, h10, dle h51]; rfl)
  · skip
    refine g_const (n := 5) rfl rfl (s_iconst (v := 0) (by decide)) ?_
    refine g_retPZ rfl (by decide) ?_
    unfold mBlow; rw [dle h1]; rfl
def mMost (M : Mem) (x : Int32) : Int32 := bif decide (x < 200) then M 41 16 else M 41 17
def mWith (M : Mem) (x : Int32) : Bool := mBlow M x && (decide (mTick x ≤ M 41 18) && decide (0 < mMost M x))
set_option maxRecDepth 20000 in
theorem sp_isWithin {x : Int32} : EvP (d + 4) miX9_isWithin [.ref 41, .int x] (hp (zz E T) M) (.int (bI (mWith M x))) := by
  refine ev_of mt_X9_isWithin rfl ?_
  refine g_aload_n (n := 1) rfl rfl rfl ?_
  refine g_iload_n (n := 2) rfl rfl rfl ?_
  refine g_cP2 (n := 5) rfl rfl rfl rfl mt_X9_isBlow rfl rfl (r_k z_41) (sp_isBlow) ?_
  refine g_bz (n := 8) rfl rfl (fun h5 => ?_) (fun h5 => ?_)
  · skip
    refine g_const (n := 45) rfl rfl (s_iconst (v := 0) (by decide)) ?_
    refine g_retPZ rfl (by decide) ?_
    first | (unfold mWith mMost; rw [h5]; rfl) | (unfold mWith mMost; rw [h5, dle h16]; rfl) | (unfold mWith mMost; rw [h5, dT h16, h23]; simp only [cond_true, cond_false]; rw [dT h37]; rfl) | (unfold mWith mMost; rw [h5, dT h16, h23]; simp only [cond_true, cond_false]; rw [dlt h37]; rfl)
  · skip
    refine g_iload_n (n := 9) rfl rfl rfl ?_
    refine g_cP1 (n := 12) rfl rfl rfl rfl mt_X9_tickOf rfl rfl rfl (sp_tickOf) ?_
    refine g_aload_n (n := 13) rfl rfl rfl ?_
    refine g_getI (n := 16) rfl rfl z_41 rfl ?_
    refine g_igt (n := 19) rfl rfl (fun h16 => ?_) (fun h16 => ?_)
    · skip
      refine g_const (n := 45) rfl rfl (s_iconst (v := 0) (by decide)) ?_
      refine g_retPZ rfl (by decide) ?_
      first | (unfold mWith mMost; rw [h5]; rfl) | (unfold mWith mMost; rw [h5, dle h16]; rfl) | (unfold mWith mMost; rw [h5, dT h16, h23]; simp only [cond_true, cond_false]; rw [dT h37]; rfl) | (unfold mWith mMost; rw [h5, dT h16, h23]; simp only [cond_true, cond_false]; rw [dlt h37]; rfl)
    · skip
      refine g_iload_n (n := 20) rfl rfl rfl ?_
      refine g_cP1 (n := 23) rfl rfl rfl rfl mt_X9_isLoss rfl rfl rfl (sp_isLoss) ?_
      refine g_bz (n := 26) rfl rfl (fun h23 => ?_) (fun h23 => ?_)
      · skip
        refine g_aload_n (n := 34) rfl rfl rfl ?_
        refine g_getI (n := 37) rfl rfl z_41 rfl ?_
        refine g_zle (n := 40) rfl rfl (fun h37 => ?_) (fun h37 => ?_)
        · skip
          refine g_const (n := 45) rfl rfl (s_iconst (v := 0) (by decide)) ?_
          refine g_retPZ rfl (by decide) ?_
          first | (unfold mWith mMost; rw [h5]; rfl) | (unfold mWith mMost; rw [h5, dle h16]; rfl) | (unfold mWith mMost; rw [h5, dT h16, h23]; simp only [cond_true, cond_false]; rw [dT h37]; rfl) | (unfold mWith mMost; rw [h5, dT h16, h23]; simp only [cond_true, cond_false]; rw [dlt h37]; rfl)
        · skip
          refine g_const (n := 41) rfl rfl (s_iconst (v := 1) (by decide)) ?_
          refine g_goto rfl ?_
          refine g_retPZ rfl (by decide) ?_
          first | (unfold mWith mMost; rw [h5]; rfl) | (unfold mWith mMost; rw [h5, dle h16]; rfl) | (unfold mWith mMost; rw [h5, dT h16, h23]; simp only [cond_true, cond_false]; rw [dT h37]; rfl) | (unfold mWith mMost; rw [h5, dT h16, h23]; simp only [cond_true, cond_false]; rw [dlt h37]; rfl)
      · skip
        refine g_aload_n (n := 27) rfl rfl rfl ?_
        refine g_getI (n := 30) rfl rfl z_41 rfl ?_
        refine g_goto rfl ?_
        refine g_zle (n := 40) rfl rfl (fun h37 => ?_) (fun h37 => ?_)
        · skip
          refine g_const (n := 45) rfl rfl (s_iconst (v := 0) (by decide)) ?_
          refine g_retPZ rfl (by decide) ?_
          first | (unfold mWith mMost; rw [h5]; rfl) | (unfold mWith mMost; rw [h5, dle h16]; rfl) | (unfold mWith mMost; rw [h5, dT h16, h23]; simp only [cond_true, cond_false]; rw [dT h37]; rfl) | (unfold mWith mMost; rw [h5, dT h16, h23]; simp only [cond_true, cond_false]; rw [dlt h37]; rfl)
        · skip
          refine g_const (n := 41) rfl rfl (s_iconst (v := 1) (by decide)) ?_
          refine g_goto rfl ?_
          refine g_retPZ rfl (by decide) ?_
          first | (unfold mWith mMost; rw [h5]; rfl) | (unfold mWith mMost; rw [h5, dle h16]; rfl) | (unfold mWith mMost; rw [h5, dT h16, h23]; simp only [cond_true, cond_false]; rw [dT h37]; rfl) | (unfold mWith mMost; rw [h5, dT h16, h23]; simp only [cond_true, cond_false]; rw [dlt h37]; rfl)
def mWith2 (M : Mem) (x y : Int32) : Bool := mWith M x && (mWith M y && (!(decide (bI (decide (x < 200)) = bI (decide (y < 200)))) || decide (1 < mMost M x)))
set_option maxRecDepth 20000 in
theorem st_are38 {x y : Int32} {t : Bool} (ht : t = (!(decide (bI (decide (x < 200)) = bI (decide (y < 200)))) || decide (1 < mMost M x))) : Go [] (d + 4) (some .boolean) tabX9_areWithin 38 [(0, .ref 41), (1, .int x), (2, .int y)] [.int (bI t)] (hp (zz E T) M) 0 0 (QP (hp (zz E T) M) (.int (bI (mWith2 M x y)))) := by
  refine g_istore_n (n := 39) rfl rfl ?_
  refine g_aload_n (n := 40) rfl rfl rfl ?_
  refine g_iload_n (n := 41) rfl rfl rfl ?_
  refine g_cP2 (n := 44) rfl rfl rfl rfl mt_X9_isWithin rfl rfl (r_k z_41) (sp_isWithin) ?_
  refine g_bz (n := 47) rfl rfl (fun h44 => ?_) (fun h44 => ?_)
  · skip
    refine g_const (n := 64) rfl rfl (s_iconst (v := 0) (by decide)) ?_
    refine g_retPZ rfl (by decide) ?_
    first | (unfold mWith2; rw [h44, h52, ← ht, h56]; rfl) | (unfold mWith2; rw [h44, h52]; rfl) | (unfold mWith2; rw [h44]; rfl)
  · skip
    refine g_aload_n (n := 48) rfl rfl rfl ?_
    refine g_iload_n (n := 49) rfl rfl rfl ?_
    refine g_cP2 (n := 52) rfl rfl rfl rfl mt_X9_isWithin rfl rfl (r_k z_41) (sp_isWithin) ?_
    refine g_bz (n := 55) rfl rfl (fun h52 => ?_) (fun h52 => ?_)
    · skip
      refine g_const (n := 64) rfl rfl (s_iconst (v := 0) (by decide)) ?_
      refine g_retPZ rfl (by decide) ?_
      first | (unfold mWith2; rw [h44, h52, ← ht, h56]; rfl) | (unfold mWith2; rw [h44, h52]; rfl) | (unfold mWith2; rw [h44]; rfl)
    · skip
      refine g_iload_n (n := 56) rfl rfl rfl ?_
      refine g_bz (n := 59) rfl rfl (fun h56 => ?_) (fun h56 => ?_)
      · skip
        refine g_const (n := 64) rfl rfl (s_iconst (v := 0) (by decide)) ?_
        refine g_retPZ rfl (by decide) ?_
        first | (unfold mWith2; rw [h44, h52, ← ht, h56]; rfl) | (unfold mWith2; rw [h44, h52]; rfl) | (unfold mWith2; rw [h44]; rfl)
      · skip
        refine g_const (n := 60) rfl rfl (s_iconst (v := 1) (by decide)) ?_
        refine g_goto rfl ?_
        refine g_retPZ rfl (by decide) ?_
        first | (unfold mWith2; rw [h44, h52, ← ht, h56]; rfl) | (unfold mWith2; rw [h44, h52]; rfl) | (unfold mWith2; rw [h44]; rfl)
set_option maxRecDepth 20000 in
theorem sp_areWithin {x y : Int32} : EvP (d + 5) miX9_areWithin [.ref 41, .int x, .int y] (hp (zz E T) M) (.int (bI (mWith2 M x y))) := by
  refine ev_of mt_X9_areWithin rfl ?_
  refine g_iload_n (n := 1) rfl rfl rfl ?_
  refine g_cP1 (n := 4) rfl rfl rfl rfl mt_X9_isLoss rfl rfl rfl (sp_isLoss) ?_
  refine g_iload_n (n := 5) rfl rfl rfl ?_
  refine g_cP1 (n := 8) rfl rfl rfl rfl mt_X9_isLoss rfl rfl rfl (sp_isLoss) ?_
  refine g_ine (n := 11) rfl rfl (fun h8 => ?_) (fun h8 => ?_)
  · skip
    refine g_const (n := 34) rfl rfl (s_iconst (v := 1) (by decide)) ?_
    refine g_goto rfl ?_
    first | exact st_are38 (t := true) (by rw [dF h8]; rfl) | exact st_are38 (t := true) (by unfold mMost; rw [dT h8, h15]; simp only [cond_true, cond_false]; rw [dT h30]; rfl) | exact st_are38 (t := false) (by unfold mMost; rw [dT h8, h15]; simp only [cond_true, cond_false]; rw [dlt h30]; rfl)
  · skip
    refine g_iload_n (n := 12) rfl rfl rfl ?_
    refine g_cP1 (n := 15) rfl rfl rfl rfl mt_X9_isLoss rfl rfl rfl (sp_isLoss) ?_
    refine g_bz (n := 18) rfl rfl (fun h15 => ?_) (fun h15 => ?_)
    · skip
      refine g_aload_n (n := 26) rfl rfl rfl ?_
      refine g_getI (n := 29) rfl rfl z_41 rfl ?_
      refine g_const (n := 30) rfl rfl (s_iconst (v := 1) (by decide)) ?_
      refine g_ile (n := 33) rfl rfl (fun h30 => ?_) (fun h30 => ?_)
      · skip
        refine g_const (n := 38) rfl rfl (s_iconst (v := 0) (by decide)) ?_
        first | exact st_are38 (t := true) (by rw [dF h8]; rfl) | exact st_are38 (t := true) (by unfold mMost; rw [dT h8, h15]; simp only [cond_true, cond_false]; rw [dT h30]; rfl) | exact st_are38 (t := false) (by unfold mMost; rw [dT h8, h15]; simp only [cond_true, cond_false]; rw [dlt h30]; rfl)
      · skip
        refine g_const (n := 34) rfl rfl (s_iconst (v := 1) (by decide)) ?_
        refine g_goto rfl ?_
        first | exact st_are38 (t := true) (by rw [dF h8]; rfl) | exact st_are38 (t := true) (by unfold mMost; rw [dT h8, h15]; simp only [cond_true, cond_false]; rw [dT h30]; rfl) | exact st_are38 (t := false) (by unfold mMost; rw [dT h8, h15]; simp only [cond_true, cond_false]; rw [dlt h30]; rfl)
    · skip
      refine g_aload_n (n := 19) rfl rfl rfl ?_
      refine g_getI (n := 22) rfl rfl z_41 rfl ?_
      refine g_goto rfl ?_
      refine g_const (n := 30) rfl rfl (s_iconst (v := 1) (by decide)) ?_
      refine g_ile (n := 33) rfl rfl (fun h30 => ?_) (fun h30 => ?_)
      · skip
        refine g_const (n := 38) rfl rfl (s_iconst (v := 0) (by decide)) ?_
        first | exact st_are38 (t := true) (by rw [dF h8]; rfl) | exact st_are38 (t := true) (by unfold mMost; rw [dT h8, h15]; simp only [cond_true, cond_false]; rw [dT h30]; rfl) | exact st_are38 (t := false) (by unfold mMost; rw [dT h8, h15]; simp only [cond_true, cond_false]; rw [dlt h30]; rfl)
      · skip
        refine g_const (n := 34) rfl rfl (s_iconst (v := 1) (by decide)) ?_
        refine g_goto rfl ?_
        first | exact st_are38 (t := true) (by rw [dF h8]; rfl) | exact st_are38 (t := true) (by unfold mMost; rw [dT h8, h15]; simp only [cond_true, cond_false]; rw [dT h30]; rfl) | exact st_are38 (t := false) (by unfold mMost; rw [dT h8, h15]; simp only [cond_true, cond_false]; rw [dlt h30]; rfl)
set_option maxRecDepth 20000 in
theorem lp_takesHand {k : Nat} (hk : M 41 19 = Int32.ofNat k) (hk4 : k ≤ 4) : ∀ i, i ≤ k → ∀ M1, mKeep M M1 → M1 41 23 = M 41 19 → (∀ j, j < i → M1 54 j = M 52 j) → Go [] d none tabX9_takesHand 10 [(0, .ref 41), (1, .int (Int32.ofNat i))] [] (hp (zz E T) M1) 0 0 (QV (zz E T) (fun M1 => mKeep M M1 ∧ M1 41 23 = Int32.ofNat k ∧ (∀ j, j < k → M1 54 j = M 52 j) ∧ M1 41 25 = 0)) := by
  refine loop_up k ?_
  intro i hi ih M1 k1 k2 k3
  refine g_iload_n (n := 11) rfl rfl rfl ?_
  refine g_aload_n (n := 12) rfl rfl rfl ?_
  refine g_getI (n := 15) rfl rfl z_41 rfl ?_
  refine g_ige (n := 18) rfl rfl (fun h15 => ?_) (fun h15 => ?_)
  · skip
    rw [k1 41 19 rfl, hk] at h15
    have g9 := (jn_le (by omega) (by omega)).mp h15
    refine g_aload_n (n := 37) rfl rfl rfl ?_
    refine g_const (n := 38) rfl rfl (s_iconst (v := 0) (by decide)) ?_
    refine g_putI (n := 41) rfl rfl z_41 rfl rfl ?_
    refine g_retV rfl ?_
    exact ⟨k1.up rfl, k2.trans hk, fun j hj => k3 j (by omega), rfl⟩
  · skip
    rw [k1 41 19 rfl, hk] at h15
    have g9 := (jn_lt (by omega) (by omega)).mp h15
    refine g_aload_n (n := 19) rfl rfl rfl ?_
    refine g_getR (n := 22) rfl rfl z_41 rfl ?_
    refine g_iload_n (n := 23) rfl rfl rfl ?_
    refine g_aload_n (n := 24) rfl rfl rfl ?_
    refine g_getR (n := 27) rfl rfl z_41 rfl ?_
    refine g_iload_n (n := 28) rfl rfl rfl ?_
    refine g_iald (n := 29) rfl rfl z_52 rfl rfl (by omega) ?_
    refine g_iast (n := 30) rfl rfl z_54 rfl rfl (by omega) ?_
    refine g_iinc (n := 33) rfl rfl rfl (jn_1 _) ?_
    refine g_goto rfl ?_
    refine ih g9 _ ?_ ?_ ?_
    · exact k1.up rfl
    · exact k2
    · intro j hj
      by_cases e : j = i
      · subst e; rw [mup_same]; exact k1 52 j rfl
      · rw [mup_j e]; exact k3 j (by omega)
set_option maxRecDepth 20000 in
theorem sp_takesHand {k : Nat} (hk : M 41 19 = Int32.ofNat k) (hk4 : k ≤ 4) : EvV (d + 1) miX9_takesHand [.ref 41] (zz E T) M (fun M1 => mKeep M M1 ∧ M1 41 23 = Int32.ofNat k ∧ (∀ j, j < k → M1 54 j = M 52 j) ∧ M1 41 25 = 0) := by
  refine ev_of mt_X9_takesHand rfl ?_
  refine g_aload_n (n := 1) rfl rfl rfl ?_
  refine g_aload_n (n := 2) rfl rfl rfl ?_
  refine g_getI (n := 5) rfl rfl z_41 rfl ?_
  refine g_putI (n := 8) rfl rfl z_41 rfl rfl ?_
  refine g_const (n := 9) rfl rfl (s_iconst (v := 0) (by decide)) ?_
  refine g_istore_n (n := 10) rfl rfl ?_
  refine lp_takesHand hk hk4 0 (by omega) _ ?_ ?_ ?_
  · exact mKeep.rf.up rfl
  · rfl
  · exact fun j hj => absurd hj (by omega)
/-- a blow, or none -/
def jB (x : Int32) : Prop := x = -1 ∨ 0 ≤ x
set_option maxRecDepth 20000 in
theorem st_breaks55 {nb : Nat} {M1 : Mem} {x y : Int32} (hI : MI M) (k1 : mKeep M M1) (hb : M1 41 23 = Int32.ofNat nb) (hn4 : nb ≤ 4) (hp0 : ∀ k, k < nb → 0 ≤ M1 54 k) : Go [] (d + 5) (some .boolean) tabX9_breaks 55 [(0, .ref 41), (1, .int x), (2, .int y)] [] (hp (zz E T) M1) 0 0 (QI (zz E T) (fun x M' => (x = 0 ∨ x = 1) ∧ mKeep M M')) := by
  refine g_aload_n (n := 56) rfl rfl rfl ?_
  refine g_cI1 (n := 59) rfl rfl rfl rfl mt_X9_isBroken rfl rfl (r_k z_41) (sp_isBroken (hI.keep k1) hb hn4 hp0) ?_
  rintro x56 M56 ⟨hx, k2⟩
  refine g_retZ rfl hx ?_
  exact ⟨hx, k1.tr k2⟩
set_option maxRecDepth 20000 in
theorem sp_breaks {x y : Int32} (hI : MI M) (hx : jB x) (hy : jB y) : EvI (d + 6) miX9_breaks [.ref 41, .int x, .int y] (zz E T) M (fun x M' => (x = 0 ∨ x = 1) ∧ mKeep M M') := by
  refine ev_of mt_X9_breaks rfl ?_
  refine g_aload_n (n := 1) rfl rfl rfl ?_
  refine g_const (n := 2) rfl rfl (s_iconst (v := 0) (by decide)) ?_
  refine g_putI (n := 5) rfl rfl z_41 rfl rfl ?_
  refine g_iload_n (n := 6) rfl rfl rfl ?_
  refine g_const (n := 7) rfl rfl (s_iconst (v := (-1)) (by decide)) ?_
  refine g_ieq (n := 10) rfl rfl (fun h7 => ?_) (fun h7 => ?_)
  · skip
    refine g_iload_n (n := 31) rfl rfl rfl ?_
    refine g_const (n := 32) rfl rfl (s_iconst (v := (-1)) (by decide)) ?_
    refine g_ieq (n := 35) rfl rfl (fun h32 => ?_) (fun h32 => ?_)
    · skip
      refine st_breaks55 (nb := 0) hI ?_ rfl (by omega) (fun k hk => absurd hk (by omega))
      exact mKeep.rf.up rfl
    · skip
      refine g_aload_n (n := 36) rfl rfl rfl ?_
      refine g_getR (n := 39) rfl rfl z_41 rfl ?_
      refine g_aload_n (n := 40) rfl rfl rfl ?_
      refine g_getI (n := 43) rfl rfl z_41 rfl ?_
      refine g_iload_n (n := 44) rfl rfl rfl ?_
      refine g_iast (n := 45) rfl rfl z_54 rfl (j := 0) rfl (by omega) ?_
      refine g_aload_n (n := 46) rfl rfl rfl ?_
      refine g_dup (n := 47) rfl rfl ?_
      refine g_getI (n := 50) rfl rfl z_41 rfl ?_
      refine g_const (n := 51) rfl rfl (s_iconst (v := 1) (by decide)) ?_
      refine g_iadd (n := 52) rfl rfl ?_
      refine g_putI (n := 55) rfl rfl z_41 rfl rfl ?_
      refine st_breaks55 (nb := 1) hI ?_ rfl (by omega) (fun k hk => ?_)
      · exact ((mKeep.rf.up rfl).up rfl).up rfl
      · obtain rfl : k = 0 := by omega
        exact hy.resolve_left h32
  · skip
    refine g_aload_n (n := 11) rfl rfl rfl ?_
    refine g_getR (n := 14) rfl rfl z_41 rfl ?_
    refine g_aload_n (n := 15) rfl rfl rfl ?_
    refine g_getI (n := 18) rfl rfl z_41 rfl ?_
    refine g_iload_n (n := 19) rfl rfl rfl ?_
    refine g_iast (n := 20) rfl rfl z_54 rfl (j := 0) rfl (by omega) ?_
    refine g_aload_n (n := 21) rfl rfl rfl ?_
    refine g_dup (n := 22) rfl rfl ?_
    refine g_getI (n := 25) rfl rfl z_41 rfl ?_
    refine g_const (n := 26) rfl rfl (s_iconst (v := 1) (by decide)) ?_
    refine g_iadd (n := 27) rfl rfl ?_
    refine g_putI (n := 30) rfl rfl z_41 rfl rfl ?_
    refine g_iload_n (n := 31) rfl rfl rfl ?_
    refine g_const (n := 32) rfl rfl (s_iconst (v := (-1)) (by decide)) ?_
    refine g_ieq (n := 35) rfl rfl (fun h32 => ?_) (fun h32 => ?_)
    · skip
      refine st_breaks55 (nb := 1) hI ?_ rfl (by omega) (fun k hk => ?_)
      · exact ((mKeep.rf.up rfl).up rfl).up rfl
      · obtain rfl : k = 0 := by omega
        exact hx.resolve_left h7
    · skip
      refine g_aload_n (n := 36) rfl rfl rfl ?_
      refine g_getR (n := 39) rfl rfl z_41 rfl ?_
      refine g_aload_n (n := 40) rfl rfl rfl ?_
      refine g_getI (n := 43) rfl rfl z_41 rfl ?_
      refine g_iload_n (n := 44) rfl rfl rfl ?_
      refine g_iast (n := 45) rfl rfl z_54 rfl (j := 1) rfl (by omega) ?_
      refine g_aload_n (n := 46) rfl rfl rfl ?_
      refine g_dup (n := 47) rfl rfl ?_
      refine g_getI (n := 50) rfl rfl z_41 rfl ?_
      refine g_const (n := 51) rfl rfl (s_iconst (v := 1) (by decide)) ?_
      refine g_iadd (n := 52) rfl rfl ?_
      refine g_putI (n := 55) rfl rfl z_41 rfl rfl ?_
      refine st_breaks55 (nb := 2) hI ?_ rfl (by omega) (fun k hk => ?_)
      · exact ((((mKeep.rf.up rfl).up rfl).up rfl).up rfl).up rfl
      · match k, hk with
        | 0, _ => exact hx.resolve_left h7
        | 1, _ => exact hy.resolve_left h32
set_option maxRecDepth 20000 in
theorem lp_isMended (hI : MI M) : ∀ i, i ≤ 228 → ∀ t M1, mKeep M M1 → Go [] (d + 6) (some .boolean) tabX9_isMended 17 [(0, .ref 41), (1, .int (bI t)), (2, .int (Int32.ofNat i))] [] (hp (zz E T) M1) 0 0 (QI (zz E T) (fun x M' => (x = 0 ∨ x = 1) ∧ mKeep M M')) := by
  refine loop_up 228 ?_
  intro i hi ih t M1 k1
  refine g_iload_n (n := 18) rfl rfl rfl ?_
  refine g_const (n := 21) rfl rfl (s_sipush (v := 228) (by decide)) ?_
  refine g_ige (n := 24) rfl rfl (fun h21 => ?_) (fun h21 => ?_)
  · skip
    refine g_iload_n (n := 58) rfl rfl rfl ?_
    refine g_retZ rfl bI01 ?_
    exact ⟨bI01, k1⟩
  · skip
    have g9 := (jn_lt (b := 228) (a := i) (by omega) (by omega)).mp h21
    refine g_iload_n (n := 25) rfl rfl rfl ?_
    refine g_bz (n := 28) rfl rfl (fun h25 => ?_) (fun h25 => ?_)
    · skip
      refine g_iload_n (n := 58) rfl rfl rfl ?_
      refine g_retZ rfl bI01 ?_
      exact ⟨bI01, k1⟩
    · skip
      refine g_aload_n (n := 29) rfl rfl rfl ?_
      refine g_iload_n (n := 30) rfl rfl rfl ?_
      refine g_cP2 (n := 33) rfl rfl rfl rfl mt_X9_isWithin rfl rfl (r_k z_41) (sp_isWithin) ?_
      refine g_bz (n := 36) rfl rfl (fun h33 => ?_) (fun h33 => ?_)
      · skip
        refine g_const (n := 46) rfl rfl (s_iconst (v := 1) (by decide)) ?_
        refine g_goto rfl ?_
        refine g_istore_n (n := 51) rfl rfl ?_
        refine g_iinc (n := 54) rfl rfl rfl (jn_1 _) ?_
        refine g_goto rfl ?_
        first | exact ih g9 true _ (k1.tr k2) | exact ih g9 false _ (k1.tr k2) | exact ih g9 true _ k1 | exact ih g9 false _ k1
      · skip
        refine g_aload_n (n := 37) rfl rfl rfl ?_
        refine g_iload_n (n := 38) rfl rfl rfl ?_
        refine g_const (n := 39) rfl rfl (s_iconst (v := (-1)) (by decide)) ?_
        refine g_cI3 (n := 42) rfl rfl rfl rfl mt_X9_breaks rfl rfl (r_k z_41) (sp_breaks (hI.keep k1) (Or.inr ((jn_le (a := 0) (by omega) (by omega)).mpr (by omega))) (Or.inl rfl)) ?_
        rintro x39 M39 ⟨hx, k2⟩
        refine g_zne (n := 45) rfl rfl (fun h42 => ?_) (fun h42 => ?_)
        · skip
          refine g_const (n := 50) rfl rfl (s_iconst (v := 0) (by decide)) ?_
          refine g_istore_n (n := 51) rfl rfl ?_
          refine g_iinc (n := 54) rfl rfl rfl (jn_1 _) ?_
          refine g_goto rfl ?_
          first | exact ih g9 true _ (k1.tr k2) | exact ih g9 false _ (k1.tr k2) | exact ih g9 true _ k1 | exact ih g9 false _ k1
        · skip
          refine g_const (n := 46) rfl rfl (s_iconst (v := 1) (by decide)) ?_
          refine g_goto rfl ?_
          refine g_istore_n (n := 51) rfl rfl ?_
          refine g_iinc (n := 54) rfl rfl rfl (jn_1 _) ?_
          refine g_goto rfl ?_
          first | exact ih g9 true _ (k1.tr k2) | exact ih g9 false _ (k1.tr k2) | exact ih g9 true _ k1 | exact ih g9 false _ k1
end SM
