/-! The program: seeking -/
section SC
variable {E : Value} {T : List SH} {M : Mem} {d n : Nat} {rs : Nat → Nat}
def cMost (M : Mem) (x : Int32) : Int32 := bif decide (x < 200) then M 10 0 else M 10 1
def cAllow (M : Mem) (e x : Int32) : Bool := decide (0 < cMost M x) && (decide (cTick x ≤ M 10 2) && cBlow e x)
set_option maxRecDepth 20000 in
theorem st_allow18 {x e y : Int32} (hy : y = cMost M x) : Go [] (d + 3) (some .boolean) tabX1_allowOne 18 [(0, .ref 10), (1, .int x), (2, .int e)] [.int y] (hp (zz E T) M) 0 0 (QP (hp (zz E T) M) (.int (bI (cAllow M e x)))) := by
  subst hy
  refine g_istore_n (n := 19) rfl rfl ?_
  refine g_iload_n (n := 20) rfl rfl rfl ?_
  refine g_zle (n := 23) rfl rfl (fun h20 => ?_) (fun h20 => ?_)
  · skip
    refine g_const (n := 47) rfl rfl (s_iconst (v := 0) (by decide)) ?_
    refine g_retPZ rfl (by decide) ?_
    first | (unfold cAllow; rw [dlt h20]; rfl) | (unfold cAllow; rw [dT h20, dle h31]; rfl) | (unfold cAllow; rw [dT h20, dT h31, h39]; rfl)
  · skip
    refine g_iload_n (n := 24) rfl rfl rfl ?_
    refine g_cP1 (n := 27) rfl rfl rfl rfl mt_X0_tickOf rfl rfl rfl (sc_tickOf) ?_
    refine g_aload_n (n := 28) rfl rfl rfl ?_
    refine g_getI (n := 31) rfl rfl z_10 rfl ?_
    refine g_igt (n := 34) rfl rfl (fun h31 => ?_) (fun h31 => ?_)
    · skip
      refine g_const (n := 47) rfl rfl (s_iconst (v := 0) (by decide)) ?_
      refine g_retPZ rfl (by decide) ?_
      first | (unfold cAllow; rw [dlt h20]; rfl) | (unfold cAllow; rw [dT h20, dle h31]; rfl) | (unfold cAllow; rw [dT h20, dT h31, h39]; rfl)
    · skip
      refine g_iload_n (n := 35) rfl rfl rfl ?_
      refine g_iload_n (n := 36) rfl rfl rfl ?_
      refine g_cP2 (n := 39) rfl rfl rfl rfl mt_X0_exists rfl rfl rfl (sc_exists) ?_
      refine g_bz (n := 42) rfl rfl (fun h39 => ?_) (fun h39 => ?_)
      · skip
        refine g_const (n := 47) rfl rfl (s_iconst (v := 0) (by decide)) ?_
        refine g_retPZ rfl (by decide) ?_
        first | (unfold cAllow; rw [dlt h20]; rfl) | (unfold cAllow; rw [dT h20, dle h31]; rfl) | (unfold cAllow; rw [dT h20, dT h31, h39]; rfl)
      · skip
        refine g_const (n := 43) rfl rfl (s_iconst (v := 1) (by decide)) ?_
        refine g_goto rfl ?_
        refine g_retPZ rfl (by decide) ?_
        first | (unfold cAllow; rw [dlt h20]; rfl) | (unfold cAllow; rw [dT h20, dle h31]; rfl) | (unfold cAllow; rw [dT h20, dT h31, h39]; rfl)
set_option maxRecDepth 20000 in
theorem sc_allowOne {x e : Int32} : EvP (d + 4) miX1_allowOne [.ref 10, .int x, .int e] (hp (zz E T) M) (.int (bI (cAllow M e x))) := by
  refine ev_of mt_X1_allowOne rfl ?_
  refine g_iload_n (n := 1) rfl rfl rfl ?_
  refine g_cP1 (n := 4) rfl rfl rfl rfl mt_X0_isLoss rfl rfl rfl (sc_isLoss) ?_
  refine g_bz (n := 7) rfl rfl (fun h4 => ?_) (fun h4 => ?_)
  · skip
    refine g_aload_n (n := 15) rfl rfl rfl ?_
    refine g_getI (n := 18) rfl rfl z_10 rfl ?_
    exact st_allow18 (by unfold cMost; rw [h4]; rfl)
  · skip
    refine g_aload_n (n := 8) rfl rfl rfl ?_
    refine g_getI (n := 11) rfl rfl z_10 rfl ?_
    refine g_goto rfl ?_
    exact st_allow18 (by unfold cMost; rw [h4]; rfl)
def cBoth (M : Mem) (x y : Int32) : Bool := !(decide (bI (decide (x < 200)) = bI (decide (y < 200)))) || decide (1 < cMost M x)
set_option maxRecDepth 20000 in
theorem sc_allowBoth {x y : Int32} : EvP (d + 2) miX1_allowBoth [.ref 10, .int x, .int y] (hp (zz E T) M) (.int (bI (cBoth M x y))) := by
  refine ev_of mt_X1_allowBoth rfl ?_
  refine g_iload_n (n := 1) rfl rfl rfl ?_
  refine g_cP1 (n := 4) rfl rfl rfl rfl mt_X0_isLoss rfl rfl rfl (sc_isLoss) ?_
  refine g_iload_n (n := 5) rfl rfl rfl ?_
  refine g_cP1 (n := 8) rfl rfl rfl rfl mt_X0_isLoss rfl rfl rfl (sc_isLoss) ?_
  refine g_ieq (n := 11) rfl rfl (fun h8 => ?_) (fun h8 => ?_)
  · skip
    refine g_iload_n (n := 14) rfl rfl rfl ?_
    refine g_cP1 (n := 17) rfl rfl rfl rfl mt_X0_isLoss rfl rfl rfl (sc_isLoss) ?_
    refine g_bz (n := 20) rfl rfl (fun h17 => ?_) (fun h17 => ?_)
    · skip
      refine g_aload_n (n := 28) rfl rfl rfl ?_
      refine g_getI (n := 31) rfl rfl z_10 rfl ?_
      refine g_const (n := 32) rfl rfl (s_iconst (v := 1) (by decide)) ?_
      refine g_ile (n := 35) rfl rfl (fun h32 => ?_) (fun h32 => ?_)
      · skip
        refine g_const (n := 40) rfl rfl (s_iconst (v := 0) (by decide)) ?_
        refine g_retPZ rfl (by decide) ?_
        first | (unfold cBoth; rw [dF h8]; rfl) | (unfold cBoth cMost; rw [dT h8, h17]; simp only [cond_true, cond_false]; rw [dT h32]; rfl) | (unfold cBoth cMost; rw [dT h8, h17]; simp only [cond_true, cond_false]; rw [dlt h32]; rfl)
      · skip
        refine g_const (n := 36) rfl rfl (s_iconst (v := 1) (by decide)) ?_
        refine g_goto rfl ?_
        refine g_retPZ rfl (by decide) ?_
        first | (unfold cBoth; rw [dF h8]; rfl) | (unfold cBoth cMost; rw [dT h8, h17]; simp only [cond_true, cond_false]; rw [dT h32]; rfl) | (unfold cBoth cMost; rw [dT h8, h17]; simp only [cond_true, cond_false]; rw [dlt h32]; rfl)
    · skip
      refine g_aload_n (n := 21) rfl rfl rfl ?_
      refine g_getI (n := 24) rfl rfl z_10 rfl ?_
      refine g_goto rfl ?_
      refine g_const (n := 32) rfl rfl (s_iconst (v := 1) (by decide)) ?_
      refine g_ile (n := 35) rfl rfl (fun h32 => ?_) (fun h32 => ?_)
      · skip
        refine g_const (n := 40) rfl rfl (s_iconst (v := 0) (by decide)) ?_
        refine g_retPZ rfl (by decide) ?_
        first | (unfold cBoth; rw [dF h8]; rfl) | (unfold cBoth cMost; rw [dT h8, h17]; simp only [cond_true, cond_false]; rw [dT h32]; rfl) | (unfold cBoth cMost; rw [dT h8, h17]; simp only [cond_true, cond_false]; rw [dlt h32]; rfl)
      · skip
        refine g_const (n := 36) rfl rfl (s_iconst (v := 1) (by decide)) ?_
        refine g_goto rfl ?_
        refine g_retPZ rfl (by decide) ?_
        first | (unfold cBoth; rw [dF h8]; rfl) | (unfold cBoth cMost; rw [dT h8, h17]; simp only [cond_true, cond_false]; rw [dT h32]; rfl) | (unfold cBoth cMost; rw [dT h8, h17]; simp only [cond_true, cond_false]; rw [dlt h32]; rfl)
  · skip
    refine g_const (n := 12) rfl rfl (s_iconst (v := 1) (by decide)) ?_
    refine g_retPZ rfl (by decide) ?_
    first | (unfold cBoth; rw [dF h8]; rfl) | (unfold cBoth cMost; rw [dT h8, h17]; simp only [cond_true, cond_false]; rw [dT h32]; rfl) | (unfold cBoth cMost; rw [dT h8, h17]; simp only [cond_true, cond_false]; rw [dlt h32]; rfl)
/-- the blows within the bounds, listed -/
def WI (M : Mem) : Prop := ∃ w, w ≤ 100 ∧ M 11 8 = Int32.ofNat w ∧ ∀ k, k < w → cBlow (M 1 2) (M 12 k) = true
set_option maxRecDepth 20000 in
theorem lp_listWithin : ∀ i, i ≤ 228 → ∀ M1, Fr cB M M1 → WI M1 → (M1 11 9 = M 11 9 ∧ ∀ j, M1 14 j = M 14 j) → Go [] (d + 4) none tabX5_listWithin 7 [(0, .ref 11), (1, .int (Int32.ofNat i))] [] (hp (zz E T) M1) 0 0 (QV (zz E T) (fun M1 => Fr cB M M1 ∧ WI M1 ∧ M1 11 9 = M 11 9 ∧ ∀ j, M1 14 j = M 14 j)) := by
  refine loop_up 228 ?_
  intro i hi ih M1 k1 hW hs
  obtain ⟨w, hw, ew, hb⟩ := id hW
  refine g_iload_n (n := 8) rfl rfl rfl ?_
  refine g_const (n := 11) rfl rfl (s_sipush (v := 228) (by decide)) ?_
  refine g_ige (n := 14) rfl rfl (fun h11 => ?_) (fun h11 => ?_)
  · skip
    refine g_retV rfl ?_
    exact ⟨k1, hW, hs⟩
  · skip
    have g9 := (jn_lt (b := 228) (a := i) (by omega) (by omega)).mp h11
    refine g_aload_n (n := 15) rfl rfl rfl ?_
    refine g_getI (n := 18) rfl rfl z_11 rfl ?_
    refine g_const (n := 20) rfl rfl (s_bipush (v := 100) (by decide)) ?_
    refine g_ige (n := 23) rfl rfl (fun h20 => ?_) (fun h20 => ?_)
    · skip
      refine g_retV rfl ?_
      exact ⟨k1, hW, hs⟩
    · skip
      rw [ew] at h20
      have g10 := (jn_lt (b := 100) (by omega) (by omega)).mp h20
      refine g_aload_n (n := 24) rfl rfl rfl ?_
      refine g_getR (n := 27) rfl rfl z_11 rfl ?_
      refine g_iload_n (n := 28) rfl rfl rfl ?_
      refine g_aload_n (n := 29) rfl rfl rfl ?_
      refine g_getR (n := 32) rfl rfl z_11 rfl ?_
      refine g_getI (n := 35) rfl rfl z_1 rfl ?_
      refine g_cP3 (n := 38) rfl rfl rfl rfl mt_X1_allowOne rfl rfl (r_k z_10) (sc_allowOne) ?_
      refine g_bz (n := 41) rfl rfl (fun h38 => ?_) (fun h38 => ?_)
      · skip
        refine g_iinc (n := 64) rfl rfl rfl (jn_1 _) ?_
        refine g_goto rfl ?_
        exact ih g9 M1 k1 hW hs
      · skip
        unfold cAllow at h38
        simp only [Bool.and_eq_true] at h38
        refine g_aload_n (n := 42) rfl rfl rfl ?_
        refine g_getR (n := 45) rfl rfl z_11 rfl ?_
        refine g_aload_n (n := 46) rfl rfl rfl ?_
        refine g_getI (n := 49) rfl rfl z_11 rfl ?_
        refine g_iload_n (n := 50) rfl rfl rfl ?_
        refine g_iast (n := 51) rfl rfl z_12 rfl ew (by omega) ?_
        refine g_aload_n (n := 52) rfl rfl rfl ?_
        refine g_dup (n := 53) rfl rfl ?_
        refine g_getI (n := 56) rfl rfl z_11 rfl ?_
        refine g_const (n := 57) rfl rfl (s_iconst (v := 1) (by decide)) ?_
        refine g_iadd (n := 58) rfl rfl ?_
        refine g_putI (n := 61) rfl rfl z_11 rfl rfl ?_
        refine g_iinc (n := 64) rfl rfl rfl (jn_1 _) ?_
        refine g_goto rfl ?_
        refine ih g9 _ ?_ ⟨w + 1, by omega, ?_, fun k hk => ?_⟩ hs
        · exact (k1.up rfl).up rfl
        · show M1 11 8 + 1 = _; rw [ew]; exact jn_add w 1
        · show cBlow (M1 1 2) (mup M1 12 w (Int32.ofNat i) 12 k) = true
          by_cases e : k = w
          · subst e; rw [mup_same]; exact h38.2.2
          · rw [mup_j e]; exact hb k (by omega)
set_option maxRecDepth 20000 in
theorem sc_listWithinS : EvV (d + 5) miX5_listWithin [.ref 11] (zz E T) M (fun M1 => Fr cB M M1 ∧ WI M1 ∧ M1 11 9 = M 11 9 ∧ ∀ j, M1 14 j = M 14 j) := by
  refine ev_of mt_X5_listWithin rfl ?_
  refine g_aload_n (n := 1) rfl rfl rfl ?_
  refine g_const (n := 2) rfl rfl (s_iconst (v := 0) (by decide)) ?_
  refine g_putI (n := 5) rfl rfl z_11 rfl rfl ?_
  refine g_const (n := 6) rfl rfl (s_iconst (v := 0) (by decide)) ?_
  refine g_istore_n (n := 7) rfl rfl ?_
  refine lp_listWithin 0 (by omega) _ ?_ ?_ ?_
  · exact Fr.rf.up rfl
  · exact ⟨0, by omega, rfl, fun k hk => absurd hk (by omega)⟩
  · exact ⟨rfl, fun j => rfl⟩
set_option maxRecDepth 20000 in
theorem sc_listWithin : EvV (d + 5) miX5_listWithin [.ref 11] (zz E T) M (fun M1 => Fr cB M M1 ∧ WI M1) := evV_mono sc_listWithinS (fun M' h => ⟨h.1, h.2.1⟩)
/-- what look writes -/
def cL (q j : Nat) : Bool := cB q j || (Nat.beq q 11 && Nat.beq j 11)
set_option maxRecDepth 20000 in
theorem cL_of {q j : Nat} (h : cB q j = true) : cL q j = true := by unfold cL; rw [h]; rfl
set_option maxRecDepth 20000 in
theorem cL_hi {q j : Nat} (h : 61 ≤ q) : cL q j = false := by
  have e : Nat.beq q 11 = false := by
    cases hb : Nat.beq q 11 with
    | false => rfl
    | true => have := Nat.eq_of_beq_eq_true hb; omega
  simp only [cL, cB_hi h, e, Bool.false_and, Bool.or_self]
def BS (M : Mem) : Prop := M 11 11 = 9 ∨ jU 2 (M 11 11)
set_option maxRecDepth 20000 in
theorem sc_noteBreak {s x y : Int32} (hs : jU 2 s) (hB : BS M) : EvV (d + 1) miX5_noteBreak [.ref 11, .int s, .int x, .int y] (zz E T) M (fun M' => Fr cL M M' ∧ BS M' ∧ M' 11 8 = M 11 8 ∧ ∀ k, M' 12 k = M 12 k) := by
  refine ev_of mt_X5_noteBreak rfl ?_
  refine g_aload_n (n := 1) rfl rfl rfl ?_
  refine g_getI (n := 4) rfl rfl z_11 rfl ?_
  refine g_const (n := 6) rfl rfl (s_bipush (v := 9) (by decide)) ?_
  refine g_ine (n := 9) rfl rfl (fun h6 => ?_) (fun h6 => ?_)
  · skip
    refine g_retV rfl ?_
    first | exact ⟨Fr.rf, hB, rfl, fun k => rfl⟩ | exact ⟨((Fr.rf.up rfl).up rfl).up rfl, Or.inr hs, rfl, fun k => rfl⟩
  · skip
    refine g_aload_n (n := 10) rfl rfl rfl ?_
    refine g_iload_n (n := 11) rfl rfl rfl ?_
    refine g_putI (n := 14) rfl rfl z_11 rfl rfl ?_
    refine g_aload_n (n := 15) rfl rfl rfl ?_
    refine g_iload_n (n := 16) rfl rfl rfl ?_
    refine g_putI (n := 19) rfl rfl z_11 rfl rfl ?_
    refine g_aload_n (n := 20) rfl rfl rfl ?_
    refine g_iload_n (n := 21) rfl rfl rfl ?_
    refine g_putI (n := 24) rfl rfl z_11 rfl rfl ?_
    refine g_retV rfl ?_
    first | exact ⟨Fr.rf, hB, rfl, fun k => rfl⟩ | exact ⟨((Fr.rf.up rfl).up rfl).up rfl, Or.inr hs, rfl, fun k => rfl⟩
/-- while the listed blows are gone through -/
def WK (M M1 : Mem) : Prop := Fr cL M M1 ∧ BS M1 ∧ M1 11 8 = M 11 8 ∧ ∀ k, M1 12 k = M 12 k
set_option maxRecDepth 20000 in
theorem WK.keep {M1 M2 : Mem} (h : WK M M1) (k : cKeep M1 M2) : WK M M2 := by
  refine ⟨h.1.tr (k.toB.mono (fun _ _ => cL_of)), ?_, (k 11 8 rfl).trans h.2.2.1, fun j => (k 12 j rfl).trans (h.2.2.2 j)⟩
  unfold BS
  rw [k 11 11 rfl]
  exact h.2.1
set_option maxRecDepth 20000 in
theorem WK.cw {M1 : Mem} (hC : CW E T M n rs) (h : WK M M1) : CW E T M1 n rs := hC.fr h.1 rfl rfl rfl (fun q j hq => cL_hi hq)
set_option maxRecDepth 20000 in
theorem run15 : IsRun 15 := Or.inl rfl
set_option maxRecDepth 20000 in
theorem run21 : IsRun 21 := Or.inr (Or.inl rfl)
set_option maxRecDepth 20000 in
theorem run27 : IsRun 27 := Or.inr (Or.inr (Or.inl rfl))
set_option maxRecDepth 20000 in
theorem run33 : IsRun 33 := Or.inr (Or.inr (Or.inr rfl))
set_option maxRecDepth 20000 in
theorem lp_ones {w e : Nat} (hC : CW E T M n rs) (hw : w ≤ 100) (ew : M 11 8 = Int32.ofNat w) (hb : ∀ k, k < w → cBlow (M 1 2) (M 12 k) = true) (he : M 1 2 = Int32.ofNat e) (he6 : e ≤ 6) : ∀ i, i ≤ w → ∀ M1, WK M M1 → Go [] (d + 7) none tabX5_lookAtOnes 2 [(0, .ref 11), (1, .int (Int32.ofNat i))] [] (hp (zz E T) M1) 0 0 (QV (zz E T) (WK M)) := by
  refine loop_up w ?_
  intro i hi ih M1 k1
  refine g_iload_n (n := 3) rfl rfl rfl ?_
  refine g_aload_n (n := 4) rfl rfl rfl ?_
  refine g_getI (n := 7) rfl rfl z_11 rfl ?_
  refine g_ige (n := 10) rfl rfl (fun h7 => ?_) (fun h7 => ?_)
  · skip
    refine g_retV rfl ?_
    exact k1
  · skip
    rw [k1.2.2.1, ew] at h7
    have g9 := (jn_lt (by omega) (by omega)).mp h7
    have hbi := hb i g9
    rw [he] at hbi
    obtain ⟨x, t, h, hx, ex, et, hte, eh, h4, -, -⟩ := blow_ok he6 hbi
    refine g_aload_n (n := 11) rfl rfl rfl ?_
    refine g_getR (n := 14) rfl rfl z_11 rfl ?_
    refine g_iload_n (n := 15) rfl rfl rfl ?_
    refine g_iald (n := 16) rfl rfl z_12 rfl rfl (by omega) ?_
    rw [k1.2.2.2 i]
    refine g_istore_n (n := 17) rfl rfl ?_
    refine g_aload_n (n := 18) rfl rfl rfl ?_
    refine g_getR (n := 21) rfl rfl z_11 rfl ?_
    refine g_iload_n (n := 22) rfl rfl rfl ?_
    refine g_cP2 (n := 25) rfl rfl rfl rfl mt_X4_feels rfl rfl (r_k z_15) (sc_feels run15 et (by omega) eh h4) ?_
    refine g_bz (n := 28) rfl rfl (fun h25 => ?_) (fun h25 => ?_)
    · skip
      refine g_iinc (n := 77) rfl rfl rfl (jn_1 _) ?_
      refine g_goto rfl ?_
      refine go_only 2 ?_
      first | exact ih g9 _ k4 | exact ih g9 _ k3' | exact ih g9 _ k1
    · skip
      refine g_aload_n (n := 29) rfl rfl rfl ?_
      refine g_getR (n := 32) rfl rfl z_11 rfl ?_
      refine g_aload_n (n := 33) rfl rfl rfl ?_
      refine g_getR (n := 36) rfl rfl z_11 rfl ?_
      refine g_iload_n (n := 37) rfl rfl rfl ?_
      refine g_cV3 (n := 40) rfl rfl rfl rfl mt_X4_strikeLike rfl rfl (r_k z_21) (sc_strikeLike run21 run15 et (by omega) eh h4) ?_
      rintro M2 ⟨k2, c2⟩
      have k2' := k1.keep k2
      refine g_aload_n (n := 41) rfl rfl rfl ?_
      refine g_getR (n := 44) rfl rfl z_11 rfl ?_
      refine g_cV1 (n := 47) rfl rfl rfl rfl mt_X4_goOn rfl rfl (r_k z_21) (sc_goOn run21 (WK.cw hC k2') c2) ?_
      intro M3 k3
      have k3' := k2'.keep k3
      obtain ⟨t, ht⟩ := sc_breaks (d := d + 6) run21 (WK.cw hC k3')
      refine g_aload_n (n := 48) rfl rfl rfl ?_
      refine g_getR (n := 51) rfl rfl z_11 rfl ?_
      refine g_cP1 (n := 54) rfl rfl rfl rfl mt_X4_breaks rfl rfl (r_k z_21) (ht) ?_
      refine g_bz (n := 57) rfl rfl (fun h54 => ?_) (fun h54 => ?_)
      · skip
        refine g_iinc (n := 77) rfl rfl rfl (jn_1 _) ?_
        refine g_goto rfl ?_
        refine go_only 2 ?_
        first | exact ih g9 _ k4 | exact ih g9 _ k3' | exact ih g9 _ k1
      · skip
        refine g_aload_n (n := 58) rfl rfl rfl ?_
        refine g_getR (n := 61) rfl rfl z_11 rfl ?_
        refine g_iload_n (n := 62) rfl rfl rfl ?_
        refine g_dup2 (n := 63) rfl rfl ?_
        refine g_iald (n := 64) rfl rfl z_13 rfl ex hx ?_
        refine g_const (n := 65) rfl rfl (s_iconst (v := 1) (by decide)) ?_
        refine g_iadd (n := 66) rfl rfl ?_
        refine g_iast (n := 67) rfl rfl z_13 rfl ex hx ?_
        refine g_aload_n (n := 68) rfl rfl rfl ?_
        refine g_const (n := 69) rfl rfl (s_iconst (v := 1) (by decide)) ?_
        refine g_iload_n (n := 70) rfl rfl rfl ?_
        refine g_const (n := 71) rfl rfl (s_iconst (v := (-1)) (by decide)) ?_
        refine g_cV4 (n := 74) rfl rfl rfl rfl mt_X5_noteBreak rfl rfl (r_k z_11) (sc_noteBreak (M := mup M3 13 x _) ⟨1, by omega, rfl⟩ k3'.2.1) ?_
        rintro M4 ⟨f4, b4, s4, w4⟩
        have k4 : WK M M4 := ⟨(k3'.1.up rfl).tr f4, b4, s4.trans k3'.2.2.1, fun k => (w4 k).trans (k3'.2.2.2 k)⟩
        refine g_iinc (n := 77) rfl rfl rfl (jn_1 _) ?_
        refine g_goto rfl ?_
        refine go_only 2 ?_
        first | exact ih g9 _ k4 | exact ih g9 _ k3' | exact ih g9 _ k1
set_option maxRecDepth 20000 in
theorem sc_ones (hC : CW E T M n rs) (hW : WI M) (hB : BS M) : EvV (d + 8) miX5_lookAtOnes [.ref 11] (zz E T) M (WK M) := by
  obtain ⟨w, hw, ew, hb⟩ := hW
  obtain ⟨e, -, he6, he⟩ := hC.2.2.2.2.1
  refine ev_of mt_X5_lookAtOnes rfl ?_
  refine g_const (n := 1) rfl rfl (s_iconst (v := 0) (by decide)) ?_
  refine g_istore_n (n := 2) rfl rfl ?_
  exact lp_ones hC hw ew hb he he6 0 (by omega) M ⟨Fr.rf, hB, rfl, fun k => rfl⟩
set_option maxRecDepth 20000 in
theorem lp_pairs40 {w e a : Nat} {x : Int32} (hC : CW E T M n rs) (hw : w ≤ 100) (ew : M 11 8 = Int32.ofNat w) (hb : ∀ k, k < w → cBlow (M 1 2) (M 12 k) = true) (he : M 1 2 = Int32.ofNat e) (he6 : e ≤ 6) (ha : a < w) (hx : ∃ n, n < 228 ∧ x = Int32.ofNat n) {Q : QT} (K : ∀ M1, WK M M1 → Go [] (d + 7) none tabX5_lookAtPairs 149 [(0, .ref 11), (1, .int (Int32.ofNat a))] [] (hp (zz E T) M1) 0 0 Q) : ∀ i, i ≤ w → ∀ M1, WK M M1 → Go [] (d + 7) none tabX5_lookAtPairs 40 [(0, .ref 11), (1, .int (Int32.ofNat a)), (2, .int x), (3, .int (Int32.ofNat i))] [] (hp (zz E T) M1) 0 0 Q := by
  obtain ⟨xn, hxn, exn⟩ := hx
  refine loop_up w ?_
  intro i hi ih M1 k1
  refine g_iload_n (n := 41) rfl rfl rfl ?_
  refine g_aload_n (n := 42) rfl rfl rfl ?_
  refine g_getI (n := 45) rfl rfl z_11 rfl ?_
  refine g_ige (n := 48) rfl rfl (fun h45 => ?_) (fun h45 => ?_)
  · skip
    refine go_only 2 ?_; exact K M1 k1
  · skip
    rw [k1.2.2.1, ew] at h45
    have g9 := (jn_lt (by omega) (by omega)).mp h45
    have hbi := hb i g9
    rw [he] at hbi
    obtain ⟨y, t, h, hy, ey, et, hte, eh, h4, -, -⟩ := blow_ok he6 hbi
    refine g_aload_n (n := 49) rfl rfl rfl ?_
    refine g_getR (n := 52) rfl rfl z_11 rfl ?_
    refine g_iload_n (n := 53) rfl rfl rfl ?_
    refine g_iald (n := 54) rfl rfl z_12 rfl rfl (by omega) ?_
    rw [k1.2.2.2 i]
    refine g_istore (n := 56) rfl rfl ?_
    refine g_aload_n (n := 57) rfl rfl rfl ?_
    refine g_getR (n := 60) rfl rfl z_11 rfl ?_
    refine g_iload_n (n := 61) rfl rfl rfl ?_
    refine g_iload (n := 63) rfl rfl rfl ?_
    refine g_cP3 (n := 66) rfl rfl rfl rfl mt_X1_allowBoth rfl rfl (r_k z_10) (sc_allowBoth) ?_
    refine g_bz (n := 69) rfl rfl (fun h66 => ?_) (fun h66 => ?_)
    · skip
      refine g_iinc (n := 146) rfl rfl rfl (jn_1 _) ?_
      refine g_goto rfl ?_
      refine go_only 4 ?_
      first | exact ih g9 _ k4 | exact ih g9 _ k3' | exact ih g9 _ k1
    · skip
      refine g_aload_n (n := 70) rfl rfl rfl ?_
      refine g_getR (n := 73) rfl rfl z_11 rfl ?_
      refine g_iload (n := 75) rfl rfl rfl ?_
      refine g_cP2 (n := 78) rfl rfl rfl rfl mt_X4_feels rfl rfl (r_k z_21) (sc_feels run21 et (by omega) eh h4) ?_
      refine g_bnz (n := 81) rfl rfl (fun h78 => ?_) (fun h78 => ?_)
      · skip
        refine g_aload_n (n := 85) rfl rfl rfl ?_
        refine g_getR (n := 88) rfl rfl z_11 rfl ?_
        refine g_aload_n (n := 89) rfl rfl rfl ?_
        refine g_getR (n := 92) rfl rfl z_11 rfl ?_
        refine g_iload (n := 94) rfl rfl rfl ?_
        refine g_cV3 (n := 97) rfl rfl rfl rfl mt_X4_strikeLike rfl rfl (r_k z_27) (sc_strikeLike run27 run21 et (by omega) eh h4) ?_
        rintro M2 ⟨k2, c2⟩
        have k2' := k1.keep k2
        refine g_aload_n (n := 98) rfl rfl rfl ?_
        refine g_getR (n := 101) rfl rfl z_11 rfl ?_
        refine g_cV1 (n := 104) rfl rfl rfl rfl mt_X4_goOn rfl rfl (r_k z_27) (sc_goOn run27 (WK.cw hC k2') c2) ?_
        intro M3 k3
        have k3' := k2'.keep k3
        obtain ⟨t, ht⟩ := sc_breaks (d := d + 6) run27 (WK.cw hC k3')
        refine g_aload_n (n := 105) rfl rfl rfl ?_
        refine g_getR (n := 108) rfl rfl z_11 rfl ?_
        refine g_cP1 (n := 111) rfl rfl rfl rfl mt_X4_breaks rfl rfl (r_k z_27) (ht) ?_
        refine g_bz (n := 114) rfl rfl (fun h111 => ?_) (fun h111 => ?_)
        · skip
          refine g_iinc (n := 146) rfl rfl rfl (jn_1 _) ?_
          refine g_goto rfl ?_
          refine go_only 4 ?_
          first | exact ih g9 _ k4 | exact ih g9 _ k3' | exact ih g9 _ k1
        · skip
          refine g_aload_n (n := 115) rfl rfl rfl ?_
          refine g_getR (n := 118) rfl rfl z_11 rfl ?_
          refine g_iload_n (n := 119) rfl rfl rfl ?_
          refine g_dup2 (n := 120) rfl rfl ?_
          refine g_iald (n := 121) rfl rfl z_13 rfl exn hxn ?_
          refine g_const (n := 122) rfl rfl (s_iconst (v := 1) (by decide)) ?_
          refine g_iadd (n := 123) rfl rfl ?_
          refine g_iast (n := 124) rfl rfl z_13 rfl exn hxn ?_
          refine g_aload_n (n := 125) rfl rfl rfl ?_
          refine g_getR (n := 128) rfl rfl z_11 rfl ?_
          refine g_iload (n := 130) rfl rfl rfl ?_
          refine g_dup2 (n := 131) rfl rfl ?_
          refine g_iald (n := 132) rfl rfl z_13 rfl ey hy ?_
          refine g_const (n := 133) rfl rfl (s_iconst (v := 1) (by decide)) ?_
          refine g_iadd (n := 134) rfl rfl ?_
          refine g_iast (n := 135) rfl rfl z_13 rfl ey hy ?_
          refine g_aload_n (n := 136) rfl rfl rfl ?_
          refine g_const (n := 137) rfl rfl (s_iconst (v := 2) (by decide)) ?_
          refine g_iload_n (n := 138) rfl rfl rfl ?_
          refine g_iload (n := 140) rfl rfl rfl ?_
          refine g_cV4 (n := 143) rfl rfl rfl rfl mt_X5_noteBreak rfl rfl (r_k z_11) (sc_noteBreak (M := mup (mup M3 13 xn _) 13 y _) ⟨2, by omega, rfl⟩ k3'.2.1) ?_
          rintro M4 ⟨f4, b4, s4, w4⟩
          have k4 : WK M M4 := ⟨((k3'.1.up rfl).up rfl).tr f4, b4, s4.trans k3'.2.2.1, fun k => (w4 k).trans (k3'.2.2.2 k)⟩
          refine g_iinc (n := 146) rfl rfl rfl (jn_1 _) ?_
          refine g_goto rfl ?_
          refine go_only 4 ?_
          first | exact ih g9 _ k4 | exact ih g9 _ k3' | exact ih g9 _ k1
      · skip
        refine g_goto rfl ?_
        refine g_iinc (n := 146) rfl rfl rfl (jn_1 _) ?_
        refine g_goto rfl ?_
        refine go_only 4 ?_
        first | exact ih g9 _ k4 | exact ih g9 _ k3' | exact ih g9 _ k1
set_option maxRecDepth 20000 in
theorem lp_pairs2 {w e : Nat} (hC : CW E T M n rs) (hw : w ≤ 100) (ew : M 11 8 = Int32.ofNat w) (hb : ∀ k, k < w → cBlow (M 1 2) (M 12 k) = true) (he : M 1 2 = Int32.ofNat e) (he6 : e ≤ 6) : ∀ i, i ≤ w → ∀ M1, WK M M1 → Go [] (d + 7) none tabX5_lookAtPairs 2 [(0, .ref 11), (1, .int (Int32.ofNat i))] [] (hp (zz E T) M1) 0 0 (QV (zz E T) (WK M)) := by
  refine loop_up w ?_
  intro i hi ih M1 k1
  have K2 : i < w → ∀ M1, WK M M1 → Go [] (d + 7) none tabX5_lookAtPairs 149 [(0, .ref 11), (1, .int (Int32.ofNat i))] [] (hp (zz E T) M1) 0 0 (QV (zz E T) (WK M)) := by
    intro g M1 k1
    refine g_iinc (n := 152) rfl rfl rfl (jn_1 _) ?_
    refine g_goto rfl ?_
    exact ih g M1 k1
  refine g_iload_n (n := 3) rfl rfl rfl ?_
  refine g_aload_n (n := 4) rfl rfl rfl ?_
  refine g_getI (n := 7) rfl rfl z_11 rfl ?_
  refine g_ige (n := 10) rfl rfl (fun h7 => ?_) (fun h7 => ?_)
  · skip
    refine g_retV rfl ?_
    exact k1
  · skip
    rw [k1.2.2.1, ew] at h7
    have g9 := (jn_lt (by omega) (by omega)).mp h7
    have hbi := hb i g9
    rw [he] at hbi
    obtain ⟨x, t, h, hx, ex, et, hte, eh, h4, -, -⟩ := blow_ok he6 hbi
    refine g_aload_n (n := 11) rfl rfl rfl ?_
    refine g_getR (n := 14) rfl rfl z_11 rfl ?_
    refine g_iload_n (n := 15) rfl rfl rfl ?_
    refine g_iald (n := 16) rfl rfl z_12 rfl rfl (by omega) ?_
    rw [k1.2.2.2 i]
    refine g_istore_n (n := 17) rfl rfl ?_
    refine g_aload_n (n := 18) rfl rfl rfl ?_
    refine g_getR (n := 21) rfl rfl z_11 rfl ?_
    refine g_aload_n (n := 22) rfl rfl rfl ?_
    refine g_getR (n := 25) rfl rfl z_11 rfl ?_
    refine g_iload_n (n := 26) rfl rfl rfl ?_
    refine g_cV3 (n := 29) rfl rfl rfl rfl mt_X4_strikeLike rfl rfl (r_k z_21) (sc_strikeLike run21 run15 et (by omega) eh h4) ?_
    rintro M2 ⟨k2, c2⟩
    have k2' := k1.keep k2
    refine g_aload_n (n := 30) rfl rfl rfl ?_
    refine g_getR (n := 33) rfl rfl z_11 rfl ?_
    refine g_cV1 (n := 36) rfl rfl rfl rfl mt_X4_goOn rfl rfl (r_k z_21) (sc_goOn run21 (WK.cw hC k2') c2) ?_
    intro M3 k3
    have k3' := k2'.keep k3
    refine g_iload_n (n := 37) rfl rfl rfl ?_
    refine g_const (n := 38) rfl rfl (s_iconst (v := 1) (by decide)) ?_
    refine g_iadd (n := 39) rfl rfl ?_
    rw [show Int32.ofNat i + 1 = Int32.ofNat (i + 1) from jn_add i 1]
    refine g_istore_n (n := 40) rfl rfl ?_
    exact lp_pairs40 hC hw ew hb he he6 g9 ⟨x, hx, ex⟩ (K2 g9) (i + 1) (by omega) _ k3'
set_option maxRecDepth 20000 in
theorem sc_pairs (hC : CW E T M n rs) (hW : WI M) (hB : BS M) : EvV (d + 8) miX5_lookAtPairs [.ref 11] (zz E T) M (WK M) := by
  obtain ⟨w, hw, ew, hb⟩ := hW
  obtain ⟨e, -, he6, he⟩ := hC.2.2.2.2.1
  refine ev_of mt_X5_lookAtPairs rfl ?_
  refine g_const (n := 1) rfl rfl (s_iconst (v := 0) (by decide)) ?_
  refine g_istore_n (n := 2) rfl rfl ?_
  exact lp_pairs2 hC hw ew hb he he6 0 (by omega) M ⟨Fr.rf, hB, rfl, fun k => rfl⟩
set_option maxRecDepth 20000 in
theorem WI.wk {M1 : Mem} (h : WI M) (k : WK M M1) : WI M1 := by
  obtain ⟨w, hw, ew, hb⟩ := h
  refine ⟨w, hw, k.2.2.1.trans ew, fun j hj => ?_⟩
  rw [k.1 1 2 rfl, k.2.2.2 j]
  exact hb j hj
set_option maxRecDepth 20000 in
theorem sc_look (hC : CW E T M n rs) (hB : BS M) : EvV (d + 9) miX5_look [.ref 11] (zz E T) M (fun M' => Fr cL M M' ∧ BS M') := by
  refine ev_of mt_X5_look rfl ?_
  refine g_aload_n (n := 1) rfl rfl rfl ?_
  refine g_getI (n := 4) rfl rfl z_11 rfl ?_
  refine g_zeq (n := 7) rfl rfl (fun h4 => ?_) (fun h4 => ?_)
  · skip
    refine g_aload_n (n := 9) rfl rfl rfl ?_
    refine g_const (n := 10) rfl rfl (s_iconst (v := 1) (by decide)) ?_
    refine g_putI (n := 13) rfl rfl z_11 rfl rfl ?_
    refine g_aload_n (n := 14) rfl rfl rfl ?_
    refine g_const (n := 16) rfl rfl (s_bipush (v := 9) (by decide)) ?_
    refine g_putI (n := 19) rfl rfl z_11 rfl rfl ?_
    refine g_aload_n (n := 20) rfl rfl rfl ?_
    refine g_const (n := 21) rfl rfl (s_iconst (v := (-1)) (by decide)) ?_
    refine g_putI (n := 24) rfl rfl z_11 rfl rfl ?_
    refine g_aload_n (n := 25) rfl rfl rfl ?_
    refine g_const (n := 26) rfl rfl (s_iconst (v := (-1)) (by decide)) ?_
    refine g_putI (n := 29) rfl rfl z_11 rfl rfl ?_
    refine g_aload_n (n := 30) rfl rfl rfl ?_
    refine g_getR (n := 33) rfl rfl z_11 rfl ?_
    refine g_const (n := 34) rfl rfl (s_iconst (v := 0) (by decide)) ?_
    refine g_cV2 (n := 37) rfl rfl rfl rfl mt_J7_fill_53178 rfl rfl rfl (sp_fill z_13 rfl) ?_
    rintro M34 rfl
    refine g_aload_n (n := 38) rfl rfl rfl ?_
    refine g_cV1 (n := 41) rfl rfl rfl rfl mt_X5_listWithin rfl rfl (r_k z_11) (sc_listWithin) ?_
    rintro M1 ⟨f1, w1⟩
    have f1' : Fr cL M M1 := Fr.tr (M1 := _) ((((((Fr.rf (S := cL)).up rfl).up rfl).up rfl).up rfl).fl (fun j => rfl)) (f1.mono (fun _ _ => cL_of))
    have hC1 : CW E T M1 n rs := hC.fr f1' rfl rfl rfl (fun q j hq => cL_hi hq)
    have hB1 : BS M1 := Or.inl (f1 11 11 rfl)
    refine g_aload_n (n := 42) rfl rfl rfl ?_
    refine g_getR (n := 45) rfl rfl z_11 rfl ?_
    refine g_cV1 (n := 48) rfl rfl rfl rfl mt_X4_strikeNone rfl rfl (r_k z_15) (sc_strikeNone run15) ?_
    rintro M2 ⟨k2, c2⟩
    have w2 : WK M1 M2 := WK.keep ⟨Fr.rf, hB1, rfl, fun k => rfl⟩ k2
    refine g_aload_n (n := 49) rfl rfl rfl ?_
    refine g_getR (n := 52) rfl rfl z_11 rfl ?_
    refine g_cV1 (n := 55) rfl rfl rfl rfl mt_X4_goOn rfl rfl (r_k z_15) (sc_goOn run15 (WK.cw hC1 w2) (by rw [c2]; exact ⟨0, by omega, rfl⟩)) ?_
    intro M3 k3
    have w3 := w2.keep k3
    obtain ⟨t, ht⟩ := sc_breaks (d := d + 7) run15 (WK.cw hC1 w3)
    refine g_aload_n (n := 56) rfl rfl rfl ?_
    refine g_getR (n := 59) rfl rfl z_11 rfl ?_
    refine g_cP1 (n := 62) rfl rfl rfl rfl mt_X4_breaks rfl rfl (r_k z_15) (ht) ?_
    refine g_bz (n := 65) rfl rfl (fun h62 => ?_) (fun h62 => ?_)
    · skip
      refine g_aload_n (n := 72) rfl rfl rfl ?_
      refine g_cV1 (n := 75) rfl rfl rfl rfl mt_X5_lookAtOnes rfl rfl (r_k z_11) (sc_ones (WK.cw hC1 w3) (w1.wk w3) w3.2.1) ?_
      intro M4 w4
      refine g_aload_n (n := 76) rfl rfl rfl ?_
      refine g_getI (n := 79) rfl rfl z_11 rfl ?_
      refine g_const (n := 81) rfl rfl (s_bipush (v := 9) (by decide)) ?_
      refine g_ine (n := 84) rfl rfl (fun h81 => ?_) (fun h81 => ?_)
      · skip
        refine g_retV rfl ?_
        first | exact ⟨((f1'.tr w3.1).tr w4.1).tr w5.1, w5.2.1⟩ | exact ⟨(f1'.tr w3.1).tr w4.1, w4.2.1⟩
      · skip
        refine g_aload_n (n := 85) rfl rfl rfl ?_
        refine g_cV1 (n := 88) rfl rfl rfl rfl mt_X5_lookAtPairs rfl rfl (r_k z_11) (sc_pairs (WK.cw (WK.cw hC1 w3) w4) ((w1.wk w3).wk w4) w4.2.1) ?_
        intro M5 w5
        refine g_retV rfl ?_
        first | exact ⟨((f1'.tr w3.1).tr w4.1).tr w5.1, w5.2.1⟩ | exact ⟨(f1'.tr w3.1).tr w4.1, w4.2.1⟩
    · skip
      refine g_aload_n (n := 66) rfl rfl rfl ?_
      refine g_const (n := 67) rfl rfl (s_iconst (v := 0) (by decide)) ?_
      refine g_putI (n := 70) rfl rfl z_11 rfl rfl ?_
      refine g_retV rfl ?_
      exact ⟨(f1'.tr w3.1).up rfl, Or.inr ⟨0, by omega, rfl⟩⟩
  · skip
    refine g_retV rfl ?_
    exact ⟨Fr.rf, hB⟩
end SC
