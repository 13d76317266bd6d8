/-! The reference: seeking -/
section PM
variable {E : Value} {T : List SH} {M : Mem} {d : Nat}
set_option maxRecDepth 20000 in
theorem st_isMended14 {t : Bool} {M1 : Mem} (hI : MI M) (k1 : mKeep M M1) : Go [] (d + 6) (some .boolean) tabX9_isMended 14 [(0, .ref 41)] [.int (bI t)] (hp (zz E T) M1) 0 0 (QI (zz E T) (fun x M' => (x = 0 ∨ x = 1) ∧ mKeep M M')) := by
  refine g_istore_n (n := 15) rfl rfl ?_
  refine g_const (n := 16) rfl rfl (s_iconst (v := 0) (by decide)) ?_
  refine g_istore_n (n := 17) rfl rfl ?_
  exact lp_isMended hI 0 (by omega) t M1 k1
set_option maxRecDepth 20000 in
theorem sp_isMended (hI : MI M) : EvI (d + 7) miX9_isMended [.ref 41] (zz E T) M (fun x M' => (x = 0 ∨ x = 1) ∧ mKeep M M') := by
  refine ev_of mt_X9_isMended rfl ?_
  refine g_aload_n (n := 1) rfl rfl rfl ?_
  refine g_const (n := 2) rfl rfl (s_iconst (v := (-1)) (by decide)) ?_
  refine g_const (n := 3) rfl rfl (s_iconst (v := (-1)) (by decide)) ?_
  refine g_cI3 (n := 6) rfl rfl rfl rfl mt_X9_breaks rfl rfl (r_k z_41) (sp_breaks hI (Or.inl rfl) (Or.inl rfl)) ?_
  rintro x3 M3 ⟨hx, k2⟩
  refine g_zne (n := 9) rfl rfl (fun h6 => ?_) (fun h6 => ?_)
  · skip
    refine g_const (n := 14) rfl rfl (s_iconst (v := 0) (by decide)) ?_
    first | exact st_isMended14 (t := true) hI k2 | exact st_isMended14 (t := false) hI k2
  · skip
    refine g_const (n := 10) rfl rfl (s_iconst (v := 1) (by decide)) ?_
    refine g_goto rfl ?_
    first | exact st_isMended14 (t := true) hI k2 | exact st_isMended14 (t := false) hI k2
set_option maxRecDepth 20000 in
theorem jn_nn (i : Nat) (h : i < 2147483648) : jB (Int32.ofNat i) := Or.inr ((jn_le (a := 0) (by omega) h).mpr (by omega))
-- seeks
set_option maxRecDepth 20000 in
theorem lp_seeks84 {a : Nat} (ha : a < 228) (hI : MI M) {Q : QT} (hQ : ∀ x M1, jU 9 x → mKeepB M M1 → Q (some (.int x)) (hp (zz E T) M1) 0 0) (K : ∀ M1, mKeepB M M1 → Go [] (d + 6) (some .int) tabX9_seeks 139 [(0, .ref 41), (1, .int (Int32.ofNat a))] [] (hp (zz E T) M1) 0 0 Q) : ∀ i, i ≤ 228 → ∀ M1, mKeepB M M1 → Go [] (d + 6) (some .int) tabX9_seeks 84 [(0, .ref 41), (1, .int (Int32.ofNat a)), (2, .int (Int32.ofNat i))] [] (hp (zz E T) M1) 0 0 Q := by
  refine loop_up 228 ?_
  intro i hi ih M1 k1
  refine g_iload_n (n := 85) rfl rfl rfl ?_
  refine g_const (n := 88) rfl rfl (s_sipush (v := 228) (by decide)) ?_
  refine g_ige (n := 91) rfl rfl (fun h88 => ?_) (fun h88 => ?_)
  · skip
    refine go_only 2 ?_; exact K M1 k1
  · skip
    have g9 := (jn_lt (b := 228) (a := i) (by omega) (by omega)).mp h88
    refine g_aload_n (n := 92) rfl rfl rfl ?_
    refine g_iload_n (n := 93) rfl rfl rfl ?_
    refine g_cP2 (n := 96) rfl rfl rfl rfl mt_X9_isWithin rfl rfl (r_k z_41) (sp_isWithin) ?_
    refine g_bz (n := 99) rfl rfl (fun h96 => ?_) (fun h96 => ?_)
    · skip
      refine go_only 2 ?_; exact K M1 k1
    · skip
      refine g_aload_n (n := 100) rfl rfl rfl ?_
      refine g_iload_n (n := 101) rfl rfl rfl ?_
      refine g_iload_n (n := 102) rfl rfl rfl ?_
      refine g_cP3 (n := 105) rfl rfl rfl rfl mt_X9_areWithin rfl rfl (r_k z_41) (sp_areWithin) ?_
      refine g_bz (n := 108) rfl rfl (fun h105 => ?_) (fun h105 => ?_)
      · skip
        refine g_iinc (n := 136) rfl rfl rfl (jn_1 _) ?_
        refine g_goto rfl ?_
        first | exact ih g9 _ (k1.tr k2.toB) | exact ih g9 _ k1
      · skip
        refine g_aload_n (n := 109) rfl rfl rfl ?_
        refine g_iload_n (n := 110) rfl rfl rfl ?_
        refine g_iload_n (n := 111) rfl rfl rfl ?_
        refine g_cI3 (n := 114) rfl rfl rfl rfl mt_X9_breaks rfl rfl (r_k z_41) (sp_breaks (hI.keepB k1) (jn_nn a (by omega)) (jn_nn i (by omega))) ?_
        rintro x111 M111 ⟨hx, k2⟩
        refine g_zeq (n := 117) rfl rfl (fun h114 => ?_) (fun h114 => ?_)
        · skip
          refine g_iinc (n := 136) rfl rfl rfl (jn_1 _) ?_
          refine g_goto rfl ?_
          first | exact ih g9 _ (k1.tr k2.toB) | exact ih g9 _ k1
        · skip
          refine g_aload_n (n := 118) rfl rfl rfl ?_
          refine g_getR (n := 121) rfl rfl z_41 rfl ?_
          refine g_const (n := 122) rfl rfl (s_iconst (v := 0) (by decide)) ?_
          refine g_iload_n (n := 123) rfl rfl rfl ?_
          refine g_iast (n := 124) rfl rfl z_53 rfl (j := 0) rfl (by omega) ?_
          refine g_aload_n (n := 125) rfl rfl rfl ?_
          refine g_getR (n := 128) rfl rfl z_41 rfl ?_
          refine g_const (n := 129) rfl rfl (s_iconst (v := 1) (by decide)) ?_
          refine g_iload_n (n := 130) rfl rfl rfl ?_
          refine g_iast (n := 131) rfl rfl z_53 rfl (j := 1) rfl (by omega) ?_
          refine g_const (n := 132) rfl rfl (s_iconst (v := 2) (by decide)) ?_
          refine go_ret (v := some (.int 2)) rfl rfl rfl rfl (hQ _ _ ⟨2, by omega, rfl⟩ ?_)
          exact ((k1.tr k2.toB).up rfl).up rfl
set_option maxRecDepth 20000 in
theorem lp_seeks73 (hI : MI M) : ∀ i, i ≤ 228 → ∀ M1, mKeepB M M1 → Go [] (d + 6) (some .int) tabX9_seeks 73 [(0, .ref 41), (1, .int (Int32.ofNat i))] [] (hp (zz E T) M1) 0 0 (QI (zz E T) (fun x M' => jU 9 x ∧ mKeepB M M')) := by
  refine loop_up 228 ?_
  intro i hi ih M1 k1
  have K2 : i < 228 → ∀ M1, mKeepB M M1 → Go [] (d + 6) (some .int) tabX9_seeks 139 [(0, .ref 41), (1, .int (Int32.ofNat i))] [] (hp (zz E T) M1) 0 0 (QI (zz E T) (fun x M' => jU 9 x ∧ mKeepB M M')) := by
    intro g M1 k1
    refine g_iinc (n := 142) rfl rfl rfl (jn_1 _) ?_
    refine g_goto rfl ?_
    exact ih g M1 k1
  refine g_iload_n (n := 74) rfl rfl rfl ?_
  refine g_const (n := 77) rfl rfl (s_sipush (v := 228) (by decide)) ?_
  refine g_ige (n := 80) rfl rfl (fun h77 => ?_) (fun h77 => ?_)
  · skip
    refine g_const (n := 147) rfl rfl (s_bipush (v := 9) (by decide)) ?_
    refine g_retI rfl ?_
    exact ⟨⟨9, by omega, rfl⟩, k1⟩
  · skip
    have g9 := (jn_lt (b := 228) (a := i) (by omega) (by omega)).mp h77
    refine g_iload_n (n := 81) rfl rfl rfl ?_
    refine g_const (n := 82) rfl rfl (s_iconst (v := 1) (by decide)) ?_
    refine g_iadd (n := 83) rfl rfl ?_
    rw [show Int32.ofNat i + 1 = Int32.ofNat (i + 1) from jn_add i 1]
    refine g_istore_n (n := 84) rfl rfl ?_
    exact lp_seeks84 g9 hI (fun x M1 hx k => ⟨rfl, rfl, x, M1, rfl, rfl, hx, k⟩) (K2 g9) (i + 1) (by omega) M1 k1
set_option maxRecDepth 20000 in
theorem lp_seeks32 (hI : MI M) : ∀ i, i ≤ 228 → ∀ M1, mKeepB M M1 → Go [] (d + 6) (some .int) tabX9_seeks 32 [(0, .ref 41), (1, .int (Int32.ofNat i))] [] (hp (zz E T) M1) 0 0 (QI (zz E T) (fun x M' => jU 9 x ∧ mKeepB M M')) := by
  refine loop_up 228 ?_
  intro i hi ih M1 k1
  refine g_iload_n (n := 33) rfl rfl rfl ?_
  refine g_const (n := 36) rfl rfl (s_sipush (v := 228) (by decide)) ?_
  refine g_ige (n := 39) rfl rfl (fun h36 => ?_) (fun h36 => ?_)
  · skip
    refine g_const (n := 72) rfl rfl (s_iconst (v := 0) (by decide)) ?_
    refine g_istore_n (n := 73) rfl rfl ?_
    exact lp_seeks73 hI 0 (by omega) M1 k1
  · skip
    have g9 := (jn_lt (b := 228) (a := i) (by omega) (by omega)).mp h36
    refine g_aload_n (n := 40) rfl rfl rfl ?_
    refine g_iload_n (n := 41) rfl rfl rfl ?_
    refine g_cP2 (n := 44) rfl rfl rfl rfl mt_X9_isWithin rfl rfl (r_k z_41) (sp_isWithin) ?_
    refine g_bz (n := 47) rfl rfl (fun h44 => ?_) (fun h44 => ?_)
    · skip
      refine g_iinc (n := 68) rfl rfl rfl (jn_1 _) ?_
      refine g_goto rfl ?_
      first | exact ih g9 _ (k1.tr k2.toB) | exact ih g9 _ k1
    · skip
      refine g_aload_n (n := 48) rfl rfl rfl ?_
      refine g_iload_n (n := 49) rfl rfl rfl ?_
      refine g_const (n := 50) rfl rfl (s_iconst (v := (-1)) (by decide)) ?_
      refine g_cI3 (n := 53) rfl rfl rfl rfl mt_X9_breaks rfl rfl (r_k z_41) (sp_breaks (hI.keepB k1) (jn_nn i (by omega)) (Or.inl rfl)) ?_
      rintro x50 M50 ⟨hx, k2⟩
      refine g_zeq (n := 56) rfl rfl (fun h53 => ?_) (fun h53 => ?_)
      · skip
        refine g_iinc (n := 68) rfl rfl rfl (jn_1 _) ?_
        refine g_goto rfl ?_
        first | exact ih g9 _ (k1.tr k2.toB) | exact ih g9 _ k1
      · skip
        refine g_aload_n (n := 57) rfl rfl rfl ?_
        refine g_getR (n := 60) rfl rfl z_41 rfl ?_
        refine g_const (n := 61) rfl rfl (s_iconst (v := 0) (by decide)) ?_
        refine g_iload_n (n := 62) rfl rfl rfl ?_
        refine g_iast (n := 63) rfl rfl z_53 rfl (j := 0) rfl (by omega) ?_
        refine g_const (n := 64) rfl rfl (s_iconst (v := 1) (by decide)) ?_
        refine g_retI rfl ?_
        exact ⟨⟨1, by omega, rfl⟩, (k1.tr k2.toB).up rfl⟩
set_option maxRecDepth 20000 in
theorem sp_seeks (hI : MI M) : EvI (d + 7) miX9_seeks [.ref 41] (zz E T) M (fun x M' => jU 9 x ∧ mKeepB M M') := by
  refine ev_of mt_X9_seeks rfl ?_
  have k0 : mKeepB M (mup (mup (mup M 41 25 0) 53 0 (-1)) 53 1 (-1)) := ((mKeepB.rf.up rfl).up rfl).up rfl
  refine g_aload_n (n := 1) rfl rfl rfl ?_
  refine g_const (n := 2) rfl rfl (s_iconst (v := 0) (by decide)) ?_
  refine g_putI (n := 5) rfl rfl z_41 rfl rfl ?_
  refine g_aload_n (n := 6) rfl rfl rfl ?_
  refine g_getR (n := 9) rfl rfl z_41 rfl ?_
  refine g_const (n := 10) rfl rfl (s_iconst (v := 0) (by decide)) ?_
  refine g_const (n := 11) rfl rfl (s_iconst (v := (-1)) (by decide)) ?_
  refine g_iast (n := 12) rfl rfl z_53 rfl (j := 0) rfl (by omega) ?_
  refine g_aload_n (n := 13) rfl rfl rfl ?_
  refine g_getR (n := 16) rfl rfl z_41 rfl ?_
  refine g_const (n := 17) rfl rfl (s_iconst (v := 1) (by decide)) ?_
  refine g_const (n := 18) rfl rfl (s_iconst (v := (-1)) (by decide)) ?_
  refine g_iast (n := 19) rfl rfl z_53 rfl (j := 1) rfl (by omega) ?_
  refine g_aload_n (n := 20) rfl rfl rfl ?_
  refine g_const (n := 21) rfl rfl (s_iconst (v := (-1)) (by decide)) ?_
  refine g_const (n := 22) rfl rfl (s_iconst (v := (-1)) (by decide)) ?_
  refine g_cI3 (n := 25) rfl rfl rfl rfl mt_X9_breaks rfl rfl (r_k z_41) (sp_breaks (hI.keepB k0) (Or.inl rfl) (Or.inl rfl)) ?_
  rintro x22 M22 ⟨hx, k2⟩
  refine g_zeq (n := 28) rfl rfl (fun h25 => ?_) (fun h25 => ?_)
  · skip
    refine g_const (n := 31) rfl rfl (s_iconst (v := 0) (by decide)) ?_
    refine g_istore_n (n := 32) rfl rfl ?_
    exact lp_seeks32 hI 0 (by omega) _ (k0.tr k2.toB)
  · skip
    refine g_const (n := 29) rfl rfl (s_iconst (v := 0) (by decide)) ?_
    refine g_retI rfl ?_
    exact ⟨⟨0, by omega, rfl⟩, k0.tr k2.toB⟩
set_option maxRecDepth 20000 in
theorem MI.seek {M1 : Mem} {x : Int32} (h : MI M1) (hx : jU 9 x) : MI (mup M1 41 21 x) := ⟨h.1, h.2.1, h.2.2.1, h.2.2.2.1, h.2.2.2.2.1, h.2.2.2.2.2.1, h.2.2.2.2.2.2.1, h.2.2.2.2.2.2.2.1, hx⟩
/-- what a call may write: cells of which S is true -/
def Fr (S : Nat → Nat → Bool) (M M' : Mem) : Prop := ∀ q j, S q j = false → M' q j = M q j
set_option maxRecDepth 20000 in
theorem Fr.rf {S : Nat → Nat → Bool} : Fr S M M := fun _ _ _ => rfl
set_option maxRecDepth 20000 in
theorem Fr.tr {S : Nat → Nat → Bool} {M1 M2 : Mem} (h1 : Fr S M M1) (h2 : Fr S M1 M2) : Fr S M M2 := fun q j h => (h2 q j h).trans (h1 q j h)
set_option maxRecDepth 20000 in
theorem Fr.up {S : Nat → Nat → Bool} {M1 : Mem} {q j : Nat} {x : Int32} (h : Fr S M M1) (hs : S q j = true) : Fr S M (mup M1 q j x) := by
  intro a b hab
  rw [mup_if, if_neg, h a b hab]
  rintro ⟨rfl, rfl⟩
  rw [hs] at hab
  cases hab
set_option maxRecDepth 20000 in
theorem Fr.of {S : Nat → Nat → Bool} {M1 : Mem} (h : mKeepB M M1) (hs : ∀ q j, mScB q j = true → S q j = true) : Fr S M M1 := by
  intro q j hq
  apply h
  cases hm : mScB q j with
  | false => rfl
  | true => rw [hs q j hm] at hq; cases hq
/-- seek's -/
def mSk (q j : Nat) : Bool := mScB q j || (Nat.beq q 41 && Nat.beq j 21)
set_option maxRecDepth 20000 in
theorem mSk_of (q j : Nat) (h : mScB q j = true) : mSk q j = true := by unfold mSk; rw [h]; rfl
set_option maxRecDepth 20000 in
theorem sp_seek (hI : MI M) : EvI (d + 8) miX9_seek [.ref 41] (zz E T) M (fun _ M' => MI M' ∧ Fr mSk M M') := by
  refine ev_of mt_X9_seek rfl ?_
  refine g_aload_n (n := 1) rfl rfl rfl ?_
  refine g_aload_n (n := 2) rfl rfl rfl ?_
  refine g_cI1 (n := 5) rfl rfl rfl rfl mt_X9_seeks rfl rfl (r_k z_41) (sp_seeks hI) ?_
  rintro x2 M2 ⟨hx, k2⟩
  refine g_putI (n := 8) rfl rfl z_41 rfl rfl ?_
  refine g_aload_n (n := 9) rfl rfl rfl ?_
  refine g_getR (n := 12) rfl rfl z_41 rfl ?_
  refine g_const (n := 13) rfl rfl (s_iconst (v := 0) (by decide)) ?_
  refine g_aload_n (n := 14) rfl rfl rfl ?_
  refine g_getR (n := 17) rfl rfl z_41 rfl ?_
  refine g_const (n := 18) rfl rfl (s_iconst (v := 0) (by decide)) ?_
  refine g_iald (n := 19) rfl rfl z_53 rfl (j := 0) rfl (by omega) ?_
  refine g_iast (n := 20) rfl rfl z_59 rfl (j := 0) rfl (by omega) ?_
  refine g_aload_n (n := 21) rfl rfl rfl ?_
  refine g_getR (n := 24) rfl rfl z_41 rfl ?_
  refine g_const (n := 25) rfl rfl (s_iconst (v := 1) (by decide)) ?_
  refine g_aload_n (n := 26) rfl rfl rfl ?_
  refine g_getR (n := 29) rfl rfl z_41 rfl ?_
  refine g_const (n := 30) rfl rfl (s_iconst (v := 1) (by decide)) ?_
  refine g_iald (n := 31) rfl rfl z_53 rfl (j := 1) rfl (by omega) ?_
  refine g_iast (n := 32) rfl rfl z_59 rfl (j := 1) rfl (by omega) ?_
  refine g_aload_n (n := 33) rfl rfl rfl ?_
  refine g_getI (n := 36) rfl rfl z_41 rfl ?_
  refine g_retI rfl ?_
  refine ⟨?_, ?_⟩
  · exact (MI.seek (hI.keepB k2) hx).keepB ((mKeepB.rf.up rfl).up rfl)
  · exact (((Fr.of k2 mSk_of).up rfl).up rfl).up rfl
set_option maxRecDepth 20000 in
theorem sp_found {x : Int32} (hI : MI M) : EvI (d + 2) miX9_found [.ref 41, .int x] (zz E T) M (fun _ M' => M' = M) := by
  obtain ⟨b, hb, eb⟩ := hI.2.2.2.2.2.2.2.2
  refine ev_of mt_X9_found rfl ?_
  refine g_aload_n (n := 1) rfl rfl rfl ?_
  refine g_getI (n := 4) rfl rfl z_41 rfl ?_
  refine g_const (n := 5) rfl rfl (s_iconst (v := 2) (by decide)) ?_
  refine g_igt (n := 8) rfl rfl (fun h5 => ?_) (fun h5 => ?_)
  · skip
    refine g_const (n := 32) rfl rfl (s_iconst (v := (-1)) (by decide)) ?_
    refine g_retI rfl ?_
    rfl
  · skip
    rw [eb] at h5
    have h5 := (jn_le (b := 2) (by omega) (by omega)).mp h5
    refine g_iload_n (n := 9) rfl rfl rfl ?_
    refine g_const (n := 10) rfl rfl (s_iconst (v := 0) (by decide)) ?_
    refine g_aload_n (n := 11) rfl rfl rfl ?_
    refine g_getI (n := 14) rfl rfl z_41 rfl ?_
    refine g_const (n := 15) rfl rfl (s_iconst (v := 1) (by decide)) ?_
    refine g_isub (n := 16) rfl rfl ?_
    rw [eb]
    refine g_cP3 (n := 19) rfl rfl rfl rfl mt_X9_in rfl rfl rfl (sp_in) ?_
    refine g_bz (n := 22) rfl rfl (fun h19 => ?_) (fun h19 => ?_)
    · skip
      refine g_const (n := 32) rfl rfl (s_iconst (v := (-1)) (by decide)) ?_
      refine g_retI rfl ?_
      rfl
    · skip
      simp only [mIn, Bool.and_eq_true, decide_eq_true_eq] at h19
      obtain ⟨k, hk, rfl⟩ := jn_of h19.1
      have hk2 : k < 2 := by
        have h1 := Int32.le_iff_toInt_le.mp h19.2
        rw [jn_toInt hk, Int32.toInt_sub, jn_toInt (show b < 2147483648 by omega), show (1 : Int32).toInt = 1 from rfl, Int.bmod_eq_of_le (by omega) (by omega)] at h1
        omega
      refine g_aload_n (n := 23) rfl rfl rfl ?_
      refine g_getR (n := 26) rfl rfl z_41 rfl ?_
      refine g_iload_n (n := 27) rfl rfl rfl ?_
      refine g_iald (n := 28) rfl rfl z_59 rfl rfl (by omega) ?_
      refine g_goto rfl ?_
      refine g_retI rfl ?_
      rfl
-- counting and weak
def mSum (f : Nat → Int32) (n : Nat) : Int32 := match n with
  | 0 => 0
  | n + 1 => mSum f n + f n
/-- the sets that begin with a -/
def mIn2 (M : Mem) (a : Nat) (j : Nat) : Int32 := bif Nat.blt a j then bI (mWith2 M (Int32.ofNat a) (Int32.ofNat j)) else 0
def mSetA (M : Mem) (a : Nat) : Int32 := bI (mWith M (Int32.ofNat a)) + (bif mWith M (Int32.ofNat a) then mSum (mIn2 M a) 228 else 0)
set_option maxRecDepth 20000 in
theorem mSum_low {a : Nat} : ∀ n, n ≤ a + 1 → mSum (mIn2 M a) n = 0 := by
  intro n
  induction n with
  | zero => intro _; rfl
  | succ n ih =>
    intro h
    have hb : Nat.blt a n = false := by
      cases hb : Nat.blt a n with
      | false => rfl
      | true => exact absurd (Nat.blt_eq.mp hb) (by omega)
    show mSum (mIn2 M a) n + mIn2 M a n = 0
    rw [ih (by omega)]
    simp [mIn2, hb]
set_option maxRecDepth 20000 in
theorem lp_sets31 {a : Nat} {x0 : Int32} (ha : a < 228) {Q : QT} (K : ∀ x, x = x0 + (bif mWith M (Int32.ofNat a) then mSum (mIn2 M a) 228 else 0) → Go [] (d + 5) (some .int) tabX9_sets_ 69 [(0, .ref 41), (1, .int x), (2, .int (Int32.ofNat a))] [] (hp (zz E T) M) 0 0 Q) : ∀ i, i ≤ 228 → a < i → ∀ x, x = x0 + (bif mWith M (Int32.ofNat a) then mSum (mIn2 M a) i else 0) → Go [] (d + 5) (some .int) tabX9_sets_ 31 [(0, .ref 41), (1, .int x), (2, .int (Int32.ofNat a)), (3, .int (Int32.ofNat i))] [] (hp (zz E T) M) 0 0 Q := by
  refine loop_up 228 ?_
  intro i hi ih hai x hx
  have hb : Nat.blt a i = true := Nat.blt_eq.mpr hai
  refine g_iload_n (n := 32) rfl rfl rfl ?_
  refine g_const (n := 35) rfl rfl (s_sipush (v := 228) (by decide)) ?_
  refine g_ige (n := 38) rfl rfl (fun h35 => ?_) (fun h35 => ?_)
  · skip
    have g9 := (jn_le (b := i) (a := 228) (by omega) (by omega)).mp h35
    refine go_only 3 ?_; refine K x ?_; rw [hx, show i = 228 by omega]
  · skip
    have g9 := (jn_lt (b := 228) (a := i) (by omega) (by omega)).mp h35
    refine g_aload_n (n := 39) rfl rfl rfl ?_
    refine g_iload_n (n := 40) rfl rfl rfl ?_
    refine g_cP2 (n := 43) rfl rfl rfl rfl mt_X9_isWithin rfl rfl (r_k z_41) (sp_isWithin) ?_
    refine g_bz (n := 46) rfl rfl (fun h43 => ?_) (fun h43 => ?_)
    · skip
      refine go_only 3 ?_; refine K x ?_; rw [hx, h43]; rfl
    · skip
      refine g_iload_n (n := 47) rfl rfl rfl ?_
      refine g_aload_n (n := 48) rfl rfl rfl ?_
      refine g_iload_n (n := 49) rfl rfl rfl ?_
      refine g_iload_n (n := 50) rfl rfl rfl ?_
      refine g_cP3 (n := 53) rfl rfl rfl rfl mt_X9_areWithin rfl rfl (r_k z_41) (sp_areWithin) ?_
      refine g_bz (n := 56) rfl rfl (fun h53 => ?_) (fun h53 => ?_)
      · skip
        refine g_const (n := 61) rfl rfl (s_iconst (v := 0) (by decide)) ?_
        refine g_iadd (n := 62) rfl rfl ?_
        refine g_istore_n (n := 63) rfl rfl ?_
        refine g_iinc (n := 66) rfl rfl rfl (jn_1 _) ?_
        refine g_goto rfl ?_
        refine ih g9 (by omega) _ ?_
        rw [hx, h43]
        simp only [cond_true, mSum, mIn2, hb, h53]
        rw [Int32.add_assoc]
        rfl
      · skip
        refine g_const (n := 57) rfl rfl (s_iconst (v := 1) (by decide)) ?_
        refine g_goto rfl ?_
        refine g_iadd (n := 62) rfl rfl ?_
        refine g_istore_n (n := 63) rfl rfl ?_
        refine g_iinc (n := 66) rfl rfl rfl (jn_1 _) ?_
        refine g_goto rfl ?_
        refine ih g9 (by omega) _ ?_
        rw [hx, h43]
        simp only [cond_true, mSum, mIn2, hb, h53]
        rw [Int32.add_assoc]
        rfl
set_option maxRecDepth 20000 in
theorem lp_sets4 : ∀ i, i ≤ 228 → ∀ x, x = 1 + mSum (mSetA M) i → Go [] (d + 5) (some .int) tabX9_sets_ 4 [(0, .ref 41), (1, .int x), (2, .int (Int32.ofNat i))] [] (hp (zz E T) M) 0 0 (QP (hp (zz E T) M) (.int (1 + mSum (mSetA M) 228))) := by
  refine loop_up 228 ?_
  intro i hi ih x hx
  have K2 : i < 228 → ∀ x, x = 1 + mSum (mSetA M) (i + 1) → Go [] (d + 5) (some .int) tabX9_sets_ 69 [(0, .ref 41), (1, .int x), (2, .int (Int32.ofNat i))] [] (hp (zz E T) M) 0 0 (QP (hp (zz E T) M) (.int (1 + mSum (mSetA M) 228))) := by
    intro g x hx
    refine g_iinc (n := 72) rfl rfl rfl (jn_1 _) ?_
    refine g_goto rfl ?_
    exact ih g x hx
  refine g_iload_n (n := 5) rfl rfl rfl ?_
  refine g_const (n := 8) rfl rfl (s_sipush (v := 228) (by decide)) ?_
  refine g_ige (n := 11) rfl rfl (fun h8 => ?_) (fun h8 => ?_)
  · skip
    have g9 := (jn_le (b := i) (a := 228) (by omega) (by omega)).mp h8
    refine g_iload_n (n := 76) rfl rfl rfl ?_
    refine g_retP rfl ?_
    rw [hx, show i = 228 by omega]
  · skip
    have g9 := (jn_lt (b := 228) (a := i) (by omega) (by omega)).mp h8
    refine g_iload_n (n := 12) rfl rfl rfl ?_
    refine g_aload_n (n := 13) rfl rfl rfl ?_
    refine g_iload_n (n := 14) rfl rfl rfl ?_
    refine g_cP2 (n := 17) rfl rfl rfl rfl mt_X9_isWithin rfl rfl (r_k z_41) (sp_isWithin) ?_
    refine g_bz (n := 20) rfl rfl (fun h17 => ?_) (fun h17 => ?_)
    · skip
      refine g_const (n := 25) rfl rfl (s_iconst (v := 0) (by decide)) ?_
      refine g_iadd (n := 26) rfl rfl ?_
      refine g_istore_n (n := 27) rfl rfl ?_
      refine g_iload_n (n := 28) rfl rfl rfl ?_
      refine g_const (n := 29) rfl rfl (s_iconst (v := 1) (by decide)) ?_
      refine g_iadd (n := 30) rfl rfl ?_
      rw [show Int32.ofNat i + 1 = Int32.ofNat (i + 1) from jn_add i 1]
      refine g_istore_n (n := 31) rfl rfl ?_
      refine lp_sets31 (x0 := x + bI (mWith M (Int32.ofNat i))) g9 (fun x' hx' => K2 g9 x' ?_) (i + 1) (by omega) (by omega) _ ?_
      · rw [hx', hx]
        simp only [mSum, mSetA, Int32.add_assoc]
      · rw [h17, mSum_low _ (Nat.le_refl _)]
        simp [bI]
    · skip
      refine g_const (n := 21) rfl rfl (s_iconst (v := 1) (by decide)) ?_
      refine g_goto rfl ?_
      refine g_iadd (n := 26) rfl rfl ?_
      refine g_istore_n (n := 27) rfl rfl ?_
      refine g_iload_n (n := 28) rfl rfl rfl ?_
      refine g_const (n := 29) rfl rfl (s_iconst (v := 1) (by decide)) ?_
      refine g_iadd (n := 30) rfl rfl ?_
      rw [show Int32.ofNat i + 1 = Int32.ofNat (i + 1) from jn_add i 1]
      refine g_istore_n (n := 31) rfl rfl ?_
      refine lp_sets31 (x0 := x + bI (mWith M (Int32.ofNat i))) g9 (fun x' hx' => K2 g9 x' ?_) (i + 1) (by omega) (by omega) _ ?_
      · rw [hx', hx]
        simp only [mSum, mSetA, Int32.add_assoc]
      · rw [h17, mSum_low _ (Nat.le_refl _)]
        simp [bI]
set_option maxRecDepth 20000 in
theorem sp_setsM : EvP (d + 6) miX9_sets_ [.ref 41] (hp (zz E T) M) (.int (1 + mSum (mSetA M) 228)) := by
  refine ev_of mt_X9_sets_ rfl ?_
  refine g_const (n := 1) rfl rfl (s_iconst (v := 1) (by decide)) ?_
  refine g_istore_n (n := 2) rfl rfl ?_
  refine g_const (n := 3) rfl rfl (s_iconst (v := 0) (by decide)) ?_
  refine g_istore_n (n := 4) rfl rfl ?_
  exact lp_sets4 0 (by omega) _ rfl
end PM
