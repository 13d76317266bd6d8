/-! The reference: what changes its state -/
section PN
variable {E : Value} {T : List SH} {M : Mem} {d : Nat}
set_option maxRecDepth 20000 in
theorem lp_weak {x m : Int32} (hI : MI M) (hx : jB x) : ∀ i, i ≤ 228 → ∀ n M1, mKeepB M M1 → Go [] (d + 7) (some .int) tabX9_weak 48 [(0, .ref 41), (1, .int x), (2, .int m), (3, .int n), (4, .int (Int32.ofNat i))] [] (hp (zz E T) M1) 0 0 (QI (zz E T) (fun _ M' => mKeepB M M')) := by
  refine loop_up 228 ?_
  intro i hi ih n M1 k1
  refine g_iload (n := 50) rfl rfl rfl ?_
  refine g_const (n := 53) rfl rfl (s_sipush (v := 228) (by decide)) ?_
  refine g_ige (n := 56) rfl rfl (fun h53 => ?_) (fun h53 => ?_)
  · skip
    refine g_iload_n (n := 102) rfl rfl rfl ?_
    refine g_retI rfl ?_
    exact k1
  · skip
    have g9 := (jn_lt (b := 228) (a := i) (by omega) (by omega)).mp h53
    refine g_iload_n (n := 57) rfl rfl rfl ?_
    refine g_const (n := 58) rfl rfl (s_iconst (v := 2) (by decide)) ?_
    refine g_ine (n := 61) rfl rfl (fun h58 => ?_) (fun h58 => ?_)
    · skip
      refine g_iload_n (n := 102) rfl rfl rfl ?_
      refine g_retI rfl ?_
      exact k1
    · skip
      refine g_iload_n (n := 62) rfl rfl rfl ?_
      refine g_iload (n := 64) rfl rfl rfl ?_
      refine g_iload_n (n := 65) rfl rfl rfl ?_
      refine g_ieq (n := 68) rfl rfl (fun h65 => ?_) (fun h65 => ?_)
      · skip
        refine g_const (n := 93) rfl rfl (s_iconst (v := 0) (by decide)) ?_
        refine g_iadd (n := 94) rfl rfl ?_
        refine g_istore_n (n := 95) rfl rfl ?_
        refine g_iinc (n := 98) rfl rfl rfl (jn_1 _) ?_
        refine g_goto rfl ?_
        first | exact ih g9 _ _ (k1.tr k2.toB) | exact ih g9 _ _ k1
      · skip
        refine g_aload_n (n := 69) rfl rfl rfl ?_
        refine g_iload_n (n := 70) rfl rfl rfl ?_
        refine g_iload (n := 72) rfl rfl rfl ?_
        refine g_cP3 (n := 75) rfl rfl rfl rfl mt_X9_areWithin rfl rfl (r_k z_41) (sp_areWithin) ?_
        refine g_bz (n := 78) rfl rfl (fun h75 => ?_) (fun h75 => ?_)
        · skip
          refine g_const (n := 93) rfl rfl (s_iconst (v := 0) (by decide)) ?_
          refine g_iadd (n := 94) rfl rfl ?_
          refine g_istore_n (n := 95) rfl rfl ?_
          refine g_iinc (n := 98) rfl rfl rfl (jn_1 _) ?_
          refine g_goto rfl ?_
          first | exact ih g9 _ _ (k1.tr k2.toB) | exact ih g9 _ _ k1
        · skip
          refine g_aload_n (n := 79) rfl rfl rfl ?_
          refine g_iload_n (n := 80) rfl rfl rfl ?_
          refine g_iload (n := 82) rfl rfl rfl ?_
          refine g_cI3 (n := 85) rfl rfl rfl rfl mt_X9_breaks rfl rfl (r_k z_41) (sp_breaks (hI.keepB k1) hx (jn_nn i (by omega))) ?_
          rintro x82 M82 ⟨hx, k2⟩
          refine g_zeq (n := 88) rfl rfl (fun h85 => ?_) (fun h85 => ?_)
          · skip
            refine g_const (n := 93) rfl rfl (s_iconst (v := 0) (by decide)) ?_
            refine g_iadd (n := 94) rfl rfl ?_
            refine g_istore_n (n := 95) rfl rfl ?_
            refine g_iinc (n := 98) rfl rfl rfl (jn_1 _) ?_
            refine g_goto rfl ?_
            first | exact ih g9 _ _ (k1.tr k2.toB) | exact ih g9 _ _ k1
          · skip
            refine g_const (n := 89) rfl rfl (s_iconst (v := 1) (by decide)) ?_
            refine g_goto rfl ?_
            refine g_iadd (n := 94) rfl rfl ?_
            refine g_istore_n (n := 95) rfl rfl ?_
            refine g_iinc (n := 98) rfl rfl rfl (jn_1 _) ?_
            refine g_goto rfl ?_
            first | exact ih g9 _ _ (k1.tr k2.toB) | exact ih g9 _ _ k1
set_option maxRecDepth 20000 in
theorem sp_weakM {x : Int32} (hI : MI M) : EvI (d + 8) miX9_weak [.ref 41, .int x] (zz E T) M (fun _ M' => mKeepB M M') := by
  refine ev_of mt_X9_weak rfl ?_
  refine g_aload_n (n := 1) rfl rfl rfl ?_
  refine g_iload_n (n := 2) rfl rfl rfl ?_
  refine g_cP2 (n := 5) rfl rfl rfl rfl mt_X9_isBlow rfl rfl (r_k z_41) (sp_isBlow) ?_
  refine g_bnz (n := 8) rfl rfl (fun h5 => ?_) (fun h5 => ?_)
  · skip
    have hx : jB x := by
      unfold mBlow at h5
      simp only [Bool.and_eq_true, decide_eq_true_eq] at h5
      exact Or.inr h5.1
    refine g_aload_n (n := 11) rfl rfl rfl ?_
    refine g_cI1 (n := 14) rfl rfl rfl rfl mt_X9_seeks rfl rfl (r_k z_41) (sp_seeks hI) ?_
    rintro x11 M11 ⟨-, k1⟩
    refine g_istore_n (n := 15) rfl rfl ?_
    refine g_iload_n (n := 16) rfl rfl rfl ?_
    refine g_const (n := 17) rfl rfl (s_iconst (v := 1) (by decide)) ?_
    refine g_ine (n := 20) rfl rfl (fun h17 => ?_) (fun h17 => ?_)
    · skip
      refine g_const (n := 44) rfl rfl (s_iconst (v := 0) (by decide)) ?_
      refine g_istore_n (n := 45) rfl rfl ?_
      refine g_const (n := 46) rfl rfl (s_iconst (v := 0) (by decide)) ?_
      refine g_istore (n := 48) rfl rfl ?_
      exact lp_weak hI hx 0 (by omega) _ _ k1
    · skip
      refine g_aload_n (n := 21) rfl rfl rfl ?_
      refine g_iload_n (n := 22) rfl rfl rfl ?_
      refine g_cP2 (n := 25) rfl rfl rfl rfl mt_X9_isWithin rfl rfl (r_k z_41) (sp_isWithin) ?_
      refine g_bz (n := 28) rfl rfl (fun h25 => ?_) (fun h25 => ?_)
      · skip
        refine g_const (n := 42) rfl rfl (s_iconst (v := 0) (by decide)) ?_
        refine g_retI rfl ?_
        first | exact k1.tr k2.toB | exact k1 | exact mKeepB.rf
      · skip
        refine g_aload_n (n := 29) rfl rfl rfl ?_
        refine g_iload_n (n := 30) rfl rfl rfl ?_
        refine g_const (n := 31) rfl rfl (s_iconst (v := (-1)) (by decide)) ?_
        refine g_cI3 (n := 34) rfl rfl rfl rfl mt_X9_breaks rfl rfl (r_k z_41) (sp_breaks (hI.keepB k1) hx (Or.inl rfl)) ?_
        rintro x31 M31 ⟨-, k2⟩
        refine g_zeq (n := 37) rfl rfl (fun h34 => ?_) (fun h34 => ?_)
        · skip
          refine g_const (n := 42) rfl rfl (s_iconst (v := 0) (by decide)) ?_
          refine g_retI rfl ?_
          first | exact k1.tr k2.toB | exact k1 | exact mKeepB.rf
        · skip
          refine g_const (n := 38) rfl rfl (s_iconst (v := 1) (by decide)) ?_
          refine g_goto rfl ?_
          refine g_retI rfl ?_
          first | exact k1.tr k2.toB | exact k1 | exact mKeepB.rf
  · skip
    refine g_const (n := 9) rfl rfl (s_iconst (v := (-1)) (by decide)) ?_
    refine g_retI rfl ?_
    first | exact k1.tr k2.toB | exact k1 | exact mKeepB.rf
-- shrink
set_option maxRecDepth 20000 in
theorem lp_isBW {k a : Nat} (hk : M 41 19 = Int32.ofNat k) (hk4 : k ≤ 4) (hI : MI M) : ∀ i, i ≤ k → ∀ b M1, b ≤ i → mKeep M M1 → M1 41 23 = Int32.ofNat b → (∀ j, j < b → 0 ≤ M1 54 j) → Go [] (d + 5) (some .boolean) tabX9_isBrokenWithout 7 [(0, .ref 41), (1, .int (Int32.ofNat a)), (2, .int (Int32.ofNat i))] [] (hp (zz E T) M1) 0 0 (QI (zz E T) (fun x M' => (x = 0 ∨ x = 1) ∧ mKeep M M')) := by
  refine loop_up k ?_
  intro i hi ih b M1 hb k1 k2 k3
  refine g_iload_n (n := 8) rfl rfl rfl ?_
  refine g_aload_n (n := 9) rfl rfl rfl ?_
  refine g_getI (n := 12) rfl rfl z_41 rfl ?_
  refine g_ige (n := 15) rfl rfl (fun h12 => ?_) (fun h12 => ?_)
  · skip
    rw [k1 41 19 rfl, hk] at h12
    have g9 := (jn_le (by omega) (by omega)).mp h12
    refine g_aload_n (n := 52) rfl rfl rfl ?_
    refine g_const (n := 53) rfl rfl (s_iconst (v := 0) (by decide)) ?_
    refine g_putI (n := 56) rfl rfl z_41 rfl rfl ?_
    refine g_aload_n (n := 57) rfl rfl rfl ?_
    refine g_cI1 (n := 60) rfl rfl rfl rfl mt_X9_isBroken rfl rfl (r_k z_41) (sp_isBroken (nb := b) (hI.keep (k1.up rfl)) k2 (by omega) k3) ?_
    rintro x57 M57 ⟨hx, k4⟩
    refine g_retZ rfl hx ?_
    exact ⟨hx, (k1.up rfl).tr k4⟩
  · skip
    rw [k1 41 19 rfl, hk] at h12
    have g9 := (jn_lt (by omega) (by omega)).mp h12
    refine g_iload_n (n := 16) rfl rfl rfl ?_
    refine g_iload_n (n := 17) rfl rfl rfl ?_
    refine g_ieq (n := 20) rfl rfl (fun h17 => ?_) (fun h17 => ?_)
    · skip
      refine g_iinc (n := 48) rfl rfl rfl (jn_1 _) ?_
      refine g_goto rfl ?_
      exact ih g9 b M1 (by omega) k1 k2 k3
    · skip
      refine g_aload_n (n := 21) rfl rfl rfl ?_
      refine g_getR (n := 24) rfl rfl z_41 rfl ?_
      refine g_aload_n (n := 25) rfl rfl rfl ?_
      refine g_getI (n := 28) rfl rfl z_41 rfl ?_
      refine g_aload_n (n := 29) rfl rfl rfl ?_
      refine g_getR (n := 32) rfl rfl z_41 rfl ?_
      refine g_iload_n (n := 33) rfl rfl rfl ?_
      refine g_iald (n := 34) rfl rfl z_52 rfl rfl (by omega) ?_
      refine g_iast (n := 35) rfl rfl z_54 rfl k2 (by omega) ?_
      refine g_aload_n (n := 36) rfl rfl rfl ?_
      refine g_dup (n := 37) rfl rfl ?_
      refine g_getI (n := 40) rfl rfl z_41 rfl ?_
      refine g_const (n := 41) rfl rfl (s_iconst (v := 1) (by decide)) ?_
      refine g_iadd (n := 42) rfl rfl ?_
      refine g_putI (n := 45) rfl rfl z_41 rfl rfl ?_
      refine g_iinc (n := 48) rfl rfl rfl (jn_1 _) ?_
      refine g_goto rfl ?_
      refine ih g9 (b + 1) _ (by omega) ?_ ?_ ?_
      · exact (k1.up rfl).up rfl
      · show M1 41 23 + 1 = _; rw [k2]; exact jn_add b 1
      · intro j hj
        show 0 ≤ mup M1 54 b _ 54 j
        by_cases e : j = b
        · subst e; rw [mup_same, k1 52 i rfl]; exact hI.2.2.2.2.2.2.2.1 i (by omega)
        · rw [mup_j e]; exact k3 j (by omega)
set_option maxRecDepth 20000 in
theorem sp_isBW {a : Nat} (hI : MI M) : EvI (d + 6) miX9_isBrokenWithout [.ref 41, .int (Int32.ofNat a)] (zz E T) M (fun x M' => (x = 0 ∨ x = 1) ∧ mKeep M M') := by
  obtain ⟨k, hk4, hk⟩ := hI.2.2.2.2.2.2.1
  refine ev_of mt_X9_isBrokenWithout rfl ?_
  refine g_aload_n (n := 1) rfl rfl rfl ?_
  refine g_const (n := 2) rfl rfl (s_iconst (v := 0) (by decide)) ?_
  refine g_putI (n := 5) rfl rfl z_41 rfl rfl ?_
  refine g_const (n := 6) rfl rfl (s_iconst (v := 0) (by decide)) ?_
  refine g_istore_n (n := 7) rfl rfl ?_
  refine lp_isBW hk hk4 hI 0 (by omega) 0 _ (by omega) ?_ rfl (fun j hj => absurd hj (by omega))
  exact mKeep.rf.up rfl
/-- a place in hand, or none -/
def jP (k : Nat) (x : Int32) : Prop := x = -1 ∨ ∃ j, j < k ∧ x = Int32.ofNat j
set_option maxRecDepth 20000 in
theorem lp_nextGone {k : Nat} (hk : M 41 19 = Int32.ofNat k) (hk4 : k ≤ 4) (hI : MI M) : ∀ i, i ≤ k → ∀ x M1, jP k x → mKeep M M1 → Go [] (d + 6) (some .int) tabX9_nextGone 4 [(0, .ref 41), (1, .int x), (2, .int (Int32.ofNat i))] [] (hp (zz E T) M1) 0 0 (QI (zz E T) (fun x M' => jP k x ∧ mKeep M M')) := by
  refine loop_up k ?_
  intro i hi ih x M1 hx k1
  refine g_iload_n (n := 5) rfl rfl rfl ?_
  refine g_aload_n (n := 6) rfl rfl rfl ?_
  refine g_getI (n := 9) rfl rfl z_41 rfl ?_
  refine g_ige (n := 12) rfl rfl (fun h9 => ?_) (fun h9 => ?_)
  · skip
    rw [k1 41 19 rfl, hk] at h9
    have g9 := (jn_le (by omega) (by omega)).mp h9
    refine g_iload_n (n := 49) rfl rfl rfl ?_
    refine g_retI rfl ?_
    exact ⟨hx, k1⟩
  · skip
    rw [k1 41 19 rfl, hk] at h9
    have g9 := (jn_lt (by omega) (by omega)).mp h9
    refine g_iload_n (n := 13) rfl rfl rfl ?_
    refine g_const (n := 14) rfl rfl (s_iconst (v := (-1)) (by decide)) ?_
    refine g_ieq (n := 17) rfl rfl (fun h14 => ?_) (fun h14 => ?_)
    · skip
      refine g_aload_n (n := 33) rfl rfl rfl ?_
      refine g_iload_n (n := 34) rfl rfl rfl ?_
      refine g_cI2 (n := 37) rfl rfl rfl rfl mt_X9_isBrokenWithout rfl rfl (r_k z_41) (sp_isBW (hI.keep k1)) ?_
      rintro x34 M34 ⟨-, k2⟩
      refine g_zeq (n := 40) rfl rfl (fun h37 => ?_) (fun h37 => ?_)
      · skip
        refine g_iinc (n := 45) rfl rfl rfl (jn_1 _) ?_
        refine g_goto rfl ?_
        first | exact ih g9 _ _ hx k1 | exact ih g9 _ _ hx (k1.tr k2) | exact ih g9 _ _ (Or.inr ⟨i, g9, rfl⟩) (k1.tr k2)
      · skip
        refine g_iload_n (n := 41) rfl rfl rfl ?_
        refine g_istore_n (n := 42) rfl rfl ?_
        refine g_iinc (n := 45) rfl rfl rfl (jn_1 _) ?_
        refine g_goto rfl ?_
        first | exact ih g9 _ _ hx k1 | exact ih g9 _ _ hx (k1.tr k2) | exact ih g9 _ _ (Or.inr ⟨i, g9, rfl⟩) (k1.tr k2)
    · skip
      obtain ⟨j, hj, ej⟩ := hx.resolve_left h14
      refine g_aload_n (n := 18) rfl rfl rfl ?_
      refine g_getR (n := 21) rfl rfl z_41 rfl ?_
      refine g_iload_n (n := 22) rfl rfl rfl ?_
      refine g_iald (n := 23) rfl rfl z_52 rfl rfl (by omega) ?_
      refine g_aload_n (n := 24) rfl rfl rfl ?_
      refine g_getR (n := 27) rfl rfl z_41 rfl ?_
      refine g_iload_n (n := 28) rfl rfl rfl ?_
      refine g_iald (n := 29) rfl rfl z_52 rfl ej (by omega) ?_
      refine g_ige (n := 32) rfl rfl (fun h29 => ?_) (fun h29 => ?_)
      · skip
        refine g_iinc (n := 45) rfl rfl rfl (jn_1 _) ?_
        refine g_goto rfl ?_
        first | exact ih g9 _ _ hx k1 | exact ih g9 _ _ hx (k1.tr k2) | exact ih g9 _ _ (Or.inr ⟨i, g9, rfl⟩) (k1.tr k2)
      · skip
        refine g_aload_n (n := 33) rfl rfl rfl ?_
        refine g_iload_n (n := 34) rfl rfl rfl ?_
        refine g_cI2 (n := 37) rfl rfl rfl rfl mt_X9_isBrokenWithout rfl rfl (r_k z_41) (sp_isBW (hI.keep k1)) ?_
        rintro x34 M34 ⟨-, k2⟩
        refine g_zeq (n := 40) rfl rfl (fun h37 => ?_) (fun h37 => ?_)
        · skip
          refine g_iinc (n := 45) rfl rfl rfl (jn_1 _) ?_
          refine g_goto rfl ?_
          first | exact ih g9 _ _ hx k1 | exact ih g9 _ _ hx (k1.tr k2) | exact ih g9 _ _ (Or.inr ⟨i, g9, rfl⟩) (k1.tr k2)
        · skip
          refine g_iload_n (n := 41) rfl rfl rfl ?_
          refine g_istore_n (n := 42) rfl rfl ?_
          refine g_iinc (n := 45) rfl rfl rfl (jn_1 _) ?_
          refine g_goto rfl ?_
          first | exact ih g9 _ _ hx k1 | exact ih g9 _ _ hx (k1.tr k2) | exact ih g9 _ _ (Or.inr ⟨i, g9, rfl⟩) (k1.tr k2)
set_option maxRecDepth 20000 in
theorem sp_nextGone {k : Nat} (hk : M 41 19 = Int32.ofNat k) (hk4 : k ≤ 4) (hI : MI M) : EvI (d + 7) miX9_nextGone [.ref 41] (zz E T) M (fun x M' => jP k x ∧ mKeep M M') := by
  refine ev_of mt_X9_nextGone rfl ?_
  refine g_const (n := 1) rfl rfl (s_iconst (v := (-1)) (by decide)) ?_
  refine g_istore_n (n := 2) rfl rfl ?_
  refine g_const (n := 3) rfl rfl (s_iconst (v := 0) (by decide)) ?_
  refine g_istore_n (n := 4) rfl rfl ?_
  exact lp_nextGone hk hk4 hI 0 (by omega) _ _ (Or.inl rfl) mKeep.rf
set_option maxRecDepth 20000 in
theorem sp_brokenM (hI : MI M) : EvI (d + 6) miX9_broken [.ref 41] (zz E T) M (fun x M' => mKeep M M') := by
  obtain ⟨k, hk4, hk⟩ := hI.2.2.2.2.2.2.1
  refine ev_of mt_X9_broken rfl ?_
  refine g_aload_n (n := 1) rfl rfl rfl ?_
  refine g_cV1 (n := 4) rfl rfl rfl rfl mt_X9_takesHand rfl rfl (r_k z_41) (sp_takesHand hk hk4) ?_
  rintro M1 ⟨k1, k2, k3, -⟩
  refine g_aload_n (n := 5) rfl rfl rfl ?_
  refine g_cI1 (n := 8) rfl rfl rfl rfl mt_X9_isBroken rfl rfl (r_k z_41) (sp_isBroken (hI.keep k1) k2 hk4 (fun j hj => by rw [k3 j hj]; exact hI.2.2.2.2.2.2.2.1 j (by omega))) ?_
  rintro x5 M5 ⟨-, k4⟩
  refine g_zeq (n := 11) rfl rfl (fun h8 => ?_) (fun h8 => ?_)
  · skip
    refine g_const (n := 16) rfl rfl (s_iconst (v := 0) (by decide)) ?_
    refine g_retI rfl ?_
    exact k1.tr k4
  · skip
    refine g_const (n := 12) rfl rfl (s_iconst (v := 1) (by decide)) ?_
    refine g_goto rfl ?_
    refine g_retI rfl ?_
    exact k1.tr k4
/-- the hand's cells may change -/
def mHd (q j : Nat) : Bool := mScr q j || (Nat.beq q 52 || (Nat.beq q 41 && Nat.beq j 19))
set_option maxRecDepth 20000 in
theorem mHd_of (q j : Nat) (h : mScr q j = true) : mHd q j = true := by unfold mHd; rw [h]; rfl
set_option maxRecDepth 20000 in
theorem Fr.ofK {S : Nat → Nat → Bool} {M1 : Mem} (h : mKeep M M1) (hs : ∀ q j, mScr q j = true → S q j = true) : Fr S M M1 := by
  intro q j hq
  apply h
  cases hm : mScr q j with
  | false => rfl
  | true => rw [hs q j hm] at hq; cases hq
set_option maxRecDepth 20000 in
theorem lp_shrink22 {k g : Nat} (hk4 : k ≤ 4) (hg : g < k) (hI : MI M) {Q : QT} (K : ∀ M1, MI M1 → Fr mHd M M1 → M1 41 19 = Int32.ofNat k → Go [] (d + 7) (some .int) tabX9_shrink 52 [(0, .ref 41)] [] (hp (zz E T) M1) 0 0 Q) : ∀ i, i ≤ k → ∀ M1, g ≤ i → MI M1 → Fr mHd M M1 → M1 41 19 = Int32.ofNat k → Go [] (d + 7) (some .int) tabX9_shrink 22 [(0, .ref 41), (1, .int (Int32.ofNat g)), (2, .int (Int32.ofNat i))] [] (hp (zz E T) M1) 0 0 Q := by
  refine loop_up k ?_
  intro i hi ih M1 hgi m1 f1 e1
  refine g_iload_n (n := 23) rfl rfl rfl ?_
  refine g_const (n := 24) rfl rfl (s_iconst (v := 1) (by decide)) ?_
  refine g_iadd (n := 25) rfl rfl ?_
  refine g_aload_n (n := 26) rfl rfl rfl ?_
  refine g_getI (n := 29) rfl rfl z_41 rfl ?_
  rw [show Int32.ofNat i + 1 = Int32.ofNat (i + 1) from jn_add i 1]
  refine g_ige (n := 32) rfl rfl (fun h29 => ?_) (fun h29 => ?_)
  · skip
    refine go_only 1 ?_; exact K M1 m1 f1 e1
  · skip
    rw [e1] at h29
    have g9 := (jn_lt (by omega) (by omega)).mp h29
    refine g_aload_n (n := 33) rfl rfl rfl ?_
    refine g_getR (n := 36) rfl rfl z_41 rfl ?_
    refine g_iload_n (n := 37) rfl rfl rfl ?_
    refine g_aload_n (n := 38) rfl rfl rfl ?_
    refine g_getR (n := 41) rfl rfl z_41 rfl ?_
    refine g_iload_n (n := 42) rfl rfl rfl ?_
    refine g_const (n := 43) rfl rfl (s_iconst (v := 1) (by decide)) ?_
    refine g_iadd (n := 44) rfl rfl ?_
    refine g_iald (n := 45) rfl rfl z_52 rfl (jn_add i 1) (by omega) ?_
    refine g_iast (n := 46) rfl rfl z_52 rfl rfl (by omega) ?_
    refine g_iinc (n := 49) rfl rfl rfl (jn_1 _) ?_
    refine g_goto rfl ?_
    refine ih (by omega) _ (by omega) ?_ ?_ ?_
    · exact ⟨m1.1, m1.2.1, m1.2.2.1, m1.2.2.2.1, m1.2.2.2.2.1, m1.2.2.2.2.2.1, m1.2.2.2.2.2.2.1, fun j hj => by
        by_cases e : j = i
        · subst e; rw [mup_same]; exact m1.2.2.2.2.2.2.2.1 _ (by omega)
        · rw [mup_j e]; exact m1.2.2.2.2.2.2.2.1 j hj, m1.2.2.2.2.2.2.2.2⟩
    · exact f1.up rfl
    · exact e1
set_option maxRecDepth 20000 in
theorem lp_shrink15 : ∀ k, k ≤ 4 → ∀ x M1, jP k x → MI M1 → Fr mHd M M1 → M1 41 19 = Int32.ofNat k → Go [] (d + 7) (some .int) tabX9_shrink 15 [(0, .ref 41), (1, .int x)] [] (hp (zz E T) M1) 0 0 (QI (zz E T) (fun _ M' => MI M' ∧ Fr mHd M M')) := by
  intro k
  induction k with
  | zero =>
    intro _ x M1 hx m1 f1 e1
    have hx1 : x = -1 := by
      rcases hx with h | ⟨j, hj, -⟩
      · exact h
      · omega
    refine g_iload_n (n := 16) rfl rfl rfl ?_
    refine g_const (n := 17) rfl rfl (s_iconst (v := (-1)) (by decide)) ?_
    refine g_ieq (n := 20) rfl rfl (fun h17 => ?_) (fun h17 => ?_)
    · skip
      refine g_aload_n (n := 71) rfl rfl rfl ?_
      refine g_getI (n := 74) rfl rfl z_41 rfl ?_
      refine g_retI rfl ?_
      exact ⟨m1, f1⟩
    · skip
      exact absurd hx1 h17
  | succ k ihk =>
    intro hk4 x M1 hx m1 f1 e1
    have K2 : ∀ M2, MI M2 → Fr mHd M M2 → M2 41 19 = Int32.ofNat (k + 1) → Go [] (d + 7) (some .int) tabX9_shrink 52 [(0, .ref 41)] [] (hp (zz E T) M2) 0 0 (QI (zz E T) (fun _ M' => MI M' ∧ Fr mHd M M')) := by
      intro M2 m2 f2 e2
      have e3 : M2 41 19 - 1 = Int32.ofNat k := by rw [e2]; exact jn_sub (b := 1) (by omega)
      have m3 : MI (mup M2 41 19 (M2 41 19 - 1)) := ⟨m2.1, m2.2.1, m2.2.2.1, m2.2.2.2.1, m2.2.2.2.2.1, m2.2.2.2.2.2.1, ⟨k, by omega, e3⟩, m2.2.2.2.2.2.2.2.1, m2.2.2.2.2.2.2.2.2⟩
      refine g_aload_n (n := 53) rfl rfl rfl ?_
      refine g_dup (n := 54) rfl rfl ?_
      refine g_getI (n := 57) rfl rfl z_41 rfl ?_
      refine g_const (n := 58) rfl rfl (s_iconst (v := 1) (by decide)) ?_
      refine g_isub (n := 59) rfl rfl ?_
      refine g_putI (n := 62) rfl rfl z_41 rfl rfl ?_
      refine g_aload_n (n := 63) rfl rfl rfl ?_
      refine g_cI1 (n := 66) rfl rfl rfl rfl mt_X9_nextGone rfl rfl (r_k z_41) (sp_nextGone (k := k) e3 (by omega) m3) ?_
      rintro x63 M63 ⟨hx2, k2⟩
      refine g_istore_n (n := 67) rfl rfl ?_
      refine g_goto rfl ?_
      refine ihk (by omega) _ _ hx2 (m3.keep k2) ?_ ?_
      · exact (f2.up rfl).tr (Fr.ofK k2 mHd_of)
      · exact (k2 41 19 rfl).trans e3
    refine g_iload_n (n := 16) rfl rfl rfl ?_
    refine g_const (n := 17) rfl rfl (s_iconst (v := (-1)) (by decide)) ?_
    refine g_ieq (n := 20) rfl rfl (fun h17 => ?_) (fun h17 => ?_)
    · skip
      refine g_aload_n (n := 71) rfl rfl rfl ?_
      refine g_getI (n := 74) rfl rfl z_41 rfl ?_
      refine g_retI rfl ?_
      exact ⟨m1, f1⟩
    · skip
      obtain ⟨g, hg, eg⟩ := hx.resolve_left h17
      subst eg
      refine g_iload_n (n := 21) rfl rfl rfl ?_
      refine g_istore_n (n := 22) rfl rfl ?_
      exact lp_shrink22 (k := k + 1) hk4 hg m1 (fun M2 m2 f2 e2 => K2 M2 m2 (f1.tr f2) e2) g (by omega) M1 (Nat.le_refl _) m1 Fr.rf e1
set_option maxRecDepth 20000 in
theorem sp_shrinkM (hI : MI M) : EvI (d + 8) miX9_shrink [.ref 41] (zz E T) M (fun _ M' => MI M' ∧ Fr mHd M M') := by
  obtain ⟨k, hk4, hk⟩ := hI.2.2.2.2.2.2.1
  refine ev_of mt_X9_shrink rfl ?_
  refine g_aload_n (n := 1) rfl rfl rfl ?_
  refine g_cI1 (n := 4) rfl rfl rfl rfl mt_X9_broken rfl rfl (r_k z_41) (sp_brokenM hI) ?_
  rintro x1 M1 k1
  refine g_zne (n := 7) rfl rfl (fun h4 => ?_) (fun h4 => ?_)
  · skip
    refine g_aload_n (n := 11) rfl rfl rfl ?_
    refine g_cI1 (n := 14) rfl rfl rfl rfl mt_X9_nextGone rfl rfl (r_k z_41) (sp_nextGone (k := k) ((k1 41 19 rfl).trans hk) hk4 (hI.keep k1)) ?_
    rintro x11 M11 ⟨hx, k2⟩
    refine g_istore_n (n := 15) rfl rfl ?_
    exact lp_shrink15 k hk4 _ _ hx ((hI.keep k1).keep k2) (Fr.ofK (k1.tr k2) mHd_of) (((k1.tr k2) 41 19 rfl).trans hk)
  · skip
    refine g_const (n := 9) rfl rfl (s_bipush (v := (-3)) (by decide)) ?_
    refine g_retI rfl ?_
    exact ⟨hI.keep k1, Fr.ofK k1 mHd_of⟩
end PN
