/-! The program: mend; why -/
section MC
variable {E : Value} {T : List SH} {M : Mem} {d n : Nat} {rs : Nat → Nat}
/-- the rules that are not spare, as bits; what is forgotten with the rules -/
def NSB (M : Mem) (n : Nat) (rs : Nat → Nat) (x : Int32) : Prop := ∀ j, j < 32 → gb x j = (decide (j < n) && decide (M (rs j) 9 = -1))
def FGX (M : Mem) (n : Nat) (rs : Nat → Nat) (M' : Mem) : Prop := (∀ j, M' 7 j = -1) ∧ NSB M n rs (M' 6 4) ∧ M' 11 10 = 0
set_option maxRecDepth 20000 in
theorem NSB.no {i : Nat} {x : Int32} (h : NSB M i rs x) (hi : ¬ M (rs i) 9 = -1) : NSB M (i + 1) rs x := by
  intro j hj
  rw [h j hj]
  by_cases e : j = i
  · rw [e, decide_eq_false hi, Bool.and_false, Bool.and_false]
  · by_cases g : j < i
    · rw [decide_eq_true g, decide_eq_true (show j < i + 1 by omega)]
    · rw [decide_eq_false g, decide_eq_false (show ¬ j < i + 1 by omega)]
set_option maxRecDepth 20000 in
theorem NSB.yes {i : Nat} {x : Int32} (h : NSB M i rs x) (h32 : i < 32) (hi : M (rs i) 9 = -1) : NSB M (i + 1) rs (x ||| 1 <<< (Int32.ofNat i &&& 31)) := by
  intro j hj
  rw [gb_or, h j hj, gb_one h32 hj]
  by_cases e : j = i
  · rw [e, decide_eq_true (rfl : i = i), decide_eq_true hi, decide_eq_true (show i < i + 1 by omega), Bool.or_true, Bool.and_self]
  · rw [decide_eq_false e, Bool.or_false]
    by_cases g : j < i
    · rw [decide_eq_true g, decide_eq_true (show j < i + 1 by omega)]
    · rw [decide_eq_false g, decide_eq_false (show ¬ j < i + 1 by omega)]
set_option maxRecDepth 20000 in
theorem lp_notSpare (hC : CW E T M n rs) : ∀ i, i ≤ n → ∀ x, NSB M i rs x → Go [] (d + 3) (some .int) tabX3_notSpare 4 [(0, .ref 2), (1, .int x), (2, .int (Int32.ofNat i))] [] (hp (zz E T) M) 0 0 (QI (zz E T) (fun x M' => M' = M ∧ NSB M n rs x)) := by
  obtain ⟨hL, hn12, hn, hR, -⟩ := hC
  refine loop_up n ?_
  intro i hi ih x hx
  refine g_iload_n (n := 5) rfl rfl rfl ?_
  refine g_aload_n (n := 6) rfl rfl rfl ?_
  refine g_getR (n := 9) rfl rfl z_2 rfl ?_
  refine g_cP1 (n := 12) rfl rfl rfl rfl mt_Jx4a65c_size_8abf5 rfl rfl (r_k z_3) (sc_size) ?_
  refine g_ige (n := 15) rfl rfl (fun h12 => ?_) (fun h12 => ?_)
  · skip
    rw [hn] at h12
    have g9 := (jn_le (by omega) (by omega)).mp h12
    refine g_iload_n (n := 45) rfl rfl rfl ?_
    refine g_retI rfl ?_
    obtain rfl : i = n := by omega
    exact ⟨rfl, hx⟩
  · skip
    rw [hn] at h12
    have g9 := (jn_lt (by omega) (by omega)).mp h12
    refine g_aload_n (n := 16) rfl rfl rfl ?_
    refine g_getR (n := 19) rfl rfl z_2 rfl ?_
    refine g_iload_n (n := 20) rfl rfl rfl ?_
    refine g_cP2 (n := 23) rfl rfl rfl rfl mt_Jx4a65c_get_915e3 rfl rfl (r_k z_3) (sc_get hL hn hn12 g9) ?_
    refine g_cast (n := 26) rfl rfl (hL.1 i g9).2 ?_
    refine g_cP1 (n := 29) rfl rfl rfl rfl mt_X2_isSpare rfl rfl (r_k (hL.1 i g9).2) (sc_isSpare (hL.1 i g9).2) ?_
    refine g_bnz (n := 32) rfl rfl (fun h29 => ?_) (fun h29 => ?_)
    · skip
      have s29 : ¬ M (rs i) 9 = -1 := fun e => by rw [dT e] at h29; cases h29
      refine g_iinc (n := 41) rfl rfl rfl (jn_1 _) ?_
      refine g_goto rfl ?_
      exact ih g9 _ (hx.no s29)
    · skip
      have s29 : M (rs i) 9 = -1 := Classical.byContradiction (fun e => by rw [dF e] at h29; cases h29)
      refine g_iload_n (n := 33) rfl rfl rfl ?_
      refine g_const (n := 34) rfl rfl (s_iconst (v := 1) (by decide)) ?_
      refine g_iload_n (n := 35) rfl rfl rfl ?_
      refine g_ishl (n := 36) rfl rfl ?_
      refine g_ior (n := 37) rfl rfl ?_
      refine g_istore_n (n := 38) rfl rfl ?_
      refine g_iinc (n := 41) rfl rfl rfl (jn_1 _) ?_
      refine g_goto rfl ?_
      exact ih g9 _ (hx.yes (by omega) s29)
set_option maxRecDepth 20000 in
theorem sc_notSpare (hC : CW E T M n rs) : EvI (d + 4) miX3_notSpare [.ref 2] (zz E T) M (fun x M' => M' = M ∧ NSB M n rs x) := by
  refine ev_of mt_X3_notSpare rfl ?_
  refine g_const (n := 1) rfl rfl (s_iconst (v := 0) (by decide)) ?_
  refine g_istore_n (n := 2) rfl rfl ?_
  refine g_const (n := 3) rfl rfl (s_iconst (v := 0) (by decide)) ?_
  refine g_istore_n (n := 4) rfl rfl ?_
  refine lp_notSpare hC 0 (by omega) _ (fun j hj => ?_)
  rw [gb_0, decide_eq_false (Nat.not_lt_zero j), Bool.false_and]
set_option maxRecDepth 20000 in
theorem sc_countSpares (hC : CW E T M n rs) : EvI (d + 5) miX3_countSpares [.ref 2] (zz E T) M (fun _ M' => M' = M) := by
  refine ev_of mt_X3_countSpares rfl ?_
  refine g_aload_n (n := 1) rfl rfl rfl ?_
  refine g_getR (n := 4) rfl rfl z_2 rfl ?_
  refine g_cP1 (n := 7) rfl rfl rfl rfl mt_Jx4a65c_size_8abf5 rfl rfl (r_k z_3) (sc_size) ?_
  refine g_aload_n (n := 8) rfl rfl rfl ?_
  refine g_cI1 (n := 11) rfl rfl rfl rfl mt_X3_notSpare rfl rfl (r_k z_2) (sc_notSpare hC) ?_
  rintro x8 M8 ⟨rfl, -⟩
  refine g_cI1 (n := 14) rfl rfl rfl rfl mt_J6_bitCount_0f7a4 rfl rfl rfl (sc_bitCount) ?_
  rintro x11 M11 rfl
  refine g_isub (n := 15) rfl rfl ?_
  refine g_retI rfl ?_
  rfl
set_option maxRecDepth 20000 in
theorem sc_countOnly {x : Int32} : EvV (d + 2) miX6_countOnly [.ref 6, .int x] (zz E T) M (fun M' => M' = mfl (mup M 6 4 x) 7 (-1)) := by
  refine ev_of mt_X6_countOnly rfl ?_
  refine g_aload_n (n := 1) rfl rfl rfl ?_
  refine g_iload_n (n := 2) rfl rfl rfl ?_
  refine g_putI (n := 5) rfl rfl z_6 rfl rfl ?_
  refine g_aload_n (n := 6) rfl rfl rfl ?_
  refine g_getR (n := 9) rfl rfl z_6 rfl ?_
  refine g_const (n := 10) rfl rfl (s_iconst (v := (-1)) (by decide)) ?_
  refine g_cV2 (n := 13) rfl rfl rfl rfl mt_J7_fill_53178 rfl rfl rfl (sp_fill z_7 rfl) ?_
  rintro M10 rfl
  refine g_retV rfl ?_
  rfl
/-- the spare rules, listed -/
def SI (M : Mem) (n : Nat) : Prop := ∃ k, k ≤ 5 ∧ M 11 9 = Int32.ofNat k ∧ ∀ j, j < k → ∃ r, r < n ∧ M 14 j = Int32.ofNat r
set_option maxRecDepth 20000 in
theorem lp_listSpares (hC : CW E T M n rs) : ∀ i, i ≤ n → ∀ M1, Fr cB M M1 → SI M1 n → Go [] (d + 3) none tabX5_listSpares 7 [(0, .ref 11), (1, .int (Int32.ofNat i))] [] (hp (zz E T) M1) 0 0 (QV (zz E T) (fun M1 => Fr cB M M1 ∧ SI M1 n)) := by
  refine loop_up n ?_
  intro i hi ih M1 k1 hS
  obtain ⟨hL, hn12, hn, hR, -⟩ := hC.fr k1 rfl rfl rfl (fun q j hq => cB_hi hq)
  obtain ⟨k, hk, ek, hs⟩ := id hS
  refine g_iload_n (n := 8) rfl rfl rfl ?_
  refine g_aload_n (n := 9) rfl rfl rfl ?_
  refine g_getR (n := 12) rfl rfl z_11 rfl ?_
  refine g_getR (n := 15) rfl rfl z_1 rfl ?_
  refine g_getR (n := 18) rfl rfl z_2 rfl ?_
  refine g_cP1 (n := 21) rfl rfl rfl rfl mt_Jx4a65c_size_8abf5 rfl rfl (r_k z_3) (sc_size) ?_
  refine g_ige (n := 24) rfl rfl (fun h21 => ?_) (fun h21 => ?_)
  · skip
    refine g_retV rfl ?_
    exact ⟨k1, hS⟩
  · skip
    rw [hn] at h21
    have g9 := (jn_lt (by omega) (by omega)).mp h21
    refine g_aload_n (n := 25) rfl rfl rfl ?_
    refine g_getI (n := 28) rfl rfl z_11 rfl ?_
    refine g_const (n := 29) rfl rfl (s_iconst (v := 5) (by decide)) ?_
    refine g_ige (n := 32) rfl rfl (fun h29 => ?_) (fun h29 => ?_)
    · skip
      refine g_retV rfl ?_
      exact ⟨k1, hS⟩
    · skip
      rw [ek] at h29
      have g10 := (jn_lt (b := 5) (by omega) (by omega)).mp h29
      refine g_aload_n (n := 33) rfl rfl rfl ?_
      refine g_getR (n := 36) rfl rfl z_11 rfl ?_
      refine g_getR (n := 39) rfl rfl z_1 rfl ?_
      refine g_getR (n := 42) rfl rfl z_2 rfl ?_
      refine g_iload_n (n := 43) rfl rfl rfl ?_
      refine g_cP2 (n := 46) rfl rfl rfl rfl mt_Jx4a65c_get_915e3 rfl rfl (r_k z_3) (sc_get hL hn hn12 g9) ?_
      refine g_cast (n := 49) rfl rfl (hL.1 i g9).2 ?_
      refine g_cP1 (n := 52) rfl rfl rfl rfl mt_X2_isSpare rfl rfl (r_k (hL.1 i g9).2) (sc_isSpare (hL.1 i g9).2) ?_
      refine g_bz (n := 55) rfl rfl (fun h52 => ?_) (fun h52 => ?_)
      · skip
        refine g_iinc (n := 78) rfl rfl rfl (jn_1 _) ?_
        refine g_goto rfl ?_
        exact ih g9 M1 k1 hS
      · skip
        refine g_aload_n (n := 56) rfl rfl rfl ?_
        refine g_getR (n := 59) rfl rfl z_11 rfl ?_
        refine g_aload_n (n := 60) rfl rfl rfl ?_
        refine g_getI (n := 63) rfl rfl z_11 rfl ?_
        refine g_iload_n (n := 64) rfl rfl rfl ?_
        refine g_iast (n := 65) rfl rfl z_14 rfl ek (by omega) ?_
        refine g_aload_n (n := 66) rfl rfl rfl ?_
        refine g_dup (n := 67) rfl rfl ?_
        refine g_getI (n := 70) rfl rfl z_11 rfl ?_
        refine g_const (n := 71) rfl rfl (s_iconst (v := 1) (by decide)) ?_
        refine g_iadd (n := 72) rfl rfl ?_
        refine g_putI (n := 75) rfl rfl z_11 rfl rfl ?_
        refine g_iinc (n := 78) rfl rfl rfl (jn_1 _) ?_
        refine g_goto rfl ?_
        refine ih g9 _ ?_ ⟨k + 1, by omega, ?_, fun j hj => ?_⟩
        · exact (k1.up rfl).up rfl
        · show M1 11 9 + 1 = _; rw [ek]; exact jn_add k 1
        · show ∃ r, r < n ∧ mup M1 14 k (Int32.ofNat i) 14 j = Int32.ofNat r
          by_cases e : j = k
          · subst e; rw [mup_same]; exact ⟨i, g9, rfl⟩
          · rw [mup_j e]; exact hs j (by omega)
set_option maxRecDepth 20000 in
theorem sc_listSpares (hC : CW E T M n rs) : EvV (d + 4) miX5_listSpares [.ref 11] (zz E T) M (fun M1 => Fr cB M M1 ∧ SI M1 n) := by
  refine ev_of mt_X5_listSpares rfl ?_
  refine g_aload_n (n := 1) rfl rfl rfl ?_
  refine g_const (n := 2) rfl rfl (s_iconst (v := 0) (by decide)) ?_
  refine g_putI (n := 5) rfl rfl z_11 rfl rfl ?_
  refine g_const (n := 6) rfl rfl (s_iconst (v := 0) (by decide)) ?_
  refine g_istore_n (n := 7) rfl rfl ?_
  refine lp_listSpares hC 0 (by omega) _ ?_ ?_
  · exact Fr.rf.up rfl
  · exact ⟨0, by omega, rfl, fun k hk => absurd hk (by omega)⟩
set_option maxRecDepth 20000 in
theorem lp_priceOf {s : Int32} {k : Nat} (hC : CW E T M n rs) (hk : k ≤ 5) (ek : M 11 9 = Int32.ofNat k) (hs : ∀ j, j < k → ∃ r, r < n ∧ M 14 j = Int32.ofNat r) : ∀ i, i ≤ k → ∀ x, Go [] (d + 3) (some .int) tabX5_priceOf 4 [(0, .ref 11), (1, .int s), (2, .int x), (3, .int (Int32.ofNat i))] [] (hp (zz E T) M) 0 0 (QI (zz E T) (fun _ M' => M' = M)) := by
  obtain ⟨hL, hn12, hn, hR, -⟩ := hC
  refine loop_up k ?_
  intro i hi ih x
  refine g_iload_n (n := 5) rfl rfl rfl ?_
  refine g_aload_n (n := 6) rfl rfl rfl ?_
  refine g_getI (n := 9) rfl rfl z_11 rfl ?_
  refine g_ige (n := 12) rfl rfl (fun h9 => ?_) (fun h9 => ?_)
  · skip
    refine g_iload_n (n := 56) rfl rfl rfl ?_
    refine g_retI rfl ?_
    rfl
  · skip
    rw [ek] at h9
    have g9 := (jn_lt (by omega) (by omega)).mp h9
    obtain ⟨r, hr, er⟩ := hs i g9
    refine g_iload_n (n := 13) rfl rfl rfl ?_
    refine g_iload_n (n := 14) rfl rfl rfl ?_
    refine g_ishr (n := 15) rfl rfl ?_
    refine g_const (n := 16) rfl rfl (s_iconst (v := 1) (by decide)) ?_
    refine g_iand (n := 17) rfl rfl ?_
    refine g_const (n := 18) rfl rfl (s_iconst (v := 1) (by decide)) ?_
    refine g_ine (n := 21) rfl rfl (fun h18 => ?_) (fun h18 => ?_)
    · skip
      refine g_iinc (n := 52) rfl rfl rfl (jn_1 _) ?_
      refine g_goto rfl ?_
      exact ih g9 _
    · skip
      refine g_iload_n (n := 22) rfl rfl rfl ?_
      refine g_aload_n (n := 23) rfl rfl rfl ?_
      refine g_getR (n := 26) rfl rfl z_11 rfl ?_
      refine g_getR (n := 29) rfl rfl z_1 rfl ?_
      refine g_getR (n := 32) rfl rfl z_2 rfl ?_
      refine g_aload_n (n := 33) rfl rfl rfl ?_
      refine g_getR (n := 36) rfl rfl z_11 rfl ?_
      refine g_iload_n (n := 37) rfl rfl rfl ?_
      refine g_iald (n := 38) rfl rfl z_14 rfl rfl (by omega) ?_
      rw [er]
      refine g_cP2 (n := 41) rfl rfl rfl rfl mt_Jx4a65c_get_915e3 rfl rfl (r_k z_3) (sc_get hL hn hn12 hr) ?_
      refine g_cast (n := 44) rfl rfl (hL.1 r hr).2 ?_
      refine g_getI (n := 47) rfl rfl (hL.1 r hr).2 rfl ?_
      refine g_iadd (n := 48) rfl rfl ?_
      refine g_istore_n (n := 49) rfl rfl ?_
      refine g_iinc (n := 52) rfl rfl rfl (jn_1 _) ?_
      refine g_goto rfl ?_
      exact ih g9 _
set_option maxRecDepth 20000 in
theorem sc_priceOf {s : Int32} (hC : CW E T M n rs) (hS : SI M n) : EvI (d + 4) miX5_priceOf [.ref 11, .int s] (zz E T) M (fun _ M' => M' = M) := by
  obtain ⟨k, hk, ek, hs⟩ := hS
  refine ev_of mt_X5_priceOf rfl ?_
  refine g_const (n := 1) rfl rfl (s_iconst (v := 0) (by decide)) ?_
  refine g_istore_n (n := 2) rfl rfl ?_
  refine g_const (n := 3) rfl rfl (s_iconst (v := 0) (by decide)) ?_
  refine g_istore_n (n := 4) rfl rfl ?_
  exact lp_priceOf hC hk ek hs 0 (by omega) _
set_option maxRecDepth 20000 in
theorem lp_rulesOf {s : Int32} {k : Nat} (hk : k ≤ 5) (ek : M 11 9 = Int32.ofNat k) : ∀ i, i ≤ k → ∀ x, Go [] d (some .int) tabX5_rulesOf 4 [(0, .ref 11), (1, .int s), (2, .int x), (3, .int (Int32.ofNat i))] [] (hp (zz E T) M) 0 0 (QI (zz E T) (fun _ M' => M' = M)) := by
  refine loop_up k ?_
  intro i hi ih x
  refine g_iload_n (n := 5) rfl rfl rfl ?_
  refine g_aload_n (n := 6) rfl rfl rfl ?_
  refine g_getI (n := 9) rfl rfl z_11 rfl ?_
  refine g_ige (n := 12) rfl rfl (fun h9 => ?_) (fun h9 => ?_)
  · skip
    refine g_iload_n (n := 39) rfl rfl rfl ?_
    refine g_retI rfl ?_
    rfl
  · skip
    rw [ek] at h9
    have g9 := (jn_lt (by omega) (by omega)).mp h9
    refine g_iload_n (n := 13) rfl rfl rfl ?_
    refine g_iload_n (n := 14) rfl rfl rfl ?_
    refine g_ishr (n := 15) rfl rfl ?_
    refine g_const (n := 16) rfl rfl (s_iconst (v := 1) (by decide)) ?_
    refine g_iand (n := 17) rfl rfl ?_
    refine g_const (n := 18) rfl rfl (s_iconst (v := 1) (by decide)) ?_
    refine g_ine (n := 21) rfl rfl (fun h18 => ?_) (fun h18 => ?_)
    · skip
      refine g_iinc (n := 35) rfl rfl rfl (jn_1 _) ?_
      refine g_goto rfl ?_
      exact ih g9 _
    · skip
      refine g_iload_n (n := 22) rfl rfl rfl ?_
      refine g_const (n := 23) rfl rfl (s_iconst (v := 1) (by decide)) ?_
      refine g_aload_n (n := 24) rfl rfl rfl ?_
      refine g_getR (n := 27) rfl rfl z_11 rfl ?_
      refine g_iload_n (n := 28) rfl rfl rfl ?_
      refine g_iald (n := 29) rfl rfl z_14 rfl rfl (by omega) ?_
      refine g_ishl (n := 30) rfl rfl ?_
      refine g_ior (n := 31) rfl rfl ?_
      refine g_istore_n (n := 32) rfl rfl ?_
      refine g_iinc (n := 35) rfl rfl rfl (jn_1 _) ?_
      refine g_goto rfl ?_
      exact ih g9 _
set_option maxRecDepth 20000 in
theorem sc_rulesOf {s : Int32} (hS : SI M n) : EvI (d + 1) miX5_rulesOf [.ref 11, .int s] (zz E T) M (fun _ M' => M' = M) := by
  obtain ⟨k, hk, ek, hs⟩ := hS
  refine ev_of mt_X5_rulesOf rfl ?_
  refine g_const (n := 1) rfl rfl (s_iconst (v := 0) (by decide)) ?_
  refine g_istore_n (n := 2) rfl rfl ?_
  refine g_const (n := 3) rfl rfl (s_iconst (v := 0) (by decide)) ?_
  refine g_istore_n (n := 4) rfl rfl ?_
  exact lp_rulesOf hk ek 0 (by omega) _
set_option maxRecDepth 20000 in
theorem lp_holds {w e : Nat} (hC : CW E T M n rs) (hw : w ≤ 100) (ew : M 11 8 = Int32.ofNat w) (hb : ∀ k, k < w → cBlow (M 1 2) (M 12 k) = true) (he : M 1 2 = Int32.ofNat e) (he6 : e ≤ 6) : ∀ i, i ≤ w → ∀ t M1, cKeep M M1 → Go [] (d + 7) (some .boolean) tabX5_holdsAgainstOne 32 [(0, .ref 11), (1, .int (bI t)), (2, .int (Int32.ofNat i))] [] (hp (zz E T) M1) 0 0 (QI (zz E T) (fun _ M' => cKeep M M')) := by
  refine loop_up w ?_
  intro i hi ih t M1 k1
  refine g_iload_n (n := 33) rfl rfl rfl ?_
  refine g_bz (n := 36) rfl rfl (fun h33 => ?_) (fun h33 => ?_)
  · skip
    refine g_iload_n (n := 107) rfl rfl rfl ?_
    refine g_retZ rfl bI01 ?_
    exact k1
  · skip
    refine g_iload_n (n := 37) rfl rfl rfl ?_
    refine g_aload_n (n := 38) rfl rfl rfl ?_
    refine g_getI (n := 41) rfl rfl z_11 rfl ?_
    refine g_ige (n := 44) rfl rfl (fun h41 => ?_) (fun h41 => ?_)
    · skip
      refine g_iload_n (n := 107) rfl rfl rfl ?_
      refine g_retZ rfl bI01 ?_
      exact k1
    · skip
      rw [k1 11 8 rfl, ew] at h41
      have g9 := (jn_lt (by omega) (by omega)).mp h41
      have hbi := hb i g9
      rw [he] at hbi
      obtain ⟨x, t, h, hx, ex, et, hte, eh, h4, -, -⟩ := blow_ok he6 hbi
      refine g_aload_n (n := 45) rfl rfl rfl ?_
      refine g_getR (n := 48) rfl rfl z_11 rfl ?_
      refine g_aload_n (n := 49) rfl rfl rfl ?_
      refine g_getR (n := 52) rfl rfl z_11 rfl ?_
      refine g_iload_n (n := 53) rfl rfl rfl ?_
      refine g_iald (n := 54) rfl rfl z_12 rfl rfl (by omega) ?_
      rw [k1 12 i rfl]
      refine g_cP2 (n := 57) rfl rfl rfl rfl mt_X4_feels rfl rfl (r_k z_15) (sc_feels run15 et (by omega) eh h4) ?_
      refine g_bz (n := 60) rfl rfl (fun h57 => ?_) (fun h57 => ?_)
      · skip
        refine g_iinc (n := 103) rfl rfl rfl (jn_1 _) ?_
        refine g_goto rfl ?_
        first | exact ih g9 true _ k3' | exact ih g9 false _ k3' | exact ih g9 _ _ k1
      · skip
        refine g_aload_n (n := 61) rfl rfl rfl ?_
        refine g_getR (n := 64) rfl rfl z_11 rfl ?_
        refine g_aload_n (n := 65) rfl rfl rfl ?_
        refine g_getR (n := 68) rfl rfl z_11 rfl ?_
        refine g_aload_n (n := 69) rfl rfl rfl ?_
        refine g_getR (n := 72) rfl rfl z_11 rfl ?_
        refine g_iload_n (n := 73) rfl rfl rfl ?_
        refine g_iald (n := 74) rfl rfl z_12 rfl rfl (by omega) ?_
        rw [k1 12 i rfl]
        refine g_cV3 (n := 77) rfl rfl rfl rfl mt_X4_strikeLike rfl rfl (r_k z_21) (sc_strikeLike run21 run15 et (by omega) eh h4) ?_
        rintro M2 ⟨k2, c2⟩
        have k2' := k1.tr k2
        refine g_aload_n (n := 78) rfl rfl rfl ?_
        refine g_getR (n := 81) rfl rfl z_11 rfl ?_
        refine g_cV1 (n := 84) rfl rfl rfl rfl mt_X4_goOn rfl rfl (r_k z_21) (sc_goOn run21 (hC.keep k2') c2) ?_
        intro M3 k3
        have k3' := k2'.tr k3
        obtain ⟨t, ht⟩ := sc_breaks (d := d + 6) run21 (hC.keep k3')
        refine g_aload_n (n := 85) rfl rfl rfl ?_
        refine g_getR (n := 88) rfl rfl z_11 rfl ?_
        refine g_cP1 (n := 91) rfl rfl rfl rfl mt_X4_breaks rfl rfl (r_k z_21) (ht) ?_
        refine g_bnz (n := 94) rfl rfl (fun h91 => ?_) (fun h91 => ?_)
        · skip
          refine g_const (n := 99) rfl rfl (s_iconst (v := 0) (by decide)) ?_
          refine g_istore_n (n := 100) rfl rfl ?_
          refine g_iinc (n := 103) rfl rfl rfl (jn_1 _) ?_
          refine g_goto rfl ?_
          first | exact ih g9 true _ k3' | exact ih g9 false _ k3' | exact ih g9 _ _ k1
        · skip
          refine g_const (n := 95) rfl rfl (s_iconst (v := 1) (by decide)) ?_
          refine g_goto rfl ?_
          refine g_istore_n (n := 100) rfl rfl ?_
          refine g_iinc (n := 103) rfl rfl rfl (jn_1 _) ?_
          refine g_goto rfl ?_
          first | exact ih g9 true _ k3' | exact ih g9 false _ k3' | exact ih g9 _ _ k1
set_option maxRecDepth 20000 in
theorem sc_holds (hC : CW E T M n rs) (hW : WI M) : EvI (d + 8) miX5_holdsAgainstOne [.ref 11] (zz E T) M (fun _ M' => cKeep M M') := by
  obtain ⟨w, hw, ew, hb⟩ := hW
  obtain ⟨e, -, he6, he⟩ := hC.2.2.2.2.1
  refine ev_of mt_X5_holdsAgainstOne rfl ?_
  refine g_aload_n (n := 1) rfl rfl rfl ?_
  refine g_getR (n := 4) rfl rfl z_11 rfl ?_
  refine g_cV1 (n := 7) rfl rfl rfl rfl mt_X4_strikeNone rfl rfl (r_k z_15) (sc_strikeNone run15) ?_
  rintro M2 ⟨k2, c2⟩
  refine g_aload_n (n := 8) rfl rfl rfl ?_
  refine g_getR (n := 11) rfl rfl z_11 rfl ?_
  refine g_cV1 (n := 14) rfl rfl rfl rfl mt_X4_goOn rfl rfl (r_k z_15) (sc_goOn run15 (hC.keep k2) (by rw [c2]; exact ⟨0, by omega, rfl⟩)) ?_
  intro M3 k3
  have k3' := k2.tr k3
  obtain ⟨t, ht⟩ := sc_breaks (d := d + 6) run15 (hC.keep k3')
  refine g_aload_n (n := 15) rfl rfl rfl ?_
  refine g_getR (n := 18) rfl rfl z_11 rfl ?_
  refine g_cP1 (n := 21) rfl rfl rfl rfl mt_X4_breaks rfl rfl (r_k z_15) (ht) ?_
  refine g_bnz (n := 24) rfl rfl (fun h21 => ?_) (fun h21 => ?_)
  · skip
    refine g_const (n := 29) rfl rfl (s_iconst (v := 0) (by decide)) ?_
    refine g_istore_n (n := 30) rfl rfl ?_
    refine g_const (n := 31) rfl rfl (s_iconst (v := 0) (by decide)) ?_
    refine g_istore_n (n := 32) rfl rfl ?_
    first | exact lp_holds hC hw ew hb he he6 0 (by omega) true _ k3' | exact lp_holds hC hw ew hb he he6 0 (by omega) false _ k3'
  · skip
    refine g_const (n := 25) rfl rfl (s_iconst (v := 1) (by decide)) ?_
    refine g_goto rfl ?_
    refine g_istore_n (n := 30) rfl rfl ?_
    refine g_const (n := 31) rfl rfl (s_iconst (v := 0) (by decide)) ?_
    refine g_istore_n (n := 32) rfl rfl ?_
    first | exact lp_holds hC hw ew hb he he6 0 (by omega) true _ k3' | exact lp_holds hC hw ew hb he he6 0 (by omega) false _ k3'
set_option maxRecDepth 20000 in
theorem lp_cheap {k c : Nat} {cnt : Int32} (hC : CW E T M n rs) (hk : k ≤ 5) : ∀ i, i ≤ 2 ^ k → ∀ b l M1, Fr cB M M1 → WI M1 → SI M1 n → M1 11 9 = Int32.ofNat k → Go [] (d + 8) (some .int) tabX5_cheapestMend 28 [(0, .ref 11), (1, .int cnt), (2, .int b), (3, .int l), (4, .int (Int32.ofNat i))] [] (hp (zz E T) M1) 0 0 (QI (zz E T) (fun _ M' => Fr cB M M')) := by
  have h32 : 2 ^ k ≤ 32 := Nat.pow_le_pow_right (by omega) hk
  refine loop_up (2 ^ k) ?_
  intro i hi ih b l M1 k1 hW hS ek
  have hC1 : CW E T M1 n rs := hC.fr k1 rfl rfl rfl (fun q j hq => cB_hi hq)
  refine g_iload (n := 30) rfl rfl rfl ?_
  refine g_const (n := 31) rfl rfl (s_iconst (v := 1) (by decide)) ?_
  refine g_aload_n (n := 32) rfl rfl rfl ?_
  refine g_getI (n := 35) rfl rfl z_11 rfl ?_
  refine g_ishl (n := 36) rfl rfl ?_
  rw [ek, shl_pow k (by omega)]
  refine g_ige (n := 39) rfl rfl (fun h36 => ?_) (fun h36 => ?_)
  · skip
    refine g_aload_n (n := 91) rfl rfl rfl ?_
    refine g_getR (n := 94) rfl rfl z_11 rfl ?_
    refine g_getR (n := 97) rfl rfl z_1 rfl ?_
    refine g_iload_n (n := 98) rfl rfl rfl ?_
    refine g_cV2 (n := 101) rfl rfl rfl rfl mt_X6_countOnly rfl rfl (r_k z_6) (sc_countOnly) ?_
    rintro M2 rfl
    refine g_iload_n (n := 102) rfl rfl rfl ?_
    refine g_retI rfl ?_
    exact (k1.up rfl).fl (fun j => rfl)
  · skip
    have g9 := (jn_lt (by omega) (by omega)).mp h36
    refine g_aload_n (n := 40) rfl rfl rfl ?_
    refine g_iload (n := 42) rfl rfl rfl ?_
    refine g_cI2 (n := 45) rfl rfl rfl rfl mt_X5_priceOf rfl rfl (r_k z_11) (sc_priceOf hC1 hS) ?_
    rintro x42 M42 rfl
    refine g_istore (n := 47) rfl rfl ?_
    refine g_iload (n := 49) rfl rfl rfl ?_
    refine g_iload_n (n := 50) rfl rfl rfl ?_
    refine g_ige (n := 53) rfl rfl (fun h50 => ?_) (fun h50 => ?_)
    · skip
      refine g_iinc (n := 87) rfl rfl rfl (jn_1 _) ?_
      refine g_goto rfl ?_
      refine go_only 5 ?_
      first | exact ih g9 _ _ _ f3 W3 S3 e3 | exact ih g9 _ _ _ k1 hW hS ek
    · skip
      refine g_aload_n (n := 54) rfl rfl rfl ?_
      refine g_getR (n := 57) rfl rfl z_11 rfl ?_
      refine g_getR (n := 60) rfl rfl z_1 rfl ?_
      refine g_iload_n (n := 61) rfl rfl rfl ?_
      refine g_aload_n (n := 62) rfl rfl rfl ?_
      refine g_iload (n := 64) rfl rfl rfl ?_
      refine g_cI2 (n := 67) rfl rfl rfl rfl mt_X5_rulesOf rfl rfl (r_k z_11) (sc_rulesOf hS) ?_
      rintro x64 M64 rfl
      refine g_ior (n := 68) rfl rfl ?_
      refine g_cV2 (n := 71) rfl rfl rfl rfl mt_X6_countOnly rfl rfl (r_k z_6) (sc_countOnly) ?_
      rintro M2 rfl
      have f2 : Fr cB M (mfl (mup M64 6 4 (cnt ||| x64)) 7 (-1)) := (k1.up rfl).fl (fun j => rfl)
      refine g_aload_n (n := 72) rfl rfl rfl ?_
      refine g_cI1 (n := 75) rfl rfl rfl rfl mt_X5_holdsAgainstOne rfl rfl (r_k z_11) (sc_holds (hC.fr f2 rfl rfl rfl (fun q j hq => cB_hi hq)) hW) ?_
      intro x72 M3 k3
      have f3 := f2.tr k3.toB
      have W3 : WI M3 := by
        obtain ⟨w, hw, ew, hb⟩ := hW
        exact ⟨w, hw, (k3 11 8 rfl).trans ew, fun j hj => by rw [k3 1 2 rfl, k3 12 j rfl]; exact hb j hj⟩
      have S3 : SI M3 n := by
        obtain ⟨w, hw, ew, hb⟩ := hS
        exact ⟨w, hw, (k3 11 9 rfl).trans ew, fun j hj => by rw [k3 14 j rfl]; exact hb j hj⟩
      have e3 : M3 11 9 = Int32.ofNat k := (k3 11 9 rfl).trans ek
      refine g_zeq (n := 78) rfl rfl (fun h75 => ?_) (fun h75 => ?_)
      · skip
        refine g_iinc (n := 87) rfl rfl rfl (jn_1 _) ?_
        refine g_goto rfl ?_
        refine go_only 5 ?_
        first | exact ih g9 _ _ _ f3 W3 S3 e3 | exact ih g9 _ _ _ k1 hW hS ek
      · skip
        refine g_iload (n := 80) rfl rfl rfl ?_
        refine g_istore_n (n := 81) rfl rfl ?_
        refine g_iload (n := 83) rfl rfl rfl ?_
        refine g_istore_n (n := 84) rfl rfl ?_
        refine g_iinc (n := 87) rfl rfl rfl (jn_1 _) ?_
        refine g_goto rfl ?_
        refine go_only 5 ?_
        first | exact ih g9 _ _ _ f3 W3 S3 e3 | exact ih g9 _ _ _ k1 hW hS ek
set_option maxRecDepth 20000 in
theorem sc_cheapest (hC : CW E T M n rs) : EvI (d + 9) miX5_cheapestMend [.ref 11] (zz E T) M (fun _ M' => Fr cB M M') := by
  refine ev_of mt_X5_cheapestMend rfl ?_
  refine g_aload_n (n := 1) rfl rfl rfl ?_
  refine g_getR (n := 4) rfl rfl z_11 rfl ?_
  refine g_getR (n := 7) rfl rfl z_1 rfl ?_
  refine g_cI1 (n := 10) rfl rfl rfl rfl mt_X3_notSpare rfl rfl (r_k z_2) (sc_notSpare hC) ?_
  rintro x7 M7 ⟨rfl, -⟩
  refine g_istore_n (n := 11) rfl rfl ?_
  refine g_const (n := 12) rfl rfl (s_iconst (v := (-1)) (by decide)) ?_
  refine g_istore_n (n := 13) rfl rfl ?_
  refine g_const (n := 16) rfl rfl (s_sipush (v := 501) (by decide)) ?_
  refine g_istore_n (n := 17) rfl rfl ?_
  refine g_aload_n (n := 18) rfl rfl rfl ?_
  refine g_cV1 (n := 21) rfl rfl rfl rfl mt_X5_listSpares rfl rfl (r_k z_11) (sc_listSpares hC) ?_
  rintro M1 ⟨f1, s1⟩
  refine g_aload_n (n := 22) rfl rfl rfl ?_
  refine g_cV1 (n := 25) rfl rfl rfl rfl mt_X5_listWithin rfl rfl (r_k z_11) (sc_listWithinS) ?_
  rintro M2 ⟨f2, w2, s2⟩
  have S2 : SI M2 n := by
    obtain ⟨w, hw, ew, hb⟩ := s1
    exact ⟨w, hw, s2.1.trans ew, fun j hj => by rw [s2.2 j]; exact hb j hj⟩
  obtain ⟨k, hk, ek, -⟩ := id S2
  refine g_const (n := 26) rfl rfl (s_iconst (v := 0) (by decide)) ?_
  refine g_istore (n := 28) rfl rfl ?_
  exact lp_cheap (c := 0) hC hk 0 (Nat.zero_le _) _ _ _ (f1.tr f2) w2 S2 ek
end MC
