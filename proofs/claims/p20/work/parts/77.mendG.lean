/-! The program: what mend comes to -/
section MendG
variable {E : Value} {T : List SH} {M : Mem} {d n : Nat} {rs : Nat → Nat}
def SPL (M : Mem) (sl : List Nat) : Prop := M 11 9 = Int32.ofNat sl.length ∧ ∀ j, j < sl.length → M 14 j = Int32.ofNat (sl.getD j 0)
def kP (q j : Nat) : Bool := Nat.beq q 14 || (Nat.beq q 11 && Nat.beq j 9)
set_option maxRecDepth 20000 in
theorem kP_hi {q j : Nat} (h : 61 ≤ q) : kP q j = false := by
  have e : ∀ k, k < 61 → Nat.beq q k = false := fun k hk => by
    cases hb : Nat.beq q k with
    | false => rfl
    | true => have := Nat.eq_of_beq_eq_true hb; omega
  simp only [kP, e 14 (by omega), e 11 (by omega), Bool.false_and, Bool.or_self]
/-- which are spare, by their prices -/
def spP (pr : Nat → Int32) (i : Nat) : Bool := !(decide (pr i = -1))
set_option maxRecDepth 20000 in
theorem lq_listSpares {pr : Nat → Int32} (hC : CW E T M n rs) (hpr : ∀ i, i < n → M (rs i) 9 = pr i) : ∀ i, i ≤ n → ∀ M1, Fr kP M M1 → SPL M1 (spS (spP pr) i) → Go [] (d + 3) none tabX5_listSpares 7 [(0, .ref 11), (1, .int (Int32.ofNat i))] [] (hp (zz E T) M1) 0 0 (QV (zz E T) (fun M1 => Fr kP M M1 ∧ SPL M1 (spS (spP pr) n))) := by
  refine loop_up n ?_
  intro i hi ih M1 k1 hS
  have h5 := spS_len (p := spP pr) (n := i)
  obtain ⟨hL, hn12, hn, hR, -⟩ := hC.fr k1 rfl rfl rfl (fun q j hq => kP_hi hq)
  obtain ⟨ek, hs⟩ := id hS
  refine g_iload_n (n := 8) rfl rfl rfl ?_
  refine g_aload_n (n := 9) rfl rfl rfl ?_
  refine g_getR (n := 12) rfl rfl z_11 rfl ?_
  refine g_getR (n := 15) rfl rfl z_1 rfl ?_
  refine g_getR (n := 18) rfl rfl z_2 rfl ?_
  refine g_cP1 (n := 21) rfl rfl rfl rfl mt_Jx4a65c_size_8abf5 rfl rfl (r_k z_3) (sc_size) ?_
  refine g_ige (n := 24) rfl rfl (fun h21 => ?_) (fun h21 => ?_)
  · skip
    rw [hn] at h21
    have g9 := (jn_le (by omega) (by omega)).mp h21
    refine g_retV rfl ?_
    obtain rfl : i = n := by omega
    exact ⟨k1, hS⟩
  · skip
    rw [hn] at h21
    have g9 := (jn_lt (by omega) (by omega)).mp h21
    have e9 : M1 (rs i) 9 = pr i := by rw [k1 (rs i) 9 (kP_hi (hL.1 i g9).1)]; exact hpr i g9
    refine g_aload_n (n := 25) rfl rfl rfl ?_
    refine g_getI (n := 28) rfl rfl z_11 rfl ?_
    refine g_const (n := 29) rfl rfl (s_iconst (v := 5) (by decide)) ?_
    refine g_ige (n := 32) rfl rfl (fun h29 => ?_) (fun h29 => ?_)
    · skip
      rw [ek] at h29
      have g10 := (jn_le (a := 5) (by omega) (by omega)).mp h29
      refine g_retV rfl ?_
      refine ⟨k1, ?_⟩
      rw [spS_full g10 n hi]
      exact hS
    · skip
      rw [ek] at h29
      have g10 := (jn_lt (b := 5) (by omega) (by omega)).mp h29
      refine g_aload_n (n := 33) rfl rfl rfl ?_
      refine g_getR (n := 36) rfl rfl z_11 rfl ?_
      refine g_getR (n := 39) rfl rfl z_1 rfl ?_
      refine g_getR (n := 42) rfl rfl z_2 rfl ?_
      refine g_iload_n (n := 43) rfl rfl rfl ?_
      refine g_cP2 (n := 46) rfl rfl rfl rfl mt_Jx4a65c_get_915e3 rfl rfl (r_k z_3) (sc_get hL hn hn12 g9) ?_
      refine g_cast (n := 49) rfl rfl (hL.1 i g9).2 ?_
      refine g_cP1 (n := 52) rfl rfl rfl rfl mt_X2_isSpare rfl rfl (r_k (hL.1 i g9).2) (sc_isSpare (hL.1 i g9).2) ?_
      refine g_bz (n := 55) rfl rfl (fun h52 => ?_) (fun h52 => ?_)
      · skip
        rw [e9] at h52
        have e := spS_no (p := spP pr) (i := i) h52
        refine g_iinc (n := 78) rfl rfl rfl (jn_1 _) ?_
        refine g_goto rfl ?_
        exact ih g9 M1 k1 (by rw [e]; exact hS)
      · skip
        rw [e9] at h52
        have e := spS_yes (p := spP pr) (i := i) h52 g10
        refine g_aload_n (n := 56) rfl rfl rfl ?_
        refine g_getR (n := 59) rfl rfl z_11 rfl ?_
        refine g_aload_n (n := 60) rfl rfl rfl ?_
        refine g_getI (n := 63) rfl rfl z_11 rfl ?_
        refine g_iload_n (n := 64) rfl rfl rfl ?_
        refine g_iast (n := 65) rfl rfl z_14 rfl ek (by omega) ?_
        refine g_aload_n (n := 66) rfl rfl rfl ?_
        refine g_dup (n := 67) rfl rfl ?_
        refine g_getI (n := 70) rfl rfl z_11 rfl ?_
        refine g_const (n := 71) rfl rfl (s_iconst (v := 1) (by decide)) ?_
        refine g_iadd (n := 72) rfl rfl ?_
        refine g_putI (n := 75) rfl rfl z_11 rfl rfl ?_
        refine g_iinc (n := 78) rfl rfl rfl (jn_1 _) ?_
        refine g_goto rfl ?_
        refine ih g9 _ ((k1.up rfl).up rfl) ?_
        rw [e]
        refine ⟨?_, fun j hj => ?_⟩
        · show M1 11 9 + 1 = _
          rw [ek, List.length_append]
          exact jn_add _ 1
        · show mup M1 14 (spS (spP pr) i).length (Int32.ofNat i) 14 j = _
          rw [List.length_append] at hj
          simp only [List.length_cons, List.length_nil] at hj
          by_cases e2 : j = (spS (spP pr) i).length
          · rw [e2, mup_same, getD_end]
          · rw [mup_j e2, getD_app (by omega)]
            exact hs j (by omega)
set_option maxRecDepth 20000 in
theorem sd_listSpares {pr : Nat → Int32} (hC : CW E T M n rs) (hpr : ∀ i, i < n → M (rs i) 9 = pr i) : EvV (d + 4) miX5_listSpares [.ref 11] (zz E T) M (fun M1 => Fr kP M M1 ∧ SPL M1 (spS (spP pr) n)) := by
  refine ev_of mt_X5_listSpares rfl ?_
  refine g_aload_n (n := 1) rfl rfl rfl ?_
  refine g_const (n := 2) rfl rfl (s_iconst (v := 0) (by decide)) ?_
  refine g_putI (n := 5) rfl rfl z_11 rfl rfl ?_
  refine g_const (n := 6) rfl rfl (s_iconst (v := 0) (by decide)) ?_
  refine g_istore_n (n := 7) rfl rfl ?_
  refine lq_listSpares hC hpr 0 (by omega) _ (Fr.rf.up rfl) ⟨rfl, fun k hk => absurd hk (Nat.not_lt_zero _)⟩
set_option maxRecDepth 20000 in
theorem smS_0 {pr : Nat → Int32} {sl : List Nat} {s j : Nat} (h : bt1 s j = false) : smS pr sl s (j + 1) = smS pr sl s j := by
  show smS pr sl s j + (bif bt1 s j then _ else _) = _
  rw [h]
  exact Int32.add_zero _
set_option maxRecDepth 20000 in
theorem inS_0 {sl : List Nat} {s j : Nat} (h : bt1 s j = false) : inS sl s (j + 1) = inS sl s j := by
  show inS sl s j ||| (bif bt1 s j then _ else _) = _
  rw [h]
  exact or0
set_option maxRecDepth 20000 in
theorem lq_priceOf {s : Nat} {pr : Nat → Int32} {sl : List Nat} (hC : CW E T M n rs) (hpr : ∀ i, i < n → M (rs i) 9 = pr i) (h5 : sl.length ≤ 5) (hn0 : ∀ x, x ∈ sl → x < n) (hS : SPL M sl) : ∀ i, i ≤ sl.length → ∀ x, x = smS pr sl s i → Go [] (d + 3) (some .int) tabX5_priceOf 4 [(0, .ref 11), (1, .int (Int32.ofNat s)), (2, .int x), (3, .int (Int32.ofNat i))] [] (hp (zz E T) M) 0 0 (QI (zz E T) (fun y M' => M' = M ∧ y = smS pr sl s sl.length)) := by
  obtain ⟨hL, hn12, hn, hR, -⟩ := hC
  refine loop_up sl.length ?_
  intro i hi ih x hx
  refine g_iload_n (n := 5) rfl rfl rfl ?_
  refine g_aload_n (n := 6) rfl rfl rfl ?_
  refine g_getI (n := 9) rfl rfl z_11 rfl ?_
  refine g_ige (n := 12) rfl rfl (fun h9 => ?_) (fun h9 => ?_)
  · skip
    rw [hS.1] at h9
    have g9 := (jn_le (by omega) (by omega)).mp h9
    refine g_iload_n (n := 56) rfl rfl rfl ?_
    refine g_retI rfl ?_
    refine ⟨rfl, ?_⟩
    rw [hx, show i = sl.length by omega]
  · skip
    rw [hS.1] at h9
    have g9 := (jn_lt (by omega) (by omega)).mp h9
    have er := hS.2 i g9
    have hr := hn0 _ (getD_mem g9)
    refine g_iload_n (n := 13) rfl rfl rfl ?_
    refine g_iload_n (n := 14) rfl rfl rfl ?_
    refine g_ishr (n := 15) rfl rfl ?_
    refine g_const (n := 16) rfl rfl (s_iconst (v := 1) (by decide)) ?_
    refine g_iand (n := 17) rfl rfl ?_
    refine g_const (n := 18) rfl rfl (s_iconst (v := 1) (by decide)) ?_
    refine g_ine (n := 21) rfl rfl (fun h18 => ?_) (fun h18 => ?_)
    · skip
      have b18 : bt1 s i = false := dF h18
      refine g_iinc (n := 52) rfl rfl rfl (jn_1 _) ?_
      refine g_goto rfl ?_
      exact ih g9 _ (by rw [hx, smS_0 b18])
    · skip
      have b18 : bt1 s i = true := dT h18
      refine g_iload_n (n := 22) rfl rfl rfl ?_
      refine g_aload_n (n := 23) rfl rfl rfl ?_
      refine g_getR (n := 26) rfl rfl z_11 rfl ?_
      refine g_getR (n := 29) rfl rfl z_1 rfl ?_
      refine g_getR (n := 32) rfl rfl z_2 rfl ?_
      refine g_aload_n (n := 33) rfl rfl rfl ?_
      refine g_getR (n := 36) rfl rfl z_11 rfl ?_
      refine g_iload_n (n := 37) rfl rfl rfl ?_
      refine g_iald (n := 38) rfl rfl z_14 rfl rfl (by omega) ?_
      rw [er]
      refine g_cP2 (n := 41) rfl rfl rfl rfl mt_Jx4a65c_get_915e3 rfl rfl (r_k z_3) (sc_get hL hn hn12 hr) ?_
      refine g_cast (n := 44) rfl rfl (hL.1 _ hr).2 ?_
      refine g_getI (n := 47) rfl rfl (hL.1 _ hr).2 rfl ?_
      refine g_iadd (n := 48) rfl rfl ?_
      refine g_istore_n (n := 49) rfl rfl ?_
      refine g_iinc (n := 52) rfl rfl rfl (jn_1 _) ?_
      refine g_goto rfl ?_
      refine ih g9 _ (smS_step hx ?_)
      rw [b18, hpr _ hr]
      rfl
set_option maxRecDepth 20000 in
theorem sd_priceOf {s : Nat} {pr : Nat → Int32} {sl : List Nat} (hC : CW E T M n rs) (hpr : ∀ i, i < n → M (rs i) 9 = pr i) (h5 : sl.length ≤ 5) (hn0 : ∀ x, x ∈ sl → x < n) (hS : SPL M sl) : EvI (d + 4) miX5_priceOf [.ref 11, .int (Int32.ofNat s)] (zz E T) M (fun y M' => M' = M ∧ y = smS pr sl s sl.length) := by
  refine ev_of mt_X5_priceOf rfl ?_
  refine g_const (n := 1) rfl rfl (s_iconst (v := 0) (by decide)) ?_
  refine g_istore_n (n := 2) rfl rfl ?_
  refine g_const (n := 3) rfl rfl (s_iconst (v := 0) (by decide)) ?_
  refine g_istore_n (n := 4) rfl rfl ?_
  exact lq_priceOf hC hpr h5 hn0 hS 0 (Nat.zero_le _) _ rfl
set_option maxRecDepth 20000 in
theorem lq_rulesOf {s : Nat} {sl : List Nat} (h5 : sl.length ≤ 5) (hS : SPL M sl) : ∀ i, i ≤ sl.length → ∀ x, x = inS sl s i → Go [] d (some .int) tabX5_rulesOf 4 [(0, .ref 11), (1, .int (Int32.ofNat s)), (2, .int x), (3, .int (Int32.ofNat i))] [] (hp (zz E T) M) 0 0 (QI (zz E T) (fun y M' => M' = M ∧ y = inS sl s sl.length)) := by
  refine loop_up sl.length ?_
  intro i hi ih x hx
  refine g_iload_n (n := 5) rfl rfl rfl ?_
  refine g_aload_n (n := 6) rfl rfl rfl ?_
  refine g_getI (n := 9) rfl rfl z_11 rfl ?_
  refine g_ige (n := 12) rfl rfl (fun h9 => ?_) (fun h9 => ?_)
  · skip
    rw [hS.1] at h9
    have g9 := (jn_le (by omega) (by omega)).mp h9
    refine g_iload_n (n := 39) rfl rfl rfl ?_
    refine g_retI rfl ?_
    refine ⟨rfl, ?_⟩
    rw [hx, show i = sl.length by omega]
  · skip
    rw [hS.1] at h9
    have g9 := (jn_lt (by omega) (by omega)).mp h9
    have er := hS.2 i g9
    refine g_iload_n (n := 13) rfl rfl rfl ?_
    refine g_iload_n (n := 14) rfl rfl rfl ?_
    refine g_ishr (n := 15) rfl rfl ?_
    refine g_const (n := 16) rfl rfl (s_iconst (v := 1) (by decide)) ?_
    refine g_iand (n := 17) rfl rfl ?_
    refine g_const (n := 18) rfl rfl (s_iconst (v := 1) (by decide)) ?_
    refine g_ine (n := 21) rfl rfl (fun h18 => ?_) (fun h18 => ?_)
    · skip
      have b18 : bt1 s i = false := dF h18
      refine g_iinc (n := 35) rfl rfl rfl (jn_1 _) ?_
      refine g_goto rfl ?_
      exact ih g9 _ (by rw [hx, inS_0 b18])
    · skip
      have b18 : bt1 s i = true := dT h18
      refine g_iload_n (n := 22) rfl rfl rfl ?_
      refine g_const (n := 23) rfl rfl (s_iconst (v := 1) (by decide)) ?_
      refine g_aload_n (n := 24) rfl rfl rfl ?_
      refine g_getR (n := 27) rfl rfl z_11 rfl ?_
      refine g_iload_n (n := 28) rfl rfl rfl ?_
      refine g_iald (n := 29) rfl rfl z_14 rfl rfl (by omega) ?_
      refine g_ishl (n := 30) rfl rfl ?_
      refine g_ior (n := 31) rfl rfl ?_
      refine g_istore_n (n := 32) rfl rfl ?_
      refine g_iinc (n := 35) rfl rfl rfl (jn_1 _) ?_
      refine g_goto rfl ?_
      refine ih g9 _ (inS_step hx ?_)
      rw [b18, er]
      rfl
set_option maxRecDepth 20000 in
theorem sd_rulesOf {s : Nat} {sl : List Nat} (h5 : sl.length ≤ 5) (hS : SPL M sl) : EvI (d + 1) miX5_rulesOf [.ref 11, .int (Int32.ofNat s)] (zz E T) M (fun y M' => M' = M ∧ y = inS sl s sl.length) := by
  refine ev_of mt_X5_rulesOf rfl ?_
  refine g_const (n := 1) rfl rfl (s_iconst (v := 0) (by decide)) ?_
  refine g_istore_n (n := 2) rfl rfl ?_
  refine g_const (n := 3) rfl rfl (s_iconst (v := 0) (by decide)) ?_
  refine g_istore_n (n := 4) rfl rfl ?_
  exact lq_rulesOf h5 hS 0 (Nat.zero_le _) _ rfl
set_option maxRecDepth 20000 in
theorem hld_1 {V : VW} {al : Nat → Bool} {m x : Nat} (hm : m ≤ x) (hz : ∀ y, m ≤ y → y < x → al y = false) (ht : hld V al m = true) {c : Bool} (hc : (al x && bk V [x]) = c) : hld V al (x + 1) = !c := by
  show (hld V al x && !(al x && bk V [x])) = !c
  rw [hld_skip hm hz, ht, hc, Bool.true_and]
/-- while it goes through the blows -/
def HS (M : Mem) (V : VW) (M1 : Mem) : Prop := cKeep M M1 ∧ Memo M1 (vR V) ∧ RunI M1 15 V [] 7
set_option maxRecDepth 20000 in
theorem HS.run {V : VW} {b : Nat} {M1 M2 : Mem} (h : HS M V M1) (hb : IsRun b) (hne : b ≠ 15) (k : Fr (kR b) M1 M2) (m : Memo M2 (vR V)) : HS M V M2 := by
  refine ⟨h.1.tr (k.sc hb), m, h.2.2.oth k ?_ (by omega)⟩
  rcases hb with rfl | rfl | rfl | rfl <;> omega
set_option maxRecDepth 20000 in
theorem lq_holds {V : VW} {al : Nat → Bool} (hX : CX E T M n rs V) (hA : ALW M al) (hL : LST M (wlS al 228)) : ∀ i, i ≤ (wlS al 228).length → ∀ t M1, HS M V M1 → t = hld V al (pO (wlS al 228) i) → Go [] (d + 7) (some .boolean) tabX5_holdsAgainstOne 32 [(0, .ref 11), (1, .int (bI t)), (2, .int (Int32.ofNat i))] [] (hp (zz E T) M1) 0 0 (QI (zz E T) (fun y M' => cKeep M M' ∧ y = bI (hld V al 228))) := by
  obtain ⟨he, he6⟩ := hX.2.2.2.1
  obtain ⟨gp1, gp2, gp3⟩ := wl_gap (al := al) 228
  have hlen : (wlS al 228).length ≤ 100 := by have := wl_len (hA.cn he he6) 228 (by omega); have := cnE_228; omega
  have ple : ∀ i, i ≤ (wlS al 228).length → pO (wlS al 228) i ≤ 228 := fun i hi => by
    cases i with
    | zero => exact Nat.zero_le _
    | succ i =>
      have := (gp1 i (by omega)).2.1
      show (wlS al 228).getD i 0 + 1 ≤ 228
      omega
  refine loop_up (wlS al 228).length ?_
  intro i hi ih t M1 k1 ht
  refine g_iload_n (n := 33) rfl rfl rfl ?_
  refine g_bz (n := 36) rfl rfl (fun h33 => ?_) (fun h33 => ?_)
  · skip
    refine g_iload_n (n := 107) rfl rfl rfl ?_
    refine g_retZ rfl bI01 ?_
    refine ⟨k1.1, ?_⟩
    rw [h33, hld_no (ple i hi) (ht.symm.trans h33)]
  · skip
    refine g_iload_n (n := 37) rfl rfl rfl ?_
    refine g_aload_n (n := 38) rfl rfl rfl ?_
    refine g_getI (n := 41) rfl rfl z_11 rfl ?_
    refine g_ige (n := 44) rfl rfl (fun h41 => ?_) (fun h41 => ?_)
    · skip
      rw [k1.1 11 8 rfl, hL.1] at h41
      have g9 := (jn_le (by omega) (by omega)).mp h41
      refine g_iload_n (n := 107) rfl rfl rfl ?_
      refine g_retZ rfl bI01 ?_
      refine ⟨k1.1, ?_⟩
      rw [ht, show i = (wlS al 228).length by omega, hld_skip gp2 gp3]
    · skip
      rw [k1.1 11 8 rfl, hL.1] at h41
      have g9 := (jn_lt (by omega) (by omega)).mp h41
      obtain ⟨a1, hx, ax, a4⟩ := gp1 i g9
      obtain ⟨x, ex⟩ : ∃ x, x = (wlS al 228).getD i 0 := ⟨_, rfl⟩
      have e12 : ∀ M2, cKeep M M2 → M2 12 i = Int32.ofNat x := fun M2 k => by rw [k 12 i rfl, hL.2 i g9, ex]
      have epi : pO (wlS al 228) (i + 1) = x + 1 := by rw [ex]; rfl
      rw [← ex] at a1 hx ax a4
      have hbl := hA.bl he hx ax
      have ht1 : hld V al (pO (wlS al 228) i) = true := ht.symm.trans h33
      refine g_aload_n (n := 45) rfl rfl rfl ?_
      refine g_getR (n := 48) rfl rfl z_11 rfl ?_
      refine g_aload_n (n := 49) rfl rfl rfl ?_
      refine g_getR (n := 52) rfl rfl z_11 rfl ?_
      refine g_iload_n (n := 53) rfl rfl rfl ?_
      refine g_iald (n := 54) rfl rfl z_12 rfl rfl (by omega) ?_
      rw [e12 M1 k1.1]
      refine g_cP2 (n := 57) rfl rfl rfl rfl mt_X4_feels rfl rfl (r_k z_15) (sd_feels run15 hx hbl he6 k1.2.2) ?_
      refine g_bz (n := 60) rfl rfl (fun h57 => ?_) (fun h57 => ?_)
      · skip
        refine g_iinc (n := 103) rfl rfl rfl (jn_1 _) ?_
        refine g_goto rfl ?_
        refine ih g9 _ _ k1 ?_
        rw [epi, hld_1 a1 a4 ht1 (c := false) (by rw [unfelt h57 he6 hX.2.2.2.2.1.2.1 hX.2.2.2.2.2.1.2, hld_0 ht1, Bool.and_false])]
        exact h33
      · skip
        refine g_aload_n (n := 61) rfl rfl rfl ?_
        refine g_getR (n := 64) rfl rfl z_11 rfl ?_
        refine g_aload_n (n := 65) rfl rfl rfl ?_
        refine g_getR (n := 68) rfl rfl z_11 rfl ?_
        refine g_aload_n (n := 69) rfl rfl rfl ?_
        refine g_getR (n := 72) rfl rfl z_11 rfl ?_
        refine g_iload_n (n := 73) rfl rfl rfl ?_
        refine g_iald (n := 74) rfl rfl z_12 rfl rfl (by omega) ?_
        rw [e12 M1 k1.1]
        refine g_cV3 (n := 77) rfl rfl rfl rfl mt_X4_strikeLike rfl rfl (r_k z_21) (sd_strikeLike run21 run15 (by omega) hx hbl he6 k1.2.2) ?_
        rintro M2 ⟨f2, l2, i2⟩
        have k2 := k1.run run21 (by omega) f2 (k1.2.1.lo l2)
        refine g_aload_n (n := 78) rfl rfl rfl ?_
        refine g_getR (n := 81) rfl rfl z_11 rfl ?_
        refine g_cV1 (n := 84) rfl rfl rfl rfl mt_X4_goOn rfl rfl (r_k z_21) (sd_goOn run21 (hX.keep k2.1) k2.2.1 i2) ?_
        rintro M3 ⟨f3, m3, i3⟩
        have k3 := k2.run run21 (by omega) f3 m3
        refine g_aload_n (n := 85) rfl rfl rfl ?_
        refine g_getR (n := 88) rfl rfl z_11 rfl ?_
        refine g_cP1 (n := 91) rfl rfl rfl rfl mt_X4_breaks rfl rfl (r_k z_21) (sd_breaks run21 (hX.keep k3.1) i3) ?_
        refine g_bnz (n := 94) rfl rfl (fun h91 => ?_) (fun h91 => ?_)
        · skip
          refine g_const (n := 99) rfl rfl (s_iconst (v := 0) (by decide)) ?_
          refine g_istore_n (n := 100) rfl rfl ?_
          refine g_iinc (n := 103) rfl rfl rfl (jn_1 _) ?_
          refine g_goto rfl ?_
          refine ih g9 false _ k3 ?_
          rw [epi, hld_1 a1 a4 ht1 (c := true) (by rw [ax, h91]; rfl)]
          rfl
        · skip
          refine g_const (n := 95) rfl rfl (s_iconst (v := 1) (by decide)) ?_
          refine g_goto rfl ?_
          refine g_istore_n (n := 100) rfl rfl ?_
          refine g_iinc (n := 103) rfl rfl rfl (jn_1 _) ?_
          refine g_goto rfl ?_
          refine ih g9 true _ k3 ?_
          rw [epi, hld_1 a1 a4 ht1 (c := false) (by rw [h91, Bool.and_false])]
          rfl
set_option maxRecDepth 20000 in
theorem sd_holds {V : VW} {al : Nat → Bool} (hX : CX E T M n rs V) (hA : ALW M al) (hL : LST M (wlS al 228)) (hM : Memo M (vR V)) : EvI (d + 8) miX5_holdsAgainstOne [.ref 11] (zz E T) M (fun y M' => cKeep M M' ∧ y = bI (hld V al 228)) := by
  refine ev_of mt_X5_holdsAgainstOne rfl ?_
  refine g_aload_n (n := 1) rfl rfl rfl ?_
  refine g_getR (n := 4) rfl rfl z_11 rfl ?_
  refine g_cV1 (n := 7) rfl rfl rfl rfl mt_X4_strikeNone rfl rfl (r_k z_15) (sd_strikeNone (V := V) run15) ?_
  rintro M2 ⟨f2, l2, i2⟩
  refine g_aload_n (n := 8) rfl rfl rfl ?_
  refine g_getR (n := 11) rfl rfl z_11 rfl ?_
  refine g_cV1 (n := 14) rfl rfl rfl rfl mt_X4_goOn rfl rfl (r_k z_15) (sd_goOn run15 (hX.keep (f2.sc run15)) (hM.lo l2) i2) ?_
  rintro M3 ⟨f3, m3, i3⟩
  have k3 : HS M V M3 := ⟨(f2.sc run15).tr (f3.sc run15), m3, i3⟩
  refine g_aload_n (n := 15) rfl rfl rfl ?_
  refine g_getR (n := 18) rfl rfl z_11 rfl ?_
  refine g_cP1 (n := 21) rfl rfl rfl rfl mt_X4_breaks rfl rfl (r_k z_15) (sd_breaks run15 (hX.keep k3.1) i3) ?_
  refine g_bnz (n := 24) rfl rfl (fun h21 => ?_) (fun h21 => ?_)
  · skip
    refine g_const (n := 29) rfl rfl (s_iconst (v := 0) (by decide)) ?_
    refine g_istore_n (n := 30) rfl rfl ?_
    refine g_const (n := 31) rfl rfl (s_iconst (v := 0) (by decide)) ?_
    refine g_istore_n (n := 32) rfl rfl ?_
    refine lq_holds hX hA hL 0 (Nat.zero_le _) false _ k3 ?_
    show false = !(bk V [])
    rw [h21]
    rfl
  · skip
    refine g_const (n := 25) rfl rfl (s_iconst (v := 1) (by decide)) ?_
    refine g_goto rfl ?_
    refine g_istore_n (n := 30) rfl rfl ?_
    refine g_const (n := 31) rfl rfl (s_iconst (v := 0) (by decide)) ?_
    refine g_istore_n (n := 32) rfl rfl ?_
    refine lq_holds hX hA hL 0 (Nat.zero_le _) true _ k3 ?_
    show true = !(bk V [])
    rw [h21]
    rfl
/-- what mend writes -/
def kM (q j : Nat) : Bool := cSc q j || (Nat.beq q 12 || (Nat.beq q 14 || ((Nat.beq q 11 && (Nat.beq j 8 || Nat.beq j 9)) || (Nat.beq q 6 && Nat.beq j 4))))
set_option maxRecDepth 20000 in
theorem kM_hi {q j : Nat} (h : 61 ≤ q) : kM q j = false := by
  have e : ∀ k, k < 61 → Nat.beq q k = false := fun k hk => by
    cases hb : Nat.beq q k with
    | false => rfl
    | true => have := Nat.eq_of_beq_eq_true hb; omega
  simp only [kM, cSc_hi h, e 12 (by omega), e 14 (by omega), e 11 (by omega), e 6 (by omega), Bool.false_and, Bool.or_self]
set_option maxRecDepth 20000 in
theorem kM_of {q j : Nat} (h : cSc q j = true) : kM q j = true := by unfold kM; rw [h]; rfl
set_option maxRecDepth 20000 in
theorem kM_P {q j : Nat} (h : kP q j = true) : kM q j = true := by
  unfold kP at h
  unfold kM
  simp only [Bool.or_eq_true, Bool.and_eq_true] at h ⊢
  rcases h with h | ⟨h1, h2⟩
  · exact Or.inr (Or.inr (Or.inl h))
  · exact Or.inr (Or.inr (Or.inr (Or.inl ⟨h1, Or.inr h2⟩)))
set_option maxRecDepth 20000 in
theorem kM_W {q j : Nat} (h : kW q j = true) : kM q j = true := by
  unfold kW at h
  unfold kM
  simp only [Bool.or_eq_true, Bool.and_eq_true] at h ⊢
  rcases h with h | ⟨h1, h2⟩
  · exact Or.inr (Or.inl h)
  · exact Or.inr (Or.inr (Or.inr (Or.inl ⟨h1, Or.inl h2⟩)))
set_option maxRecDepth 20000 in
/-- the same world with other rules counting -/
theorem CX.cnt {V : VW} {M' : Mem} {c : Nat → Bool} (h : CX E T M n rs V) (k : Fr kM M M') (hc : ∀ i, i < n → c i = gb (M' 6 4) i) : CX E T M' n rs (vC V c) := by
  obtain ⟨h1, ⟨b1, b2, b3⟩, h3, h4, h5, h6, h7, h8⟩ := h
  refine ⟨h1.fr k rfl rfl rfl (fun q j hq => kM_hi hq), ⟨b1, b2, fun i hi => ?_⟩, ?_, ?_, ?_, ?_, ?_, h8⟩
  · have e := fun j => k (rs i) j (kM_hi (h1.1.1 i hi).1)
    obtain ⟨a1, a2, a3, a4, a5, a6⟩ := b3 i hi
    rw [e 1, e 2, e 6, k 4 _ rfl]
    refine ⟨a1, a2, a3, a4, fun h f => ?_, hc i hi⟩
    refine (a5 h f).trans ?_
    unfold cWorks
    rw [e 0, e 7, e 8]
  · rw [k 1 3 rfl]; exact h3
  · rw [k 1 2 rfl]; exact h4
  · rw [k 1 4 rfl]; exact h5
  · rw [k 1 5 rfl]; exact h6
  · rw [k 1 6 rfl]; exact h7
/-- what a set of spare rules is asked -/
def hdG (V : VW) (al : Nat → Bool) (pr : Nat → Int32) (sl : List Nat) (s : Nat) : Bool := hld (vC V (fun i => decide (pr i = -1) || gb (inS sl s sl.length) i)) al 228
set_option maxRecDepth 20000 in
theorem lq_cheap {V : VW} {al : Nat → Bool} {pr : Nat → Int32} {sl : List Nat} {cnt : Int32} (hX : CX E T M n rs V) (hA : ALW M al) (hpr : ∀ i, i < n → M (rs i) 9 = pr i) (h5 : sl.length ≤ 5) (hn0 : ∀ x, x ∈ sl → x < n) (hcnt : NSB M n rs cnt) : ∀ i, i ≤ 2 ^ sl.length → ∀ M1, Fr kM M M1 → LST M1 (wlS al 228) → SPL M1 sl → Go [] (d + 8) (some .int) tabX5_cheapestMend 28 [(0, .ref 11), (1, .int cnt), (2, .int (fC (hdG V al pr sl) (fun s => smS pr sl s sl.length) i).1), (3, .int (fC (hdG V al pr sl) (fun s => smS pr sl s sl.length) i).2), (4, .int (Int32.ofNat i))] [] (hp (zz E T) M1) 0 0 (QI (zz E T) (fun y M' => (Fr kM M M' ∧ (∀ j, M' 7 j = -1) ∧ NSB M n rs (M' 6 4)) ∧ y = (fC (hdG V al pr sl) (fun s => smS pr sl s sl.length) (2 ^ sl.length)).1)) := by
  have h32 : 2 ^ sl.length ≤ 32 := Nat.pow_le_pow_right (by omega) h5
  have hn12 := hX.1.2.1
  refine loop_up (2 ^ sl.length) ?_
  intro i hi ih M1 k1 hL hS
  have hC1 : CW E T M1 n rs := hX.1.fr k1 rfl rfl rfl (fun q j hq => kM_hi hq)
  have hpr1 : ∀ i, i < n → M1 (rs i) 9 = pr i := fun i hi => by rw [k1 (rs i) 9 (kM_hi (hX.1.1.1 i hi).1)]; exact hpr i hi
  have nx : ∀ b, (decide (smS pr sl i sl.length < (fC (hdG V al pr sl) (fun s => smS pr sl s sl.length) i).2) && hdG V al pr sl i) = b → fC (hdG V al pr sl) (fun s => smS pr sl s sl.length) (i + 1) = bif b then (Int32.ofNat i, smS pr sl i sl.length) else fC (hdG V al pr sl) (fun s => smS pr sl s sl.length) i := fun b hb => by rw [← hb]; rfl
  refine g_iload (n := 30) rfl rfl rfl ?_
  refine g_const (n := 31) rfl rfl (s_iconst (v := 1) (by decide)) ?_
  refine g_aload_n (n := 32) rfl rfl rfl ?_
  refine g_getI (n := 35) rfl rfl z_11 rfl ?_
  refine g_ishl (n := 36) rfl rfl ?_
  rw [hS.1, shl_pow sl.length (by omega)]
  refine g_ige (n := 39) rfl rfl (fun h36 => ?_) (fun h36 => ?_)
  · skip
    have g9 := (jn_le (by omega) (by omega)).mp h36
    refine g_aload_n (n := 91) rfl rfl rfl ?_
    refine g_getR (n := 94) rfl rfl z_11 rfl ?_
    refine g_getR (n := 97) rfl rfl z_1 rfl ?_
    refine g_iload_n (n := 98) rfl rfl rfl ?_
    refine g_cV2 (n := 101) rfl rfl rfl rfl mt_X6_countOnly rfl rfl (r_k z_6) (sc_countOnly) ?_
    rintro M2 rfl
    refine g_iload_n (n := 102) rfl rfl rfl ?_
    refine g_retI rfl ?_
    refine ⟨⟨(k1.up rfl).fl (fun j => rfl), fun j => rfl, hcnt⟩, ?_⟩
    rw [show i = 2 ^ sl.length by omega]
  · skip
    have g9 := (jn_lt (by omega) (by omega)).mp h36
    refine g_aload_n (n := 40) rfl rfl rfl ?_
    refine g_iload (n := 42) rfl rfl rfl ?_
    refine g_cI2 (n := 45) rfl rfl rfl rfl mt_X5_priceOf rfl rfl (r_k z_11) (sd_priceOf hC1 hpr1 h5 hn0 hS) ?_
    rintro x42 M42 ⟨rfl, rfl⟩
    refine g_istore (n := 47) rfl rfl ?_
    refine g_iload (n := 49) rfl rfl rfl ?_
    refine g_iload_n (n := 50) rfl rfl rfl ?_
    refine g_ige (n := 53) rfl rfl (fun h50 => ?_) (fun h50 => ?_)
    · skip
      refine g_iinc (n := 87) rfl rfl rfl (jn_1 _) ?_
      refine g_goto rfl ?_
      refine go_only 5 ?_
      have e := nx false (by rw [dlt h50]; rfl)
      have := ih g9 _ k1 hL hS
      rw [e] at this
      exact this
    · skip
      refine g_aload_n (n := 54) rfl rfl rfl ?_
      refine g_getR (n := 57) rfl rfl z_11 rfl ?_
      refine g_getR (n := 60) rfl rfl z_1 rfl ?_
      refine g_iload_n (n := 61) rfl rfl rfl ?_
      refine g_aload_n (n := 62) rfl rfl rfl ?_
      refine g_iload (n := 64) rfl rfl rfl ?_
      refine g_cI2 (n := 67) rfl rfl rfl rfl mt_X5_rulesOf rfl rfl (r_k z_11) (sd_rulesOf h5 hS) ?_
      rintro x64 M64 ⟨rfl, rfl⟩
      refine g_ior (n := 68) rfl rfl ?_
      refine g_cV2 (n := 71) rfl rfl rfl rfl mt_X6_countOnly rfl rfl (r_k z_6) (sc_countOnly) ?_
      rintro M2 rfl
      obtain ⟨A, hA2⟩ : ∃ A, A = mfl (mup M64 6 4 (cnt ||| inS sl i sl.length)) 7 (-1) := ⟨_, rfl⟩
      rw [← hA2]
      have f2 : Fr kM M A := by rw [hA2]; exact (k1.up rfl).fl (fun j => rfl)
      have c2 : A 6 4 = cnt ||| inS sl i sl.length := by rw [hA2]; rfl
      have m2 : ∀ R, Memo A R := fun R => Memo.new (fun j => by rw [hA2]; exact mfl_same)
      have o2 : ∀ q j, q ≠ 7 → q ≠ 6 → A q j = M64 q j := fun q j q1 q2 => by rw [hA2, mfl_q q1, mup_q q2]
      have X2 : CX E T A n rs (vC V (fun j => decide (pr j = -1) || gb (inS sl i sl.length) j)) := hX.cnt f2 (fun j hj => by
        rw [c2, gb_or, hcnt j (by omega), decide_eq_true hj, Bool.true_and, hpr j hj])
      have A2 : ALW A al := hA.cg (f2 1 2 rfl) (fun j => f2 10 j rfl)
      have L2 : LST A (wlS al 228) := ⟨(o2 11 8 (by omega) (by omega)).trans hL.1, fun k hk => (o2 12 k (by omega) (by omega)).trans (hL.2 k hk)⟩
      have S2 : SPL A sl := ⟨(o2 11 9 (by omega) (by omega)).trans hS.1, fun k hk => (o2 14 k (by omega) (by omega)).trans (hS.2 k hk)⟩
      refine g_aload_n (n := 72) rfl rfl rfl ?_
      refine g_cI1 (n := 75) rfl rfl rfl rfl mt_X5_holdsAgainstOne rfl rfl (r_k z_11) (sd_holds X2 A2 L2 (m2 _)) ?_
      rintro x72 M3 ⟨k3, rfl⟩
      have f3 : Fr kM M M3 := f2.tr (Fr.mono (S := cSc) k3 (fun _ _ => kM_of))
      have L3 : LST M3 (wlS al 228) := ⟨(k3 11 8 rfl).trans L2.1, fun k hk => (k3 12 k rfl).trans (L2.2 k hk)⟩
      have S3 : SPL M3 sl := ⟨(k3 11 9 rfl).trans S2.1, fun k hk => (k3 14 k rfl).trans (S2.2 k hk)⟩
      refine g_bz (n := 78) rfl rfl (fun h75 => ?_) (fun h75 => ?_)
      · skip
        refine g_iinc (n := 87) rfl rfl rfl (jn_1 _) ?_
        refine g_goto rfl ?_
        refine go_only 5 ?_
        have e := nx false (by rw [show hdG V al pr sl i = false from h75, Bool.and_false])
        have := ih g9 _ f3 L3 S3
        rw [e] at this
        exact this
      · skip
        refine g_iload (n := 80) rfl rfl rfl ?_
        refine g_istore_n (n := 81) rfl rfl ?_
        refine g_iload (n := 83) rfl rfl rfl ?_
        refine g_istore_n (n := 84) rfl rfl ?_
        refine g_iinc (n := 87) rfl rfl rfl (jn_1 _) ?_
        refine g_goto rfl ?_
        refine go_only 5 ?_
        have e := nx true (by rw [show hdG V al pr sl i = true from h75, dT h50]; rfl)
        have := ih g9 _ f3 L3 S3
        rw [e] at this
        exact this
set_option maxRecDepth 20000 in
theorem sd_cheapest {V : VW} {al : Nat → Bool} {pr : Nat → Int32} (hX : CX E T M n rs V) (hA : ALW M al) (hpr : ∀ i, i < n → M (rs i) 9 = pr i) : EvI (d + 9) miX5_cheapestMend [.ref 11] (zz E T) M (fun y M' => (Fr kM M M' ∧ (∀ j, M' 7 j = -1) ∧ NSB M n rs (M' 6 4)) ∧ y = (fC (hdG V al pr (spS (spP pr) n)) (fun s => smS pr (spS (spP pr) n) s (spS (spP pr) n).length) (2 ^ (spS (spP pr) n).length)).1) := by
  obtain ⟨he, he6⟩ := hX.2.2.2.1
  refine ev_of mt_X5_cheapestMend rfl ?_
  refine g_aload_n (n := 1) rfl rfl rfl ?_
  refine g_getR (n := 4) rfl rfl z_11 rfl ?_
  refine g_getR (n := 7) rfl rfl z_1 rfl ?_
  refine g_cI1 (n := 10) rfl rfl rfl rfl mt_X3_notSpare rfl rfl (r_k z_2) (sc_notSpare hX.1) ?_
  rintro x7 M7 ⟨rfl, hx7⟩
  refine g_istore_n (n := 11) rfl rfl ?_
  refine g_const (n := 12) rfl rfl (s_iconst (v := (-1)) (by decide)) ?_
  refine g_istore_n (n := 13) rfl rfl ?_
  refine g_const (n := 16) rfl rfl (s_sipush (v := 501) (by decide)) ?_
  refine g_istore_n (n := 17) rfl rfl ?_
  refine g_aload_n (n := 18) rfl rfl rfl ?_
  refine g_cV1 (n := 21) rfl rfl rfl rfl mt_X5_listSpares rfl rfl (r_k z_11) (sd_listSpares hX.1 hpr) ?_
  rintro M1 ⟨f1, s1⟩
  have f1' : Fr kM M7 M1 := f1.mono (fun _ _ => kM_P)
  refine g_aload_n (n := 22) rfl rfl rfl ?_
  refine g_cV1 (n := 25) rfl rfl rfl rfl mt_X5_listWithin rfl rfl (r_k z_11) (sd_listWithin (hA.cg (f1 1 2 rfl) (fun j => f1 10 j rfl)) ((f1 1 2 rfl).trans he) he6) ?_
  rintro M2 ⟨f2, w2⟩
  have S2 : SPL M2 (spS (spP pr) n) := ⟨(f2 11 9 rfl).trans s1.1, fun k hk => (f2 14 k rfl).trans (s1.2 k hk)⟩
  refine g_const (n := 26) rfl rfl (s_iconst (v := 0) (by decide)) ?_
  refine g_istore (n := 28) rfl rfl ?_
  exact lq_cheap hX hA hpr spS_len (fun x hx => (spS_mem hx).1) hx7 0 (Nat.zero_le _) M2 (f1'.tr (f2.mono (fun _ _ => kM_W))) w2 S2
set_option maxRecDepth 20000 in
theorem sd_mend {V : VW} {al : Nat → Bool} {pr : Nat → Int32} (hX : CX E T M n rs V) (hA : ALW M al) (hpr : ∀ i, i < n → M (rs i) 9 = pr i) : EvI (d + 10) miX8_mend [.ref 0] (zz E T) M (fun y M' => (Fr kM M M' ∧ (∀ j, M' 7 j = -1) ∧ NSB M n rs (M' 6 4)) ∧ y = (fC (hdG V al pr (spS (spP pr) n)) (fun s => smS pr (spS (spP pr) n) s (spS (spP pr) n).length) (2 ^ (spS (spP pr) n).length)).1) := by
  refine ev_of mt_X8_mend rfl ?_
  refine g_aload_n (n := 1) rfl rfl rfl ?_
  refine g_getR (n := 4) rfl rfl z_0 rfl ?_
  refine g_cI1 (n := 7) rfl rfl rfl rfl mt_X5_cheapestMend rfl rfl (r_k z_11) (sd_cheapest hX hA hpr) ?_
  intro x4 M4 q4
  refine g_retI rfl ?_
  exact q4
end MendG
