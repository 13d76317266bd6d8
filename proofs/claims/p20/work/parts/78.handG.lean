/-! The program: the hand, and what was learned -/
section HandG
variable {E : Value} {T : List SH} {M : Mem} {d n : Nat} {rs : Nat → Nat} {V : VW}
set_option maxRecDepth 20000 in
theorem lq_strikeHand {k : Nat} {l : Int32} (hX : CX E T M n rs V) (hM : Memo M (vR V)) (hk4 : k ≤ 4) (hk : M 0 6 = Int32.ofNat k) (hb : ∀ j, j < k → cBlow (M 1 2) (M 39 j) = true) : ∀ i, i ≤ k → ∀ M1, Fr (kR 33) M M1 → (∀ q j, q < 15 → M1 q j = M q j) → (∃ bl, RunI M1 33 V bl 0) → Go [] (d + 7) none tabX8_strikeHandBut 9 [(0, .ref 0), (1, .int l), (2, .int (Int32.ofNat i))] [] (hp (zz E T) M1) 0 0 (QV (zz E T) (fun M' => cKeep M M' ∧ Memo M' (vR V))) := by
  obtain ⟨he, he6⟩ := hX.2.2.2.1
  refine loop_up k ?_
  intro i hi ih M1 k1 l1 r1
  obtain ⟨bl, r1⟩ := r1
  refine g_iload_n (n := 10) rfl rfl rfl ?_
  refine g_aload_n (n := 11) rfl rfl rfl ?_
  refine g_getI (n := 14) rfl rfl z_0 rfl ?_
  refine g_ige (n := 17) rfl rfl (fun h14 => ?_) (fun h14 => ?_)
  · skip
    refine g_aload_n (n := 42) rfl rfl rfl ?_
    refine g_getR (n := 45) rfl rfl z_0 rfl ?_
    refine g_cV1 (n := 48) rfl rfl rfl rfl mt_X4_goOn rfl rfl (r_k z_33) (sd_goOn run33 (hX.keep (k1.sc run33)) (hM.lo l1) r1) ?_
    rintro M3 ⟨f3, m3, -⟩
    refine g_retV rfl ?_
    exact ⟨(k1.sc run33).tr (f3.sc run33), m3⟩
  · skip
    rw [l1 0 6 (by omega), hk] at h14
    have g9 := (jn_lt (by omega) (by omega)).mp h14
    have hbi := hb i g9
    rw [he] at hbi
    obtain ⟨x, -, -, hx, ex, -⟩ := blow_ok he6 hbi
    rw [ex] at hbi
    refine g_iload_n (n := 18) rfl rfl rfl ?_
    refine g_iload_n (n := 19) rfl rfl rfl ?_
    refine g_ieq (n := 22) rfl rfl (fun h19 => ?_) (fun h19 => ?_)
    · skip
      refine g_iinc (n := 38) rfl rfl rfl (jn_1 _) ?_
      refine g_goto rfl ?_
      exact ih g9 _ k1 l1 ⟨bl, r1⟩
    · skip
      refine g_aload_n (n := 23) rfl rfl rfl ?_
      refine g_getR (n := 26) rfl rfl z_0 rfl ?_
      refine g_aload_n (n := 27) rfl rfl rfl ?_
      refine g_getR (n := 30) rfl rfl z_0 rfl ?_
      refine g_iload_n (n := 31) rfl rfl rfl ?_
      refine g_iald (n := 32) rfl rfl z_39 rfl rfl (by omega) ?_
      rw [k1 39 i rfl, ex]
      refine g_cV2 (n := 35) rfl rfl rfl rfl mt_X4_strike rfl rfl (r_k z_33) (sd_strike run33 hx hbi he6 r1) ?_
      rintro M2 ⟨f2, l2, i2⟩
      refine g_iinc (n := 38) rfl rfl rfl (jn_1 _) ?_
      refine g_goto rfl ?_
      refine ih g9 _ (k1.tr f2) (fun q j hq => (l2 q j hq).trans (l1 q j hq)) ⟨x :: bl, ?_⟩
      rw [Nat.zero_min] at i2
      exact i2
set_option maxRecDepth 20000 in
theorem sd_strikeHand {l : Int32} (hX : CX E T M n rs V) (hM : Memo M (vR V)) (hH : HandOK M) : EvV (d + 8) miX8_strikeHandBut [.ref 0, .int l] (zz E T) M (fun M' => cKeep M M' ∧ Memo M' (vR V)) := by
  obtain ⟨k, hk4, hk, hb⟩ := hH
  refine ev_of mt_X8_strikeHandBut rfl ?_
  refine g_aload_n (n := 1) rfl rfl rfl ?_
  refine g_getR (n := 4) rfl rfl z_0 rfl ?_
  refine g_cV1 (n := 7) rfl rfl rfl rfl mt_X4_strikeNone rfl rfl (r_k z_33) (sd_strikeNone (V := V) run33) ?_
  rintro M1 ⟨f1, l1, i1⟩
  refine g_const (n := 8) rfl rfl (s_iconst (v := 0) (by decide)) ?_
  refine g_istore_n (n := 9) rfl rfl ?_
  exact lq_strikeHand hX hM hk4 hk hb 0 (by omega) M1 f1 l1 ⟨[], i1⟩
/-- what looking at the hand's run writes; what changes the hand -/
def kH (q j : Nat) : Bool := cSc q j || (Nat.beq q 0 && Nat.beq j 8)
def kJ (q j : Nat) : Bool := kH q j || (Nat.beq q 39 || (Nat.beq q 0 && Nat.beq j 6))
set_option maxRecDepth 20000 in
theorem kH_of {q j : Nat} (h : cSc q j = true) : kH q j = true := by unfold kH; rw [h]; rfl
set_option maxRecDepth 20000 in
theorem kJ_of {q j : Nat} (h : kH q j = true) : kJ q j = true := by unfold kJ; rw [h]; rfl
set_option maxRecDepth 20000 in
theorem kH_hi {q j : Nat} (h : 61 ≤ q) : kH q j = false := by
  have e : Nat.beq q 0 = false := by
    cases hb : Nat.beq q 0 with
    | false => rfl
    | true => have := Nat.eq_of_beq_eq_true hb; omega
  simp only [kH, cSc_hi h, e, Bool.false_and, Bool.or_self]
set_option maxRecDepth 20000 in
theorem kJ_hi {q j : Nat} (h : 61 ≤ q) : kJ q j = false := by
  have e : ∀ k, k < 61 → Nat.beq q k = false := fun k hk => by
    cases hb : Nat.beq q k with
    | false => rfl
    | true => have := Nat.eq_of_beq_eq_true hb; omega
  simp only [kJ, kH_hi h, e 39 (by omega), e 0 (by omega), Bool.false_and, Bool.or_self]
set_option maxRecDepth 20000 in
theorem CX.fh {M1 : Mem} (hX : CX E T M n rs V) (f : Fr kH M M1) : CX E T M1 n rs V := hX.fr f rfl (fun _ => rfl) rfl (fun _ _ hq => kH_hi hq) (fun _ => rfl)
set_option maxRecDepth 20000 in
theorem CX.fj {M1 : Mem} (hX : CX E T M n rs V) (f : Fr kJ M M1) : CX E T M1 n rs V := hX.fr f rfl (fun _ => rfl) rfl (fun _ _ hq => kJ_hi hq) (fun _ => rfl)
set_option maxRecDepth 20000 in
theorem sd_runHand (hX : CX E T M n rs V) (hM : Memo M (vR V)) (hH : HandOK M) : EvV (d + 9) miX8_runHand [.ref 0] (zz E T) M (fun M' => Fr kH M M' ∧ Memo M' (vR V)) := by
  refine ev_of mt_X8_runHand rfl ?_
  refine g_aload_n (n := 1) rfl rfl rfl ?_
  refine g_getI (n := 4) rfl rfl z_0 rfl ?_
  refine g_zne (n := 7) rfl rfl (fun h4 => ?_) (fun h4 => ?_)
  · skip
    refine g_retV rfl ?_
    first
      | exact ⟨Fr.rf, hM⟩
      | exact ⟨(Fr.mono (S := cSc) k1 (fun _ _ => kH_of)).up rfl, m1.cg (fun j => rfl) (fun j => rfl) (fun j => rfl)⟩
  · skip
    refine g_aload_n (n := 8) rfl rfl rfl ?_
    refine g_const (n := 9) rfl rfl (s_iconst (v := (-1)) (by decide)) ?_
    refine g_cV2 (n := 12) rfl rfl rfl rfl mt_X8_strikeHandBut rfl rfl (r_k z_0) (sd_strikeHand hX hM hH) ?_
    rintro M1 ⟨k1, m1⟩
    refine g_aload_n (n := 13) rfl rfl rfl ?_
    refine g_const (n := 14) rfl rfl (s_iconst (v := 1) (by decide)) ?_
    refine g_putI (n := 17) rfl rfl z_0 rfl rfl ?_
    refine g_retV rfl ?_
    first
      | exact ⟨Fr.rf, hM⟩
      | exact ⟨(Fr.mono (S := cSc) k1 (fun _ _ => kH_of)).up rfl, m1.cg (fun j => rfl) (fun j => rfl) (fun j => rfl)⟩
set_option maxRecDepth 20000 in
theorem sd_facts {h t : Int32} (hX : CX E T M n rs V) (hM : Memo M (vR V)) (hH : HandOK M) : EvI (d + 10) miX8_facts [.ref 0, .int h, .int t] (zz E T) M (fun _ M' => Fr kH M M' ∧ Memo M' (vR V)) := by
  obtain ⟨he, he6⟩ := hX.2.2.2.1
  refine ev_of mt_X8_facts rfl ?_
  refine g_iload_n (n := 1) rfl rfl rfl ?_
  refine g_cP1 (n := 4) rfl rfl rfl rfl mt_X8_isHost rfl rfl rfl (sc_isHost) ?_
  refine g_bz (n := 7) rfl rfl (fun h4 => ?_) (fun h4 => ?_)
  · skip
    refine g_const (n := 16) rfl rfl (s_iconst (v := (-1)) (by decide)) ?_
    refine g_retI rfl ?_
    first | exact f1 | exact ⟨Fr.rf, hM⟩
  · skip
    refine g_aload_n (n := 8) rfl rfl rfl ?_
    refine g_iload_n (n := 9) rfl rfl rfl ?_
    refine g_cP2 (n := 12) rfl rfl rfl rfl mt_X8_isTick rfl rfl (r_k z_0) (sc_isTick) ?_
    refine g_bnz (n := 15) rfl rfl (fun h12 => ?_) (fun h12 => ?_)
    · skip
      rw [he] at h12
      obtain ⟨b, hb, eb⟩ := mIn_le (by omega) h12
      subst eb
      refine g_aload_n (n := 18) rfl rfl rfl ?_
      refine g_cV1 (n := 21) rfl rfl rfl rfl mt_X8_runHand rfl rfl (r_k z_0) (sd_runHand hX hM hH) ?_
      intro M1 f1
      refine g_aload_n (n := 22) rfl rfl rfl ?_
      refine g_getR (n := 25) rfl rfl z_0 rfl ?_
      refine g_iload_n (n := 26) rfl rfl rfl ?_
      refine g_iload_n (n := 27) rfl rfl rfl ?_
      refine g_cP3 (n := 30) rfl rfl rfl rfl mt_X4_factsOf rfl rfl (r_k z_33) (sc_factsOf run33 (by omega)) ?_
      refine g_retI rfl ?_
      first | exact f1 | exact ⟨Fr.rf, hM⟩
    · skip
      refine g_const (n := 16) rfl rfl (s_iconst (v := (-1)) (by decide)) ?_
      refine g_retI rfl ?_
      first | exact f1 | exact ⟨Fr.rf, hM⟩
set_option maxRecDepth 20000 in
theorem sd_letters {t f g : Int32} (hX : CX E T M n rs V) (hM : Memo M (vR V)) (hH : HandOK M) : EvI (d + 10) miX8_letters [.ref 0, .int t, .int f, .int g] (zz E T) M (fun _ M' => Fr kH M M' ∧ Memo M' (vR V)) := by
  obtain ⟨he, he6⟩ := hX.2.2.2.1
  refine ev_of mt_X8_letters rfl ?_
  refine g_aload_n (n := 1) rfl rfl rfl ?_
  refine g_iload_n (n := 2) rfl rfl rfl ?_
  refine g_cP2 (n := 5) rfl rfl rfl rfl mt_X8_isTick rfl rfl (r_k z_0) (sc_isTick) ?_
  refine g_bz (n := 8) rfl rfl (fun h5 => ?_) (fun h5 => ?_)
  · skip
    refine g_const (n := 23) rfl rfl (s_iconst (v := (-1)) (by decide)) ?_
    refine g_retI rfl ?_
    first | exact f1 | exact ⟨Fr.rf, hM⟩
  · skip
    rw [he] at h5
    obtain ⟨b, hb, eb⟩ := mIn_le (by omega) h5
    subst eb
    refine g_iload_n (n := 9) rfl rfl rfl ?_
    refine g_cP1 (n := 12) rfl rfl rfl rfl mt_X8_isHost rfl rfl rfl (sc_isHost) ?_
    refine g_bz (n := 15) rfl rfl (fun h12 => ?_) (fun h12 => ?_)
    · skip
      refine g_const (n := 23) rfl rfl (s_iconst (v := (-1)) (by decide)) ?_
      refine g_retI rfl ?_
      first | exact f1 | exact ⟨Fr.rf, hM⟩
    · skip
      obtain ⟨a, ha, ea⟩ := cIs_H h12
      subst ea
      refine g_iload_n (n := 16) rfl rfl rfl ?_
      refine g_cP1 (n := 19) rfl rfl rfl rfl mt_X8_isHost rfl rfl rfl (sc_isHost) ?_
      refine g_bnz (n := 22) rfl rfl (fun h19 => ?_) (fun h19 => ?_)
      · skip
        refine g_aload_n (n := 25) rfl rfl rfl ?_
        refine g_cV1 (n := 28) rfl rfl rfl rfl mt_X8_runHand rfl rfl (r_k z_0) (sd_runHand hX hM hH) ?_
        intro M1 f1
        refine g_aload_n (n := 29) rfl rfl rfl ?_
        refine g_getR (n := 32) rfl rfl z_0 rfl ?_
        refine g_iload_n (n := 33) rfl rfl rfl ?_
        refine g_iload_n (n := 34) rfl rfl rfl ?_
        refine g_iload_n (n := 35) rfl rfl rfl ?_
        refine g_cP4 (n := 38) rfl rfl rfl rfl mt_X4_sentFacts rfl rfl (r_k z_33) (sc_sentFacts run33 (by omega) ha) ?_
        refine g_cI1 (n := 41) rfl rfl rfl rfl mt_J6_bitCount_0f7a4 rfl rfl rfl (sc_bitCount) ?_
        rintro x38 M38 rfl
        refine g_retI rfl ?_
        first | exact f1 | exact ⟨Fr.rf, hM⟩
      · skip
        refine g_const (n := 23) rfl rfl (s_iconst (v := (-1)) (by decide)) ?_
        refine g_retI rfl ?_
        first | exact f1 | exact ⟨Fr.rf, hM⟩
set_option maxRecDepth 20000 in
theorem sd_broken (hX : CX E T M n rs V) (hM : Memo M (vR V)) (hH : HandOK M) : EvI (d + 10) miX8_broken [.ref 0] (zz E T) M (fun _ M' => Fr kH M M' ∧ Memo M' (vR V)) := by
  refine ev_of mt_X8_broken rfl ?_
  refine g_aload_n (n := 1) rfl rfl rfl ?_
  refine g_cV1 (n := 4) rfl rfl rfl rfl mt_X8_runHand rfl rfl (r_k z_0) (sd_runHand hX hM hH) ?_
  intro M1 f1
  obtain ⟨t, ht⟩ := sc_breaks (d := d + 8) run33 (hX.fh f1.1).1
  refine g_aload_n (n := 5) rfl rfl rfl ?_
  refine g_getR (n := 8) rfl rfl z_0 rfl ?_
  refine g_cP1 (n := 11) rfl rfl rfl rfl mt_X4_breaks rfl rfl (r_k z_33) (ht) ?_
  refine g_bz (n := 14) rfl rfl (fun h11 => ?_) (fun h11 => ?_)
  · skip
    refine g_const (n := 19) rfl rfl (s_iconst (v := 0) (by decide)) ?_
    refine g_retI rfl ?_
    exact f1
  · skip
    refine g_const (n := 15) rfl rfl (s_iconst (v := 1) (by decide)) ?_
    refine g_goto rfl ?_
    refine g_retI rfl ?_
    exact f1
set_option maxRecDepth 20000 in
theorem sd_why {h t f : Int32} (hX : CX E T M n rs V) (hM : Memo M (vR V)) (hH : HandOK M) : EvI (d + 10) miX8_why [.ref 0, .int h, .int t, .int f] (zz E T) M (fun _ M' => Fr kH M M' ∧ Memo M' (vR V)) := by
  obtain ⟨he, he6⟩ := hX.2.2.2.1
  refine ev_of mt_X8_why rfl ?_
  refine g_iload_n (n := 1) rfl rfl rfl ?_
  refine g_cP1 (n := 4) rfl rfl rfl rfl mt_X8_isHost rfl rfl rfl (sc_isHost) ?_
  refine g_bz (n := 7) rfl rfl (fun h4 => ?_) (fun h4 => ?_)
  · skip
    refine g_const (n := 23) rfl rfl (s_iconst (v := (-1)) (by decide)) ?_
    refine g_retI rfl ?_
    first | exact f1 | exact ⟨Fr.rf, hM⟩
  · skip
    refine g_aload_n (n := 8) rfl rfl rfl ?_
    refine g_iload_n (n := 9) rfl rfl rfl ?_
    refine g_cP2 (n := 12) rfl rfl rfl rfl mt_X8_isTick rfl rfl (r_k z_0) (sc_isTick) ?_
    refine g_bz (n := 15) rfl rfl (fun h12 => ?_) (fun h12 => ?_)
    · skip
      refine g_const (n := 23) rfl rfl (s_iconst (v := (-1)) (by decide)) ?_
      refine g_retI rfl ?_
      first | exact f1 | exact ⟨Fr.rf, hM⟩
    · skip
      rw [he] at h12
      obtain ⟨b, hb, eb⟩ := mIn_le (by omega) h12
      subst eb
      refine g_iload_n (n := 16) rfl rfl rfl ?_
      refine g_cP1 (n := 19) rfl rfl rfl rfl mt_X8_isFact rfl rfl rfl (sc_isFact) ?_
      refine g_bnz (n := 22) rfl rfl (fun h19 => ?_) (fun h19 => ?_)
      · skip
        refine g_aload_n (n := 25) rfl rfl rfl ?_
        refine g_cV1 (n := 28) rfl rfl rfl rfl mt_X8_runHand rfl rfl (r_k z_0) (sd_runHand hX hM hH) ?_
        intro M1 f1
        refine g_aload_n (n := 29) rfl rfl rfl ?_
        refine g_getR (n := 32) rfl rfl z_0 rfl ?_
        refine g_iload_n (n := 33) rfl rfl rfl ?_
        refine g_iload_n (n := 34) rfl rfl rfl ?_
        refine g_iload_n (n := 35) rfl rfl rfl ?_
        refine g_cI4 (n := 38) rfl rfl rfl rfl mt_X4_reason rfl rfl (r_k z_33) (sc_reason (hX.fh f1.1).1 (by omega)) ?_
        rintro x35 M35 rfl
        refine g_retI rfl ?_
        first | exact f1 | exact ⟨Fr.rf, hM⟩
      · skip
        refine g_const (n := 23) rfl rfl (s_iconst (v := (-1)) (by decide)) ?_
        refine g_retI rfl ?_
        first | exact f1 | exact ⟨Fr.rf, hM⟩
set_option maxRecDepth 20000 in
theorem lq_drop {k p : Nat} (hk4 : k ≤ 4) (hp0 : p < k) : ∀ i, i ≤ k → ∀ M1, p ≤ i → Fr kJ M M1 → (∀ q j, q ≠ 0 → q ≠ 39 → M1 q j = M q j) → M1 0 6 = Int32.ofNat k → (∀ j, j < k → cBlow (M1 1 2) (M1 39 j) = true) → Go [] d none tabX8_dropFromHand 2 [(0, .ref 0), (1, .int (Int32.ofNat p)), (2, .int (Int32.ofNat i))] [] (hp (zz E T) M1) 0 0 (QV (zz E T) (fun M' => Fr kJ M M' ∧ (∀ q j, q ≠ 0 → q ≠ 39 → M' q j = M q j) ∧ M' 0 6 = Int32.ofNat (k - 1) ∧ HandOK M')) := by
  refine loop_up k ?_
  intro i hi ih M1 hpi f1 l1 e1 b1
  refine g_iload_n (n := 3) rfl rfl rfl ?_
  refine g_const (n := 4) rfl rfl (s_iconst (v := 1) (by decide)) ?_
  refine g_iadd (n := 5) rfl rfl ?_
  refine g_aload_n (n := 6) rfl rfl rfl ?_
  refine g_getI (n := 9) rfl rfl z_0 rfl ?_
  rw [show Int32.ofNat i + 1 = Int32.ofNat (i + 1) from jn_add i 1]
  refine g_ige (n := 12) rfl rfl (fun h9 => ?_) (fun h9 => ?_)
  · skip
    refine g_aload_n (n := 33) rfl rfl rfl ?_
    refine g_dup (n := 34) rfl rfl ?_
    refine g_getI (n := 37) rfl rfl z_0 rfl ?_
    refine g_const (n := 38) rfl rfl (s_iconst (v := 1) (by decide)) ?_
    refine g_isub (n := 39) rfl rfl ?_
    refine g_putI (n := 42) rfl rfl z_0 rfl rfl ?_
    refine g_retV rfl ?_
    have e2 : M1 0 6 - 1 = Int32.ofNat (k - 1) := by rw [e1]; exact jn_sub (b := 1) (by omega)
    exact ⟨f1.up rfl, fun q j q1 q2 => by rw [mup_q q1]; exact l1 q j q1 q2, e2, k - 1, by omega, e2, fun j hj => b1 j (by omega)⟩
  · skip
    rw [e1] at h9
    have g9 := (jn_lt (by omega) (by omega)).mp h9
    refine g_aload_n (n := 13) rfl rfl rfl ?_
    refine g_getR (n := 16) rfl rfl z_0 rfl ?_
    refine g_iload_n (n := 17) rfl rfl rfl ?_
    refine g_aload_n (n := 18) rfl rfl rfl ?_
    refine g_getR (n := 21) rfl rfl z_0 rfl ?_
    refine g_iload_n (n := 22) rfl rfl rfl ?_
    refine g_const (n := 23) rfl rfl (s_iconst (v := 1) (by decide)) ?_
    refine g_iadd (n := 24) rfl rfl ?_
    refine g_iald (n := 25) rfl rfl z_39 rfl (jn_add i 1) (by omega) ?_
    refine g_iast (n := 26) rfl rfl z_39 rfl rfl (by omega) ?_
    refine g_iinc (n := 29) rfl rfl rfl (jn_1 _) ?_
    refine g_goto rfl ?_
    refine ih (by omega) _ (by omega) ?_ ?_ ?_ ?_
    · exact f1.up rfl
    · intro q j q1 q2; rw [mup_q q2]; exact l1 q j q1 q2
    · exact e1
    · intro j hj
      show cBlow (M1 1 2) (mup M1 39 i _ 39 j) = true
      by_cases e : j = i
      · subst e; rw [mup_same]; exact b1 _ g9
      · rw [mup_j e]; exact b1 j hj
set_option maxRecDepth 20000 in
theorem sd_drop {k p : Nat} (hk4 : k ≤ 4) (hp0 : p < k) (hk : M 0 6 = Int32.ofNat k) (hb : ∀ j, j < k → cBlow (M 1 2) (M 39 j) = true) : EvV (d + 1) miX8_dropFromHand [.ref 0, .int (Int32.ofNat p)] (zz E T) M (fun M' => Fr kJ M M' ∧ (∀ q j, q ≠ 0 → q ≠ 39 → M' q j = M q j) ∧ M' 0 6 = Int32.ofNat (k - 1) ∧ HandOK M') := by
  refine ev_of mt_X8_dropFromHand rfl ?_
  refine g_iload_n (n := 1) rfl rfl rfl ?_
  refine g_istore_n (n := 2) rfl rfl ?_
  exact lq_drop hk4 hp0 p (by omega) M (Nat.le_refl _) Fr.rf (fun _ _ _ _ => rfl) hk hb
set_option maxRecDepth 20000 in
theorem lq_needless (hX : CX E T M n rs V) : ∀ i, i ≤ 4 → ∀ g p k M1, k ≤ 4 → jP k p → Fr kJ M M1 → Memo M1 (vR V) → M1 0 6 = Int32.ofNat k → HandOK M1 → Go [] (d + 8) (some .boolean) tabX8_dropNeedless 10 [(0, .ref 0), (1, .int (bI g)), (2, .int p), (3, .int (Int32.ofNat i))] [] (hp (zz E T) M1) 0 0 (QI (zz E T) (fun _ M' => Fr kJ M M' ∧ Memo M' (vR V) ∧ HandOK M')) := by
  refine loop_up 4 ?_
  intro i hi ih g p k M1 hk4 hpl f1 m1 e1 h1
  have hX1 : CX E T M1 n rs V := hX.fj f1
  have hb1 : ∀ j, j < k → cBlow (M1 1 2) (M1 39 j) = true := by
    obtain ⟨k', hk', ek', hb'⟩ := h1
    have := jn_inj (by omega) (by omega) (ek'.symm.trans e1)
    subst this
    exact hb'
  refine g_iload_n (n := 11) rfl rfl rfl ?_
  refine g_const (n := 12) rfl rfl (s_iconst (v := (-1)) (by decide)) ?_
  refine g_ieq (n := 15) rfl rfl (fun h12 => ?_) (fun h12 => ?_)
  · skip
    refine g_iload_n (n := 64) rfl rfl rfl ?_
    refine g_retZ rfl bI01 ?_
    exact ⟨f1, m1, h1⟩
  · skip
    obtain ⟨j, hj, ej⟩ := hpl.resolve_left h12
    refine g_iload_n (n := 16) rfl rfl rfl ?_
    refine g_const (n := 17) rfl rfl (s_iconst (v := 4) (by decide)) ?_
    refine g_ige (n := 20) rfl rfl (fun h17 => ?_) (fun h17 => ?_)
    · skip
      refine g_iload_n (n := 64) rfl rfl rfl ?_
      refine g_retZ rfl bI01 ?_
      exact ⟨f1, m1, h1⟩
    · skip
      have g9 := (jn_lt (b := 4) (a := i) (by omega) (by omega)).mp h17
      refine g_aload_n (n := 21) rfl rfl rfl ?_
      refine g_getR (n := 24) rfl rfl z_0 rfl ?_
      refine g_iload_n (n := 25) rfl rfl rfl ?_
      refine g_iald (n := 26) rfl rfl z_39 rfl ej (by omega) ?_
      refine g_istore (n := 28) rfl rfl ?_
      refine g_aload_n (n := 29) rfl rfl rfl ?_
      refine g_iload_n (n := 30) rfl rfl rfl ?_
      refine g_cV2 (n := 33) rfl rfl rfl rfl mt_X8_strikeHandBut rfl rfl (r_k z_0) (sd_strikeHand hX1 m1 h1) ?_
      rintro M2 ⟨k2, m2⟩
      have e2 : M2 0 6 = Int32.ofNat k := (k2 0 6 rfl).trans e1
      have hb2 : ∀ j, j < k → cBlow (M2 1 2) (M2 39 j) = true := fun j hj => by rw [k2 1 2 rfl, k2 39 j rfl]; exact hb1 j hj
      have f2 : Fr kJ M M2 := f1.tr (Fr.mono (S := cSc) k2 (fun _ _ h => kJ_of (kH_of h)))
      have h2 : HandOK M2 := ⟨k, hk4, e2, hb2⟩
      obtain ⟨t, ht⟩ := sc_breaks (d := d + 7) run33 (hX1.keep k2).1
      refine g_aload_n (n := 34) rfl rfl rfl ?_
      refine g_getR (n := 37) rfl rfl z_0 rfl ?_
      refine g_cP1 (n := 40) rfl rfl rfl rfl mt_X4_breaks rfl rfl (r_k z_33) (ht) ?_
      refine g_bz (n := 43) rfl rfl (fun h40 => ?_) (fun h40 => ?_)
      · skip
        refine g_aload_n (n := 51) rfl rfl rfl ?_
        refine g_iload (n := 53) rfl rfl rfl ?_
        refine g_cI2 (n := 56) rfl rfl rfl rfl mt_X8_placeOfLeastAbove rfl rfl (r_k z_0) (sc_place hk4 e2) ?_
        rintro x53 M53 ⟨rfl, hp5⟩
        refine g_istore_n (n := 57) rfl rfl ?_
        refine g_iinc (n := 60) rfl rfl rfl (jn_1 _) ?_
        refine g_goto rfl ?_
        refine go_only 4 ?_
        first | exact ih g9 true _ (k - 1) _ (by omega) hp5 (f2.tr f3) m3 e3 h3 | exact ih g9 _ _ k _ hk4 hp5 f2 m2 e2 h2
      · skip
        refine g_aload_n (n := 44) rfl rfl rfl ?_
        refine g_iload_n (n := 45) rfl rfl rfl ?_
        rw [ej]
        refine g_cV2 (n := 48) rfl rfl rfl rfl mt_X8_dropFromHand rfl rfl (r_k z_0) (sd_drop hk4 hj e2 hb2) ?_
        rintro M3 ⟨f3, l3, e3, h3⟩
        have m3 : Memo M3 (vR V) := m2.cg (fun j => l3 7 j (by omega) (by omega)) (fun j => l3 8 j (by omega) (by omega)) (fun j => l3 9 j (by omega) (by omega))
        refine g_const (n := 49) rfl rfl (s_iconst (v := 1) (by decide)) ?_
        refine g_istore_n (n := 50) rfl rfl ?_
        refine g_aload_n (n := 51) rfl rfl rfl ?_
        refine g_iload (n := 53) rfl rfl rfl ?_
        refine g_cI2 (n := 56) rfl rfl rfl rfl mt_X8_placeOfLeastAbove rfl rfl (r_k z_0) (sc_place (k := k - 1) (by omega) e3) ?_
        rintro x53 M53 ⟨rfl, hp5⟩
        refine g_istore_n (n := 57) rfl rfl ?_
        refine g_iinc (n := 60) rfl rfl rfl (jn_1 _) ?_
        refine g_goto rfl ?_
        refine go_only 4 ?_
        first | exact ih g9 true _ (k - 1) _ (by omega) hp5 (f2.tr f3) m3 e3 h3 | exact ih g9 _ _ k _ hk4 hp5 f2 m2 e2 h2
set_option maxRecDepth 20000 in
theorem sd_needless (hX : CX E T M n rs V) (hM : Memo M (vR V)) (hH : HandOK M) : EvI (d + 9) miX8_dropNeedless [.ref 0] (zz E T) M (fun _ M' => Fr kJ M M' ∧ Memo M' (vR V) ∧ HandOK M') := by
  obtain ⟨k, hk4, hk, hb⟩ := id hH
  refine ev_of mt_X8_dropNeedless rfl ?_
  refine g_const (n := 1) rfl rfl (s_iconst (v := 0) (by decide)) ?_
  refine g_istore_n (n := 2) rfl rfl ?_
  refine g_aload_n (n := 3) rfl rfl rfl ?_
  refine g_const (n := 4) rfl rfl (s_iconst (v := (-1)) (by decide)) ?_
  refine g_cI2 (n := 7) rfl rfl rfl rfl mt_X8_placeOfLeastAbove rfl rfl (r_k z_0) (sc_place hk4 hk) ?_
  rintro x4 M4 ⟨rfl, hp4⟩
  refine g_istore_n (n := 8) rfl rfl ?_
  refine g_const (n := 9) rfl rfl (s_iconst (v := 0) (by decide)) ?_
  refine g_istore_n (n := 10) rfl rfl ?_
  exact lq_needless hX 0 (by omega) false _ k _ hk4 hp4 Fr.rf hM hk hH
set_option maxRecDepth 20000 in
theorem lq_shrinkC (hX : CX E T M n rs V) : ∀ i, i ≤ 4 → ∀ x M1, Fr kJ M M1 → Memo M1 (vR V) → HandOK M1 → Go [] (d + 9) (some .int) tabX8_shrink 21 [(0, .ref 0), (1, .int x), (2, .int (Int32.ofNat i))] [] (hp (zz E T) M1) 0 0 (QI (zz E T) (fun _ M' => Fr kJ M M' ∧ Memo M' (vR V) ∧ HandOK M')) := by
  refine loop_up 4 ?_
  intro i hi ih x M1 f1 m1 h1
  refine g_iload_n (n := 22) rfl rfl rfl ?_
  refine g_zeq (n := 25) rfl rfl (fun h22 => ?_) (fun h22 => ?_)
  · skip
    refine g_aload_n (n := 42) rfl rfl rfl ?_
    refine g_const (n := 43) rfl rfl (s_iconst (v := 0) (by decide)) ?_
    refine g_putI (n := 46) rfl rfl z_0 rfl rfl ?_
    refine g_aload_n (n := 47) rfl rfl rfl ?_
    refine g_getI (n := 50) rfl rfl z_0 rfl ?_
    refine g_retI rfl ?_
    exact ⟨f1.up rfl, m1.cg (fun j => rfl) (fun j => rfl) (fun j => rfl), h1⟩
  · skip
    refine g_iload_n (n := 26) rfl rfl rfl ?_
    refine g_const (n := 27) rfl rfl (s_iconst (v := 4) (by decide)) ?_
    refine g_ige (n := 30) rfl rfl (fun h27 => ?_) (fun h27 => ?_)
    · skip
      refine g_aload_n (n := 42) rfl rfl rfl ?_
      refine g_const (n := 43) rfl rfl (s_iconst (v := 0) (by decide)) ?_
      refine g_putI (n := 46) rfl rfl z_0 rfl rfl ?_
      refine g_aload_n (n := 47) rfl rfl rfl ?_
      refine g_getI (n := 50) rfl rfl z_0 rfl ?_
      refine g_retI rfl ?_
      exact ⟨f1.up rfl, m1.cg (fun j => rfl) (fun j => rfl) (fun j => rfl), h1⟩
    · skip
      have g9 := (jn_lt (b := 4) (a := i) (by omega) (by omega)).mp h27
      refine g_aload_n (n := 31) rfl rfl rfl ?_
      refine g_cI1 (n := 34) rfl rfl rfl rfl mt_X8_dropNeedless rfl rfl (r_k z_0) (sd_needless (hX.fj f1) m1 h1) ?_
      rintro x31 M2 ⟨f2, m2, h2⟩
      refine g_istore_n (n := 35) rfl rfl ?_
      refine g_iinc (n := 38) rfl rfl rfl (jn_1 _) ?_
      refine g_goto rfl ?_
      exact ih g9 _ _ (f1.tr f2) m2 h2
set_option maxRecDepth 20000 in
theorem sd_shrink (hX : CX E T M n rs V) (hM : Memo M (vR V)) (hH : HandOK M) : EvI (d + 10) miX8_shrink [.ref 0] (zz E T) M (fun _ M' => Fr kJ M M' ∧ Memo M' (vR V) ∧ HandOK M') := by
  obtain ⟨k, hk4, hk, hb⟩ := id hH
  refine ev_of mt_X8_shrink rfl ?_
  refine g_aload_n (n := 1) rfl rfl rfl ?_
  refine g_cV1 (n := 4) rfl rfl rfl rfl mt_X8_runHand rfl rfl (r_k z_0) (sd_runHand hX hM hH) ?_
  rintro M1 ⟨f1, m1⟩
  have h1 : HandOK M1 := ⟨k, hk4, (f1 0 6 rfl).trans hk, fun j hj => by rw [f1 1 2 rfl, f1 39 j rfl]; exact hb j hj⟩
  obtain ⟨t, ht⟩ := sc_breaks (d := d + 8) run33 (hX.fh f1).1
  refine g_aload_n (n := 5) rfl rfl rfl ?_
  refine g_getR (n := 8) rfl rfl z_0 rfl ?_
  refine g_cP1 (n := 11) rfl rfl rfl rfl mt_X4_breaks rfl rfl (r_k z_33) (ht) ?_
  refine g_bnz (n := 14) rfl rfl (fun h11 => ?_) (fun h11 => ?_)
  · skip
    refine g_const (n := 18) rfl rfl (s_iconst (v := 1) (by decide)) ?_
    refine g_istore_n (n := 19) rfl rfl ?_
    refine g_const (n := 20) rfl rfl (s_iconst (v := 0) (by decide)) ?_
    refine g_istore_n (n := 21) rfl rfl ?_
    exact lq_shrinkC hX 0 (by omega) _ _ (f1.mono (fun _ _ => kJ_of)) m1 h1
  · skip
    refine g_const (n := 16) rfl rfl (s_bipush (v := (-3)) (by decide)) ?_
    refine g_retI rfl ?_
    exact ⟨f1.mono (fun _ _ => kJ_of), m1, h1⟩
/-- what blow and clear write -/
def kZ (q j : Nat) : Bool := Nat.beq q 39 || (Nat.beq q 0 && (Nat.beq j 6 || Nat.beq j 8))
set_option maxRecDepth 20000 in
theorem lq_blowC {x : Int32} {k : Nat} (hk4 : k ≤ 4) (hk : M 0 6 = Int32.ofNat k) (hb : ∀ j, j < k → cBlow (M 1 2) (M 39 j) = true) (hx : cBlow (M 1 2) x = true) : ∀ i, i ≤ k → Go [] d (some .int) tabX8_blow 18 [(0, .ref 0), (1, .int x), (2, .int (Int32.ofNat i))] [] (hp (zz E T) M) 0 0 (QI (zz E T) (fun _ M' => Fr kZ M M' ∧ HandOK M')) := by
  refine loop_up k ?_
  intro i hi ih
  have hH : HandOK M := ⟨k, hk4, hk, hb⟩
  refine g_iload_n (n := 19) rfl rfl rfl ?_
  refine g_aload_n (n := 20) rfl rfl rfl ?_
  refine g_getI (n := 23) rfl rfl z_0 rfl ?_
  refine g_ige (n := 26) rfl rfl (fun h23 => ?_) (fun h23 => ?_)
  · skip
    refine g_aload_n (n := 46) rfl rfl rfl ?_
    refine g_getI (n := 49) rfl rfl z_0 rfl ?_
    refine g_const (n := 50) rfl rfl (s_iconst (v := 4) (by decide)) ?_
    refine g_ilt (n := 53) rfl rfl (fun h50 => ?_) (fun h50 => ?_)
    · skip
      rw [hk] at h50
      have g4 := (jn_lt (b := 4) (by omega) (by omega)).mp h50
      refine g_aload_n (n := 57) rfl rfl rfl ?_
      refine g_getR (n := 60) rfl rfl z_0 rfl ?_
      refine g_aload_n (n := 61) rfl rfl rfl ?_
      refine g_getI (n := 64) rfl rfl z_0 rfl ?_
      refine g_iload_n (n := 65) rfl rfl rfl ?_
      refine g_iast (n := 66) rfl rfl z_39 rfl hk g4 ?_
      refine g_aload_n (n := 67) rfl rfl rfl ?_
      refine g_dup (n := 68) rfl rfl ?_
      refine g_getI (n := 71) rfl rfl z_0 rfl ?_
      refine g_const (n := 72) rfl rfl (s_iconst (v := 1) (by decide)) ?_
      refine g_iadd (n := 73) rfl rfl ?_
      refine g_putI (n := 76) rfl rfl z_0 rfl rfl ?_
      refine g_aload_n (n := 77) rfl rfl rfl ?_
      refine g_const (n := 78) rfl rfl (s_iconst (v := 0) (by decide)) ?_
      refine g_putI (n := 81) rfl rfl z_0 rfl rfl ?_
      refine g_aload_n (n := 82) rfl rfl rfl ?_
      refine g_getI (n := 85) rfl rfl z_0 rfl ?_
      refine g_retI rfl ?_
      refine ⟨((Fr.rf.up rfl).up rfl).up rfl, k + 1, by omega, ?_, fun j hj => ?_⟩
      · show M 0 6 + 1 = _; rw [hk]; exact jn_add k 1
      · show cBlow (M 1 2) (mup M 39 k x 39 j) = true
        by_cases e : j = k
        · subst e; rw [mup_same]; exact hx
        · rw [mup_j e]; exact hb j (by omega)
    · skip
      refine g_const (n := 55) rfl rfl (s_bipush (v := (-4)) (by decide)) ?_
      refine g_retI rfl ?_
      exact ⟨Fr.rf, hH⟩
  · skip
    rw [hk] at h23
    have g9 := (jn_lt (by omega) (by omega)).mp h23
    refine g_aload_n (n := 27) rfl rfl rfl ?_
    refine g_getR (n := 30) rfl rfl z_0 rfl ?_
    refine g_iload_n (n := 31) rfl rfl rfl ?_
    refine g_iald (n := 32) rfl rfl z_39 rfl rfl (by omega) ?_
    refine g_iload_n (n := 33) rfl rfl rfl ?_
    refine g_ine (n := 36) rfl rfl (fun h33 => ?_) (fun h33 => ?_)
    · skip
      refine g_iinc (n := 42) rfl rfl rfl (jn_1 _) ?_
      refine g_goto rfl ?_
      exact ih g9
    · skip
      refine g_const (n := 38) rfl rfl (s_bipush (v := (-2)) (by decide)) ?_
      refine g_retI rfl ?_
      exact ⟨Fr.rf, hH⟩
set_option maxRecDepth 20000 in
theorem sd_blow {x : Int32} (hH : HandOK M) : EvI (d + 4) miX8_blow [.ref 0, .int x] (zz E T) M (fun _ M' => Fr kZ M M' ∧ HandOK M') := by
  obtain ⟨k, hk4, hk, hb⟩ := id hH
  refine ev_of mt_X8_blow rfl ?_
  refine g_iload_n (n := 1) rfl rfl rfl ?_
  refine g_aload_n (n := 2) rfl rfl rfl ?_
  refine g_getR (n := 5) rfl rfl z_0 rfl ?_
  refine g_getI (n := 8) rfl rfl z_1 rfl ?_
  refine g_cP2 (n := 11) rfl rfl rfl rfl mt_X0_exists rfl rfl rfl (sc_exists) ?_
  refine g_bnz (n := 14) rfl rfl (fun h11 => ?_) (fun h11 => ?_)
  · skip
    refine g_const (n := 17) rfl rfl (s_iconst (v := 0) (by decide)) ?_
    refine g_istore_n (n := 18) rfl rfl ?_
    exact lq_blowC hk4 hk hb h11 0 (by omega)
  · skip
    refine g_const (n := 15) rfl rfl (s_iconst (v := (-1)) (by decide)) ?_
    refine g_retI rfl ?_
    exact ⟨Fr.rf, hH⟩
set_option maxRecDepth 20000 in
theorem sd_clear : EvI (d + 1) miX8_clear [.ref 0] (zz E T) M (fun _ M' => Fr kZ M M' ∧ HandOK M') := by
  refine ev_of mt_X8_clear rfl ?_
  refine g_aload_n (n := 1) rfl rfl rfl ?_
  refine g_getI (n := 4) rfl rfl z_0 rfl ?_
  refine g_istore_n (n := 5) rfl rfl ?_
  refine g_aload_n (n := 6) rfl rfl rfl ?_
  refine g_const (n := 7) rfl rfl (s_iconst (v := 0) (by decide)) ?_
  refine g_putI (n := 10) rfl rfl z_0 rfl rfl ?_
  refine g_aload_n (n := 11) rfl rfl rfl ?_
  refine g_const (n := 12) rfl rfl (s_iconst (v := 0) (by decide)) ?_
  refine g_putI (n := 15) rfl rfl z_0 rfl rfl ?_
  refine g_iload_n (n := 16) rfl rfl rfl ?_
  refine g_retI rfl ?_
  exact ⟨(Fr.rf.up rfl).up rfl, 0, by omega, rfl, fun j hj => absurd hj (by omega)⟩
end HandG
