/-! The program: its calls -/
section PC
variable {E : Value} {T : List SH} {M : Mem} {d n : Nat} {rs : Nat → Nat}
set_option maxRecDepth 20000 in
theorem sc_forgetRuns : EvV (d + 1) miX8_forgetRuns [.ref 0] (zz E T) M (fun M' => M' = mup (mup M 0 8 0) 11 10 0) := by
  refine ev_of mt_X8_forgetRuns rfl ?_
  refine g_aload_n (n := 1) rfl rfl rfl ?_
  refine g_const (n := 2) rfl rfl (s_iconst (v := 0) (by decide)) ?_
  refine g_putI (n := 5) rfl rfl z_0 rfl rfl ?_
  refine g_aload_n (n := 6) rfl rfl rfl ?_
  refine g_getR (n := 9) rfl rfl z_0 rfl ?_
  refine g_const (n := 10) rfl rfl (s_iconst (v := 0) (by decide)) ?_
  refine g_putI (n := 13) rfl rfl z_11 rfl rfl ?_
  refine g_retV rfl ?_
  rfl
set_option maxRecDepth 20000 in
theorem sc_forgetRules (hC : CW E T M n rs) : EvV (d + 5) miX8_forgetRules [.ref 0] (zz E T) M (fun M' => Fr cB M M' ∧ FGX M n rs M') := by
  refine ev_of mt_X8_forgetRules rfl ?_
  refine g_aload_n (n := 1) rfl rfl rfl ?_
  refine g_getR (n := 4) rfl rfl z_0 rfl ?_
  refine g_getR (n := 7) rfl rfl z_1 rfl ?_
  refine g_aload_n (n := 8) rfl rfl rfl ?_
  refine g_getR (n := 11) rfl rfl z_0 rfl ?_
  refine g_getR (n := 14) rfl rfl z_1 rfl ?_
  refine g_cI1 (n := 17) rfl rfl rfl rfl mt_X3_notSpare rfl rfl (r_k z_2) (sc_notSpare hC) ?_
  rintro x14 M14 ⟨rfl, hx14⟩
  refine g_cV2 (n := 20) rfl rfl rfl rfl mt_X6_countOnly rfl rfl (r_k z_6) (sc_countOnly) ?_
  rintro M17 rfl
  refine g_aload_n (n := 21) rfl rfl rfl ?_
  refine g_cV1 (n := 24) rfl rfl rfl rfl mt_X8_forgetRuns rfl rfl (r_k z_0) (sc_forgetRuns) ?_
  rintro M21 rfl
  refine g_retV rfl ?_
  exact ⟨(((Fr.rf.up rfl).fl (fun j => rfl)).up rfl).up rfl, fun j => rfl, hx14, rfl⟩
def cEndM (M : Mem) (t : Int32) : Mem := mup (mup (mup (mup M 1 2 t) 0 6 0) 0 8 0) 11 10 0
set_option maxRecDepth 20000 in
theorem sc_end {t : Int32} : EvI (d + 2) miX8_end [.ref 0, .int t] (zz E T) M (fun x M' => (mIn t 1 6 = false ∧ x = -2 ∧ M' = M) ∨ (mIn t 1 6 = true ∧ x = M 1 2 ∧ M' = cEndM M t)) := by
  refine ev_of mt_X8_end rfl ?_
  refine g_iload_n (n := 1) rfl rfl rfl ?_
  refine g_const (n := 2) rfl rfl (s_iconst (v := 1) (by decide)) ?_
  refine g_ilt (n := 5) rfl rfl (fun h2 => ?_) (fun h2 => ?_)
  · skip
    refine g_const (n := 13) rfl rfl (s_bipush (v := (-2)) (by decide)) ?_
    refine g_retI rfl ?_
    first | exact Or.inl ⟨by unfold mIn; rw [dle h2]; rfl, rfl, rfl⟩ | exact Or.inl ⟨by unfold mIn; rw [dT h2, dle h8]; rfl, rfl, rfl⟩
  · skip
    refine g_iload_n (n := 6) rfl rfl rfl ?_
    refine g_const (n := 8) rfl rfl (s_bipush (v := 6) (by decide)) ?_
    refine g_ile (n := 11) rfl rfl (fun h8 => ?_) (fun h8 => ?_)
    · skip
      refine g_aload_n (n := 15) rfl rfl rfl ?_
      refine g_getR (n := 18) rfl rfl z_0 rfl ?_
      refine g_getI (n := 21) rfl rfl z_1 rfl ?_
      refine g_istore_n (n := 22) rfl rfl ?_
      refine g_aload_n (n := 23) rfl rfl rfl ?_
      refine g_getR (n := 26) rfl rfl z_0 rfl ?_
      refine g_iload_n (n := 27) rfl rfl rfl ?_
      refine g_putI (n := 30) rfl rfl z_1 rfl rfl ?_
      refine g_aload_n (n := 31) rfl rfl rfl ?_
      refine g_const (n := 32) rfl rfl (s_iconst (v := 0) (by decide)) ?_
      refine g_putI (n := 35) rfl rfl z_0 rfl rfl ?_
      refine g_aload_n (n := 36) rfl rfl rfl ?_
      refine g_cV1 (n := 39) rfl rfl rfl rfl mt_X8_forgetRuns rfl rfl (r_k z_0) (sc_forgetRuns) ?_
      rintro M36 rfl
      refine g_iload_n (n := 40) rfl rfl rfl ?_
      refine g_retI rfl ?_
      exact Or.inr ⟨by unfold mIn; rw [dT h2, dT h8]; rfl, rfl, rfl⟩
    · skip
      refine g_const (n := 13) rfl rfl (s_bipush (v := (-2)) (by decide)) ?_
      refine g_retI rfl ?_
      first | exact Or.inl ⟨by unfold mIn; rw [dle h2]; rfl, rfl, rfl⟩ | exact Or.inl ⟨by unfold mIn; rw [dT h2, dle h8]; rfl, rfl, rfl⟩
set_option maxRecDepth 20000 in
theorem sc_spare {r p : Int32} (hC : CW E T M n rs) : EvI (d + 6) miX8_spare [.ref 0, .int r, .int p] (zz E T) M (fun x M' => (cIs (Int32.ofNat n) r = false ∧ x = -1 ∧ M' = M) ∨ (cIs (Int32.ofNat n) r = true ∧ mIn p (-1) 100 = false ∧ x = -2 ∧ M' = M) ∨ (cIs (Int32.ofNat n) r = true ∧ mIn p (-1) 100 = true ∧ ∃ k, k < n ∧ r = Int32.ofNat k ∧ x = M (rs k) 9 ∧ Fr cB (mup M (rs k) 9 p) M' ∧ FGX (mup M (rs k) 9 p) n rs M')) := by
  obtain ⟨hL, hn12, hn, hR, hE, hT⟩ := id hC
  refine ev_of mt_X8_spare rfl ?_
  refine g_iload_n (n := 1) rfl rfl rfl ?_
  refine g_zlt (n := 4) rfl rfl (fun h1 => ?_) (fun h1 => ?_)
  · skip
    refine g_const (n := 22) rfl rfl (s_iconst (v := (-1)) (by decide)) ?_
    refine g_retI rfl ?_
    first | exact Or.inl ⟨by unfold cIs; rw [dle h1]; rfl, rfl, rfl⟩ | exact Or.inl ⟨by unfold cIs; rw [dT h1, dlt h18]; rfl, rfl, rfl⟩
  · skip
    refine g_iload_n (n := 5) rfl rfl rfl ?_
    refine g_aload_n (n := 6) rfl rfl rfl ?_
    refine g_getR (n := 9) rfl rfl z_0 rfl ?_
    refine g_getR (n := 12) rfl rfl z_1 rfl ?_
    refine g_getR (n := 15) rfl rfl z_2 rfl ?_
    refine g_cP1 (n := 18) rfl rfl rfl rfl mt_Jx4a65c_size_8abf5 rfl rfl (r_k z_3) (sc_size) ?_
    refine g_ilt (n := 21) rfl rfl (fun h18 => ?_) (fun h18 => ?_)
    · skip
      rw [hn] at h18
      obtain ⟨k, hk, ek⟩ := jn_of_lt (by omega) h1 h18
      subst ek
      have hC2 : CW E T (mup M (rs k) 9 p) n rs := by
        have hq := (hL.1 k hk).1
        refine ⟨hL, hn12, ?_, fun i hi => ?_, ?_, ?_⟩
        · rw [mup_q (by omega)]; exact hn
        · rw [mup_j (by omega), mup_j (by omega), mup_j (by omega), mup_j (by omega), mup_j (by omega)]; exact hR i hi
        · rw [mup_q (by omega)]; exact hE
        · rw [mup_q (by omega)]; exact hT
      refine g_iload_n (n := 24) rfl rfl rfl ?_
      refine g_const (n := 25) rfl rfl (s_iconst (v := (-1)) (by decide)) ?_
      refine g_ilt (n := 28) rfl rfl (fun h25 => ?_) (fun h25 => ?_)
      · skip
        refine g_const (n := 36) rfl rfl (s_bipush (v := (-2)) (by decide)) ?_
        refine g_retI rfl ?_
        first | exact Or.inr (Or.inl ⟨by unfold cIs; rw [dT h1, dT h18]; rfl, by unfold mIn; rw [dle h25]; rfl, rfl, rfl⟩) | exact Or.inr (Or.inl ⟨by unfold cIs; rw [dT h1, dT h18]; rfl, by unfold mIn; rw [dT h25, dle h31]; rfl, rfl, rfl⟩)
      · skip
        refine g_iload_n (n := 29) rfl rfl rfl ?_
        refine g_const (n := 31) rfl rfl (s_bipush (v := 100) (by decide)) ?_
        refine g_ile (n := 34) rfl rfl (fun h31 => ?_) (fun h31 => ?_)
        · skip
          refine g_aload_n (n := 38) rfl rfl rfl ?_
          refine g_getR (n := 41) rfl rfl z_0 rfl ?_
          refine g_getR (n := 44) rfl rfl z_1 rfl ?_
          refine g_getR (n := 47) rfl rfl z_2 rfl ?_
          refine g_iload_n (n := 48) rfl rfl rfl ?_
          refine g_cP2 (n := 51) rfl rfl rfl rfl mt_Jx4a65c_get_915e3 rfl rfl (r_k z_3) (sc_get hL hn hn12 hk) ?_
          refine g_cast (n := 54) rfl rfl (hL.1 k hk).2 ?_
          refine g_astore_n (n := 55) rfl rfl ?_
          refine g_aload_n (n := 56) rfl rfl rfl ?_
          refine g_getI (n := 59) rfl rfl (hL.1 k hk).2 rfl ?_
          refine g_istore (n := 61) rfl rfl ?_
          refine g_aload_n (n := 62) rfl rfl rfl ?_
          refine g_iload_n (n := 63) rfl rfl rfl ?_
          refine g_putI (n := 66) rfl rfl (hL.1 k hk).2 rfl rfl ?_
          refine g_aload_n (n := 67) rfl rfl rfl ?_
          refine g_cV1 (n := 70) rfl rfl rfl rfl mt_X8_forgetRules rfl rfl (r_k z_0) (sc_forgetRules hC2) ?_
          rintro M67 ⟨f67, x67⟩
          refine g_iload (n := 72) rfl rfl rfl ?_
          refine g_retI rfl ?_
          exact Or.inr (Or.inr ⟨by unfold cIs; rw [dT h1, dT h18]; rfl, by unfold mIn; rw [dT h25, dT h31]; rfl, k, hk, rfl, rfl, f67, x67⟩)
        · skip
          refine g_const (n := 36) rfl rfl (s_bipush (v := (-2)) (by decide)) ?_
          refine g_retI rfl ?_
          first | exact Or.inr (Or.inl ⟨by unfold cIs; rw [dT h1, dT h18]; rfl, by unfold mIn; rw [dle h25]; rfl, rfl, rfl⟩) | exact Or.inr (Or.inl ⟨by unfold cIs; rw [dT h1, dT h18]; rfl, by unfold mIn; rw [dT h25, dle h31]; rfl, rfl, rfl⟩)
    · skip
      rw [hn] at h18
      refine g_const (n := 22) rfl rfl (s_iconst (v := (-1)) (by decide)) ?_
      refine g_retI rfl ?_
      first | exact Or.inl ⟨by unfold cIs; rw [dle h1]; rfl, rfl, rfl⟩ | exact Or.inl ⟨by unfold cIs; rw [dT h1, dlt h18]; rfl, rfl, rfl⟩
def cFst (v bt is : Int32) : Int32 := if is = 1 then v ||| bt else v &&& (bt ^^^ -1)
def cFirstM (M : Mem) (bt is : Int32) : Mem := mup (mup (mup M 1 3 (cFst (M 1 3) bt is)) 0 8 0) 11 10 0
set_option maxRecDepth 20000 in
theorem st_first53 {h f is w : Int32} : Go [] (d + 1) (some .int) tabX8_first 53 [(0, .ref 0), (1, .int h), (2, .int f), (3, .int is), (4, .int (cBit h f))] [.int w] (hp (zz E T) M) 0 0 (QI (zz E T) (fun x M' => x = w ∧ M' = cFirstM M (cBit h f) is)) := by
  refine g_istore (n := 55) rfl rfl ?_
  refine g_aload_n (n := 56) rfl rfl rfl ?_
  refine g_getR (n := 59) rfl rfl z_0 rfl ?_
  refine g_iload_n (n := 60) rfl rfl rfl ?_
  refine g_const (n := 61) rfl rfl (s_iconst (v := 1) (by decide)) ?_
  refine g_ine (n := 64) rfl rfl (fun h61 => ?_) (fun h61 => ?_)
  · skip
    refine g_aload_n (n := 78) rfl rfl rfl ?_
    refine g_getR (n := 81) rfl rfl z_0 rfl ?_
    refine g_getI (n := 84) rfl rfl z_1 rfl ?_
    refine g_iload (n := 86) rfl rfl rfl ?_
    refine g_const (n := 87) rfl rfl (s_iconst (v := (-1)) (by decide)) ?_
    refine g_ixor (n := 88) rfl rfl ?_
    refine g_iand (n := 89) rfl rfl ?_
    refine g_putI (n := 92) rfl rfl z_1 rfl rfl ?_
    refine g_aload_n (n := 93) rfl rfl rfl ?_
    refine g_cV1 (n := 96) rfl rfl rfl rfl mt_X8_forgetRuns rfl rfl (r_k z_0) (sc_forgetRuns) ?_
    rintro M93 rfl
    refine g_iload (n := 98) rfl rfl rfl ?_
    refine g_retI rfl ?_
    first | exact ⟨rfl, by unfold cFirstM cFst; rw [if_neg h61]⟩ | exact ⟨rfl, by unfold cFirstM cFst; rw [if_pos h61]⟩
  · skip
    refine g_aload_n (n := 65) rfl rfl rfl ?_
    refine g_getR (n := 68) rfl rfl z_0 rfl ?_
    refine g_getI (n := 71) rfl rfl z_1 rfl ?_
    refine g_iload (n := 73) rfl rfl rfl ?_
    refine g_ior (n := 74) rfl rfl ?_
    refine g_goto rfl ?_
    refine g_putI (n := 92) rfl rfl z_1 rfl rfl ?_
    refine g_aload_n (n := 93) rfl rfl rfl ?_
    refine g_cV1 (n := 96) rfl rfl rfl rfl mt_X8_forgetRuns rfl rfl (r_k z_0) (sc_forgetRuns) ?_
    rintro M93 rfl
    refine g_iload (n := 98) rfl rfl rfl ?_
    refine g_retI rfl ?_
    first | exact ⟨rfl, by unfold cFirstM cFst; rw [if_neg h61]⟩ | exact ⟨rfl, by unfold cFirstM cFst; rw [if_pos h61]⟩
set_option maxRecDepth 20000 in
theorem sc_first {h f is : Int32} : EvI (d + 2) miX8_first [.ref 0, .int h, .int f, .int is] (zz E T) M (fun x M' => ((cIs 4 h && cIs 8 f) = false ∧ x = -1 ∧ M' = M) ∨ ((cIs 4 h && cIs 8 f) = true ∧ mIn is 0 1 = false ∧ x = -2 ∧ M' = M) ∨ ((cIs 4 h && cIs 8 f) = true ∧ mIn is 0 1 = true ∧ x = (if M 1 3 &&& cBit h f = 0 then 0 else 1) ∧ M' = cFirstM M (cBit h f) is)) := by
  refine ev_of mt_X8_first rfl ?_
  refine g_iload_n (n := 1) rfl rfl rfl ?_
  refine g_cP1 (n := 4) rfl rfl rfl rfl mt_X8_isHost rfl rfl rfl (sc_isHost) ?_
  refine g_bz (n := 7) rfl rfl (fun h4 => ?_) (fun h4 => ?_)
  · skip
    refine g_const (n := 15) rfl rfl (s_iconst (v := (-1)) (by decide)) ?_
    refine g_retI rfl ?_
    first | exact Or.inl ⟨by rw [h4]; rfl, rfl, rfl⟩ | exact Or.inl ⟨by rw [h4, h11]; rfl, rfl, rfl⟩
  · skip
    refine g_iload_n (n := 8) rfl rfl rfl ?_
    refine g_cP1 (n := 11) rfl rfl rfl rfl mt_X8_isFact rfl rfl rfl (sc_isFact) ?_
    refine g_bnz (n := 14) rfl rfl (fun h11 => ?_) (fun h11 => ?_)
    · skip
      refine g_iload_n (n := 17) rfl rfl rfl ?_
      refine g_zlt (n := 20) rfl rfl (fun h17 => ?_) (fun h17 => ?_)
      · skip
        refine g_const (n := 27) rfl rfl (s_bipush (v := (-2)) (by decide)) ?_
        refine g_retI rfl ?_
        first | exact Or.inr (Or.inl ⟨by rw [h4, h11]; rfl, by unfold mIn; rw [dle h17]; rfl, rfl, rfl⟩) | exact Or.inr (Or.inl ⟨by rw [h4, h11]; rfl, by unfold mIn; rw [dT h17, dle h22]; rfl, rfl, rfl⟩)
      · skip
        refine g_iload_n (n := 21) rfl rfl rfl ?_
        refine g_const (n := 22) rfl rfl (s_iconst (v := 1) (by decide)) ?_
        refine g_ile (n := 25) rfl rfl (fun h22 => ?_) (fun h22 => ?_)
        · skip
          refine g_iload_n (n := 29) rfl rfl rfl ?_
          refine g_iload_n (n := 30) rfl rfl rfl ?_
          refine g_cP2 (n := 33) rfl rfl rfl rfl mt_X8_bitOf rfl rfl rfl (sc_bitOf) ?_
          refine g_istore (n := 35) rfl rfl ?_
          refine g_aload_n (n := 36) rfl rfl rfl ?_
          refine g_getR (n := 39) rfl rfl z_0 rfl ?_
          refine g_getI (n := 42) rfl rfl z_1 rfl ?_
          refine g_iload (n := 44) rfl rfl rfl ?_
          refine g_iand (n := 45) rfl rfl ?_
          refine g_zne (n := 48) rfl rfl (fun h45 => ?_) (fun h45 => ?_)
          · skip
            refine g_const (n := 53) rfl rfl (s_iconst (v := 1) (by decide)) ?_
            refine go_mono st_first53 ?_
            rintro v h' c s ⟨rfl, rfl, x, M', rfl, rfl, rfl, rfl⟩
            refine ⟨rfl, rfl, _, _, rfl, rfl, Or.inr (Or.inr ⟨by rw [h4, h11]; rfl, by unfold mIn; rw [dT h17, dT h22]; rfl, ?_, rfl⟩)⟩
            first | rw [if_pos h45] | rw [if_neg h45]
          · skip
            refine g_const (n := 49) rfl rfl (s_iconst (v := 0) (by decide)) ?_
            refine g_goto rfl ?_
            refine go_mono st_first53 ?_
            rintro v h' c s ⟨rfl, rfl, x, M', rfl, rfl, rfl, rfl⟩
            refine ⟨rfl, rfl, _, _, rfl, rfl, Or.inr (Or.inr ⟨by rw [h4, h11]; rfl, by unfold mIn; rw [dT h17, dT h22]; rfl, ?_, rfl⟩)⟩
            first | rw [if_pos h45] | rw [if_neg h45]
        · skip
          refine g_const (n := 27) rfl rfl (s_bipush (v := (-2)) (by decide)) ?_
          refine g_retI rfl ?_
          first | exact Or.inr (Or.inl ⟨by rw [h4, h11]; rfl, by unfold mIn; rw [dle h17]; rfl, rfl, rfl⟩) | exact Or.inr (Or.inl ⟨by rw [h4, h11]; rfl, by unfold mIn; rw [dT h17, dle h22]; rfl, rfl, rfl⟩)
    · skip
      refine g_const (n := 15) rfl rfl (s_iconst (v := (-1)) (by decide)) ?_
      refine g_retI rfl ?_
      first | exact Or.inl ⟨by rw [h4]; rfl, rfl, rfl⟩ | exact Or.inl ⟨by rw [h4, h11]; rfl, rfl, rfl⟩
def cProm (a p b q : Int32) : Bool := cIs 4 a && (cIs 8 p && (cIs 4 b && cIs 8 q))
def cPromM (M : Mem) (a p b q : Int32) : Mem := mup (mup (mup (mup M 1 4 (cBit a p)) 1 5 b) 1 6 (cBit b q)) 11 10 0
set_option maxRecDepth 20000 in
theorem sc_promise {a p b q : Int32} : EvI (d + 2) miX8_promise [.ref 0, .int a, .int p, .int b, .int q] (zz E T) M (fun x M' => (cProm a p b q = false ∧ x = -1 ∧ M' = M) ∨ (cProm a p b q = true ∧ x = 0 ∧ M' = cPromM M a p b q)) := by
  refine ev_of mt_X8_promise rfl ?_
  refine g_iload_n (n := 1) rfl rfl rfl ?_
  refine g_cP1 (n := 4) rfl rfl rfl rfl mt_X8_isHost rfl rfl rfl (sc_isHost) ?_
  refine g_bz (n := 7) rfl rfl (fun h4 => ?_) (fun h4 => ?_)
  · skip
    refine g_const (n := 30) rfl rfl (s_iconst (v := (-1)) (by decide)) ?_
    refine g_retI rfl ?_
    first | exact Or.inl ⟨by unfold cProm; rw [h4]; rfl, rfl, rfl⟩ | exact Or.inl ⟨by unfold cProm; rw [h4, h11]; rfl, rfl, rfl⟩ | exact Or.inl ⟨by unfold cProm; rw [h4, h11, h18]; rfl, rfl, rfl⟩ | exact Or.inl ⟨by unfold cProm; rw [h4, h11, h18, h26]; rfl, rfl, rfl⟩
  · skip
    refine g_iload_n (n := 8) rfl rfl rfl ?_
    refine g_cP1 (n := 11) rfl rfl rfl rfl mt_X8_isFact rfl rfl rfl (sc_isFact) ?_
    refine g_bz (n := 14) rfl rfl (fun h11 => ?_) (fun h11 => ?_)
    · skip
      refine g_const (n := 30) rfl rfl (s_iconst (v := (-1)) (by decide)) ?_
      refine g_retI rfl ?_
      first | exact Or.inl ⟨by unfold cProm; rw [h4]; rfl, rfl, rfl⟩ | exact Or.inl ⟨by unfold cProm; rw [h4, h11]; rfl, rfl, rfl⟩ | exact Or.inl ⟨by unfold cProm; rw [h4, h11, h18]; rfl, rfl, rfl⟩ | exact Or.inl ⟨by unfold cProm; rw [h4, h11, h18, h26]; rfl, rfl, rfl⟩
    · skip
      refine g_iload_n (n := 15) rfl rfl rfl ?_
      refine g_cP1 (n := 18) rfl rfl rfl rfl mt_X8_isHost rfl rfl rfl (sc_isHost) ?_
      refine g_bz (n := 21) rfl rfl (fun h18 => ?_) (fun h18 => ?_)
      · skip
        refine g_const (n := 30) rfl rfl (s_iconst (v := (-1)) (by decide)) ?_
        refine g_retI rfl ?_
        first | exact Or.inl ⟨by unfold cProm; rw [h4]; rfl, rfl, rfl⟩ | exact Or.inl ⟨by unfold cProm; rw [h4, h11]; rfl, rfl, rfl⟩ | exact Or.inl ⟨by unfold cProm; rw [h4, h11, h18]; rfl, rfl, rfl⟩ | exact Or.inl ⟨by unfold cProm; rw [h4, h11, h18, h26]; rfl, rfl, rfl⟩
      · skip
        refine g_iload (n := 23) rfl rfl rfl ?_
        refine g_cP1 (n := 26) rfl rfl rfl rfl mt_X8_isFact rfl rfl rfl (sc_isFact) ?_
        refine g_bnz (n := 29) rfl rfl (fun h26 => ?_) (fun h26 => ?_)
        · skip
          refine g_aload_n (n := 32) rfl rfl rfl ?_
          refine g_getR (n := 35) rfl rfl z_0 rfl ?_
          refine g_iload_n (n := 36) rfl rfl rfl ?_
          refine g_iload_n (n := 37) rfl rfl rfl ?_
          refine g_cP2 (n := 40) rfl rfl rfl rfl mt_X8_bitOf rfl rfl rfl (sc_bitOf) ?_
          refine g_putI (n := 43) rfl rfl z_1 rfl rfl ?_
          refine g_aload_n (n := 44) rfl rfl rfl ?_
          refine g_getR (n := 47) rfl rfl z_0 rfl ?_
          refine g_iload_n (n := 48) rfl rfl rfl ?_
          refine g_putI (n := 51) rfl rfl z_1 rfl rfl ?_
          refine g_aload_n (n := 52) rfl rfl rfl ?_
          refine g_getR (n := 55) rfl rfl z_0 rfl ?_
          refine g_iload_n (n := 56) rfl rfl rfl ?_
          refine g_iload (n := 58) rfl rfl rfl ?_
          refine g_cP2 (n := 61) rfl rfl rfl rfl mt_X8_bitOf rfl rfl rfl (sc_bitOf) ?_
          refine g_putI (n := 64) rfl rfl z_1 rfl rfl ?_
          refine g_aload_n (n := 65) rfl rfl rfl ?_
          refine g_getR (n := 68) rfl rfl z_0 rfl ?_
          refine g_const (n := 69) rfl rfl (s_iconst (v := 0) (by decide)) ?_
          refine g_putI (n := 72) rfl rfl z_11 rfl rfl ?_
          refine g_const (n := 73) rfl rfl (s_iconst (v := 0) (by decide)) ?_
          refine g_retI rfl ?_
          exact Or.inr ⟨by unfold cProm; rw [h4, h11, h18, h26]; rfl, rfl, rfl⟩
        · skip
          refine g_const (n := 30) rfl rfl (s_iconst (v := (-1)) (by decide)) ?_
          refine g_retI rfl ?_
          first | exact Or.inl ⟨by unfold cProm; rw [h4]; rfl, rfl, rfl⟩ | exact Or.inl ⟨by unfold cProm; rw [h4, h11]; rfl, rfl, rfl⟩ | exact Or.inl ⟨by unfold cProm; rw [h4, h11, h18]; rfl, rfl, rfl⟩ | exact Or.inl ⟨by unfold cProm; rw [h4, h11, h18, h26]; rfl, rfl, rfl⟩
def cBndM (M : Mem) (l f t : Int32) : Mem := mup (mup (mup (mup M 10 0 l) 10 1 f) 10 2 t) 11 10 0
set_option maxRecDepth 20000 in
theorem sc_bounds {l f t : Int32} : EvI (d + 1) miX8_bounds [.ref 0, .int l, .int f, .int t] (zz E T) M (fun x M' => ((mIn l 0 2 && mIn f 0 2) = false ∧ x = -2 ∧ M' = M) ∨ ((mIn l 0 2 && mIn f 0 2) = true ∧ mIn t 0 6 = false ∧ x = -1 ∧ M' = M) ∨ ((mIn l 0 2 && mIn f 0 2) = true ∧ mIn t 0 6 = true ∧ x = 0 ∧ M' = cBndM M l f t)) := by
  refine ev_of mt_X8_bounds rfl ?_
  refine g_iload_n (n := 1) rfl rfl rfl ?_
  refine g_zlt (n := 4) rfl rfl (fun h1 => ?_) (fun h1 => ?_)
  · skip
    refine g_const (n := 20) rfl rfl (s_bipush (v := (-2)) (by decide)) ?_
    refine g_retI rfl ?_
    first | exact Or.inl ⟨by unfold mIn; rw [dle h1]; rfl, rfl, rfl⟩ | exact Or.inl ⟨by unfold mIn; rw [dT h1, dle h6]; rfl, rfl, rfl⟩ | exact Or.inl ⟨by unfold mIn; rw [dT h1, dT h6, dle h10]; rfl, rfl, rfl⟩ | exact Or.inl ⟨by unfold mIn; rw [dT h1, dT h6, dT h10, dle h15]; rfl, rfl, rfl⟩
  · skip
    refine g_iload_n (n := 5) rfl rfl rfl ?_
    refine g_const (n := 6) rfl rfl (s_iconst (v := 2) (by decide)) ?_
    refine g_igt (n := 9) rfl rfl (fun h6 => ?_) (fun h6 => ?_)
    · skip
      refine g_const (n := 20) rfl rfl (s_bipush (v := (-2)) (by decide)) ?_
      refine g_retI rfl ?_
      first | exact Or.inl ⟨by unfold mIn; rw [dle h1]; rfl, rfl, rfl⟩ | exact Or.inl ⟨by unfold mIn; rw [dT h1, dle h6]; rfl, rfl, rfl⟩ | exact Or.inl ⟨by unfold mIn; rw [dT h1, dT h6, dle h10]; rfl, rfl, rfl⟩ | exact Or.inl ⟨by unfold mIn; rw [dT h1, dT h6, dT h10, dle h15]; rfl, rfl, rfl⟩
    · skip
      refine g_iload_n (n := 10) rfl rfl rfl ?_
      refine g_zlt (n := 13) rfl rfl (fun h10 => ?_) (fun h10 => ?_)
      · skip
        refine g_const (n := 20) rfl rfl (s_bipush (v := (-2)) (by decide)) ?_
        refine g_retI rfl ?_
        first | exact Or.inl ⟨by unfold mIn; rw [dle h1]; rfl, rfl, rfl⟩ | exact Or.inl ⟨by unfold mIn; rw [dT h1, dle h6]; rfl, rfl, rfl⟩ | exact Or.inl ⟨by unfold mIn; rw [dT h1, dT h6, dle h10]; rfl, rfl, rfl⟩ | exact Or.inl ⟨by unfold mIn; rw [dT h1, dT h6, dT h10, dle h15]; rfl, rfl, rfl⟩
      · skip
        refine g_iload_n (n := 14) rfl rfl rfl ?_
        refine g_const (n := 15) rfl rfl (s_iconst (v := 2) (by decide)) ?_
        refine g_ile (n := 18) rfl rfl (fun h15 => ?_) (fun h15 => ?_)
        · skip
          refine g_iload_n (n := 22) rfl rfl rfl ?_
          refine g_zlt (n := 25) rfl rfl (fun h22 => ?_) (fun h22 => ?_)
          · skip
            refine g_const (n := 32) rfl rfl (s_iconst (v := (-1)) (by decide)) ?_
            refine g_retI rfl ?_
            first | exact Or.inr (Or.inl ⟨by unfold mIn; rw [dT h1, dT h6, dT h10, dT h15]; rfl, by unfold mIn; rw [dle h22]; rfl, rfl, rfl⟩) | exact Or.inr (Or.inl ⟨by unfold mIn; rw [dT h1, dT h6, dT h10, dT h15]; rfl, by unfold mIn; rw [dT h22, dle h28]; rfl, rfl, rfl⟩)
          · skip
            refine g_iload_n (n := 26) rfl rfl rfl ?_
            refine g_const (n := 28) rfl rfl (s_bipush (v := 6) (by decide)) ?_
            refine g_ile (n := 31) rfl rfl (fun h28 => ?_) (fun h28 => ?_)
            · skip
              refine g_aload_n (n := 34) rfl rfl rfl ?_
              refine g_getR (n := 37) rfl rfl z_0 rfl ?_
              refine g_iload_n (n := 38) rfl rfl rfl ?_
              refine g_putI (n := 41) rfl rfl z_10 rfl rfl ?_
              refine g_aload_n (n := 42) rfl rfl rfl ?_
              refine g_getR (n := 45) rfl rfl z_0 rfl ?_
              refine g_iload_n (n := 46) rfl rfl rfl ?_
              refine g_putI (n := 49) rfl rfl z_10 rfl rfl ?_
              refine g_aload_n (n := 50) rfl rfl rfl ?_
              refine g_getR (n := 53) rfl rfl z_0 rfl ?_
              refine g_iload_n (n := 54) rfl rfl rfl ?_
              refine g_putI (n := 57) rfl rfl z_10 rfl rfl ?_
              refine g_aload_n (n := 58) rfl rfl rfl ?_
              refine g_getR (n := 61) rfl rfl z_0 rfl ?_
              refine g_const (n := 62) rfl rfl (s_iconst (v := 0) (by decide)) ?_
              refine g_putI (n := 65) rfl rfl z_11 rfl rfl ?_
              refine g_const (n := 66) rfl rfl (s_iconst (v := 0) (by decide)) ?_
              refine g_retI rfl ?_
              exact Or.inr (Or.inr ⟨by unfold mIn; rw [dT h1, dT h6, dT h10, dT h15]; rfl, by unfold mIn; rw [dT h22, dT h28]; rfl, rfl, rfl⟩)
            · skip
              refine g_const (n := 32) rfl rfl (s_iconst (v := (-1)) (by decide)) ?_
              refine g_retI rfl ?_
              first | exact Or.inr (Or.inl ⟨by unfold mIn; rw [dT h1, dT h6, dT h10, dT h15]; rfl, by unfold mIn; rw [dle h22]; rfl, rfl, rfl⟩) | exact Or.inr (Or.inl ⟨by unfold mIn; rw [dT h1, dT h6, dT h10, dT h15]; rfl, by unfold mIn; rw [dT h22, dle h28]; rfl, rfl, rfl⟩)
        · skip
          refine g_const (n := 20) rfl rfl (s_bipush (v := (-2)) (by decide)) ?_
          refine g_retI rfl ?_
          first | exact Or.inl ⟨by unfold mIn; rw [dle h1]; rfl, rfl, rfl⟩ | exact Or.inl ⟨by unfold mIn; rw [dT h1, dle h6]; rfl, rfl, rfl⟩ | exact Or.inl ⟨by unfold mIn; rw [dT h1, dT h6, dle h10]; rfl, rfl, rfl⟩ | exact Or.inl ⟨by unfold mIn; rw [dT h1, dT h6, dT h10, dle h15]; rfl, rfl, rfl⟩
set_option maxRecDepth 20000 in
theorem lp_blowC {x : Int32} {k : Nat} (hk4 : k ≤ 4) (hk : M 0 6 = Int32.ofNat k) (hb : ∀ j, j < k → cBlow (M 1 2) (M 39 j) = true) (hx : cBlow (M 1 2) x = true) : ∀ i, i ≤ k → Go [] d (some .int) tabX8_blow 18 [(0, .ref 0), (1, .int x), (2, .int (Int32.ofNat i))] [] (hp (zz E T) M) 0 0 (QI (zz E T) (fun _ M' => Fr cHd M M' ∧ HandOK M')) := by
  refine loop_up k ?_
  intro i hi ih
  have hH : HandOK M := ⟨k, hk4, hk, hb⟩
  refine g_iload_n (n := 19) rfl rfl rfl ?_
  refine g_aload_n (n := 20) rfl rfl rfl ?_
  refine g_getI (n := 23) rfl rfl z_0 rfl ?_
  refine g_ige (n := 26) rfl rfl (fun h23 => ?_) (fun h23 => ?_)
  · skip
    refine g_aload_n (n := 46) rfl rfl rfl ?_
    refine g_getI (n := 49) rfl rfl z_0 rfl ?_
    refine g_const (n := 50) rfl rfl (s_iconst (v := 4) (by decide)) ?_
    refine g_ilt (n := 53) rfl rfl (fun h50 => ?_) (fun h50 => ?_)
    · skip
      rw [hk] at h50
      have g4 := (jn_lt (b := 4) (by omega) (by omega)).mp h50
      refine g_aload_n (n := 57) rfl rfl rfl ?_
      refine g_getR (n := 60) rfl rfl z_0 rfl ?_
      refine g_aload_n (n := 61) rfl rfl rfl ?_
      refine g_getI (n := 64) rfl rfl z_0 rfl ?_
      refine g_iload_n (n := 65) rfl rfl rfl ?_
      refine g_iast (n := 66) rfl rfl z_39 rfl hk g4 ?_
      refine g_aload_n (n := 67) rfl rfl rfl ?_
      refine g_dup (n := 68) rfl rfl ?_
      refine g_getI (n := 71) rfl rfl z_0 rfl ?_
      refine g_const (n := 72) rfl rfl (s_iconst (v := 1) (by decide)) ?_
      refine g_iadd (n := 73) rfl rfl ?_
      refine g_putI (n := 76) rfl rfl z_0 rfl rfl ?_
      refine g_aload_n (n := 77) rfl rfl rfl ?_
      refine g_const (n := 78) rfl rfl (s_iconst (v := 0) (by decide)) ?_
      refine g_putI (n := 81) rfl rfl z_0 rfl rfl ?_
      refine g_aload_n (n := 82) rfl rfl rfl ?_
      refine g_getI (n := 85) rfl rfl z_0 rfl ?_
      refine g_retI rfl ?_
      refine ⟨((Fr.rf.up rfl).up rfl).up rfl, k + 1, by omega, ?_, fun j hj => ?_⟩
      · show M 0 6 + 1 = _; rw [hk]; exact jn_add k 1
      · show cBlow (M 1 2) (mup M 39 k x 39 j) = true
        by_cases e : j = k
        · subst e; rw [mup_same]; exact hx
        · rw [mup_j e]; exact hb j (by omega)
    · skip
      refine g_const (n := 55) rfl rfl (s_bipush (v := (-4)) (by decide)) ?_
      refine g_retI rfl ?_
      exact ⟨Fr.rf, hH⟩
  · skip
    rw [hk] at h23
    have g9 := (jn_lt (by omega) (by omega)).mp h23
    refine g_aload_n (n := 27) rfl rfl rfl ?_
    refine g_getR (n := 30) rfl rfl z_0 rfl ?_
    refine g_iload_n (n := 31) rfl rfl rfl ?_
    refine g_iald (n := 32) rfl rfl z_39 rfl rfl (by omega) ?_
    refine g_iload_n (n := 33) rfl rfl rfl ?_
    refine g_ine (n := 36) rfl rfl (fun h33 => ?_) (fun h33 => ?_)
    · skip
      refine g_iinc (n := 42) rfl rfl rfl (jn_1 _) ?_
      refine g_goto rfl ?_
      exact ih g9
    · skip
      refine g_const (n := 38) rfl rfl (s_bipush (v := (-2)) (by decide)) ?_
      refine g_retI rfl ?_
      exact ⟨Fr.rf, hH⟩
set_option maxRecDepth 20000 in
theorem sc_blow {x : Int32} (hH : HandOK M) : EvI (d + 4) miX8_blow [.ref 0, .int x] (zz E T) M (fun _ M' => Fr cHd M M' ∧ HandOK M') := by
  obtain ⟨k, hk4, hk, hb⟩ := id hH
  refine ev_of mt_X8_blow rfl ?_
  refine g_iload_n (n := 1) rfl rfl rfl ?_
  refine g_aload_n (n := 2) rfl rfl rfl ?_
  refine g_getR (n := 5) rfl rfl z_0 rfl ?_
  refine g_getI (n := 8) rfl rfl z_1 rfl ?_
  refine g_cP2 (n := 11) rfl rfl rfl rfl mt_X0_exists rfl rfl rfl (sc_exists) ?_
  refine g_bnz (n := 14) rfl rfl (fun h11 => ?_) (fun h11 => ?_)
  · skip
    refine g_const (n := 17) rfl rfl (s_iconst (v := 0) (by decide)) ?_
    refine g_istore_n (n := 18) rfl rfl ?_
    exact lp_blowC hk4 hk hb h11 0 (by omega)
  · skip
    refine g_const (n := 15) rfl rfl (s_iconst (v := (-1)) (by decide)) ?_
    refine g_retI rfl ?_
    exact ⟨Fr.rf, hH⟩
set_option maxRecDepth 20000 in
theorem sc_clear : EvI (d + 1) miX8_clear [.ref 0] (zz E T) M (fun _ M' => Fr cHd M M' ∧ HandOK M') := by
  refine ev_of mt_X8_clear rfl ?_
  refine g_aload_n (n := 1) rfl rfl rfl ?_
  refine g_getI (n := 4) rfl rfl z_0 rfl ?_
  refine g_istore_n (n := 5) rfl rfl ?_
  refine g_aload_n (n := 6) rfl rfl rfl ?_
  refine g_const (n := 7) rfl rfl (s_iconst (v := 0) (by decide)) ?_
  refine g_putI (n := 10) rfl rfl z_0 rfl rfl ?_
  refine g_aload_n (n := 11) rfl rfl rfl ?_
  refine g_const (n := 12) rfl rfl (s_iconst (v := 0) (by decide)) ?_
  refine g_putI (n := 15) rfl rfl z_0 rfl rfl ?_
  refine g_iload_n (n := 16) rfl rfl rfl ?_
  refine g_retI rfl ?_
  exact ⟨(Fr.rf.up rfl).up rfl, 0, by omega, rfl, fun j hj => absurd hj (by omega)⟩
set_option maxRecDepth 20000 in
theorem sc_facts {h t : Int32} (hC : CW E T M n rs) (hH : HandOK M) : EvI (d + 10) miX8_facts [.ref 0, .int h, .int t] (zz E T) M (fun _ M' => Fr cB M M') := by
  obtain ⟨e, -, he6, he⟩ := hC.2.2.2.2.1
  refine ev_of mt_X8_facts rfl ?_
  refine g_iload_n (n := 1) rfl rfl rfl ?_
  refine g_cP1 (n := 4) rfl rfl rfl rfl mt_X8_isHost rfl rfl rfl (sc_isHost) ?_
  refine g_bz (n := 7) rfl rfl (fun h4 => ?_) (fun h4 => ?_)
  · skip
    refine g_const (n := 16) rfl rfl (s_iconst (v := (-1)) (by decide)) ?_
    refine g_retI rfl ?_
    first | exact f1 | exact Fr.rf
  · skip
    refine g_aload_n (n := 8) rfl rfl rfl ?_
    refine g_iload_n (n := 9) rfl rfl rfl ?_
    refine g_cP2 (n := 12) rfl rfl rfl rfl mt_X8_isTick rfl rfl (r_k z_0) (sc_isTick) ?_
    refine g_bnz (n := 15) rfl rfl (fun h12 => ?_) (fun h12 => ?_)
    · skip
      rw [he] at h12
      obtain ⟨b, hb, eb⟩ := mIn_le (by omega) h12
      subst eb
      refine g_aload_n (n := 18) rfl rfl rfl ?_
      refine g_cV1 (n := 21) rfl rfl rfl rfl mt_X8_runHand rfl rfl (r_k z_0) (sc_runHand hC hH) ?_
      intro M1 f1
      refine g_aload_n (n := 22) rfl rfl rfl ?_
      refine g_getR (n := 25) rfl rfl z_0 rfl ?_
      refine g_iload_n (n := 26) rfl rfl rfl ?_
      refine g_iload_n (n := 27) rfl rfl rfl ?_
      refine g_cP3 (n := 30) rfl rfl rfl rfl mt_X4_factsOf rfl rfl (r_k z_33) (sc_factsOf run33 (by omega)) ?_
      refine g_retI rfl ?_
      first | exact f1 | exact Fr.rf
    · skip
      refine g_const (n := 16) rfl rfl (s_iconst (v := (-1)) (by decide)) ?_
      refine g_retI rfl ?_
      first | exact f1 | exact Fr.rf
set_option maxRecDepth 20000 in
theorem cIs_H {x : Int32} (h : cIs 4 x = true) : jH x := by
  simp only [cIs, Bool.and_eq_true, decide_eq_true_eq] at h
  exact jn_of_lt (k := 4) (by omega) h.1 h.2
set_option maxRecDepth 20000 in
theorem cIs_F {x : Int32} (h : cIs 8 x = true) : jF x := by
  simp only [cIs, Bool.and_eq_true, decide_eq_true_eq] at h
  exact jn_of_lt (k := 8) (by omega) h.1 h.2
set_option maxRecDepth 20000 in
theorem sc_letters {t f g : Int32} (hC : CW E T M n rs) (hH : HandOK M) : EvI (d + 10) miX8_letters [.ref 0, .int t, .int f, .int g] (zz E T) M (fun _ M' => Fr cB M M') := by
  obtain ⟨e, -, he6, he⟩ := hC.2.2.2.2.1
  refine ev_of mt_X8_letters rfl ?_
  refine g_aload_n (n := 1) rfl rfl rfl ?_
  refine g_iload_n (n := 2) rfl rfl rfl ?_
  refine g_cP2 (n := 5) rfl rfl rfl rfl mt_X8_isTick rfl rfl (r_k z_0) (sc_isTick) ?_
  refine g_bz (n := 8) rfl rfl (fun h5 => ?_) (fun h5 => ?_)
  · skip
    refine g_const (n := 23) rfl rfl (s_iconst (v := (-1)) (by decide)) ?_
    refine g_retI rfl ?_
    first | exact f1 | exact Fr.rf
  · skip
    rw [he] at h5
    obtain ⟨b, hb, eb⟩ := mIn_le (by omega) h5
    subst eb
    refine g_iload_n (n := 9) rfl rfl rfl ?_
    refine g_cP1 (n := 12) rfl rfl rfl rfl mt_X8_isHost rfl rfl rfl (sc_isHost) ?_
    refine g_bz (n := 15) rfl rfl (fun h12 => ?_) (fun h12 => ?_)
    · skip
      refine g_const (n := 23) rfl rfl (s_iconst (v := (-1)) (by decide)) ?_
      refine g_retI rfl ?_
      first | exact f1 | exact Fr.rf
    · skip
      obtain ⟨a, ha, ea⟩ := cIs_H h12
      subst ea
      refine g_iload_n (n := 16) rfl rfl rfl ?_
      refine g_cP1 (n := 19) rfl rfl rfl rfl mt_X8_isHost rfl rfl rfl (sc_isHost) ?_
      refine g_bnz (n := 22) rfl rfl (fun h19 => ?_) (fun h19 => ?_)
      · skip
        refine g_aload_n (n := 25) rfl rfl rfl ?_
        refine g_cV1 (n := 28) rfl rfl rfl rfl mt_X8_runHand rfl rfl (r_k z_0) (sc_runHand hC hH) ?_
        intro M1 f1
        refine g_aload_n (n := 29) rfl rfl rfl ?_
        refine g_getR (n := 32) rfl rfl z_0 rfl ?_
        refine g_iload_n (n := 33) rfl rfl rfl ?_
        refine g_iload_n (n := 34) rfl rfl rfl ?_
        refine g_iload_n (n := 35) rfl rfl rfl ?_
        refine g_cP4 (n := 38) rfl rfl rfl rfl mt_X4_sentFacts rfl rfl (r_k z_33) (sc_sentFacts run33 (by omega) ha) ?_
        refine g_cI1 (n := 41) rfl rfl rfl rfl mt_J6_bitCount_0f7a4 rfl rfl rfl (sc_bitCount) ?_
        rintro x38 M38 rfl
        refine g_retI rfl ?_
        first | exact f1 | exact Fr.rf
      · skip
        refine g_const (n := 23) rfl rfl (s_iconst (v := (-1)) (by decide)) ?_
        refine g_retI rfl ?_
        first | exact f1 | exact Fr.rf
set_option maxRecDepth 20000 in
theorem sc_broken (hC : CW E T M n rs) (hH : HandOK M) : EvI (d + 10) miX8_broken [.ref 0] (zz E T) M (fun _ M' => Fr cB M M') := by
  refine ev_of mt_X8_broken rfl ?_
  refine g_aload_n (n := 1) rfl rfl rfl ?_
  refine g_cV1 (n := 4) rfl rfl rfl rfl mt_X8_runHand rfl rfl (r_k z_0) (sc_runHand hC hH) ?_
  intro M1 f1
  obtain ⟨t, ht⟩ := sc_breaks (d := d + 8) run33 (hC.frB f1)
  refine g_aload_n (n := 5) rfl rfl rfl ?_
  refine g_getR (n := 8) rfl rfl z_0 rfl ?_
  refine g_cP1 (n := 11) rfl rfl rfl rfl mt_X4_breaks rfl rfl (r_k z_33) (ht) ?_
  refine g_bz (n := 14) rfl rfl (fun h11 => ?_) (fun h11 => ?_)
  · skip
    refine g_const (n := 19) rfl rfl (s_iconst (v := 0) (by decide)) ?_
    refine g_retI rfl ?_
    exact f1
  · skip
    refine g_const (n := 15) rfl rfl (s_iconst (v := 1) (by decide)) ?_
    refine g_goto rfl ?_
    refine g_retI rfl ?_
    exact f1
set_option maxRecDepth 20000 in
theorem sc_why {h t f : Int32} (hC : CW E T M n rs) (hH : HandOK M) : EvI (d + 10) miX8_why [.ref 0, .int h, .int t, .int f] (zz E T) M (fun _ M' => Fr cB M M') := by
  obtain ⟨e, -, he6, he⟩ := hC.2.2.2.2.1
  refine ev_of mt_X8_why rfl ?_
  refine g_iload_n (n := 1) rfl rfl rfl ?_
  refine g_cP1 (n := 4) rfl rfl rfl rfl mt_X8_isHost rfl rfl rfl (sc_isHost) ?_
  refine g_bz (n := 7) rfl rfl (fun h4 => ?_) (fun h4 => ?_)
  · skip
    refine g_const (n := 23) rfl rfl (s_iconst (v := (-1)) (by decide)) ?_
    refine g_retI rfl ?_
    first | exact f1 | exact Fr.rf
  · skip
    refine g_aload_n (n := 8) rfl rfl rfl ?_
    refine g_iload_n (n := 9) rfl rfl rfl ?_
    refine g_cP2 (n := 12) rfl rfl rfl rfl mt_X8_isTick rfl rfl (r_k z_0) (sc_isTick) ?_
    refine g_bz (n := 15) rfl rfl (fun h12 => ?_) (fun h12 => ?_)
    · skip
      refine g_const (n := 23) rfl rfl (s_iconst (v := (-1)) (by decide)) ?_
      refine g_retI rfl ?_
      first | exact f1 | exact Fr.rf
    · skip
      rw [he] at h12
      obtain ⟨b, hb, eb⟩ := mIn_le (by omega) h12
      subst eb
      refine g_iload_n (n := 16) rfl rfl rfl ?_
      refine g_cP1 (n := 19) rfl rfl rfl rfl mt_X8_isFact rfl rfl rfl (sc_isFact) ?_
      refine g_bnz (n := 22) rfl rfl (fun h19 => ?_) (fun h19 => ?_)
      · skip
        refine g_aload_n (n := 25) rfl rfl rfl ?_
        refine g_cV1 (n := 28) rfl rfl rfl rfl mt_X8_runHand rfl rfl (r_k z_0) (sc_runHand hC hH) ?_
        intro M1 f1
        refine g_aload_n (n := 29) rfl rfl rfl ?_
        refine g_getR (n := 32) rfl rfl z_0 rfl ?_
        refine g_iload_n (n := 33) rfl rfl rfl ?_
        refine g_iload_n (n := 34) rfl rfl rfl ?_
        refine g_iload_n (n := 35) rfl rfl rfl ?_
        refine g_cI4 (n := 38) rfl rfl rfl rfl mt_X4_reason rfl rfl (r_k z_33) (sc_reason (hC.frB f1) (by omega)) ?_
        rintro x35 M35 rfl
        refine g_retI rfl ?_
        first | exact f1 | exact Fr.rf
      · skip
        refine g_const (n := 23) rfl rfl (s_iconst (v := (-1)) (by decide)) ?_
        refine g_retI rfl ?_
        first | exact f1 | exact Fr.rf
set_option maxRecDepth 20000 in
theorem sc_layer {f : Int32} : EvI (d + 2) miX8_layer [.ref 0, .int f] (zz E T) M (fun x M' => M' = M ∧ ((cIs 8 f = false ∧ x = -1) ∨ ∃ k, k < 8 ∧ f = Int32.ofNat k ∧ x = M 4 k)) := by
  refine ev_of mt_X8_layer rfl ?_
  refine g_iload_n (n := 1) rfl rfl rfl ?_
  refine g_cP1 (n := 4) rfl rfl rfl rfl mt_X8_isFact rfl rfl rfl (sc_isFact) ?_
  refine g_bz (n := 7) rfl rfl (fun h4 => ?_) (fun h4 => ?_)
  · skip
    refine g_const (n := 23) rfl rfl (s_iconst (v := (-1)) (by decide)) ?_
    refine g_retI rfl ?_
    first | exact ⟨rfl, Or.inl ⟨h4, rfl⟩⟩ | exact ⟨rfl, Or.inr ⟨k, hk, ek, rfl⟩⟩
  · skip
    obtain ⟨k, hk, ek⟩ := cIs_F h4
    refine g_aload_n (n := 8) rfl rfl rfl ?_
    refine g_getR (n := 11) rfl rfl z_0 rfl ?_
    refine g_getR (n := 14) rfl rfl z_1 rfl ?_
    refine g_getR (n := 17) rfl rfl z_2 rfl ?_
    refine g_iload_n (n := 18) rfl rfl rfl ?_
    refine g_iald (n := 19) rfl rfl z_4 rfl ek hk ?_
    refine g_goto rfl ?_
    refine g_retI rfl ?_
    first | exact ⟨rfl, Or.inl ⟨h4, rfl⟩⟩ | exact ⟨rfl, Or.inr ⟨k, hk, ek, rfl⟩⟩
/-- what seek writes -/
def cSk (q j : Nat) : Bool := cL q j || (Nat.beq q 40 || (Nat.beq q 0 && Nat.beq j 7))
set_option maxRecDepth 20000 in
theorem cSk_of {q j : Nat} (h : cL q j = true) : cSk q j = true := by unfold cSk; rw [h]; rfl
set_option maxRecDepth 20000 in
theorem sc_seek (hC : CW E T M n rs) (hB : BS M) : EvI (d + 10) miX8_seek [.ref 0] (zz E T) M (fun _ M' => Fr cSk M M' ∧ BS M' ∧ jU 2 (M' 0 7)) := by
  refine ev_of mt_X8_seek rfl ?_
  refine g_aload_n (n := 1) rfl rfl rfl ?_
  refine g_getR (n := 4) rfl rfl z_0 rfl ?_
  refine g_cV1 (n := 7) rfl rfl rfl rfl mt_X5_look rfl rfl (r_k z_11) (sc_look hC hB) ?_
  rintro M1 ⟨f1, b1⟩
  refine g_aload_n (n := 8) rfl rfl rfl ?_
  refine g_aload_n (n := 9) rfl rfl rfl ?_
  refine g_getR (n := 12) rfl rfl z_0 rfl ?_
  refine g_getI (n := 15) rfl rfl z_11 rfl ?_
  refine g_const (n := 17) rfl rfl (s_bipush (v := 9) (by decide)) ?_
  refine g_ine (n := 20) rfl rfl (fun h17 => ?_) (fun h17 => ?_)
  · skip
    refine g_aload_n (n := 25) rfl rfl rfl ?_
    refine g_getR (n := 28) rfl rfl z_0 rfl ?_
    refine g_getI (n := 31) rfl rfl z_11 rfl ?_
    refine g_putI (n := 34) rfl rfl z_0 rfl rfl ?_
    refine g_aload_n (n := 35) rfl rfl rfl ?_
    refine g_getR (n := 38) rfl rfl z_0 rfl ?_
    refine g_const (n := 39) rfl rfl (s_iconst (v := 0) (by decide)) ?_
    refine g_aload_n (n := 40) rfl rfl rfl ?_
    refine g_getR (n := 43) rfl rfl z_0 rfl ?_
    refine g_getI (n := 46) rfl rfl z_11 rfl ?_
    refine g_iast (n := 47) rfl rfl z_40 rfl (j := 0) rfl (by omega) ?_
    refine g_aload_n (n := 48) rfl rfl rfl ?_
    refine g_getR (n := 51) rfl rfl z_0 rfl ?_
    refine g_const (n := 52) rfl rfl (s_iconst (v := 1) (by decide)) ?_
    refine g_aload_n (n := 53) rfl rfl rfl ?_
    refine g_getR (n := 56) rfl rfl z_0 rfl ?_
    refine g_getI (n := 59) rfl rfl z_11 rfl ?_
    refine g_iast (n := 60) rfl rfl z_40 rfl (j := 1) rfl (by omega) ?_
    refine g_aload_n (n := 61) rfl rfl rfl ?_
    refine g_getR (n := 64) rfl rfl z_0 rfl ?_
    refine g_getI (n := 67) rfl rfl z_11 rfl ?_
    refine g_retI rfl ?_
    first | exact ⟨(((f1.mono (fun _ _ => cSk_of)).up rfl).up rfl).up rfl, b1, b1.resolve_left h17⟩ | exact ⟨(((f1.mono (fun _ _ => cSk_of)).up rfl).up rfl).up rfl, b1, ⟨0, by omega, rfl⟩⟩
  · skip
    refine g_const (n := 21) rfl rfl (s_iconst (v := 0) (by decide)) ?_
    refine g_goto rfl ?_
    refine g_putI (n := 34) rfl rfl z_0 rfl rfl ?_
    refine g_aload_n (n := 35) rfl rfl rfl ?_
    refine g_getR (n := 38) rfl rfl z_0 rfl ?_
    refine g_const (n := 39) rfl rfl (s_iconst (v := 0) (by decide)) ?_
    refine g_aload_n (n := 40) rfl rfl rfl ?_
    refine g_getR (n := 43) rfl rfl z_0 rfl ?_
    refine g_getI (n := 46) rfl rfl z_11 rfl ?_
    refine g_iast (n := 47) rfl rfl z_40 rfl (j := 0) rfl (by omega) ?_
    refine g_aload_n (n := 48) rfl rfl rfl ?_
    refine g_getR (n := 51) rfl rfl z_0 rfl ?_
    refine g_const (n := 52) rfl rfl (s_iconst (v := 1) (by decide)) ?_
    refine g_aload_n (n := 53) rfl rfl rfl ?_
    refine g_getR (n := 56) rfl rfl z_0 rfl ?_
    refine g_getI (n := 59) rfl rfl z_11 rfl ?_
    refine g_iast (n := 60) rfl rfl z_40 rfl (j := 1) rfl (by omega) ?_
    refine g_aload_n (n := 61) rfl rfl rfl ?_
    refine g_getR (n := 64) rfl rfl z_0 rfl ?_
    refine g_getI (n := 67) rfl rfl z_11 rfl ?_
    refine g_retI rfl ?_
    first | exact ⟨(((f1.mono (fun _ _ => cSk_of)).up rfl).up rfl).up rfl, b1, b1.resolve_left h17⟩ | exact ⟨(((f1.mono (fun _ _ => cSk_of)).up rfl).up rfl).up rfl, b1, ⟨0, by omega, rfl⟩⟩
set_option maxRecDepth 20000 in
theorem sc_found {i : Int32} (h2 : jU 2 (M 0 7)) : EvI (d + 1) miX8_found [.ref 0, .int i] (zz E T) M (fun _ M' => M' = M) := by
  obtain ⟨k, hk, ek⟩ := h2
  refine ev_of mt_X8_found rfl ?_
  refine g_iload_n (n := 1) rfl rfl rfl ?_
  refine g_zlt (n := 4) rfl rfl (fun h1 => ?_) (fun h1 => ?_)
  · skip
    refine g_const (n := 22) rfl rfl (s_iconst (v := (-1)) (by decide)) ?_
    refine g_retI rfl ?_
    rfl
  · skip
    refine g_iload_n (n := 5) rfl rfl rfl ?_
    refine g_aload_n (n := 6) rfl rfl rfl ?_
    refine g_getI (n := 9) rfl rfl z_0 rfl ?_
    refine g_ige (n := 12) rfl rfl (fun h9 => ?_) (fun h9 => ?_)
    · skip
      refine g_const (n := 22) rfl rfl (s_iconst (v := (-1)) (by decide)) ?_
      refine g_retI rfl ?_
      rfl
    · skip
      rw [ek] at h9
      obtain ⟨j, hj, ej⟩ := jn_of_lt (by omega) h1 h9
      refine g_aload_n (n := 13) rfl rfl rfl ?_
      refine g_getR (n := 16) rfl rfl z_0 rfl ?_
      refine g_iload_n (n := 17) rfl rfl rfl ?_
      refine g_iald (n := 18) rfl rfl z_40 rfl ej (by omega) ?_
      refine g_goto rfl ?_
      refine g_retI rfl ?_
      rfl
set_option maxRecDepth 20000 in
theorem sc_standsIn {x : Int32} : EvI (d + 1) miX5_standsIn [.ref 11, .int x] (zz E T) M (fun _ M' => M' = M) := by
  refine ev_of mt_X5_standsIn rfl ?_
  refine g_iload_n (n := 1) rfl rfl rfl ?_
  refine g_zlt (n := 4) rfl rfl (fun h1 => ?_) (fun h1 => ?_)
  · skip
    refine g_const (n := 21) rfl rfl (s_iconst (v := 0) (by decide)) ?_
    refine g_retI rfl ?_
    rfl
  · skip
    refine g_iload_n (n := 5) rfl rfl rfl ?_
    refine g_const (n := 8) rfl rfl (s_sipush (v := 228) (by decide)) ?_
    refine g_ige (n := 11) rfl rfl (fun h8 => ?_) (fun h8 => ?_)
    · skip
      refine g_const (n := 21) rfl rfl (s_iconst (v := 0) (by decide)) ?_
      refine g_retI rfl ?_
      rfl
    · skip
      obtain ⟨j, hj, ej⟩ := jn_of_lt (k := 228) (by omega) h1 h8
      refine g_aload_n (n := 12) rfl rfl rfl ?_
      refine g_getR (n := 15) rfl rfl z_11 rfl ?_
      refine g_iload_n (n := 16) rfl rfl rfl ?_
      refine g_iald (n := 17) rfl rfl z_13 rfl ej (by omega) ?_
      refine g_goto rfl ?_
      refine g_retI rfl ?_
      rfl
set_option maxRecDepth 20000 in
theorem sc_weak {x : Int32} (hC : CW E T M n rs) (hB : BS M) : EvI (d + 10) miX8_weak [.ref 0, .int x] (zz E T) M (fun _ M' => Fr cL M M' ∧ BS M') := by
  refine ev_of mt_X8_weak rfl ?_
  refine g_iload_n (n := 1) rfl rfl rfl ?_
  refine g_aload_n (n := 2) rfl rfl rfl ?_
  refine g_getR (n := 5) rfl rfl z_0 rfl ?_
  refine g_getI (n := 8) rfl rfl z_1 rfl ?_
  refine g_cP2 (n := 11) rfl rfl rfl rfl mt_X0_exists rfl rfl rfl (sc_exists) ?_
  refine g_bnz (n := 14) rfl rfl (fun h11 => ?_) (fun h11 => ?_)
  · skip
    refine g_aload_n (n := 17) rfl rfl rfl ?_
    refine g_getR (n := 20) rfl rfl z_0 rfl ?_
    refine g_cV1 (n := 23) rfl rfl rfl rfl mt_X5_look rfl rfl (r_k z_11) (sc_look hC hB) ?_
    rintro M1 ⟨f1, b1⟩
    refine g_aload_n (n := 24) rfl rfl rfl ?_
    refine g_getR (n := 27) rfl rfl z_0 rfl ?_
    refine g_iload_n (n := 28) rfl rfl rfl ?_
    refine g_cI2 (n := 31) rfl rfl rfl rfl mt_X5_standsIn rfl rfl (r_k z_11) (sc_standsIn) ?_
    rintro x28 M28 rfl
    refine g_retI rfl ?_
    exact ⟨f1, b1⟩
  · skip
    refine g_const (n := 15) rfl rfl (s_iconst (v := (-1)) (by decide)) ?_
    refine g_retI rfl ?_
    exact ⟨Fr.rf, hB⟩
set_option maxRecDepth 20000 in
theorem sc_mend (hC : CW E T M n rs) : EvI (d + 10) miX8_mend [.ref 0] (zz E T) M (fun _ M' => Fr cB M M') := by
  refine ev_of mt_X8_mend rfl ?_
  refine g_aload_n (n := 1) rfl rfl rfl ?_
  refine g_getR (n := 4) rfl rfl z_0 rfl ?_
  refine g_cI1 (n := 7) rfl rfl rfl rfl mt_X5_cheapestMend rfl rfl (r_k z_11) (sc_cheapest hC) ?_
  intro x4 M4 q4
  refine g_retI rfl ?_
  exact q4
set_option maxRecDepth 20000 in
theorem sc_count {w : Int32} (hC : CW E T M n rs) : EvI (d + 6) miX8_count [.ref 0, .int w] (zz E T) M (fun _ M' => M' = M) := by
  refine ev_of mt_X8_count rfl ?_
  refine g_iload_n (n := 1) rfl rfl rfl ?_
  refine g_tsw rfl (by decide) (by decide) (by decide) (fun h1 => ?_) (fun j t hj h1 => ?_)
  · refine go_pc (pc2 := 85) rfl ?_
    refine g_const (n := 86) rfl rfl (s_iconst (v := (-1)) (by decide)) ?_
    refine g_retI rfl ?_
    rfl
  · match j, hj, h1 with
    | 0, hj, h1 =>
      obtain rfl : (35 : Int) = t := Option.some.inj hj
      refine go_pc (pc2 := 36) rfl ?_
      refine g_aload_n (n := 37) rfl rfl rfl ?_
      refine g_getR (n := 40) rfl rfl z_0 rfl ?_
      refine g_getR (n := 43) rfl rfl z_1 rfl ?_
      refine g_getR (n := 46) rfl rfl z_2 rfl ?_
      refine g_cP1 (n := 49) rfl rfl rfl rfl mt_Jx4a65c_size_8abf5 rfl rfl (r_k z_3) (sc_size) ?_
      refine g_retI rfl ?_
      rfl
    | 1, hj, h1 =>
      obtain rfl : (49 : Int) = t := Option.some.inj hj
      refine go_pc (pc2 := 50) rfl ?_
      refine g_aload_n (n := 51) rfl rfl rfl ?_
      refine g_getR (n := 54) rfl rfl z_0 rfl ?_
      refine g_getR (n := 57) rfl rfl z_1 rfl ?_
      refine g_cI1 (n := 60) rfl rfl rfl rfl mt_X3_countSpares rfl rfl (r_k z_2) (sc_countSpares hC) ?_
      rintro x57 M57 rfl
      refine g_retI rfl ?_
      rfl
    | 2, hj, h1 =>
      obtain rfl : (60 : Int) = t := Option.some.inj hj
      refine go_pc (pc2 := 61) rfl ?_
      refine g_aload_n (n := 62) rfl rfl rfl ?_
      refine g_getI (n := 65) rfl rfl z_0 rfl ?_
      refine g_retI rfl ?_
      rfl
    | 3, hj, h1 =>
      obtain rfl : (65 : Int) = t := Option.some.inj hj
      refine go_pc (pc2 := 66) rfl ?_
      refine g_aload_n (n := 67) rfl rfl rfl ?_
      refine g_getR (n := 70) rfl rfl z_0 rfl ?_
      refine g_getI (n := 73) rfl rfl z_1 rfl ?_
      refine g_retI rfl ?_
      rfl
    | 4, hj, h1 =>
      obtain rfl : (73 : Int) = t := Option.some.inj hj
      refine go_pc (pc2 := 74) rfl ?_
      refine g_aload_n (n := 75) rfl rfl rfl ?_
      refine g_getR (n := 78) rfl rfl z_0 rfl ?_
      refine g_getI (n := 81) rfl rfl z_1 rfl ?_
      refine g_cI1 (n := 84) rfl rfl rfl rfl mt_J6_bitCount_0f7a4 rfl rfl rfl (sc_bitCount) ?_
      rintro x81 M81 rfl
      refine g_retI rfl ?_
      rfl
    | j + 5, hj, _ => exact absurd hj (by simp)
set_option maxRecDepth 20000 in
theorem sc_hand {i : Int32} (hH : HandOK M) : EvI (d + 1) miX8_hand [.ref 0, .int i] (zz E T) M (fun _ M' => M' = M) := by
  obtain ⟨k, hk, ek, -⟩ := hH
  refine ev_of mt_X8_hand rfl ?_
  refine g_iload_n (n := 1) rfl rfl rfl ?_
  refine g_zlt (n := 4) rfl rfl (fun h1 => ?_) (fun h1 => ?_)
  · skip
    refine g_const (n := 22) rfl rfl (s_iconst (v := (-1)) (by decide)) ?_
    refine g_retI rfl ?_
    rfl
  · skip
    refine g_iload_n (n := 5) rfl rfl rfl ?_
    refine g_aload_n (n := 6) rfl rfl rfl ?_
    refine g_getI (n := 9) rfl rfl z_0 rfl ?_
    refine g_ige (n := 12) rfl rfl (fun h9 => ?_) (fun h9 => ?_)
    · skip
      refine g_const (n := 22) rfl rfl (s_iconst (v := (-1)) (by decide)) ?_
      refine g_retI rfl ?_
      rfl
    · skip
      rw [ek] at h9
      obtain ⟨j, hj, ej⟩ := jn_of_lt (by omega) h1 h9
      refine g_aload_n (n := 13) rfl rfl rfl ?_
      refine g_getR (n := 16) rfl rfl z_0 rfl ?_
      refine g_iload_n (n := 17) rfl rfl rfl ?_
      refine g_iald (n := 18) rfl rfl z_39 rfl ej (by omega) ?_
      refine g_goto rfl ?_
      refine g_retI rfl ?_
      rfl
def cMin (x y : Int32) : Int32 := if y < x then y else x
def cSets (l f t e : Int32) : Int32 :=
  let a := bif decide (l ≤ 0) then 0 else cMin (t + 1) e * 4 * 3
  let b := bif decide (f ≤ 0) then 0 else (cMin t e + 1) * 4
  let s := 1 + a + b + a * b
  let s := bif decide (l ≤ 1) then s else s + a * (a - 1) / 2
  bif decide (f ≤ 1) then s else s + b * (b - 1) / 2
set_option maxRecDepth 20000 in
theorem sc_countSets {e : Int32} : EvP (d + 1) miX1_countSets [.ref 10, .int e] (hp (zz E T) M) (.int (cSets (M 10 0) (M 10 1) (M 10 2) e)) := by
  refine ev_of mt_X1_countSets rfl ?_
  refine g_aload_n (n := 1) rfl rfl rfl ?_
  refine g_getI (n := 4) rfl rfl z_10 rfl ?_
  refine g_const (n := 5) rfl rfl (s_iconst (v := 1) (by decide)) ?_
  refine g_iadd (n := 6) rfl rfl ?_
  refine g_iload_n (n := 7) rfl rfl rfl ?_
  refine g_min (n := 10) rfl rfl rfl ?_
  refine g_istore_n (n := 11) rfl rfl ?_
  refine g_aload_n (n := 12) rfl rfl rfl ?_
  refine g_getI (n := 15) rfl rfl z_10 rfl ?_
  refine g_iload_n (n := 16) rfl rfl rfl ?_
  refine g_min (n := 19) rfl rfl rfl ?_
  refine g_const (n := 20) rfl rfl (s_iconst (v := 1) (by decide)) ?_
  refine g_iadd (n := 21) rfl rfl ?_
  refine g_istore_n (n := 22) rfl rfl ?_
  refine g_aload_n (n := 23) rfl rfl rfl ?_
  refine g_getI (n := 26) rfl rfl z_10 rfl ?_
  refine g_zle (n := 29) rfl rfl (fun h26 => ?_) (fun h26 => ?_)
  · skip
    have D26 := dT h26
    refine g_const (n := 38) rfl rfl (s_iconst (v := 0) (by decide)) ?_
    refine g_istore (n := 40) rfl rfl ?_
    refine g_aload_n (n := 41) rfl rfl rfl ?_
    refine g_getI (n := 44) rfl rfl z_10 rfl ?_
    refine g_zle (n := 47) rfl rfl (fun h44 => ?_) (fun h44 => ?_)
    · skip
      have D44 := dT h44
      refine g_const (n := 54) rfl rfl (s_iconst (v := 0) (by decide)) ?_
      refine g_istore (n := 56) rfl rfl ?_
      refine g_const (n := 57) rfl rfl (s_iconst (v := 1) (by decide)) ?_
      refine g_iload (n := 59) rfl rfl rfl ?_
      refine g_iadd (n := 60) rfl rfl ?_
      refine g_iload (n := 62) rfl rfl rfl ?_
      refine g_iadd (n := 63) rfl rfl ?_
      refine g_iload (n := 65) rfl rfl rfl ?_
      refine g_iload (n := 67) rfl rfl rfl ?_
      refine g_imul (n := 68) rfl rfl ?_
      refine g_iadd (n := 69) rfl rfl ?_
      refine g_istore (n := 71) rfl rfl ?_
      refine g_aload_n (n := 72) rfl rfl rfl ?_
      refine g_getI (n := 75) rfl rfl z_10 rfl ?_
      refine g_const (n := 76) rfl rfl (s_iconst (v := 1) (by decide)) ?_
      refine g_ile (n := 79) rfl rfl (fun h76 => ?_) (fun h76 => ?_)
      · skip
        have D76 := dT h76
        refine g_aload_n (n := 94) rfl rfl rfl ?_
        refine g_getI (n := 97) rfl rfl z_10 rfl ?_
        refine g_const (n := 98) rfl rfl (s_iconst (v := 1) (by decide)) ?_
        refine g_ile (n := 101) rfl rfl (fun h98 => ?_) (fun h98 => ?_)
        · skip
          have D98 := dT h98
          refine g_iload (n := 117) rfl rfl rfl ?_
          refine g_retP rfl ?_
          simp only [cSets, D26, D44, D76, D98, cond_true, cond_false]
          try rfl
        · skip
          have D98 := dle h98
          refine g_iload (n := 103) rfl rfl rfl ?_
          refine g_iload (n := 105) rfl rfl rfl ?_
          refine g_iload (n := 107) rfl rfl rfl ?_
          refine g_const (n := 108) rfl rfl (s_iconst (v := 1) (by decide)) ?_
          refine g_isub (n := 109) rfl rfl ?_
          refine g_imul (n := 110) rfl rfl ?_
          refine g_const (n := 111) rfl rfl (s_iconst (v := 2) (by decide)) ?_
          refine g_idiv (n := 112) rfl rfl rfl ?_
          refine g_iadd (n := 113) rfl rfl ?_
          refine g_istore (n := 115) rfl rfl ?_
          refine g_iload (n := 117) rfl rfl rfl ?_
          refine g_retP rfl ?_
          simp only [cSets, D26, D44, D76, D98, cond_true, cond_false]
          try rfl
      · skip
        have D76 := dle h76
        refine g_iload (n := 81) rfl rfl rfl ?_
        refine g_iload (n := 83) rfl rfl rfl ?_
        refine g_iload (n := 85) rfl rfl rfl ?_
        refine g_const (n := 86) rfl rfl (s_iconst (v := 1) (by decide)) ?_
        refine g_isub (n := 87) rfl rfl ?_
        refine g_imul (n := 88) rfl rfl ?_
        refine g_const (n := 89) rfl rfl (s_iconst (v := 2) (by decide)) ?_
        refine g_idiv (n := 90) rfl rfl rfl ?_
        refine g_iadd (n := 91) rfl rfl ?_
        refine g_istore (n := 93) rfl rfl ?_
        refine g_aload_n (n := 94) rfl rfl rfl ?_
        refine g_getI (n := 97) rfl rfl z_10 rfl ?_
        refine g_const (n := 98) rfl rfl (s_iconst (v := 1) (by decide)) ?_
        refine g_ile (n := 101) rfl rfl (fun h98 => ?_) (fun h98 => ?_)
        · skip
          have D98 := dT h98
          refine g_iload (n := 117) rfl rfl rfl ?_
          refine g_retP rfl ?_
          simp only [cSets, D26, D44, D76, D98, cond_true, cond_false]
          try rfl
        · skip
          have D98 := dle h98
          refine g_iload (n := 103) rfl rfl rfl ?_
          refine g_iload (n := 105) rfl rfl rfl ?_
          refine g_iload (n := 107) rfl rfl rfl ?_
          refine g_const (n := 108) rfl rfl (s_iconst (v := 1) (by decide)) ?_
          refine g_isub (n := 109) rfl rfl ?_
          refine g_imul (n := 110) rfl rfl ?_
          refine g_const (n := 111) rfl rfl (s_iconst (v := 2) (by decide)) ?_
          refine g_idiv (n := 112) rfl rfl rfl ?_
          refine g_iadd (n := 113) rfl rfl ?_
          refine g_istore (n := 115) rfl rfl ?_
          refine g_iload (n := 117) rfl rfl rfl ?_
          refine g_retP rfl ?_
          simp only [cSets, D26, D44, D76, D98, cond_true, cond_false]
          try rfl
    · skip
      have D44 := dle h44
      refine g_iload_n (n := 48) rfl rfl rfl ?_
      refine g_const (n := 49) rfl rfl (s_iconst (v := 4) (by decide)) ?_
      refine g_imul (n := 50) rfl rfl ?_
      refine g_goto rfl ?_
      refine g_istore (n := 56) rfl rfl ?_
      refine g_const (n := 57) rfl rfl (s_iconst (v := 1) (by decide)) ?_
      refine g_iload (n := 59) rfl rfl rfl ?_
      refine g_iadd (n := 60) rfl rfl ?_
      refine g_iload (n := 62) rfl rfl rfl ?_
      refine g_iadd (n := 63) rfl rfl ?_
      refine g_iload (n := 65) rfl rfl rfl ?_
      refine g_iload (n := 67) rfl rfl rfl ?_
      refine g_imul (n := 68) rfl rfl ?_
      refine g_iadd (n := 69) rfl rfl ?_
      refine g_istore (n := 71) rfl rfl ?_
      refine g_aload_n (n := 72) rfl rfl rfl ?_
      refine g_getI (n := 75) rfl rfl z_10 rfl ?_
      refine g_const (n := 76) rfl rfl (s_iconst (v := 1) (by decide)) ?_
      refine g_ile (n := 79) rfl rfl (fun h76 => ?_) (fun h76 => ?_)
      · skip
        have D76 := dT h76
        refine g_aload_n (n := 94) rfl rfl rfl ?_
        refine g_getI (n := 97) rfl rfl z_10 rfl ?_
        refine g_const (n := 98) rfl rfl (s_iconst (v := 1) (by decide)) ?_
        refine g_ile (n := 101) rfl rfl (fun h98 => ?_) (fun h98 => ?_)
        · skip
          have D98 := dT h98
          refine g_iload (n := 117) rfl rfl rfl ?_
          refine g_retP rfl ?_
          simp only [cSets, D26, D44, D76, D98, cond_true, cond_false]
          try rfl
        · skip
          have D98 := dle h98
          refine g_iload (n := 103) rfl rfl rfl ?_
          refine g_iload (n := 105) rfl rfl rfl ?_
          refine g_iload (n := 107) rfl rfl rfl ?_
          refine g_const (n := 108) rfl rfl (s_iconst (v := 1) (by decide)) ?_
          refine g_isub (n := 109) rfl rfl ?_
          refine g_imul (n := 110) rfl rfl ?_
          refine g_const (n := 111) rfl rfl (s_iconst (v := 2) (by decide)) ?_
          refine g_idiv (n := 112) rfl rfl rfl ?_
          refine g_iadd (n := 113) rfl rfl ?_
          refine g_istore (n := 115) rfl rfl ?_
          refine g_iload (n := 117) rfl rfl rfl ?_
          refine g_retP rfl ?_
          simp only [cSets, D26, D44, D76, D98, cond_true, cond_false]
          try rfl
      · skip
        have D76 := dle h76
        refine g_iload (n := 81) rfl rfl rfl ?_
        refine g_iload (n := 83) rfl rfl rfl ?_
        refine g_iload (n := 85) rfl rfl rfl ?_
        refine g_const (n := 86) rfl rfl (s_iconst (v := 1) (by decide)) ?_
        refine g_isub (n := 87) rfl rfl ?_
        refine g_imul (n := 88) rfl rfl ?_
        refine g_const (n := 89) rfl rfl (s_iconst (v := 2) (by decide)) ?_
        refine g_idiv (n := 90) rfl rfl rfl ?_
        refine g_iadd (n := 91) rfl rfl ?_
        refine g_istore (n := 93) rfl rfl ?_
        refine g_aload_n (n := 94) rfl rfl rfl ?_
        refine g_getI (n := 97) rfl rfl z_10 rfl ?_
        refine g_const (n := 98) rfl rfl (s_iconst (v := 1) (by decide)) ?_
        refine g_ile (n := 101) rfl rfl (fun h98 => ?_) (fun h98 => ?_)
        · skip
          have D98 := dT h98
          refine g_iload (n := 117) rfl rfl rfl ?_
          refine g_retP rfl ?_
          simp only [cSets, D26, D44, D76, D98, cond_true, cond_false]
          try rfl
        · skip
          have D98 := dle h98
          refine g_iload (n := 103) rfl rfl rfl ?_
          refine g_iload (n := 105) rfl rfl rfl ?_
          refine g_iload (n := 107) rfl rfl rfl ?_
          refine g_const (n := 108) rfl rfl (s_iconst (v := 1) (by decide)) ?_
          refine g_isub (n := 109) rfl rfl ?_
          refine g_imul (n := 110) rfl rfl ?_
          refine g_const (n := 111) rfl rfl (s_iconst (v := 2) (by decide)) ?_
          refine g_idiv (n := 112) rfl rfl rfl ?_
          refine g_iadd (n := 113) rfl rfl ?_
          refine g_istore (n := 115) rfl rfl ?_
          refine g_iload (n := 117) rfl rfl rfl ?_
          refine g_retP rfl ?_
          simp only [cSets, D26, D44, D76, D98, cond_true, cond_false]
          try rfl
  · skip
    have D26 := dle h26
    refine g_iload_n (n := 30) rfl rfl rfl ?_
    refine g_const (n := 31) rfl rfl (s_iconst (v := 4) (by decide)) ?_
    refine g_imul (n := 32) rfl rfl ?_
    refine g_const (n := 33) rfl rfl (s_iconst (v := 3) (by decide)) ?_
    refine g_imul (n := 34) rfl rfl ?_
    refine g_goto rfl ?_
    refine g_istore (n := 40) rfl rfl ?_
    refine g_aload_n (n := 41) rfl rfl rfl ?_
    refine g_getI (n := 44) rfl rfl z_10 rfl ?_
    refine g_zle (n := 47) rfl rfl (fun h44 => ?_) (fun h44 => ?_)
    · skip
      have D44 := dT h44
      refine g_const (n := 54) rfl rfl (s_iconst (v := 0) (by decide)) ?_
      refine g_istore (n := 56) rfl rfl ?_
      refine g_const (n := 57) rfl rfl (s_iconst (v := 1) (by decide)) ?_
      refine g_iload (n := 59) rfl rfl rfl ?_
      refine g_iadd (n := 60) rfl rfl ?_
      refine g_iload (n := 62) rfl rfl rfl ?_
      refine g_iadd (n := 63) rfl rfl ?_
      refine g_iload (n := 65) rfl rfl rfl ?_
      refine g_iload (n := 67) rfl rfl rfl ?_
      refine g_imul (n := 68) rfl rfl ?_
      refine g_iadd (n := 69) rfl rfl ?_
      refine g_istore (n := 71) rfl rfl ?_
      refine g_aload_n (n := 72) rfl rfl rfl ?_
      refine g_getI (n := 75) rfl rfl z_10 rfl ?_
      refine g_const (n := 76) rfl rfl (s_iconst (v := 1) (by decide)) ?_
      refine g_ile (n := 79) rfl rfl (fun h76 => ?_) (fun h76 => ?_)
      · skip
        have D76 := dT h76
        refine g_aload_n (n := 94) rfl rfl rfl ?_
        refine g_getI (n := 97) rfl rfl z_10 rfl ?_
        refine g_const (n := 98) rfl rfl (s_iconst (v := 1) (by decide)) ?_
        refine g_ile (n := 101) rfl rfl (fun h98 => ?_) (fun h98 => ?_)
        · skip
          have D98 := dT h98
          refine g_iload (n := 117) rfl rfl rfl ?_
          refine g_retP rfl ?_
          simp only [cSets, D26, D44, D76, D98, cond_true, cond_false]
          try rfl
        · skip
          have D98 := dle h98
          refine g_iload (n := 103) rfl rfl rfl ?_
          refine g_iload (n := 105) rfl rfl rfl ?_
          refine g_iload (n := 107) rfl rfl rfl ?_
          refine g_const (n := 108) rfl rfl (s_iconst (v := 1) (by decide)) ?_
          refine g_isub (n := 109) rfl rfl ?_
          refine g_imul (n := 110) rfl rfl ?_
          refine g_const (n := 111) rfl rfl (s_iconst (v := 2) (by decide)) ?_
          refine g_idiv (n := 112) rfl rfl rfl ?_
          refine g_iadd (n := 113) rfl rfl ?_
          refine g_istore (n := 115) rfl rfl ?_
          refine g_iload (n := 117) rfl rfl rfl ?_
          refine g_retP rfl ?_
          simp only [cSets, D26, D44, D76, D98, cond_true, cond_false]
          try rfl
      · skip
        have D76 := dle h76
        refine g_iload (n := 81) rfl rfl rfl ?_
        refine g_iload (n := 83) rfl rfl rfl ?_
        refine g_iload (n := 85) rfl rfl rfl ?_
        refine g_const (n := 86) rfl rfl (s_iconst (v := 1) (by decide)) ?_
        refine g_isub (n := 87) rfl rfl ?_
        refine g_imul (n := 88) rfl rfl ?_
        refine g_const (n := 89) rfl rfl (s_iconst (v := 2) (by decide)) ?_
        refine g_idiv (n := 90) rfl rfl rfl ?_
        refine g_iadd (n := 91) rfl rfl ?_
        refine g_istore (n := 93) rfl rfl ?_
        refine g_aload_n (n := 94) rfl rfl rfl ?_
        refine g_getI (n := 97) rfl rfl z_10 rfl ?_
        refine g_const (n := 98) rfl rfl (s_iconst (v := 1) (by decide)) ?_
        refine g_ile (n := 101) rfl rfl (fun h98 => ?_) (fun h98 => ?_)
        · skip
          have D98 := dT h98
          refine g_iload (n := 117) rfl rfl rfl ?_
          refine g_retP rfl ?_
          simp only [cSets, D26, D44, D76, D98, cond_true, cond_false]
          try rfl
        · skip
          have D98 := dle h98
          refine g_iload (n := 103) rfl rfl rfl ?_
          refine g_iload (n := 105) rfl rfl rfl ?_
          refine g_iload (n := 107) rfl rfl rfl ?_
          refine g_const (n := 108) rfl rfl (s_iconst (v := 1) (by decide)) ?_
          refine g_isub (n := 109) rfl rfl ?_
          refine g_imul (n := 110) rfl rfl ?_
          refine g_const (n := 111) rfl rfl (s_iconst (v := 2) (by decide)) ?_
          refine g_idiv (n := 112) rfl rfl rfl ?_
          refine g_iadd (n := 113) rfl rfl ?_
          refine g_istore (n := 115) rfl rfl ?_
          refine g_iload (n := 117) rfl rfl rfl ?_
          refine g_retP rfl ?_
          simp only [cSets, D26, D44, D76, D98, cond_true, cond_false]
          try rfl
    · skip
      have D44 := dle h44
      refine g_iload_n (n := 48) rfl rfl rfl ?_
      refine g_const (n := 49) rfl rfl (s_iconst (v := 4) (by decide)) ?_
      refine g_imul (n := 50) rfl rfl ?_
      refine g_goto rfl ?_
      refine g_istore (n := 56) rfl rfl ?_
      refine g_const (n := 57) rfl rfl (s_iconst (v := 1) (by decide)) ?_
      refine g_iload (n := 59) rfl rfl rfl ?_
      refine g_iadd (n := 60) rfl rfl ?_
      refine g_iload (n := 62) rfl rfl rfl ?_
      refine g_iadd (n := 63) rfl rfl ?_
      refine g_iload (n := 65) rfl rfl rfl ?_
      refine g_iload (n := 67) rfl rfl rfl ?_
      refine g_imul (n := 68) rfl rfl ?_
      refine g_iadd (n := 69) rfl rfl ?_
      refine g_istore (n := 71) rfl rfl ?_
      refine g_aload_n (n := 72) rfl rfl rfl ?_
      refine g_getI (n := 75) rfl rfl z_10 rfl ?_
      refine g_const (n := 76) rfl rfl (s_iconst (v := 1) (by decide)) ?_
      refine g_ile (n := 79) rfl rfl (fun h76 => ?_) (fun h76 => ?_)
      · skip
        have D76 := dT h76
        refine g_aload_n (n := 94) rfl rfl rfl ?_
        refine g_getI (n := 97) rfl rfl z_10 rfl ?_
        refine g_const (n := 98) rfl rfl (s_iconst (v := 1) (by decide)) ?_
        refine g_ile (n := 101) rfl rfl (fun h98 => ?_) (fun h98 => ?_)
        · skip
          have D98 := dT h98
          refine g_iload (n := 117) rfl rfl rfl ?_
          refine g_retP rfl ?_
          simp only [cSets, D26, D44, D76, D98, cond_true, cond_false]
          try rfl
        · skip
          have D98 := dle h98
          refine g_iload (n := 103) rfl rfl rfl ?_
          refine g_iload (n := 105) rfl rfl rfl ?_
          refine g_iload (n := 107) rfl rfl rfl ?_
          refine g_const (n := 108) rfl rfl (s_iconst (v := 1) (by decide)) ?_
          refine g_isub (n := 109) rfl rfl ?_
          refine g_imul (n := 110) rfl rfl ?_
          refine g_const (n := 111) rfl rfl (s_iconst (v := 2) (by decide)) ?_
          refine g_idiv (n := 112) rfl rfl rfl ?_
          refine g_iadd (n := 113) rfl rfl ?_
          refine g_istore (n := 115) rfl rfl ?_
          refine g_iload (n := 117) rfl rfl rfl ?_
          refine g_retP rfl ?_
          simp only [cSets, D26, D44, D76, D98, cond_true, cond_false]
          try rfl
      · skip
        have D76 := dle h76
        refine g_iload (n := 81) rfl rfl rfl ?_
        refine g_iload (n := 83) rfl rfl rfl ?_
        refine g_iload (n := 85) rfl rfl rfl ?_
        refine g_const (n := 86) rfl rfl (s_iconst (v := 1) (by decide)) ?_
        refine g_isub (n := 87) rfl rfl ?_
        refine g_imul (n := 88) rfl rfl ?_
        refine g_const (n := 89) rfl rfl (s_iconst (v := 2) (by decide)) ?_
        refine g_idiv (n := 90) rfl rfl rfl ?_
        refine g_iadd (n := 91) rfl rfl ?_
        refine g_istore (n := 93) rfl rfl ?_
        refine g_aload_n (n := 94) rfl rfl rfl ?_
        refine g_getI (n := 97) rfl rfl z_10 rfl ?_
        refine g_const (n := 98) rfl rfl (s_iconst (v := 1) (by decide)) ?_
        refine g_ile (n := 101) rfl rfl (fun h98 => ?_) (fun h98 => ?_)
        · skip
          have D98 := dT h98
          refine g_iload (n := 117) rfl rfl rfl ?_
          refine g_retP rfl ?_
          simp only [cSets, D26, D44, D76, D98, cond_true, cond_false]
          try rfl
        · skip
          have D98 := dle h98
          refine g_iload (n := 103) rfl rfl rfl ?_
          refine g_iload (n := 105) rfl rfl rfl ?_
          refine g_iload (n := 107) rfl rfl rfl ?_
          refine g_const (n := 108) rfl rfl (s_iconst (v := 1) (by decide)) ?_
          refine g_isub (n := 109) rfl rfl ?_
          refine g_imul (n := 110) rfl rfl ?_
          refine g_const (n := 111) rfl rfl (s_iconst (v := 2) (by decide)) ?_
          refine g_idiv (n := 112) rfl rfl rfl ?_
          refine g_iadd (n := 113) rfl rfl ?_
          refine g_istore (n := 115) rfl rfl ?_
          refine g_iload (n := 117) rfl rfl rfl ?_
          refine g_retP rfl ?_
          simp only [cSets, D26, D44, D76, D98, cond_true, cond_false]
          try rfl
set_option maxRecDepth 20000 in
theorem sc_sets : EvP (d + 2) miX8_sets [.ref 0] (hp (zz E T) M) (.int (cSets (M 10 0) (M 10 1) (M 10 2) (M 1 2))) := by
  refine ev_of mt_X8_sets rfl ?_
  refine g_aload_n (n := 1) rfl rfl rfl ?_
  refine g_getR (n := 4) rfl rfl z_0 rfl ?_
  refine g_aload_n (n := 5) rfl rfl rfl ?_
  refine g_getR (n := 8) rfl rfl z_0 rfl ?_
  refine g_getI (n := 11) rfl rfl z_1 rfl ?_
  refine g_cP2 (n := 14) rfl rfl rfl rfl mt_X1_countSets rfl rfl (r_k z_10) (sc_countSets) ?_
  refine g_retP rfl ?_
  rfl
end PC
