/-! The program: why, the hand -/
section HC
variable {E : Value} {T : List SH} {M : Mem} {d n : Nat} {rs : Nat → Nat}
set_option maxRecDepth 20000 in
theorem lp_leastRule {k f h w : Int32} (hC : CW E T M n rs) : ∀ i, i ≤ n → Go [] (d + 3) (some .int) tabX4_leastRule 3 [(0, .ref 33), (1, .int k), (2, .int f), (3, .int h), (4, .int w), (5, .int (Int32.ofNat i))] [] (hp (zz E T) M) 0 0 (QI (zz E T) (fun _ M' => M' = M)) := by
  obtain ⟨hL, hn12, hn, hR, -⟩ := hC
  refine loop_up n ?_
  intro i hi ih
  refine g_iload (n := 5) rfl rfl rfl ?_
  refine g_aload_n (n := 6) rfl rfl rfl ?_
  refine g_getR (n := 9) rfl rfl z_33 rfl ?_
  refine g_getR (n := 12) rfl rfl z_1 rfl ?_
  refine g_getR (n := 15) rfl rfl z_2 rfl ?_
  refine g_cP1 (n := 18) rfl rfl rfl rfl mt_Jx4a65c_size_8abf5 rfl rfl (r_k z_3) (sc_size) ?_
  refine g_ige (n := 21) rfl rfl (fun h18 => ?_) (fun h18 => ?_)
  · skip
    refine g_const (n := 107) rfl rfl (s_iconst (v := (-1)) (by decide)) ?_
    refine g_retI rfl ?_
    rfl
  · skip
    rw [hn] at h18
    have g9 := (jn_lt (by omega) (by omega)).mp h18
    refine g_aload_n (n := 22) rfl rfl rfl ?_
    refine g_getR (n := 25) rfl rfl z_33 rfl ?_
    refine g_getR (n := 28) rfl rfl z_1 rfl ?_
    refine g_getR (n := 31) rfl rfl z_2 rfl ?_
    refine g_iload (n := 33) rfl rfl rfl ?_
    refine g_cP2 (n := 36) rfl rfl rfl rfl mt_Jx4a65c_get_915e3 rfl rfl (r_k z_3) (sc_get hL hn hn12 g9) ?_
    refine g_cast (n := 39) rfl rfl (hL.1 i g9).2 ?_
    refine g_astore (n := 41) rfl rfl ?_
    refine g_aload (n := 43) rfl rfl rfl ?_
    refine g_getI (n := 46) rfl rfl (hL.1 i g9).2 rfl ?_
    refine g_iload_n (n := 47) rfl rfl rfl ?_
    refine g_ine (n := 50) rfl rfl (fun h47 => ?_) (fun h47 => ?_)
    · skip
      refine g_const (n := 79) rfl rfl (s_iconst (v := 0) (by decide)) ?_
      refine g_istore (n := 81) rfl rfl ?_
      refine g_iload (n := 83) rfl rfl rfl ?_
      refine g_zeq (n := 86) rfl rfl (fun h83 => ?_) (fun h83 => ?_)
      · skip
        refine g_iinc (n := 103) rfl rfl rfl (jn_1 _) ?_
        refine g_goto rfl ?_
        refine go_only 6 ?_; exact ih g9
      · skip
        exact absurd h83 (by decide)
    · skip
      refine g_aload (n := 52) rfl rfl rfl ?_
      refine g_getI (n := 55) rfl rfl (hL.1 i g9).2 rfl ?_
      refine g_iload_n (n := 56) rfl rfl rfl ?_
      refine g_ine (n := 59) rfl rfl (fun h56 => ?_) (fun h56 => ?_)
      · skip
        refine g_const (n := 79) rfl rfl (s_iconst (v := 0) (by decide)) ?_
        refine g_istore (n := 81) rfl rfl ?_
        refine g_iload (n := 83) rfl rfl rfl ?_
        refine g_zeq (n := 86) rfl rfl (fun h83 => ?_) (fun h83 => ?_)
        · skip
          refine g_iinc (n := 103) rfl rfl rfl (jn_1 _) ?_
          refine g_goto rfl ?_
          refine go_only 6 ?_; exact ih g9
        · skip
          exact absurd h83 (by decide)
      · skip
        refine g_aload_n (n := 60) rfl rfl rfl ?_
        refine g_getR (n := 63) rfl rfl z_33 rfl ?_
        refine g_getR (n := 66) rfl rfl z_1 rfl ?_
        refine g_iload (n := 68) rfl rfl rfl ?_
        refine g_cP2 (n := 71) rfl rfl rfl rfl mt_X6_counts rfl rfl (r_k z_6) (sc_counts) ?_
        refine g_bz (n := 74) rfl rfl (fun h71 => ?_) (fun h71 => ?_)
        · skip
          refine g_const (n := 79) rfl rfl (s_iconst (v := 0) (by decide)) ?_
          refine g_istore (n := 81) rfl rfl ?_
          refine g_iload (n := 83) rfl rfl rfl ?_
          refine g_zeq (n := 86) rfl rfl (fun h83 => ?_) (fun h83 => ?_)
          · skip
            refine g_iinc (n := 103) rfl rfl rfl (jn_1 _) ?_
            refine g_goto rfl ?_
            refine go_only 6 ?_; exact ih g9
          · skip
            exact absurd h83 (by decide)
        · skip
          refine g_const (n := 75) rfl rfl (s_iconst (v := 1) (by decide)) ?_
          refine g_goto rfl ?_
          refine g_istore (n := 81) rfl rfl ?_
          refine g_iload (n := 83) rfl rfl rfl ?_
          refine g_zeq (n := 86) rfl rfl (fun h83 => ?_) (fun h83 => ?_)
          · skip
            exact absurd h83 (by decide)
          · skip
            refine g_aload (n := 88) rfl rfl rfl ?_
            refine g_iload_n (n := 89) rfl rfl rfl ?_
            refine g_iload (n := 91) rfl rfl rfl ?_
            refine g_cP3 (n := 94) rfl rfl rfl rfl mt_X2_works rfl rfl (r_k (hL.1 i g9).2) (sc_works (hL.1 i g9).2) ?_
            refine g_bz (n := 97) rfl rfl (fun h94 => ?_) (fun h94 => ?_)
            · skip
              refine g_iinc (n := 103) rfl rfl rfl (jn_1 _) ?_
              refine g_goto rfl ?_
              refine go_only 6 ?_; exact ih g9
            · skip
              refine g_iload (n := 99) rfl rfl rfl ?_
              refine g_retI rfl ?_
              rfl
set_option maxRecDepth 20000 in
theorem sc_leastRule {k f h w : Int32} (hC : CW E T M n rs) : EvI (d + 4) miX4_leastRule [.ref 33, .int k, .int f, .int h, .int w] (zz E T) M (fun _ M' => M' = M) := by
  refine ev_of mt_X4_leastRule rfl ?_
  refine g_const (n := 1) rfl rfl (s_iconst (v := 0) (by decide)) ?_
  refine g_istore (n := 3) rfl rfl ?_
  exact lp_leastRule hC 0 (by omega)
set_option maxRecDepth 20000 in
theorem lp_letter108 {a f bt : Int32} {q i t : Nat} (hq : a_at (zz E T) q = some ruleSh) (ht : t ≤ 6) (K : Go [] (d + 3) (some .int) tabX4_leastLetter 175 [(0, .ref 33), (1, .int a), (2, .int (Int32.ofNat t)), (3, .int f), (4, .int bt), (5, .int (Int32.ofNat i))] [] (hp (zz E T) M) 0 0 (QI (zz E T) (fun _ M' => M' = M))) : ∀ j, j ≤ 4 → Go [] (d + 3) (some .int) tabX4_leastLetter 108 [(0, .ref 33), (1, .int a), (2, .int (Int32.ofNat t)), (3, .int f), (4, .int bt), (5, .int (Int32.ofNat i)), (6, .ref q), (8, .int (Int32.ofNat j))] [] (hp (zz E T) M) 0 0 (QI (zz E T) (fun _ M' => M' = M)) := by
  refine loop_up 4 ?_
  intro j hj ih
  refine g_iload (n := 110) rfl rfl rfl ?_
  refine g_const (n := 111) rfl rfl (s_iconst (v := 4) (by decide)) ?_
  refine g_ige (n := 114) rfl rfl (fun h111 => ?_) (fun h111 => ?_)
  · skip
    refine go_only 6 ?_; exact K
  · skip
    have g9 := (jn_lt (b := 4) (a := j) (by omega) (by omega)).mp h111
    refine g_aload_n (n := 115) rfl rfl rfl ?_
    refine g_getR (n := 118) rfl rfl z_33 rfl ?_
    refine g_const (n := 119) rfl rfl (s_iconst (v := 4) (by decide)) ?_
    refine g_iload_n (n := 120) rfl rfl rfl ?_
    refine g_imul (n := 121) rfl rfl ?_
    refine g_iload (n := 123) rfl rfl rfl ?_
    refine g_iadd (n := 124) rfl rfl ?_
    refine g_iald (n := 125) rfl rfl z_37 rfl (ix44 t j) (by omega) ?_
    refine g_iload (n := 127) rfl rfl rfl ?_
    refine g_iand (n := 128) rfl rfl ?_
    refine g_zne (n := 131) rfl rfl (fun h128 => ?_) (fun h128 => ?_)
    · skip
      refine g_const (n := 136) rfl rfl (s_iconst (v := 0) (by decide)) ?_
      refine g_istore (n := 138) rfl rfl ?_
      refine g_iload (n := 140) rfl rfl rfl ?_
      refine g_zeq (n := 143) rfl rfl (fun h140 => ?_) (fun h140 => ?_)
      · skip
        refine g_iinc (n := 172) rfl rfl rfl (jn_1 _) ?_
        refine g_goto rfl ?_
        refine go_only 9 ?_; exact ih g9
      · skip
        exact absurd h140 (by decide)
    · skip
      refine g_const (n := 132) rfl rfl (s_iconst (v := 1) (by decide)) ?_
      refine g_goto rfl ?_
      refine g_istore (n := 138) rfl rfl ?_
      refine g_iload (n := 140) rfl rfl rfl ?_
      refine g_zeq (n := 143) rfl rfl (fun h140 => ?_) (fun h140 => ?_)
      · skip
        exact absurd h140 (by decide)
      · skip
        refine g_aload (n := 145) rfl rfl rfl ?_
        refine g_iload (n := 147) rfl rfl rfl ?_
        refine g_aload_n (n := 148) rfl rfl rfl ?_
        refine g_iload (n := 150) rfl rfl rfl ?_
        refine g_iload_n (n := 151) rfl rfl rfl ?_
        refine g_cP3 (n := 154) rfl rfl rfl rfl mt_X4_factsOf rfl rfl (r_k z_33) (sc_factsOf run33 ht) ?_
        refine g_cP3 (n := 157) rfl rfl rfl rfl mt_X2_works rfl rfl (r_k hq) (sc_works hq) ?_
        refine g_bz (n := 160) rfl rfl (fun h157 => ?_) (fun h157 => ?_)
        · skip
          refine g_iinc (n := 172) rfl rfl rfl (jn_1 _) ?_
          refine g_goto rfl ?_
          refine go_only 9 ?_; exact ih g9
        · skip
          refine g_const (n := 162) rfl rfl (s_bipush (v := 20) (by decide)) ?_
          refine g_iload (n := 164) rfl rfl rfl ?_
          refine g_imul (n := 165) rfl rfl ?_
          refine g_iload (n := 167) rfl rfl rfl ?_
          refine g_iadd (n := 168) rfl rfl ?_
          refine g_retI rfl ?_
          rfl
set_option maxRecDepth 20000 in
theorem lp_letter10 {a f bt : Int32} {t : Nat} (hC : CW E T M n rs) (ht : t ≤ 6) : ∀ i, i ≤ n → Go [] (d + 3) (some .int) tabX4_leastLetter 10 [(0, .ref 33), (1, .int a), (2, .int (Int32.ofNat t)), (3, .int f), (4, .int bt), (5, .int (Int32.ofNat i))] [] (hp (zz E T) M) 0 0 (QI (zz E T) (fun _ M' => M' = M)) := by
  obtain ⟨hL, hn12, hn, hR, -⟩ := hC
  refine loop_up n ?_
  intro i hi ih
  have K2 : i < n → Go [] (d + 3) (some .int) tabX4_leastLetter 175 [(0, .ref 33), (1, .int a), (2, .int (Int32.ofNat t)), (3, .int f), (4, .int bt), (5, .int (Int32.ofNat i))] [] (hp (zz E T) M) 0 0 (QI (zz E T) (fun _ M' => M' = M)) := by
    intro g
    refine g_iinc (n := 178) rfl rfl rfl (jn_1 _) ?_
    refine g_goto rfl ?_
    exact ih g
  refine g_iload (n := 12) rfl rfl rfl ?_
  refine g_aload_n (n := 13) rfl rfl rfl ?_
  refine g_getR (n := 16) rfl rfl z_33 rfl ?_
  refine g_getR (n := 19) rfl rfl z_1 rfl ?_
  refine g_getR (n := 22) rfl rfl z_2 rfl ?_
  refine g_cP1 (n := 25) rfl rfl rfl rfl mt_Jx4a65c_size_8abf5 rfl rfl (r_k z_3) (sc_size) ?_
  refine g_ige (n := 28) rfl rfl (fun h25 => ?_) (fun h25 => ?_)
  · skip
    refine g_const (n := 182) rfl rfl (s_iconst (v := (-1)) (by decide)) ?_
    refine g_retI rfl ?_
    rfl
  · skip
    rw [hn] at h25
    have g9 := (jn_lt (by omega) (by omega)).mp h25
    refine g_aload_n (n := 29) rfl rfl rfl ?_
    refine g_getR (n := 32) rfl rfl z_33 rfl ?_
    refine g_getR (n := 35) rfl rfl z_1 rfl ?_
    refine g_getR (n := 38) rfl rfl z_2 rfl ?_
    refine g_iload (n := 40) rfl rfl rfl ?_
    refine g_cP2 (n := 43) rfl rfl rfl rfl mt_Jx4a65c_get_915e3 rfl rfl (r_k z_3) (sc_get hL hn hn12 g9) ?_
    refine g_cast (n := 46) rfl rfl (hL.1 i g9).2 ?_
    refine g_astore (n := 48) rfl rfl ?_
    refine g_aload (n := 50) rfl rfl rfl ?_
    refine g_getI (n := 53) rfl rfl (hL.1 i g9).2 rfl ?_
    refine g_const (n := 54) rfl rfl (s_iconst (v := 2) (by decide)) ?_
    refine g_ine (n := 57) rfl rfl (fun h54 => ?_) (fun h54 => ?_)
    · skip
      refine g_const (n := 80) rfl rfl (s_iconst (v := 0) (by decide)) ?_
      refine g_istore (n := 82) rfl rfl ?_
      refine g_iload (n := 84) rfl rfl rfl ?_
      refine g_zeq (n := 87) rfl rfl (fun h84 => ?_) (fun h84 => ?_)
      · skip
        refine go_only 6 ?_; exact K2 g9
      · skip
        exact absurd h84 (by decide)
    · skip
      refine g_aload (n := 59) rfl rfl rfl ?_
      refine g_getI (n := 62) rfl rfl (hL.1 i g9).2 rfl ?_
      refine g_iload_n (n := 63) rfl rfl rfl ?_
      refine g_ine (n := 66) rfl rfl (fun h63 => ?_) (fun h63 => ?_)
      · skip
        refine g_const (n := 80) rfl rfl (s_iconst (v := 0) (by decide)) ?_
        refine g_istore (n := 82) rfl rfl ?_
        refine g_iload (n := 84) rfl rfl rfl ?_
        refine g_zeq (n := 87) rfl rfl (fun h84 => ?_) (fun h84 => ?_)
        · skip
          refine go_only 6 ?_; exact K2 g9
        · skip
          exact absurd h84 (by decide)
      · skip
        refine g_aload (n := 68) rfl rfl rfl ?_
        refine g_getI (n := 71) rfl rfl (hL.1 i g9).2 rfl ?_
        refine g_iload_n (n := 72) rfl rfl rfl ?_
        refine g_ine (n := 75) rfl rfl (fun h72 => ?_) (fun h72 => ?_)
        · skip
          refine g_const (n := 80) rfl rfl (s_iconst (v := 0) (by decide)) ?_
          refine g_istore (n := 82) rfl rfl ?_
          refine g_iload (n := 84) rfl rfl rfl ?_
          refine g_zeq (n := 87) rfl rfl (fun h84 => ?_) (fun h84 => ?_)
          · skip
            refine go_only 6 ?_; exact K2 g9
          · skip
            exact absurd h84 (by decide)
        · skip
          refine g_const (n := 76) rfl rfl (s_iconst (v := 1) (by decide)) ?_
          refine g_goto rfl ?_
          refine g_istore (n := 82) rfl rfl ?_
          refine g_iload (n := 84) rfl rfl rfl ?_
          refine g_zeq (n := 87) rfl rfl (fun h84 => ?_) (fun h84 => ?_)
          · skip
            exact absurd h84 (by decide)
          · skip
            refine g_aload_n (n := 88) rfl rfl rfl ?_
            refine g_getR (n := 91) rfl rfl z_33 rfl ?_
            refine g_getR (n := 94) rfl rfl z_1 rfl ?_
            refine g_iload (n := 96) rfl rfl rfl ?_
            refine g_cP2 (n := 99) rfl rfl rfl rfl mt_X6_counts rfl rfl (r_k z_6) (sc_counts) ?_
            refine g_bnz (n := 102) rfl rfl (fun h99 => ?_) (fun h99 => ?_)
            · skip
              refine g_const (n := 106) rfl rfl (s_iconst (v := 0) (by decide)) ?_
              refine g_istore (n := 108) rfl rfl ?_
              refine go_le (lp_letter108 (hL.1 i g9).2 ht (K2 g9) 0 (by omega)) ?_
              exact drop7
            · skip
              refine g_goto rfl ?_
              refine go_only 6 ?_; exact K2 g9
set_option maxRecDepth 20000 in
theorem sc_leastLetter {a f : Int32} {t : Nat} (hC : CW E T M n rs) (ht : t ≤ 6) : EvI (d + 4) miX4_leastLetter [.ref 33, .int a, .int (Int32.ofNat t), .int f] (zz E T) M (fun _ M' => M' = M) := by
  refine ev_of mt_X4_leastLetter rfl ?_
  refine g_iload_n (n := 1) rfl rfl rfl ?_
  refine g_iload_n (n := 2) rfl rfl rfl ?_
  refine g_cP2 (n := 5) rfl rfl rfl rfl mt_X8_bitOf rfl rfl rfl (sc_bitOf) ?_
  refine g_istore (n := 7) rfl rfl ?_
  refine g_const (n := 8) rfl rfl (s_iconst (v := 0) (by decide)) ?_
  refine g_istore (n := 10) rfl rfl ?_
  exact lp_letter10 hC ht 0 (by omega)
set_option maxRecDepth 20000 in
theorem sc_reason {h f : Int32} {t : Nat} (hC : CW E T M n rs) (ht : t ≤ 6) : EvI (d + 5) miX4_reason [.ref 33, .int h, .int (Int32.ofNat t), .int f] (zz E T) M (fun _ M' => M' = M) := by
  refine ev_of mt_X4_reason rfl ?_
  refine g_iload_n (n := 1) rfl rfl rfl ?_
  refine g_iload_n (n := 2) rfl rfl rfl ?_
  refine g_cP2 (n := 5) rfl rfl rfl rfl mt_X8_bitOf rfl rfl rfl (sc_bitOf) ?_
  refine g_istore (n := 7) rfl rfl ?_
  refine g_aload_n (n := 8) rfl rfl rfl ?_
  refine g_getR (n := 11) rfl rfl z_33 rfl ?_
  refine g_iload_n (n := 12) rfl rfl rfl ?_
  refine g_iald (n := 13) rfl rfl z_35 rfl rfl (by omega) ?_
  refine g_iload (n := 15) rfl rfl rfl ?_
  refine g_iand (n := 16) rfl rfl ?_
  refine g_zne (n := 19) rfl rfl (fun h16 => ?_) (fun h16 => ?_)
  · skip
    refine g_iload_n (n := 22) rfl rfl rfl ?_
    refine g_zne (n := 25) rfl rfl (fun h22 => ?_) (fun h22 => ?_)
    · skip
      refine g_iload_n (n := 41) rfl rfl rfl ?_
      refine g_zle (n := 44) rfl rfl (fun h41 => ?_) (fun h41 => ?_)
      · skip
        refine g_aload_n (n := 99) rfl rfl rfl ?_
        refine g_const (n := 100) rfl rfl (s_iconst (v := 0) (by decide)) ?_
        refine g_iload_n (n := 101) rfl rfl rfl ?_
        refine g_iload_n (n := 102) rfl rfl rfl ?_
        refine g_aload_n (n := 103) rfl rfl rfl ?_
        refine g_iload_n (n := 104) rfl rfl rfl ?_
        refine g_iload_n (n := 105) rfl rfl rfl ?_
        refine g_cP3 (n := 108) rfl rfl rfl rfl mt_X4_factsOf rfl rfl (r_k z_33) (sc_factsOf run33 ht) ?_
        refine g_cI5 (n := 111) rfl rfl rfl rfl mt_X4_leastRule rfl rfl (r_k z_33) (sc_leastRule hC) ?_
        rintro x56 M56 rfl
        refine g_istore (n := 113) rfl rfl ?_
        refine g_iload (n := 115) rfl rfl rfl ?_
        refine g_const (n := 116) rfl rfl (s_iconst (v := (-1)) (by decide)) ?_
        refine g_ine (n := 119) rfl rfl (fun h116 => ?_) (fun h116 => ?_)
        · skip
          refine g_const (n := 125) rfl rfl (s_bipush (v := 100) (by decide)) ?_
          refine g_iload (n := 127) rfl rfl rfl ?_
          refine g_iadd (n := 128) rfl rfl ?_
          refine g_retI rfl ?_
          rfl
        · skip
          refine g_const (n := 120) rfl rfl (s_iconst (v := (-1)) (by decide)) ?_
          refine g_goto rfl ?_
          refine g_retI rfl ?_
          rfl
      · skip
        have ht1 : 1 ≤ t := (jn_lt (a := 0) (by omega) (by omega)).mp h41
        refine g_aload_n (n := 45) rfl rfl rfl ?_
        refine g_const (n := 46) rfl rfl (s_iconst (v := 1) (by decide)) ?_
        refine g_iload_n (n := 47) rfl rfl rfl ?_
        refine g_iload_n (n := 48) rfl rfl rfl ?_
        refine g_aload_n (n := 49) rfl rfl rfl ?_
        refine g_iload_n (n := 50) rfl rfl rfl ?_
        refine g_iload_n (n := 51) rfl rfl rfl ?_
        refine g_const (n := 52) rfl rfl (s_iconst (v := 1) (by decide)) ?_
        refine g_isub (n := 53) rfl rfl ?_
        rw [show Int32.ofNat t - 1 = Int32.ofNat (t - 1) from jn_sub (b := 1) ht1]
        refine g_cP3 (n := 56) rfl rfl rfl rfl mt_X4_factsOf rfl rfl (r_k z_33) (sc_factsOf run33 (by omega)) ?_
        refine g_cI5 (n := 59) rfl rfl rfl rfl mt_X4_leastRule rfl rfl (r_k z_33) (sc_leastRule hC) ?_
        rintro x56 M56 rfl
        refine g_istore (n := 61) rfl rfl ?_
        refine g_iload (n := 63) rfl rfl rfl ?_
        refine g_const (n := 64) rfl rfl (s_iconst (v := (-1)) (by decide)) ?_
        refine g_ieq (n := 67) rfl rfl (fun h64 => ?_) (fun h64 => ?_)
        · skip
          refine g_aload_n (n := 75) rfl rfl rfl ?_
          refine g_iload_n (n := 76) rfl rfl rfl ?_
          refine g_iload_n (n := 77) rfl rfl rfl ?_
          refine g_const (n := 78) rfl rfl (s_iconst (v := 1) (by decide)) ?_
          refine g_isub (n := 79) rfl rfl ?_
          refine g_iload_n (n := 80) rfl rfl rfl ?_
          rw [show Int32.ofNat t - 1 = Int32.ofNat (t - 1) from jn_sub (b := 1) ht1]
          refine g_cI4 (n := 83) rfl rfl rfl rfl mt_X4_leastLetter rfl rfl (r_k z_33) (sc_leastLetter hC (by omega)) ?_
          rintro x80 M80 rfl
          refine g_istore (n := 85) rfl rfl ?_
          refine g_iload (n := 87) rfl rfl rfl ?_
          refine g_const (n := 88) rfl rfl (s_iconst (v := (-1)) (by decide)) ?_
          refine g_ieq (n := 91) rfl rfl (fun h88 => ?_) (fun h88 => ?_)
          · skip
            refine g_aload_n (n := 99) rfl rfl rfl ?_
            refine g_const (n := 100) rfl rfl (s_iconst (v := 0) (by decide)) ?_
            refine g_iload_n (n := 101) rfl rfl rfl ?_
            refine g_iload_n (n := 102) rfl rfl rfl ?_
            refine g_aload_n (n := 103) rfl rfl rfl ?_
            refine g_iload_n (n := 104) rfl rfl rfl ?_
            refine g_iload_n (n := 105) rfl rfl rfl ?_
            refine g_cP3 (n := 108) rfl rfl rfl rfl mt_X4_factsOf rfl rfl (r_k z_33) (sc_factsOf run33 ht) ?_
            refine g_cI5 (n := 111) rfl rfl rfl rfl mt_X4_leastRule rfl rfl (r_k z_33) (sc_leastRule hC) ?_
            rintro x56 M56 rfl
            refine g_istore (n := 113) rfl rfl ?_
            refine g_iload (n := 115) rfl rfl rfl ?_
            refine g_const (n := 116) rfl rfl (s_iconst (v := (-1)) (by decide)) ?_
            refine g_ine (n := 119) rfl rfl (fun h116 => ?_) (fun h116 => ?_)
            · skip
              refine g_const (n := 125) rfl rfl (s_bipush (v := 100) (by decide)) ?_
              refine g_iload (n := 127) rfl rfl rfl ?_
              refine g_iadd (n := 128) rfl rfl ?_
              refine g_retI rfl ?_
              rfl
            · skip
              refine g_const (n := 120) rfl rfl (s_iconst (v := (-1)) (by decide)) ?_
              refine g_goto rfl ?_
              refine g_retI rfl ?_
              rfl
          · skip
            refine g_const (n := 94) rfl rfl (s_sipush (v := 300) (by decide)) ?_
            refine g_iload (n := 96) rfl rfl rfl ?_
            refine g_iadd (n := 97) rfl rfl ?_
            refine g_retI rfl ?_
            rfl
        · skip
          refine g_const (n := 70) rfl rfl (s_sipush (v := 200) (by decide)) ?_
          refine g_iload (n := 72) rfl rfl rfl ?_
          refine g_iadd (n := 73) rfl rfl ?_
          refine g_retI rfl ?_
          rfl
    · skip
      refine g_aload_n (n := 26) rfl rfl rfl ?_
      refine g_getR (n := 29) rfl rfl z_33 rfl ?_
      refine g_getI (n := 32) rfl rfl z_1 rfl ?_
      refine g_iload (n := 34) rfl rfl rfl ?_
      refine g_iand (n := 35) rfl rfl ?_
      refine g_zeq (n := 38) rfl rfl (fun h35 => ?_) (fun h35 => ?_)
      · skip
        refine g_iload_n (n := 41) rfl rfl rfl ?_
        refine g_zle (n := 44) rfl rfl (fun h41 => ?_) (fun h41 => ?_)
        · skip
          refine g_aload_n (n := 99) rfl rfl rfl ?_
          refine g_const (n := 100) rfl rfl (s_iconst (v := 0) (by decide)) ?_
          refine g_iload_n (n := 101) rfl rfl rfl ?_
          refine g_iload_n (n := 102) rfl rfl rfl ?_
          refine g_aload_n (n := 103) rfl rfl rfl ?_
          refine g_iload_n (n := 104) rfl rfl rfl ?_
          refine g_iload_n (n := 105) rfl rfl rfl ?_
          refine g_cP3 (n := 108) rfl rfl rfl rfl mt_X4_factsOf rfl rfl (r_k z_33) (sc_factsOf run33 ht) ?_
          refine g_cI5 (n := 111) rfl rfl rfl rfl mt_X4_leastRule rfl rfl (r_k z_33) (sc_leastRule hC) ?_
          rintro x56 M56 rfl
          refine g_istore (n := 113) rfl rfl ?_
          refine g_iload (n := 115) rfl rfl rfl ?_
          refine g_const (n := 116) rfl rfl (s_iconst (v := (-1)) (by decide)) ?_
          refine g_ine (n := 119) rfl rfl (fun h116 => ?_) (fun h116 => ?_)
          · skip
            refine g_const (n := 125) rfl rfl (s_bipush (v := 100) (by decide)) ?_
            refine g_iload (n := 127) rfl rfl rfl ?_
            refine g_iadd (n := 128) rfl rfl ?_
            refine g_retI rfl ?_
            rfl
          · skip
            refine g_const (n := 120) rfl rfl (s_iconst (v := (-1)) (by decide)) ?_
            refine g_goto rfl ?_
            refine g_retI rfl ?_
            rfl
        · skip
          have ht1 : 1 ≤ t := (jn_lt (a := 0) (by omega) (by omega)).mp h41
          refine g_aload_n (n := 45) rfl rfl rfl ?_
          refine g_const (n := 46) rfl rfl (s_iconst (v := 1) (by decide)) ?_
          refine g_iload_n (n := 47) rfl rfl rfl ?_
          refine g_iload_n (n := 48) rfl rfl rfl ?_
          refine g_aload_n (n := 49) rfl rfl rfl ?_
          refine g_iload_n (n := 50) rfl rfl rfl ?_
          refine g_iload_n (n := 51) rfl rfl rfl ?_
          refine g_const (n := 52) rfl rfl (s_iconst (v := 1) (by decide)) ?_
          refine g_isub (n := 53) rfl rfl ?_
          rw [show Int32.ofNat t - 1 = Int32.ofNat (t - 1) from jn_sub (b := 1) ht1]
          refine g_cP3 (n := 56) rfl rfl rfl rfl mt_X4_factsOf rfl rfl (r_k z_33) (sc_factsOf run33 (by omega)) ?_
          refine g_cI5 (n := 59) rfl rfl rfl rfl mt_X4_leastRule rfl rfl (r_k z_33) (sc_leastRule hC) ?_
          rintro x56 M56 rfl
          refine g_istore (n := 61) rfl rfl ?_
          refine g_iload (n := 63) rfl rfl rfl ?_
          refine g_const (n := 64) rfl rfl (s_iconst (v := (-1)) (by decide)) ?_
          refine g_ieq (n := 67) rfl rfl (fun h64 => ?_) (fun h64 => ?_)
          · skip
            refine g_aload_n (n := 75) rfl rfl rfl ?_
            refine g_iload_n (n := 76) rfl rfl rfl ?_
            refine g_iload_n (n := 77) rfl rfl rfl ?_
            refine g_const (n := 78) rfl rfl (s_iconst (v := 1) (by decide)) ?_
            refine g_isub (n := 79) rfl rfl ?_
            refine g_iload_n (n := 80) rfl rfl rfl ?_
            rw [show Int32.ofNat t - 1 = Int32.ofNat (t - 1) from jn_sub (b := 1) ht1]
            refine g_cI4 (n := 83) rfl rfl rfl rfl mt_X4_leastLetter rfl rfl (r_k z_33) (sc_leastLetter hC (by omega)) ?_
            rintro x80 M80 rfl
            refine g_istore (n := 85) rfl rfl ?_
            refine g_iload (n := 87) rfl rfl rfl ?_
            refine g_const (n := 88) rfl rfl (s_iconst (v := (-1)) (by decide)) ?_
            refine g_ieq (n := 91) rfl rfl (fun h88 => ?_) (fun h88 => ?_)
            · skip
              refine g_aload_n (n := 99) rfl rfl rfl ?_
              refine g_const (n := 100) rfl rfl (s_iconst (v := 0) (by decide)) ?_
              refine g_iload_n (n := 101) rfl rfl rfl ?_
              refine g_iload_n (n := 102) rfl rfl rfl ?_
              refine g_aload_n (n := 103) rfl rfl rfl ?_
              refine g_iload_n (n := 104) rfl rfl rfl ?_
              refine g_iload_n (n := 105) rfl rfl rfl ?_
              refine g_cP3 (n := 108) rfl rfl rfl rfl mt_X4_factsOf rfl rfl (r_k z_33) (sc_factsOf run33 ht) ?_
              refine g_cI5 (n := 111) rfl rfl rfl rfl mt_X4_leastRule rfl rfl (r_k z_33) (sc_leastRule hC) ?_
              rintro x56 M56 rfl
              refine g_istore (n := 113) rfl rfl ?_
              refine g_iload (n := 115) rfl rfl rfl ?_
              refine g_const (n := 116) rfl rfl (s_iconst (v := (-1)) (by decide)) ?_
              refine g_ine (n := 119) rfl rfl (fun h116 => ?_) (fun h116 => ?_)
              · skip
                refine g_const (n := 125) rfl rfl (s_bipush (v := 100) (by decide)) ?_
                refine g_iload (n := 127) rfl rfl rfl ?_
                refine g_iadd (n := 128) rfl rfl ?_
                refine g_retI rfl ?_
                rfl
              · skip
                refine g_const (n := 120) rfl rfl (s_iconst (v := (-1)) (by decide)) ?_
                refine g_goto rfl ?_
                refine g_retI rfl ?_
                rfl
            · skip
              refine g_const (n := 94) rfl rfl (s_sipush (v := 300) (by decide)) ?_
              refine g_iload (n := 96) rfl rfl rfl ?_
              refine g_iadd (n := 97) rfl rfl ?_
              refine g_retI rfl ?_
              rfl
          · skip
            refine g_const (n := 70) rfl rfl (s_sipush (v := 200) (by decide)) ?_
            refine g_iload (n := 72) rfl rfl rfl ?_
            refine g_iadd (n := 73) rfl rfl ?_
            refine g_retI rfl ?_
            rfl
      · skip
        refine g_const (n := 39) rfl rfl (s_iconst (v := 0) (by decide)) ?_
        refine g_retI rfl ?_
        rfl
  · skip
    refine g_const (n := 20) rfl rfl (s_iconst (v := (-1)) (by decide)) ?_
    refine g_retI rfl ?_
    rfl
-- the hand
set_option maxRecDepth 20000 in
theorem lp_strikeHand {k e : Nat} {l : Int32} (hC : CW E T M n rs) (hk4 : k ≤ 4) (hk : M 0 6 = Int32.ofNat k) (hb : ∀ j, j < k → cBlow (M 1 2) (M 39 j) = true) (he : M 1 2 = Int32.ofNat e) (he6 : e ≤ 6) : ∀ i, i ≤ k → ∀ M1, cKeep M M1 → jU 7 (M1 33 6) → Go [] (d + 7) none tabX8_strikeHandBut 9 [(0, .ref 0), (1, .int l), (2, .int (Int32.ofNat i))] [] (hp (zz E T) M1) 0 0 (QV (zz E T) (cKeep M)) := by
  refine loop_up k ?_
  intro i hi ih M1 k1 c1
  refine g_iload_n (n := 10) rfl rfl rfl ?_
  refine g_aload_n (n := 11) rfl rfl rfl ?_
  refine g_getI (n := 14) rfl rfl z_0 rfl ?_
  refine g_ige (n := 17) rfl rfl (fun h14 => ?_) (fun h14 => ?_)
  · skip
    refine g_aload_n (n := 42) rfl rfl rfl ?_
    refine g_getR (n := 45) rfl rfl z_0 rfl ?_
    refine g_cV1 (n := 48) rfl rfl rfl rfl mt_X4_goOn rfl rfl (r_k z_33) (sc_goOn run33 (hC.keep k1) c1) ?_
    intro M3 k3
    refine g_retV rfl ?_
    exact k1.tr k3
  · skip
    rw [k1 0 6 rfl, hk] at h14
    have g9 := (jn_lt (by omega) (by omega)).mp h14
    have hbi := hb i g9
    rw [he] at hbi
    obtain ⟨x, t, h, hx, ex, et, hte, eh, h4, -, -⟩ := blow_ok he6 hbi
    refine g_iload_n (n := 18) rfl rfl rfl ?_
    refine g_iload_n (n := 19) rfl rfl rfl ?_
    refine g_ieq (n := 22) rfl rfl (fun h19 => ?_) (fun h19 => ?_)
    · skip
      refine g_iinc (n := 38) rfl rfl rfl (jn_1 _) ?_
      refine g_goto rfl ?_
      first | exact ih g9 _ (k1.tr k2) c2 | exact ih g9 _ k1 c1
    · skip
      refine g_aload_n (n := 23) rfl rfl rfl ?_
      refine g_getR (n := 26) rfl rfl z_0 rfl ?_
      refine g_aload_n (n := 27) rfl rfl rfl ?_
      refine g_getR (n := 30) rfl rfl z_0 rfl ?_
      refine g_iload_n (n := 31) rfl rfl rfl ?_
      refine g_iald (n := 32) rfl rfl z_39 rfl rfl (by omega) ?_
      rw [k1 39 i rfl]
      refine g_cV2 (n := 35) rfl rfl rfl rfl mt_X4_strike rfl rfl (r_k z_33) (sc_strike run33 et (by omega) eh h4 c1) ?_
      rintro M2 ⟨k2, c2⟩
      refine g_iinc (n := 38) rfl rfl rfl (jn_1 _) ?_
      refine g_goto rfl ?_
      first | exact ih g9 _ (k1.tr k2) c2 | exact ih g9 _ k1 c1
set_option maxRecDepth 20000 in
theorem sc_strikeHand {l : Int32} (hC : CW E T M n rs) (hH : HandOK M) : EvV (d + 8) miX8_strikeHandBut [.ref 0, .int l] (zz E T) M (cKeep M) := by
  obtain ⟨k, hk4, hk, hb⟩ := hH
  obtain ⟨e, -, he6, he⟩ := hC.2.2.2.2.1
  refine ev_of mt_X8_strikeHandBut rfl ?_
  refine g_aload_n (n := 1) rfl rfl rfl ?_
  refine g_getR (n := 4) rfl rfl z_0 rfl ?_
  refine g_cV1 (n := 7) rfl rfl rfl rfl mt_X4_strikeNone rfl rfl (r_k z_33) (sc_strikeNone run33) ?_
  rintro M1 ⟨k1, c1⟩
  refine g_const (n := 8) rfl rfl (s_iconst (v := 0) (by decide)) ?_
  refine g_istore_n (n := 9) rfl rfl ?_
  exact lp_strikeHand hC hk4 hk hb he he6 0 (by omega) M1 k1 (by rw [c1]; exact ⟨0, by omega, rfl⟩)
set_option maxRecDepth 20000 in
theorem sc_runHand (hC : CW E T M n rs) (hH : HandOK M) : EvV (d + 9) miX8_runHand [.ref 0] (zz E T) M (Fr cB M) := by
  refine ev_of mt_X8_runHand rfl ?_
  refine g_aload_n (n := 1) rfl rfl rfl ?_
  refine g_getI (n := 4) rfl rfl z_0 rfl ?_
  refine g_zne (n := 7) rfl rfl (fun h4 => ?_) (fun h4 => ?_)
  · skip
    refine g_retV rfl ?_
    first | exact Fr.rf | exact k1.toB.up rfl
  · skip
    refine g_aload_n (n := 8) rfl rfl rfl ?_
    refine g_const (n := 9) rfl rfl (s_iconst (v := (-1)) (by decide)) ?_
    refine g_cV2 (n := 12) rfl rfl rfl rfl mt_X8_strikeHandBut rfl rfl (r_k z_0) (sc_strikeHand hC hH) ?_
    intro M1 k1
    refine g_aload_n (n := 13) rfl rfl rfl ?_
    refine g_const (n := 14) rfl rfl (s_iconst (v := 1) (by decide)) ?_
    refine g_putI (n := 17) rfl rfl z_0 rfl rfl ?_
    refine g_retV rfl ?_
    first | exact Fr.rf | exact k1.toB.up rfl
set_option maxRecDepth 20000 in
theorem lp_place {k : Nat} {x : Int32} (hk4 : k ≤ 4) (hk : M 0 6 = Int32.ofNat k) : ∀ i, i ≤ k → ∀ p, jP k p → Go [] d (some .int) tabX8_placeOfLeastAbove 4 [(0, .ref 0), (1, .int x), (2, .int p), (3, .int (Int32.ofNat i))] [] (hp (zz E T) M) 0 0 (QI (zz E T) (fun p M' => M' = M ∧ jP k p)) := by
  refine loop_up k ?_
  intro i hi ih p hpl
  refine g_iload_n (n := 5) rfl rfl rfl ?_
  refine g_aload_n (n := 6) rfl rfl rfl ?_
  refine g_getI (n := 9) rfl rfl z_0 rfl ?_
  refine g_ige (n := 12) rfl rfl (fun h9 => ?_) (fun h9 => ?_)
  · skip
    refine g_iload_n (n := 51) rfl rfl rfl ?_
    refine g_retI rfl ?_
    exact ⟨rfl, hpl⟩
  · skip
    rw [hk] at h9
    have g9 := (jn_lt (by omega) (by omega)).mp h9
    refine g_aload_n (n := 13) rfl rfl rfl ?_
    refine g_getR (n := 16) rfl rfl z_0 rfl ?_
    refine g_iload_n (n := 17) rfl rfl rfl ?_
    refine g_iald (n := 18) rfl rfl z_39 rfl rfl (by omega) ?_
    refine g_iload_n (n := 19) rfl rfl rfl ?_
    refine g_ile (n := 22) rfl rfl (fun h19 => ?_) (fun h19 => ?_)
    · skip
      refine g_iinc (n := 47) rfl rfl rfl (jn_1 _) ?_
      refine g_goto rfl ?_
      first | exact ih g9 _ hpl | exact ih g9 _ (Or.inr ⟨i, g9, rfl⟩)
    · skip
      refine g_iload_n (n := 23) rfl rfl rfl ?_
      refine g_const (n := 24) rfl rfl (s_iconst (v := (-1)) (by decide)) ?_
      refine g_ieq (n := 27) rfl rfl (fun h24 => ?_) (fun h24 => ?_)
      · skip
        refine g_iload_n (n := 43) rfl rfl rfl ?_
        refine g_istore_n (n := 44) rfl rfl ?_
        refine g_iinc (n := 47) rfl rfl rfl (jn_1 _) ?_
        refine g_goto rfl ?_
        first | exact ih g9 _ hpl | exact ih g9 _ (Or.inr ⟨i, g9, rfl⟩)
      · skip
        obtain ⟨j, hj, ej⟩ := hpl.resolve_left h24
        refine g_aload_n (n := 28) rfl rfl rfl ?_
        refine g_getR (n := 31) rfl rfl z_0 rfl ?_
        refine g_iload_n (n := 32) rfl rfl rfl ?_
        refine g_iald (n := 33) rfl rfl z_39 rfl rfl (by omega) ?_
        refine g_aload_n (n := 34) rfl rfl rfl ?_
        refine g_getR (n := 37) rfl rfl z_0 rfl ?_
        refine g_iload_n (n := 38) rfl rfl rfl ?_
        refine g_iald (n := 39) rfl rfl z_39 rfl ej (by omega) ?_
        refine g_ige (n := 42) rfl rfl (fun h39 => ?_) (fun h39 => ?_)
        · skip
          refine g_iinc (n := 47) rfl rfl rfl (jn_1 _) ?_
          refine g_goto rfl ?_
          first | exact ih g9 _ hpl | exact ih g9 _ (Or.inr ⟨i, g9, rfl⟩)
        · skip
          refine g_iload_n (n := 43) rfl rfl rfl ?_
          refine g_istore_n (n := 44) rfl rfl ?_
          refine g_iinc (n := 47) rfl rfl rfl (jn_1 _) ?_
          refine g_goto rfl ?_
          first | exact ih g9 _ hpl | exact ih g9 _ (Or.inr ⟨i, g9, rfl⟩)
set_option maxRecDepth 20000 in
theorem sc_place {k : Nat} {x : Int32} (hk4 : k ≤ 4) (hk : M 0 6 = Int32.ofNat k) : EvI (d + 1) miX8_placeOfLeastAbove [.ref 0, .int x] (zz E T) M (fun p M' => M' = M ∧ jP k p) := by
  refine ev_of mt_X8_placeOfLeastAbove rfl ?_
  refine g_const (n := 1) rfl rfl (s_iconst (v := (-1)) (by decide)) ?_
  refine g_istore_n (n := 2) rfl rfl ?_
  refine g_const (n := 3) rfl rfl (s_iconst (v := 0) (by decide)) ?_
  refine g_istore_n (n := 4) rfl rfl ?_
  exact lp_place hk4 hk 0 (by omega) _ (Or.inl rfl)
/-- what changes the hand writes -/
def cHd (q j : Nat) : Bool := cB q j || (Nat.beq q 39 || (Nat.beq q 0 && Nat.beq j 6))
set_option maxRecDepth 20000 in
theorem cHd_of {q j : Nat} (h : cB q j = true) : cHd q j = true := by unfold cHd; rw [h]; rfl
set_option maxRecDepth 20000 in
theorem cHd_hi {q j : Nat} (h : 61 ≤ q) : cHd q j = false := by
  have e : ∀ k, k < 61 → Nat.beq q k = false := fun k hk => by
    cases hb : Nat.beq q k with
    | false => rfl
    | true => have := Nat.eq_of_beq_eq_true hb; omega
  simp only [cHd, cB_hi h, e 39 (by omega), e 0 (by omega), Bool.false_and, Bool.or_self]
set_option maxRecDepth 20000 in
theorem lp_drop {k p : Nat} (hk4 : k ≤ 4) (hp0 : p < k) : ∀ i, i ≤ k → ∀ M1, p ≤ i → Fr cHd M M1 → M1 0 6 = Int32.ofNat k → (∀ j, j < k → cBlow (M1 1 2) (M1 39 j) = true) → Go [] d none tabX8_dropFromHand 2 [(0, .ref 0), (1, .int (Int32.ofNat p)), (2, .int (Int32.ofNat i))] [] (hp (zz E T) M1) 0 0 (QV (zz E T) (fun M' => Fr cHd M M' ∧ M' 0 6 = Int32.ofNat (k - 1) ∧ HandOK M')) := by
  refine loop_up k ?_
  intro i hi ih M1 hpi f1 e1 b1
  refine g_iload_n (n := 3) rfl rfl rfl ?_
  refine g_const (n := 4) rfl rfl (s_iconst (v := 1) (by decide)) ?_
  refine g_iadd (n := 5) rfl rfl ?_
  refine g_aload_n (n := 6) rfl rfl rfl ?_
  refine g_getI (n := 9) rfl rfl z_0 rfl ?_
  rw [show Int32.ofNat i + 1 = Int32.ofNat (i + 1) from jn_add i 1]
  refine g_ige (n := 12) rfl rfl (fun h9 => ?_) (fun h9 => ?_)
  · skip
    refine g_aload_n (n := 33) rfl rfl rfl ?_
    refine g_dup (n := 34) rfl rfl ?_
    refine g_getI (n := 37) rfl rfl z_0 rfl ?_
    refine g_const (n := 38) rfl rfl (s_iconst (v := 1) (by decide)) ?_
    refine g_isub (n := 39) rfl rfl ?_
    refine g_putI (n := 42) rfl rfl z_0 rfl rfl ?_
    refine g_retV rfl ?_
    have e2 : M1 0 6 - 1 = Int32.ofNat (k - 1) := by rw [e1]; exact jn_sub (b := 1) (by omega)
    exact ⟨f1.up rfl, e2, k - 1, by omega, e2, fun j hj => b1 j (by omega)⟩
  · skip
    rw [e1] at h9
    have g9 := (jn_lt (by omega) (by omega)).mp h9
    refine g_aload_n (n := 13) rfl rfl rfl ?_
    refine g_getR (n := 16) rfl rfl z_0 rfl ?_
    refine g_iload_n (n := 17) rfl rfl rfl ?_
    refine g_aload_n (n := 18) rfl rfl rfl ?_
    refine g_getR (n := 21) rfl rfl z_0 rfl ?_
    refine g_iload_n (n := 22) rfl rfl rfl ?_
    refine g_const (n := 23) rfl rfl (s_iconst (v := 1) (by decide)) ?_
    refine g_iadd (n := 24) rfl rfl ?_
    refine g_iald (n := 25) rfl rfl z_39 rfl (jn_add i 1) (by omega) ?_
    refine g_iast (n := 26) rfl rfl z_39 rfl rfl (by omega) ?_
    refine g_iinc (n := 29) rfl rfl rfl (jn_1 _) ?_
    refine g_goto rfl ?_
    refine ih (by omega) _ (by omega) ?_ ?_ ?_
    · exact f1.up rfl
    · exact e1
    · intro j hj
      show cBlow (M1 1 2) (mup M1 39 i _ 39 j) = true
      by_cases e : j = i
      · subst e; rw [mup_same]; exact b1 _ g9
      · rw [mup_j e]; exact b1 j hj
set_option maxRecDepth 20000 in
theorem sc_drop {k p : Nat} (hk4 : k ≤ 4) (hp0 : p < k) (hk : M 0 6 = Int32.ofNat k) (hb : ∀ j, j < k → cBlow (M 1 2) (M 39 j) = true) : EvV (d + 1) miX8_dropFromHand [.ref 0, .int (Int32.ofNat p)] (zz E T) M (fun M' => Fr cHd M M' ∧ M' 0 6 = Int32.ofNat (k - 1) ∧ HandOK M') := by
  refine ev_of mt_X8_dropFromHand rfl ?_
  refine g_iload_n (n := 1) rfl rfl rfl ?_
  refine g_istore_n (n := 2) rfl rfl ?_
  exact lp_drop hk4 hp0 p (by omega) M (Nat.le_refl _) Fr.rf hk hb
set_option maxRecDepth 20000 in
theorem lp_needless (hC : CW E T M n rs) : ∀ i, i ≤ 4 → ∀ g p k M1, k ≤ 4 → jP k p → Fr cHd M M1 → M1 0 6 = Int32.ofNat k → HandOK M1 → Go [] (d + 8) (some .boolean) tabX8_dropNeedless 10 [(0, .ref 0), (1, .int (bI g)), (2, .int p), (3, .int (Int32.ofNat i))] [] (hp (zz E T) M1) 0 0 (QI (zz E T) (fun _ M' => Fr cHd M M' ∧ HandOK M')) := by
  refine loop_up 4 ?_
  intro i hi ih g p k M1 hk4 hpl f1 e1 h1
  have hC1 : CW E T M1 n rs := hC.fr f1 rfl rfl rfl (fun q j hq => cHd_hi hq)
  have hb1 : ∀ j, j < k → cBlow (M1 1 2) (M1 39 j) = true := by
    obtain ⟨k', hk', ek', hb'⟩ := h1
    have := jn_inj (by omega) (by omega) (ek'.symm.trans e1)
    subst this
    exact hb'
  refine g_iload_n (n := 11) rfl rfl rfl ?_
  refine g_const (n := 12) rfl rfl (s_iconst (v := (-1)) (by decide)) ?_
  refine g_ieq (n := 15) rfl rfl (fun h12 => ?_) (fun h12 => ?_)
  · skip
    refine g_iload_n (n := 64) rfl rfl rfl ?_
    refine g_retZ rfl bI01 ?_
    exact ⟨f1, h1⟩
  · skip
    obtain ⟨j, hj, ej⟩ := hpl.resolve_left h12
    refine g_iload_n (n := 16) rfl rfl rfl ?_
    refine g_const (n := 17) rfl rfl (s_iconst (v := 4) (by decide)) ?_
    refine g_ige (n := 20) rfl rfl (fun h17 => ?_) (fun h17 => ?_)
    · skip
      refine g_iload_n (n := 64) rfl rfl rfl ?_
      refine g_retZ rfl bI01 ?_
      exact ⟨f1, h1⟩
    · skip
      have g9 := (jn_lt (b := 4) (a := i) (by omega) (by omega)).mp h17
      refine g_aload_n (n := 21) rfl rfl rfl ?_
      refine g_getR (n := 24) rfl rfl z_0 rfl ?_
      refine g_iload_n (n := 25) rfl rfl rfl ?_
      refine g_iald (n := 26) rfl rfl z_39 rfl ej (by omega) ?_
      refine g_istore (n := 28) rfl rfl ?_
      refine g_aload_n (n := 29) rfl rfl rfl ?_
      refine g_iload_n (n := 30) rfl rfl rfl ?_
      refine g_cV2 (n := 33) rfl rfl rfl rfl mt_X8_strikeHandBut rfl rfl (r_k z_0) (sc_strikeHand hC1 h1) ?_
      intro M2 k2
      have e2 : M2 0 6 = Int32.ofNat k := (k2 0 6 rfl).trans e1
      have hb2 : ∀ j, j < k → cBlow (M2 1 2) (M2 39 j) = true := fun j hj => by rw [k2 1 2 rfl, k2 39 j rfl]; exact hb1 j hj
      have f2 : Fr cHd M M2 := f1.tr (k2.toB.mono (fun _ _ => cHd_of))
      have h2 : HandOK M2 := ⟨k, hk4, e2, hb2⟩
      obtain ⟨t, ht⟩ := sc_breaks (d := d + 7) run33 (hC1.keep k2)
      refine g_aload_n (n := 34) rfl rfl rfl ?_
      refine g_getR (n := 37) rfl rfl z_0 rfl ?_
      refine g_cP1 (n := 40) rfl rfl rfl rfl mt_X4_breaks rfl rfl (r_k z_33) (ht) ?_
      refine g_bz (n := 43) rfl rfl (fun h40 => ?_) (fun h40 => ?_)
      · skip
        refine g_aload_n (n := 51) rfl rfl rfl ?_
        refine g_iload (n := 53) rfl rfl rfl ?_
        refine g_cI2 (n := 56) rfl rfl rfl rfl mt_X8_placeOfLeastAbove rfl rfl (r_k z_0) (sc_place hk4 e2) ?_
        rintro x53 M53 ⟨rfl, hp5⟩
        refine g_istore_n (n := 57) rfl rfl ?_
        refine g_iinc (n := 60) rfl rfl rfl (jn_1 _) ?_
        refine g_goto rfl ?_
        refine go_only 4 ?_
        first | exact ih g9 true _ (k - 1) _ (by omega) hp5 (f2.tr f3) e3 h3 | exact ih g9 _ _ k _ hk4 hp5 f2 e2 h2
      · skip
        refine g_aload_n (n := 44) rfl rfl rfl ?_
        refine g_iload_n (n := 45) rfl rfl rfl ?_
        rw [ej]
        refine g_cV2 (n := 48) rfl rfl rfl rfl mt_X8_dropFromHand rfl rfl (r_k z_0) (sc_drop hk4 hj e2 hb2) ?_
        rintro M3 ⟨f3, e3, h3⟩
        refine g_const (n := 49) rfl rfl (s_iconst (v := 1) (by decide)) ?_
        refine g_istore_n (n := 50) rfl rfl ?_
        refine g_aload_n (n := 51) rfl rfl rfl ?_
        refine g_iload (n := 53) rfl rfl rfl ?_
        refine g_cI2 (n := 56) rfl rfl rfl rfl mt_X8_placeOfLeastAbove rfl rfl (r_k z_0) (sc_place (k := k - 1) (by omega) e3) ?_
        rintro x53 M53 ⟨rfl, hp5⟩
        refine g_istore_n (n := 57) rfl rfl ?_
        refine g_iinc (n := 60) rfl rfl rfl (jn_1 _) ?_
        refine g_goto rfl ?_
        refine go_only 4 ?_
        first | exact ih g9 true _ (k - 1) _ (by omega) hp5 (f2.tr f3) e3 h3 | exact ih g9 _ _ k _ hk4 hp5 f2 e2 h2
set_option maxRecDepth 20000 in
theorem sc_needless (hC : CW E T M n rs) (hH : HandOK M) : EvI (d + 9) miX8_dropNeedless [.ref 0] (zz E T) M (fun _ M' => Fr cHd M M' ∧ HandOK M') := by
  obtain ⟨k, hk4, hk, hb⟩ := id hH
  refine ev_of mt_X8_dropNeedless rfl ?_
  refine g_const (n := 1) rfl rfl (s_iconst (v := 0) (by decide)) ?_
  refine g_istore_n (n := 2) rfl rfl ?_
  refine g_aload_n (n := 3) rfl rfl rfl ?_
  refine g_const (n := 4) rfl rfl (s_iconst (v := (-1)) (by decide)) ?_
  refine g_cI2 (n := 7) rfl rfl rfl rfl mt_X8_placeOfLeastAbove rfl rfl (r_k z_0) (sc_place hk4 hk) ?_
  rintro x4 M4 ⟨rfl, hp4⟩
  refine g_istore_n (n := 8) rfl rfl ?_
  refine g_const (n := 9) rfl rfl (s_iconst (v := 0) (by decide)) ?_
  refine g_istore_n (n := 10) rfl rfl ?_
  exact lp_needless hC 0 (by omega) false _ k _ hk4 hp4 Fr.rf hk hH
set_option maxRecDepth 20000 in
theorem lp_shrinkC (hC : CW E T M n rs) : ∀ i, i ≤ 4 → ∀ x M1, Fr cHd M M1 → HandOK M1 → Go [] (d + 9) (some .int) tabX8_shrink 21 [(0, .ref 0), (1, .int x), (2, .int (Int32.ofNat i))] [] (hp (zz E T) M1) 0 0 (QI (zz E T) (fun _ M' => Fr cHd M M' ∧ HandOK M')) := by
  refine loop_up 4 ?_
  intro i hi ih x M1 f1 h1
  refine g_iload_n (n := 22) rfl rfl rfl ?_
  refine g_zeq (n := 25) rfl rfl (fun h22 => ?_) (fun h22 => ?_)
  · skip
    refine g_aload_n (n := 42) rfl rfl rfl ?_
    refine g_const (n := 43) rfl rfl (s_iconst (v := 0) (by decide)) ?_
    refine g_putI (n := 46) rfl rfl z_0 rfl rfl ?_
    refine g_aload_n (n := 47) rfl rfl rfl ?_
    refine g_getI (n := 50) rfl rfl z_0 rfl ?_
    refine g_retI rfl ?_
    exact ⟨f1.up rfl, h1⟩
  · skip
    refine g_iload_n (n := 26) rfl rfl rfl ?_
    refine g_const (n := 27) rfl rfl (s_iconst (v := 4) (by decide)) ?_
    refine g_ige (n := 30) rfl rfl (fun h27 => ?_) (fun h27 => ?_)
    · skip
      refine g_aload_n (n := 42) rfl rfl rfl ?_
      refine g_const (n := 43) rfl rfl (s_iconst (v := 0) (by decide)) ?_
      refine g_putI (n := 46) rfl rfl z_0 rfl rfl ?_
      refine g_aload_n (n := 47) rfl rfl rfl ?_
      refine g_getI (n := 50) rfl rfl z_0 rfl ?_
      refine g_retI rfl ?_
      exact ⟨f1.up rfl, h1⟩
    · skip
      have g9 := (jn_lt (b := 4) (a := i) (by omega) (by omega)).mp h27
      refine g_aload_n (n := 31) rfl rfl rfl ?_
      refine g_cI1 (n := 34) rfl rfl rfl rfl mt_X8_dropNeedless rfl rfl (r_k z_0) (sc_needless (hC.fr f1 rfl rfl rfl (fun q j hq => cHd_hi hq)) h1) ?_
      rintro x31 M2 ⟨f2, h2⟩
      refine g_istore_n (n := 35) rfl rfl ?_
      refine g_iinc (n := 38) rfl rfl rfl (jn_1 _) ?_
      refine g_goto rfl ?_
      exact ih g9 _ _ (f1.tr f2) h2
set_option maxRecDepth 20000 in
theorem HandOK.fr (h : HandOK M) {M1 : Mem} (f : Fr cB M M1) : HandOK M1 := by
  obtain ⟨k, hk4, hk, hb⟩ := h
  exact ⟨k, hk4, (f 0 6 rfl).trans hk, fun j hj => by rw [f 1 2 rfl, f 39 j rfl]; exact hb j hj⟩
set_option maxRecDepth 20000 in
theorem CW.frB (hC : CW E T M n rs) {M1 : Mem} (f : Fr cB M M1) : CW E T M1 n rs := hC.fr f rfl rfl rfl (fun q j hq => cB_hi hq)
set_option maxRecDepth 20000 in
theorem sc_shrink (hC : CW E T M n rs) (hH : HandOK M) : EvI (d + 10) miX8_shrink [.ref 0] (zz E T) M (fun _ M' => Fr cHd M M' ∧ HandOK M') := by
  refine ev_of mt_X8_shrink rfl ?_
  refine g_aload_n (n := 1) rfl rfl rfl ?_
  refine g_cV1 (n := 4) rfl rfl rfl rfl mt_X8_runHand rfl rfl (r_k z_0) (sc_runHand hC hH) ?_
  intro M1 f1
  obtain ⟨t, ht⟩ := sc_breaks (d := d + 8) run33 (hC.frB f1)
  refine g_aload_n (n := 5) rfl rfl rfl ?_
  refine g_getR (n := 8) rfl rfl z_0 rfl ?_
  refine g_cP1 (n := 11) rfl rfl rfl rfl mt_X4_breaks rfl rfl (r_k z_33) (ht) ?_
  refine g_bnz (n := 14) rfl rfl (fun h11 => ?_) (fun h11 => ?_)
  · skip
    refine g_const (n := 18) rfl rfl (s_iconst (v := 1) (by decide)) ?_
    refine g_istore_n (n := 19) rfl rfl ?_
    refine g_const (n := 20) rfl rfl (s_iconst (v := 0) (by decide)) ?_
    refine g_istore_n (n := 21) rfl rfl ?_
    exact lp_shrinkC hC 0 (by omega) _ _ (f1.mono (fun _ _ => cHd_of)) (hH.fr f1)
  · skip
    refine g_const (n := 16) rfl rfl (s_bipush (v := (-3)) (by decide)) ?_
    refine g_retI rfl ?_
    exact ⟨f1.mono (fun _ _ => cHd_of), hH.fr f1⟩
end HC
