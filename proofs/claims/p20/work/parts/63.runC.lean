/-! The program: runs -/
section RC
variable {E : Value} {T : List SH} {M : Mem} {d n : Nat} {rs : Nat → Nat}
set_option maxRecDepth 20000 in
theorem lp_settle36 {h w l x5 x6 x7 : Int32} (hC : CW E T M n rs) {Q : QT} (K : ∀ f, Go [] (d + 3) (some .int) tabX6_settle 141 [(0, .ref 6), (1, .int h), (2, .int w), (3, .int f), (4, .int l), (5, .int x5), (6, .int x6), (7, .int x7)] [] (hp (zz E T) M) 0 0 Q) : ∀ i, i ≤ n → ∀ f, Go [] (d + 3) (some .int) tabX6_settle 36 [(0, .ref 6), (1, .int h), (2, .int w), (3, .int f), (4, .int l), (5, .int x5), (6, .int x6), (7, .int x7), (8, .int (Int32.ofNat i))] [] (hp (zz E T) M) 0 0 Q := by
  obtain ⟨hL, hn12, hn, hR, -⟩ := hC
  refine loop_up n ?_
  intro i hi ih f
  refine g_iload (n := 38) rfl rfl rfl ?_
  refine g_aload_n (n := 39) rfl rfl rfl ?_
  refine g_getR (n := 42) rfl rfl z_6 rfl ?_
  refine g_getR (n := 45) rfl rfl z_2 rfl ?_
  refine g_cP1 (n := 48) rfl rfl rfl rfl mt_Jx4a65c_size_8abf5 rfl rfl (r_k z_3) (sc_size) ?_
  refine g_ige (n := 51) rfl rfl (fun h48 => ?_) (fun h48 => ?_)
  · skip
    refine go_only 8 ?_; exact K f
  · skip
    rw [hn] at h48
    have g9 := (jn_lt (by omega) (by omega)).mp h48
    obtain ⟨⟨hd, hd8, ehd⟩, -⟩ := hR i g9
    refine g_aload_n (n := 52) rfl rfl rfl ?_
    refine g_getR (n := 55) rfl rfl z_6 rfl ?_
    refine g_getR (n := 58) rfl rfl z_2 rfl ?_
    refine g_iload (n := 60) rfl rfl rfl ?_
    refine g_cP2 (n := 63) rfl rfl rfl rfl mt_Jx4a65c_get_915e3 rfl rfl (r_k z_3) (sc_get hL hn hn12 g9) ?_
    refine g_cast (n := 66) rfl rfl (hL.1 i g9).2 ?_
    refine g_astore (n := 68) rfl rfl ?_
    refine g_aload (n := 70) rfl rfl rfl ?_
    refine g_getI (n := 73) rfl rfl (hL.1 i g9).2 rfl ?_
    refine g_zne (n := 76) rfl rfl (fun h73 => ?_) (fun h73 => ?_)
    · skip
      refine g_const (n := 108) rfl rfl (s_iconst (v := 0) (by decide)) ?_
      refine g_istore (n := 110) rfl rfl ?_
      refine g_iload (n := 112) rfl rfl rfl ?_
      refine g_zeq (n := 115) rfl rfl (fun h112 => ?_) (fun h112 => ?_)
      · skip
        refine g_iinc (n := 138) rfl rfl rfl (jn_1 _) ?_
        refine g_goto rfl ?_
        refine go_only 9 ?_; exact ih g9 _
      · skip
        exact absurd h112 (by decide)
    · skip
      refine g_aload_n (n := 77) rfl rfl rfl ?_
      refine g_getR (n := 80) rfl rfl z_6 rfl ?_
      refine g_getR (n := 83) rfl rfl z_2 rfl ?_
      refine g_aload (n := 85) rfl rfl rfl ?_
      refine g_getI (n := 88) rfl rfl (hL.1 i g9).2 rfl ?_
      refine g_iald (n := 89) rfl rfl z_4 rfl ehd hd8 ?_
      refine g_iload (n := 91) rfl rfl rfl ?_
      refine g_ine (n := 94) rfl rfl (fun h91 => ?_) (fun h91 => ?_)
      · skip
        refine g_const (n := 108) rfl rfl (s_iconst (v := 0) (by decide)) ?_
        refine g_istore (n := 110) rfl rfl ?_
        refine g_iload (n := 112) rfl rfl rfl ?_
        refine g_zeq (n := 115) rfl rfl (fun h112 => ?_) (fun h112 => ?_)
        · skip
          refine g_iinc (n := 138) rfl rfl rfl (jn_1 _) ?_
          refine g_goto rfl ?_
          refine go_only 9 ?_; exact ih g9 _
        · skip
          exact absurd h112 (by decide)
      · skip
        refine g_aload_n (n := 95) rfl rfl rfl ?_
        refine g_iload (n := 97) rfl rfl rfl ?_
        refine g_cP2 (n := 100) rfl rfl rfl rfl mt_X6_counts rfl rfl (r_k z_6) (sc_counts) ?_
        refine g_bz (n := 103) rfl rfl (fun h100 => ?_) (fun h100 => ?_)
        · skip
          refine g_const (n := 108) rfl rfl (s_iconst (v := 0) (by decide)) ?_
          refine g_istore (n := 110) rfl rfl ?_
          refine g_iload (n := 112) rfl rfl rfl ?_
          refine g_zeq (n := 115) rfl rfl (fun h112 => ?_) (fun h112 => ?_)
          · skip
            refine g_iinc (n := 138) rfl rfl rfl (jn_1 _) ?_
            refine g_goto rfl ?_
            refine go_only 9 ?_; exact ih g9 _
          · skip
            exact absurd h112 (by decide)
        · skip
          refine g_const (n := 104) rfl rfl (s_iconst (v := 1) (by decide)) ?_
          refine g_goto rfl ?_
          refine g_istore (n := 110) rfl rfl ?_
          refine g_iload (n := 112) rfl rfl rfl ?_
          refine g_zeq (n := 115) rfl rfl (fun h112 => ?_) (fun h112 => ?_)
          · skip
            exact absurd h112 (by decide)
          · skip
            refine g_aload (n := 117) rfl rfl rfl ?_
            refine g_iload_n (n := 118) rfl rfl rfl ?_
            refine g_iload_n (n := 119) rfl rfl rfl ?_
            refine g_cP3 (n := 122) rfl rfl rfl rfl mt_X2_works rfl rfl (r_k (hL.1 i g9).2) (sc_works (hL.1 i g9).2) ?_
            refine g_bz (n := 125) rfl rfl (fun h122 => ?_) (fun h122 => ?_)
            · skip
              refine g_iinc (n := 138) rfl rfl rfl (jn_1 _) ?_
              refine g_goto rfl ?_
              refine go_only 9 ?_; exact ih g9 _
            · skip
              refine g_iload_n (n := 126) rfl rfl rfl ?_
              refine g_const (n := 127) rfl rfl (s_iconst (v := 1) (by decide)) ?_
              refine g_aload (n := 129) rfl rfl rfl ?_
              refine g_getI (n := 132) rfl rfl (hL.1 i g9).2 rfl ?_
              refine g_ishl (n := 133) rfl rfl ?_
              refine g_ior (n := 134) rfl rfl ?_
              refine g_istore_n (n := 135) rfl rfl ?_
              refine g_iinc (n := 138) rfl rfl rfl (jn_1 _) ?_
              refine g_goto rfl ?_
              refine go_only 9 ?_; exact ih g9 _
set_option maxRecDepth 20000 in
theorem lp_settle18 {h w l : Int32} (hC : CW E T M n rs) {Q : QT} (K : ∀ f, Go [] (d + 3) (some .int) tabX6_settle 160 [(0, .ref 6), (1, .int h), (2, .int w), (3, .int f), (4, .int l)] [] (hp (zz E T) M) 0 0 Q) : ∀ i, i ≤ 8 → ∀ f x5, Go [] (d + 3) (some .int) tabX6_settle 18 [(0, .ref 6), (1, .int h), (2, .int w), (3, .int f), (4, .int l), (5, .int x5), (6, .int (Int32.ofNat i))] [] (hp (zz E T) M) 0 0 Q := by
  refine loop_up 8 ?_
  intro i hi ih f x5
  have K2 : i < 8 → ∀ f x5 x7, Go [] (d + 3) (some .int) tabX6_settle 141 [(0, .ref 6), (1, .int h), (2, .int w), (3, .int f), (4, .int l), (5, .int x5), (6, .int (Int32.ofNat i)), (7, .int x7)] [] (hp (zz E T) M) 0 0 Q := by
    intro g f x5 x7
    refine g_iload_n (n := 142) rfl rfl rfl ?_
    refine g_iload (n := 144) rfl rfl rfl ?_
    refine g_ieq (n := 147) rfl rfl (fun h144 => ?_) (fun h144 => ?_)
    · skip
      refine g_const (n := 152) rfl rfl (s_iconst (v := 0) (by decide)) ?_
      refine g_istore (n := 154) rfl rfl ?_
      refine g_iinc (n := 157) rfl rfl rfl (jn_1 _) ?_
      refine g_goto rfl ?_
      refine go_only 7 ?_; exact ih g _ _
    · skip
      refine g_const (n := 148) rfl rfl (s_iconst (v := 1) (by decide)) ?_
      refine g_goto rfl ?_
      refine g_istore (n := 154) rfl rfl ?_
      refine g_iinc (n := 157) rfl rfl rfl (jn_1 _) ?_
      refine g_goto rfl ?_
      refine go_only 7 ?_; exact ih g _ _
  refine g_iload (n := 20) rfl rfl rfl ?_
  refine g_zeq (n := 23) rfl rfl (fun h20 => ?_) (fun h20 => ?_)
  · skip
    refine go_only 5 ?_; exact K f
  · skip
    refine g_iload (n := 25) rfl rfl rfl ?_
    refine g_const (n := 27) rfl rfl (s_bipush (v := 8) (by decide)) ?_
    refine g_ige (n := 30) rfl rfl (fun h27 => ?_) (fun h27 => ?_)
    · skip
      refine go_only 5 ?_; exact K f
    · skip
      have g9 := (jn_lt (b := 8) (a := i) (by omega) (by omega)).mp h27
      refine g_iload_n (n := 31) rfl rfl rfl ?_
      refine g_istore (n := 33) rfl rfl ?_
      refine g_const (n := 34) rfl rfl (s_iconst (v := 0) (by decide)) ?_
      refine g_istore (n := 36) rfl rfl ?_
      exact lp_settle36 hC (fun f => K2 g9 f _ _) 0 (by omega) f
set_option maxRecDepth 20000 in
theorem lp_settle5 {h w : Int32} (hC : CW E T M n rs) : ∀ i, i ≤ 8 → ∀ f, Go [] (d + 3) (some .int) tabX6_settle 5 [(0, .ref 6), (1, .int h), (2, .int w), (3, .int f), (4, .int (Int32.ofNat i))] [] (hp (zz E T) M) 0 0 (QI (zz E T) (fun _ M' => M' = M)) := by
  refine loop_up 8 ?_
  intro i hi ih f
  have K2 : i < 8 → ∀ f, Go [] (d + 3) (some .int) tabX6_settle 160 [(0, .ref 6), (1, .int h), (2, .int w), (3, .int f), (4, .int (Int32.ofNat i))] [] (hp (zz E T) M) 0 0 (QI (zz E T) (fun _ M' => M' = M)) := by
    intro g f
    refine g_iinc (n := 163) rfl rfl rfl (jn_1 _) ?_
    refine g_goto rfl ?_
    exact ih g f
  refine g_iload (n := 7) rfl rfl rfl ?_
  refine g_const (n := 9) rfl rfl (s_bipush (v := 8) (by decide)) ?_
  refine g_ige (n := 12) rfl rfl (fun h9 => ?_) (fun h9 => ?_)
  · skip
    refine g_iload_n (n := 167) rfl rfl rfl ?_
    refine g_retI rfl ?_
    rfl
  · skip
    have g9 := (jn_lt (b := 8) (a := i) (by omega) (by omega)).mp h9
    refine g_const (n := 13) rfl rfl (s_iconst (v := 1) (by decide)) ?_
    refine g_istore (n := 15) rfl rfl ?_
    refine g_const (n := 16) rfl rfl (s_iconst (v := 0) (by decide)) ?_
    refine g_istore (n := 18) rfl rfl ?_
    exact lp_settle18 hC (K2 g9) 0 (by omega) f _
set_option maxRecDepth 20000 in
theorem sc_settle {h w : Int32} (hC : CW E T M n rs) : EvI (d + 4) miX6_settle [.ref 6, .int h, .int w] (zz E T) M (fun _ M' => M' = M) := by
  refine ev_of mt_X6_settle rfl ?_
  refine g_iload_n (n := 1) rfl rfl rfl ?_
  refine g_istore_n (n := 2) rfl rfl ?_
  refine g_const (n := 3) rfl rfl (s_iconst (v := 0) (by decide)) ?_
  refine g_istore (n := 5) rfl rfl ?_
  exact lp_settle5 hC 0 (by omega) _
set_option maxRecDepth 20000 in
theorem lp_learn16 {h w f : Int32} (hC : CW E T M n rs) {Q : QT} (K : ∀ x4 x5 x6, Go [] (d + 4) none tabX6_learn 127 [(0, .ref 6), (1, .int h), (2, .int w), (3, .int f), (4, .int x4), (5, .int x5), (6, .int x6)] [] (hp (zz E T) M) 0 0 Q) : ∀ i, i ≤ n → ∀ x4 x5, Go [] (d + 4) none tabX6_learn 16 [(0, .ref 6), (1, .int h), (2, .int w), (3, .int f), (4, .int x4), (5, .int x5), (6, .int (Int32.ofNat i))] [] (hp (zz E T) M) 0 0 Q := by
  obtain ⟨hL, hn12, hn, hR, -⟩ := hC
  refine loop_up n ?_
  intro i hi ih x4 x5
  refine g_iload (n := 18) rfl rfl rfl ?_
  refine g_aload_n (n := 19) rfl rfl rfl ?_
  refine g_getR (n := 22) rfl rfl z_6 rfl ?_
  refine g_getR (n := 25) rfl rfl z_2 rfl ?_
  refine g_cP1 (n := 28) rfl rfl rfl rfl mt_Jx4a65c_size_8abf5 rfl rfl (r_k z_3) (sc_size) ?_
  refine g_ige (n := 31) rfl rfl (fun h28 => ?_) (fun h28 => ?_)
  · skip
    refine go_only 7 ?_; exact K _ _ _
  · skip
    rw [hn] at h28
    have g9 := (jn_lt (by omega) (by omega)).mp h28
    refine g_aload_n (n := 32) rfl rfl rfl ?_
    refine g_getR (n := 35) rfl rfl z_6 rfl ?_
    refine g_getR (n := 38) rfl rfl z_2 rfl ?_
    refine g_iload (n := 40) rfl rfl rfl ?_
    refine g_cP2 (n := 43) rfl rfl rfl rfl mt_Jx4a65c_get_915e3 rfl rfl (r_k z_3) (sc_get hL hn hn12 g9) ?_
    refine g_cast (n := 46) rfl rfl (hL.1 i g9).2 ?_
    refine g_astore (n := 48) rfl rfl ?_
    refine g_aload_n (n := 49) rfl rfl rfl ?_
    refine g_iload (n := 51) rfl rfl rfl ?_
    refine g_cP2 (n := 54) rfl rfl rfl rfl mt_X6_counts rfl rfl (r_k z_6) (sc_counts) ?_
    refine g_bz (n := 57) rfl rfl (fun h54 => ?_) (fun h54 => ?_)
    · skip
      refine g_iinc (n := 124) rfl rfl rfl (jn_1 _) ?_
      refine g_goto rfl ?_
      refine go_only 7 ?_; exact ih g9 _ _
    · skip
      refine g_aload (n := 59) rfl rfl rfl ?_
      refine g_iload_n (n := 60) rfl rfl rfl ?_
      refine g_iload_n (n := 61) rfl rfl rfl ?_
      refine g_cP3 (n := 64) rfl rfl rfl rfl mt_X2_works rfl rfl (r_k (hL.1 i g9).2) (sc_works (hL.1 i g9).2) ?_
      refine g_bnz (n := 67) rfl rfl (fun h64 => ?_) (fun h64 => ?_)
      · skip
        refine g_aload (n := 72) rfl rfl rfl ?_
        refine g_getI (n := 75) rfl rfl (hL.1 i g9).2 rfl ?_
        refine g_const (n := 76) rfl rfl (s_iconst (v := 1) (by decide)) ?_
        refine g_ine (n := 79) rfl rfl (fun h76 => ?_) (fun h76 => ?_)
        · skip
          refine g_aload (n := 96) rfl rfl rfl ?_
          refine g_getI (n := 99) rfl rfl (hL.1 i g9).2 rfl ?_
          refine g_const (n := 100) rfl rfl (s_iconst (v := 2) (by decide)) ?_
          refine g_ine (n := 103) rfl rfl (fun h100 => ?_) (fun h100 => ?_)
          · skip
            refine g_iinc (n := 124) rfl rfl rfl (jn_1 _) ?_
            refine g_goto rfl ?_
            refine go_only 7 ?_; exact ih g9 _ _
          · skip
            refine g_iload (n := 105) rfl rfl rfl ?_
            refine g_aload (n := 107) rfl rfl rfl ?_
            refine g_getI (n := 110) rfl rfl (hL.1 i g9).2 rfl ?_
            refine g_aload (n := 112) rfl rfl rfl ?_
            refine g_getI (n := 115) rfl rfl (hL.1 i g9).2 rfl ?_
            refine g_cP2 (n := 118) rfl rfl rfl rfl mt_X8_bitOf rfl rfl rfl (sc_bitOf) ?_
            refine g_ior (n := 119) rfl rfl ?_
            refine g_istore (n := 121) rfl rfl ?_
            refine g_iinc (n := 124) rfl rfl rfl (jn_1 _) ?_
            refine g_goto rfl ?_
            refine go_only 7 ?_; exact ih g9 _ _
        · skip
          refine g_iload (n := 81) rfl rfl rfl ?_
          refine g_const (n := 82) rfl rfl (s_iconst (v := 1) (by decide)) ?_
          refine g_aload (n := 84) rfl rfl rfl ?_
          refine g_getI (n := 87) rfl rfl (hL.1 i g9).2 rfl ?_
          refine g_ishl (n := 88) rfl rfl ?_
          refine g_ior (n := 89) rfl rfl ?_
          refine g_istore (n := 91) rfl rfl ?_
          refine g_goto rfl ?_
          refine g_iinc (n := 124) rfl rfl rfl (jn_1 _) ?_
          refine g_goto rfl ?_
          refine go_only 7 ?_; exact ih g9 _ _
      · skip
        refine g_goto rfl ?_
        refine g_iinc (n := 124) rfl rfl rfl (jn_1 _) ?_
        refine g_goto rfl ?_
        refine go_only 7 ?_; exact ih g9 _ _
set_option maxRecDepth 20000 in
theorem sc_learn {h w : Nat} (h4 : h < 4) (hw : w < 256) (hC : CW E T M n rs) : EvV (d + 5) miX6_learn [.ref 6, .int (Int32.ofNat h), .int (Int32.ofNat w)] (zz E T) M (cKeep M) := by
  have K2 : ∀ f x4 x5 x6, Go [] (d + 4) none tabX6_learn 127 [(0, .ref 6), (1, .int (Int32.ofNat h)), (2, .int (Int32.ofNat w)), (3, .int f), (4, .int x4), (5, .int x5), (6, .int x6)] [] (hp (zz E T) M) 0 0 (QV (zz E T) (cKeep M)) := by
    intro f x4 x5 x6
    refine g_iload_n (n := 128) rfl rfl rfl ?_
    refine g_iload_n (n := 129) rfl rfl rfl ?_
    refine g_cP2 (n := 132) rfl rfl rfl rfl mt_X6_placeOf rfl rfl rfl (sc_placeOf) ?_
    refine g_istore (n := 134) rfl rfl ?_
    refine g_aload_n (n := 135) rfl rfl rfl ?_
    refine g_getR (n := 138) rfl rfl z_6 rfl ?_
    refine g_iload (n := 140) rfl rfl rfl ?_
    refine g_iload_n (n := 141) rfl rfl rfl ?_
    refine g_iast (n := 142) rfl rfl z_7 rfl (ix256 h w) (by omega) ?_
    refine g_aload_n (n := 143) rfl rfl rfl ?_
    refine g_getR (n := 146) rfl rfl z_6 rfl ?_
    refine g_iload (n := 148) rfl rfl rfl ?_
    refine g_iload (n := 150) rfl rfl rfl ?_
    refine g_iast (n := 151) rfl rfl z_8 rfl (ix256 h w) (by omega) ?_
    refine g_aload_n (n := 152) rfl rfl rfl ?_
    refine g_getR (n := 155) rfl rfl z_6 rfl ?_
    refine g_iload (n := 157) rfl rfl rfl ?_
    refine g_iload (n := 159) rfl rfl rfl ?_
    refine g_iast (n := 160) rfl rfl z_9 rfl (ix256 h w) (by omega) ?_
    refine g_retV rfl ?_
    exact ((cKeep.rf.up rfl).up rfl).up rfl
  refine ev_of mt_X6_learn rfl ?_
  refine g_aload_n (n := 1) rfl rfl rfl ?_
  refine g_iload_n (n := 2) rfl rfl rfl ?_
  refine g_iload_n (n := 3) rfl rfl rfl ?_
  refine g_cI3 (n := 6) rfl rfl rfl rfl mt_X6_settle rfl rfl (r_k z_6) (sc_settle hC) ?_
  rintro x3 M3 rfl
  refine g_istore_n (n := 7) rfl rfl ?_
  refine g_const (n := 8) rfl rfl (s_iconst (v := 0) (by decide)) ?_
  refine g_istore (n := 10) rfl rfl ?_
  refine g_const (n := 11) rfl rfl (s_iconst (v := 0) (by decide)) ?_
  refine g_istore (n := 13) rfl rfl ?_
  refine g_const (n := 14) rfl rfl (s_iconst (v := 0) (by decide)) ?_
  refine g_istore (n := 16) rfl rfl ?_
  exact lp_learn16 hC (fun x4 x5 x6 => K2 _ x4 x5 x6) 0 (by omega) _ _
-- a run's cells: b, b + 1 ..
variable {b : Nat}
set_option maxRecDepth 20000 in
theorem st_live44 {h t p : Nat} {x4 : Int32} {M1 : Mem} (hb : IsRun b) (h4 : h < 4) (ht : t ≤ 6) (hp1 : p < 1024) (k1 : cKeep M M1) : Go [] (d + 5) none tabX4_live 44 [(0, .ref b), (1, .int (Int32.ofNat h)), (2, .int (Int32.ofNat t)), (3, .ref 6), (4, .int x4), (5, .int (Int32.ofNat p))] [] (hp (zz E T) M1) 0 0 (QV (zz E T) (cKeep M)) := by
  refine g_const (n := 45) rfl rfl (s_iconst (v := 4) (by decide)) ?_
  refine g_iload_n (n := 46) rfl rfl rfl ?_
  refine g_imul (n := 47) rfl rfl ?_
  refine g_iload_n (n := 48) rfl rfl rfl ?_
  refine g_iadd (n := 49) rfl rfl ?_
  rw [ix44]
  refine g_istore (n := 51) rfl rfl ?_
  refine g_aload_n (n := 52) rfl rfl rfl ?_
  refine g_getR (n := 55) rfl rfl (zr0 hb) rfl ?_
  refine g_iload (n := 57) rfl rfl rfl ?_
  refine g_aload_n (n := 58) rfl rfl rfl ?_
  refine g_getR (n := 61) rfl rfl z_6 rfl ?_
  refine g_iload (n := 63) rfl rfl rfl ?_
  refine g_iald (n := 64) rfl rfl z_9 rfl rfl (by omega) ?_
  refine g_iast (n := 65) rfl rfl (zr3 hb) rfl rfl (by omega) ?_
  refine g_aload_n (n := 66) rfl rfl rfl ?_
  refine g_getR (n := 69) rfl rfl (zr0 hb) rfl ?_
  refine g_iload_n (n := 70) rfl rfl rfl ?_
  refine g_dup2 (n := 71) rfl rfl ?_
  refine g_iald (n := 72) rfl rfl (zr2 hb) rfl rfl (by omega) ?_
  refine g_aload_n (n := 73) rfl rfl rfl ?_
  refine g_getR (n := 76) rfl rfl z_6 rfl ?_
  refine g_iload (n := 78) rfl rfl rfl ?_
  refine g_iald (n := 79) rfl rfl z_7 rfl rfl (by omega) ?_
  refine g_const (n := 81) rfl rfl (s_bipush (v := 8) (by decide)) ?_
  refine g_iload_n (n := 82) rfl rfl rfl ?_
  refine g_imul (n := 83) rfl rfl ?_
  refine g_ishl (n := 84) rfl rfl ?_
  refine g_ior (n := 85) rfl rfl ?_
  refine g_iast (n := 86) rfl rfl (zr2 hb) rfl rfl (by omega) ?_
  refine g_aload_n (n := 87) rfl rfl rfl ?_
  refine g_getR (n := 90) rfl rfl (zr0 hb) rfl ?_
  refine g_iload_n (n := 91) rfl rfl rfl ?_
  refine g_const (n := 92) rfl rfl (s_iconst (v := 1) (by decide)) ?_
  refine g_iadd (n := 93) rfl rfl ?_
  refine g_dup2 (n := 94) rfl rfl ?_
  refine g_iald (n := 95) rfl rfl (zr1 hb) rfl (jn_add t 1) (by omega) ?_
  refine g_aload_n (n := 96) rfl rfl rfl ?_
  refine g_getR (n := 99) rfl rfl z_6 rfl ?_
  refine g_iload (n := 101) rfl rfl rfl ?_
  refine g_iald (n := 102) rfl rfl z_8 rfl rfl (by omega) ?_
  refine g_const (n := 104) rfl rfl (s_bipush (v := 8) (by decide)) ?_
  refine g_iload_n (n := 105) rfl rfl rfl ?_
  refine g_imul (n := 106) rfl rfl ?_
  refine g_ishl (n := 107) rfl rfl ?_
  refine g_ior (n := 108) rfl rfl ?_
  refine g_iast (n := 109) rfl rfl (zr1 hb) rfl (jn_add t 1) (by omega) ?_
  refine g_aload_n (n := 110) rfl rfl rfl ?_
  refine g_getR (n := 113) rfl rfl (zr0 hb) rfl ?_
  refine g_iload_n (n := 114) rfl rfl rfl ?_
  refine g_const (n := 115) rfl rfl (s_iconst (v := 1) (by decide)) ?_
  refine g_iadd (n := 116) rfl rfl ?_
  refine g_dup2 (n := 117) rfl rfl ?_
  refine g_iald (n := 118) rfl rfl (zr1 hb) rfl (jn_add t 1) (by omega) ?_
  refine g_aload_n (n := 119) rfl rfl rfl ?_
  refine g_getR (n := 122) rfl rfl z_6 rfl ?_
  refine g_iload (n := 124) rfl rfl rfl ?_
  refine g_iald (n := 125) rfl rfl z_9 rfl rfl (by omega) ?_
  refine g_aload_n (n := 126) rfl rfl rfl ?_
  refine g_getR (n := 129) rfl rfl (zr0 hb) rfl ?_
  refine g_iload (n := 131) rfl rfl rfl ?_
  refine g_iald (n := 132) rfl rfl (zr4 hb) rfl rfl (by omega) ?_
  refine g_const (n := 133) rfl rfl (s_iconst (v := (-1)) (by decide)) ?_
  refine g_ixor (n := 134) rfl rfl ?_
  refine g_iand (n := 135) rfl rfl ?_
  refine g_ior (n := 136) rfl rfl ?_
  refine g_iast (n := 137) rfl rfl (zr1 hb) rfl (jn_add t 1) (by omega) ?_
  refine g_retV rfl ?_
  exact (((k1.up (cSc_run hb (by omega))).up (cSc_run hb (by omega))).up (cSc_run hb (by omega))).up (cSc_run hb (by omega))
set_option maxRecDepth 20000 in
theorem sc_live {h t : Nat} (hb : IsRun b) (h4 : h < 4) (ht : t ≤ 6) (hC : CW E T M n rs) : EvV (d + 6) miX4_live [.ref b, .int (Int32.ofNat h), .int (Int32.ofNat t)] (zz E T) M (cKeep M) := by
  obtain ⟨w, hw, ew⟩ := and255 (M (b + 1) t >>> (8 * Int32.ofNat h &&& 31))
  refine ev_of mt_X4_live rfl ?_
  refine g_aload_n (n := 1) rfl rfl rfl ?_
  refine g_getR (n := 4) rfl rfl (zr0 hb) rfl ?_
  refine g_getR (n := 7) rfl rfl z_1 rfl ?_
  refine g_astore_n (n := 8) rfl rfl ?_
  refine g_aload_n (n := 9) rfl rfl rfl ?_
  refine g_getR (n := 12) rfl rfl (zr0 hb) rfl ?_
  refine g_iload_n (n := 13) rfl rfl rfl ?_
  refine g_iald (n := 14) rfl rfl (zr1 hb) rfl rfl (by omega) ?_
  refine g_iload_n (n := 15) rfl rfl rfl ?_
  refine g_cP2 (n := 18) rfl rfl rfl rfl mt_X4_share rfl rfl rfl (sc_share) ?_
  rw [ew]
  refine g_istore (n := 20) rfl rfl ?_
  refine g_iload_n (n := 21) rfl rfl rfl ?_
  refine g_iload (n := 23) rfl rfl rfl ?_
  refine g_cP2 (n := 26) rfl rfl rfl rfl mt_X6_placeOf rfl rfl rfl (sc_placeOf) ?_
  rw [ix256]
  refine g_istore (n := 28) rfl rfl ?_
  refine g_aload_n (n := 29) rfl rfl rfl ?_
  refine g_iload (n := 31) rfl rfl rfl ?_
  refine g_cP2 (n := 34) rfl rfl rfl rfl mt_X6_knows rfl rfl (r_k z_6) (sc_knows (by omega)) ?_
  refine g_bnz (n := 37) rfl rfl (fun h34 => ?_) (fun h34 => ?_)
  · skip
    exact st_live44 hb h4 ht (by omega) cKeep.rf
  · skip
    refine g_aload_n (n := 38) rfl rfl rfl ?_
    refine g_iload_n (n := 39) rfl rfl rfl ?_
    refine g_iload (n := 41) rfl rfl rfl ?_
    refine g_cV3 (n := 44) rfl rfl rfl rfl mt_X6_learn rfl rfl (r_k z_6) (sc_learn h4 hw hC) ?_
    intro M41 q41
    exact st_live44 hb h4 ht (by omega) q41
set_option maxRecDepth 20000 in
theorem lp_goOn47 {t : Nat} {Q : QT} (hb : IsRun b) (ht : t ≤ 6) (hC : CW E T M n rs) (K : ∀ M1, cKeep M M1 → Go [] (d + 6) none tabX4_goOn 85 [(0, .ref b), (1, .int (Int32.ofNat t))] [] (hp (zz E T) M1) 0 0 Q) : ∀ i, i ≤ 4 → ∀ M1, cKeep M M1 → Go [] (d + 6) none tabX4_goOn 47 [(0, .ref b), (1, .int (Int32.ofNat t)), (2, .int (Int32.ofNat i))] [] (hp (zz E T) M1) 0 0 Q := by
  refine loop_up 4 ?_
  intro i hi ih M1 k1
  refine g_iload_n (n := 48) rfl rfl rfl ?_
  refine g_const (n := 49) rfl rfl (s_iconst (v := 4) (by decide)) ?_
  refine g_ige (n := 52) rfl rfl (fun h49 => ?_) (fun h49 => ?_)
  · skip
    refine go_only 2 ?_; exact K M1 k1
  · skip
    have g9 := (jn_lt (b := 4) (a := i) (by omega) (by omega)).mp h49
    have k2 : cKeep M (mup M1 (b + 3) (4 * t + i) 0) := k1.up (cSc_run hb (by omega))
    refine g_aload_n (n := 53) rfl rfl rfl ?_
    refine g_getR (n := 56) rfl rfl (zr0 hb) rfl ?_
    refine g_const (n := 57) rfl rfl (s_iconst (v := 4) (by decide)) ?_
    refine g_iload_n (n := 58) rfl rfl rfl ?_
    refine g_imul (n := 59) rfl rfl ?_
    refine g_iload_n (n := 60) rfl rfl rfl ?_
    refine g_iadd (n := 61) rfl rfl ?_
    refine g_const (n := 62) rfl rfl (s_iconst (v := 0) (by decide)) ?_
    refine g_iast (n := 63) rfl rfl (zr3 hb) rfl (ix44 t i) (by omega) ?_
    refine g_aload_n (n := 64) rfl rfl rfl ?_
    refine g_getR (n := 67) rfl rfl (zr0 hb) rfl ?_
    refine g_iload_n (n := 68) rfl rfl rfl ?_
    refine g_iald (n := 69) rfl rfl (zr5 hb) rfl rfl (by omega) ?_
    refine g_iload_n (n := 70) rfl rfl rfl ?_
    refine g_ile (n := 73) rfl rfl (fun h70 => ?_) (fun h70 => ?_)
    · skip
      refine g_iinc (n := 82) rfl rfl rfl (jn_1 _) ?_
      refine g_goto rfl ?_
      exact ih g9 _ k2
    · skip
      refine g_aload_n (n := 74) rfl rfl rfl ?_
      refine g_iload_n (n := 75) rfl rfl rfl ?_
      refine g_iload_n (n := 76) rfl rfl rfl ?_
      refine g_cV3 (n := 79) rfl rfl rfl rfl mt_X4_live rfl rfl (r_k (zr0 hb)) (sc_live hb g9 ht (hC.keep k2)) ?_
      intro M76 q76
      refine g_iinc (n := 82) rfl rfl rfl (jn_1 _) ?_
      refine g_goto rfl ?_
      exact ih g9 _ (k2.tr q76)
set_option maxRecDepth 20000 in
theorem lp_goOn18 {e : Nat} (hb : IsRun b) (he : M 1 2 = Int32.ofNat e) (he6 : e ≤ 6) (hC : CW E T M n rs) : ∀ i, i ≤ 7 → ∀ M1, cKeep M M1 → Go [] (d + 6) none tabX4_goOn 18 [(0, .ref b), (1, .int (Int32.ofNat i))] [] (hp (zz E T) M1) 0 0 (QV (zz E T) (cKeep M)) := by
  refine loop_up 7 ?_
  intro i hi ih M1 k1
  have K2 : i < 7 → ∀ M1, cKeep M M1 → Go [] (d + 6) none tabX4_goOn 85 [(0, .ref b), (1, .int (Int32.ofNat i))] [] (hp (zz E T) M1) 0 0 (QV (zz E T) (cKeep M)) := by
    intro g M1 k1
    refine g_iinc (n := 88) rfl rfl rfl (jn_1 _) ?_
    refine g_goto rfl ?_
    exact ih g M1 k1
  refine g_iload_n (n := 19) rfl rfl rfl ?_
  refine g_aload_n (n := 20) rfl rfl rfl ?_
  refine g_getR (n := 23) rfl rfl (zr0 hb) rfl ?_
  refine g_getI (n := 26) rfl rfl z_1 rfl ?_
  refine g_igt (n := 29) rfl rfl (fun h26 => ?_) (fun h26 => ?_)
  · skip
    refine g_aload_n (n := 92) rfl rfl rfl ?_
    refine g_const (n := 94) rfl rfl (s_bipush (v := 7) (by decide)) ?_
    refine g_putI (n := 97) rfl rfl (zr0 hb) rfl rfl ?_
    refine g_retV rfl ?_
    exact k1.up (cSc_run0 hb)
  · skip
    rw [k1 1 2 rfl, he] at h26
    have g9 := (jn_le (by omega) (by omega)).mp h26
    refine g_aload_n (n := 30) rfl rfl rfl ?_
    refine g_getR (n := 33) rfl rfl (zr0 hb) rfl ?_
    refine g_iload_n (n := 34) rfl rfl rfl ?_
    refine g_const (n := 35) rfl rfl (s_iconst (v := 0) (by decide)) ?_
    refine g_iast (n := 36) rfl rfl (zr2 hb) rfl rfl (by omega) ?_
    refine g_aload_n (n := 37) rfl rfl rfl ?_
    refine g_getR (n := 40) rfl rfl (zr0 hb) rfl ?_
    refine g_iload_n (n := 41) rfl rfl rfl ?_
    refine g_const (n := 42) rfl rfl (s_iconst (v := 1) (by decide)) ?_
    refine g_iadd (n := 43) rfl rfl ?_
    refine g_const (n := 44) rfl rfl (s_iconst (v := 0) (by decide)) ?_
    refine g_iast (n := 45) rfl rfl (zr1 hb) rfl (jn_add i 1) (by omega) ?_
    refine g_const (n := 46) rfl rfl (s_iconst (v := 0) (by decide)) ?_
    refine g_istore_n (n := 47) rfl rfl ?_
    refine lp_goOn47 hb (by omega) hC (K2 (by omega)) 0 (by omega) _ ?_
    exact (k1.up (cSc_run hb (by omega))).up (cSc_run hb (by omega))
set_option maxRecDepth 20000 in
theorem sc_goOn (hb : IsRun b) (hC : CW E T M n rs) (hc : jU 7 (M b 6)) : EvV (d + 7) miX4_goOn [.ref b] (zz E T) M (cKeep M) := by
  obtain ⟨e, -, he6, he⟩ := hC.2.2.2.2.1
  obtain ⟨c, hc7, ec⟩ := hc
  have ec2 : mup M (b + 1) 0 (M 1 3) b 6 = Int32.ofNat c := by rw [mup_q (by omega)]; exact ec
  refine ev_of mt_X4_goOn rfl ?_
  refine g_aload_n (n := 1) rfl rfl rfl ?_
  refine g_getR (n := 4) rfl rfl (zr0 hb) rfl ?_
  refine g_const (n := 5) rfl rfl (s_iconst (v := 0) (by decide)) ?_
  refine g_aload_n (n := 6) rfl rfl rfl ?_
  refine g_getR (n := 9) rfl rfl (zr0 hb) rfl ?_
  refine g_getI (n := 12) rfl rfl z_1 rfl ?_
  refine g_iast (n := 13) rfl rfl (zr1 hb) rfl (j := 0) rfl (by omega) ?_
  refine g_aload_n (n := 14) rfl rfl rfl ?_
  refine g_getI (n := 17) rfl rfl (zr0 hb) rfl ?_
  rw [ec2]
  refine g_istore_n (n := 18) rfl rfl ?_
  refine lp_goOn18 hb he he6 hC c hc7 _ ?_
  exact cKeep.rf.up (cSc_run hb (by omega))
set_option maxRecDepth 20000 in
theorem sc_strikeNone (hb : IsRun b) : EvV (d + 2) miX4_strikeNone [.ref b] (zz E T) M (fun M' => cKeep M M' ∧ M' b 6 = 0) := by
  refine ev_of mt_X4_strikeNone rfl ?_
  refine g_aload_n (n := 1) rfl rfl rfl ?_
  refine g_getR (n := 4) rfl rfl (zr0 hb) rfl ?_
  refine g_const (n := 5) rfl rfl (s_iconst (v := 0) (by decide)) ?_
  refine g_cV2 (n := 8) rfl rfl rfl rfl mt_J7_fill_53178 rfl rfl rfl (sp_fill (zr4 hb) rfl) ?_
  rintro M5 rfl
  refine g_aload_n (n := 9) rfl rfl rfl ?_
  refine g_getR (n := 12) rfl rfl (zr0 hb) rfl ?_
  refine g_const (n := 14) rfl rfl (s_bipush (v := 7) (by decide)) ?_
  refine g_cV2 (n := 17) rfl rfl rfl rfl mt_J7_fill_53178 rfl rfl rfl (sp_fill (zr5 hb) rfl) ?_
  rintro M14 rfl
  refine g_aload_n (n := 18) rfl rfl rfl ?_
  refine g_const (n := 19) rfl rfl (s_iconst (v := 0) (by decide)) ?_
  refine g_putI (n := 22) rfl rfl (zr0 hb) rfl rfl ?_
  refine g_retV rfl ?_
  exact ⟨((cKeep.rf.fl (fun j => cSc_run hb (by omega))).fl (fun j => cSc_run hb (by omega))).up (cSc_run0 hb), mup_same⟩
set_option maxRecDepth 20000 in
theorem sc_strike {x : Int32} {t h : Nat} (hb : IsRun b) (ht : cTick x = Int32.ofNat t) (ht6 : t ≤ 6) (hh : cHost x = Int32.ofNat h) (h4 : h < 4) (hc : jU 7 (M b 6)) : EvV (d + 3) miX4_strike [.ref b, .int x] (zz E T) M (fun M' => cKeep M M' ∧ jU 7 (M' b 6)) := by
  have ht7 : jU 7 (Int32.ofNat t) := ⟨t, by omega, rfl⟩
  refine ev_of mt_X4_strike rfl ?_
  refine g_iload_n (n := 1) rfl rfl rfl ?_
  refine g_cP1 (n := 4) rfl rfl rfl rfl mt_X0_tickOf rfl rfl rfl (sc_tickOf) ?_
  rw [ht]
  refine g_istore_n (n := 5) rfl rfl ?_
  refine g_iload_n (n := 6) rfl rfl rfl ?_
  refine g_cP1 (n := 9) rfl rfl rfl rfl mt_X0_hostOf rfl rfl rfl (sc_hostOf) ?_
  rw [hh]
  refine g_istore_n (n := 10) rfl rfl ?_
  refine g_iload_n (n := 11) rfl rfl rfl ?_
  refine g_cP1 (n := 14) rfl rfl rfl rfl mt_X0_isLoss rfl rfl rfl (sc_isLoss) ?_
  refine g_bz (n := 17) rfl rfl (fun h14 => ?_) (fun h14 => ?_)
  · skip
    refine g_aload_n (n := 45) rfl rfl rfl ?_
    refine g_getR (n := 48) rfl rfl (zr0 hb) rfl ?_
    refine g_iload_n (n := 49) rfl rfl rfl ?_
    refine g_aload_n (n := 50) rfl rfl rfl ?_
    refine g_getR (n := 53) rfl rfl (zr0 hb) rfl ?_
    refine g_iload_n (n := 54) rfl rfl rfl ?_
    refine g_iald (n := 55) rfl rfl (zr5 hb) rfl rfl (by omega) ?_
    refine g_iload_n (n := 56) rfl rfl rfl ?_
    refine g_min (n := 59) rfl rfl rfl ?_
    refine g_iast (n := 60) rfl rfl (zr5 hb) rfl rfl (by omega) ?_
    refine g_aload_n (n := 61) rfl rfl rfl ?_
    refine g_aload_n (n := 62) rfl rfl rfl ?_
    refine g_getI (n := 65) rfl rfl (zr0 hb) rfl ?_
    refine g_iload_n (n := 66) rfl rfl rfl ?_
    refine g_min (n := 69) rfl rfl rfl ?_
    refine g_putI (n := 72) rfl rfl (zr0 hb) rfl rfl ?_
    refine g_retV rfl ?_
    refine ⟨(cKeep.rf.up (cSc_run hb (by omega))).up (cSc_run0 hb), ?_⟩
    rw [mup_same, mup_q (by omega)]
    exact jU_min (by omega) hc ht7
  · skip
    refine g_aload_n (n := 18) rfl rfl rfl ?_
    refine g_getR (n := 21) rfl rfl (zr0 hb) rfl ?_
    refine g_const (n := 22) rfl rfl (s_iconst (v := 4) (by decide)) ?_
    refine g_iload_n (n := 23) rfl rfl rfl ?_
    refine g_imul (n := 24) rfl rfl ?_
    refine g_iload_n (n := 25) rfl rfl rfl ?_
    refine g_iadd (n := 26) rfl rfl ?_
    refine g_dup2 (n := 27) rfl rfl ?_
    refine g_iald (n := 28) rfl rfl (zr4 hb) rfl (ix44 t h) (by omega) ?_
    refine g_const (n := 31) rfl rfl (s_sipush (v := 255) (by decide)) ?_
    refine g_const (n := 33) rfl rfl (s_bipush (v := 8) (by decide)) ?_
    refine g_iload_n (n := 34) rfl rfl rfl ?_
    refine g_cP1 (n := 37) rfl rfl rfl rfl mt_X0_targetOf rfl rfl rfl (sc_targetOf) ?_
    refine g_imul (n := 38) rfl rfl ?_
    refine g_ishl (n := 39) rfl rfl ?_
    refine g_ior (n := 40) rfl rfl ?_
    refine g_iast (n := 41) rfl rfl (zr4 hb) rfl (ix44 t h) (by omega) ?_
    refine g_goto rfl ?_
    refine g_aload_n (n := 61) rfl rfl rfl ?_
    refine g_aload_n (n := 62) rfl rfl rfl ?_
    refine g_getI (n := 65) rfl rfl (zr0 hb) rfl ?_
    refine g_iload_n (n := 66) rfl rfl rfl ?_
    refine g_min (n := 69) rfl rfl rfl ?_
    refine g_putI (n := 72) rfl rfl (zr0 hb) rfl rfl ?_
    refine g_retV rfl ?_
    refine ⟨(cKeep.rf.up (cSc_run hb (by omega))).up (cSc_run0 hb), ?_⟩
    rw [mup_same, mup_q (by omega)]
    exact jU_min (by omega) hc ht7
set_option maxRecDepth 20000 in
theorem sc_strikeLike {c : Nat} {x : Int32} {t h : Nat} (hb : IsRun b) (hc : IsRun c) (ht : cTick x = Int32.ofNat t) (ht6 : t ≤ 6) (hh : cHost x = Int32.ofNat h) (h4 : h < 4) : EvV (d + 4) miX4_strikeLike [.ref b, .ref c, .int x] (zz E T) M (fun M' => cKeep M M' ∧ jU 7 (M' b 6)) := by
  refine ev_of mt_X4_strikeLike rfl ?_
  refine g_aload_n (n := 1) rfl rfl rfl ?_
  refine g_getR (n := 4) rfl rfl (zr0 hc) rfl ?_
  refine g_const (n := 5) rfl rfl (s_iconst (v := 0) (by decide)) ?_
  refine g_aload_n (n := 6) rfl rfl rfl ?_
  refine g_getR (n := 9) rfl rfl (zr0 hb) rfl ?_
  refine g_const (n := 10) rfl rfl (s_iconst (v := 0) (by decide)) ?_
  refine g_aload_n (n := 11) rfl rfl rfl ?_
  refine g_getR (n := 14) rfl rfl (zr0 hb) rfl ?_
  refine g_alen (n := 15) rfl rfl (zr1 hb) ?_
  refine g_copy (n := 18) rfl rfl rfl (zr1 hc) (zr1 hb) rfl (by omega) (by omega) rfl ?_
  refine g_aload_n (n := 19) rfl rfl rfl ?_
  refine g_getR (n := 22) rfl rfl (zr0 hc) rfl ?_
  refine g_const (n := 23) rfl rfl (s_iconst (v := 0) (by decide)) ?_
  refine g_aload_n (n := 24) rfl rfl rfl ?_
  refine g_getR (n := 27) rfl rfl (zr0 hb) rfl ?_
  refine g_const (n := 28) rfl rfl (s_iconst (v := 0) (by decide)) ?_
  refine g_aload_n (n := 29) rfl rfl rfl ?_
  refine g_getR (n := 32) rfl rfl (zr0 hb) rfl ?_
  refine g_alen (n := 33) rfl rfl (zr2 hb) ?_
  refine g_copy (n := 36) rfl rfl rfl (zr2 hc) (zr2 hb) rfl (by omega) (by omega) rfl ?_
  refine g_aload_n (n := 37) rfl rfl rfl ?_
  refine g_getR (n := 40) rfl rfl (zr0 hc) rfl ?_
  refine g_const (n := 41) rfl rfl (s_iconst (v := 0) (by decide)) ?_
  refine g_aload_n (n := 42) rfl rfl rfl ?_
  refine g_getR (n := 45) rfl rfl (zr0 hb) rfl ?_
  refine g_const (n := 46) rfl rfl (s_iconst (v := 0) (by decide)) ?_
  refine g_aload_n (n := 47) rfl rfl rfl ?_
  refine g_getR (n := 50) rfl rfl (zr0 hb) rfl ?_
  refine g_alen (n := 51) rfl rfl (zr3 hb) ?_
  refine g_copy (n := 54) rfl rfl rfl (zr3 hc) (zr3 hb) rfl (by omega) (by omega) rfl ?_
  refine g_aload_n (n := 55) rfl rfl rfl ?_
  refine g_getR (n := 58) rfl rfl (zr0 hc) rfl ?_
  refine g_const (n := 59) rfl rfl (s_iconst (v := 0) (by decide)) ?_
  refine g_aload_n (n := 60) rfl rfl rfl ?_
  refine g_getR (n := 63) rfl rfl (zr0 hb) rfl ?_
  refine g_const (n := 64) rfl rfl (s_iconst (v := 0) (by decide)) ?_
  refine g_aload_n (n := 65) rfl rfl rfl ?_
  refine g_getR (n := 68) rfl rfl (zr0 hb) rfl ?_
  refine g_alen (n := 69) rfl rfl (zr4 hb) ?_
  refine g_copy (n := 72) rfl rfl rfl (zr4 hc) (zr4 hb) rfl (by omega) (by omega) rfl ?_
  refine g_aload_n (n := 73) rfl rfl rfl ?_
  refine g_getR (n := 76) rfl rfl (zr0 hc) rfl ?_
  refine g_const (n := 77) rfl rfl (s_iconst (v := 0) (by decide)) ?_
  refine g_aload_n (n := 78) rfl rfl rfl ?_
  refine g_getR (n := 81) rfl rfl (zr0 hb) rfl ?_
  refine g_const (n := 82) rfl rfl (s_iconst (v := 0) (by decide)) ?_
  refine g_aload_n (n := 83) rfl rfl rfl ?_
  refine g_getR (n := 86) rfl rfl (zr0 hb) rfl ?_
  refine g_alen (n := 87) rfl rfl (zr5 hb) ?_
  refine g_copy (n := 90) rfl rfl rfl (zr5 hc) (zr5 hb) rfl (by omega) (by omega) rfl ?_
  refine g_aload_n (n := 91) rfl rfl rfl ?_
  refine g_const (n := 93) rfl rfl (s_bipush (v := 7) (by decide)) ?_
  refine g_putI (n := 96) rfl rfl (zr0 hb) rfl rfl ?_
  refine g_aload_n (n := 97) rfl rfl rfl ?_
  refine g_iload_n (n := 98) rfl rfl rfl ?_
  refine g_cV2 (n := 101) rfl rfl rfl rfl mt_X4_strike rfl rfl (r_k (zr0 hb)) (sc_strike hb ht ht6 hh h4 ⟨7, by omega, mup_same⟩) ?_
  rintro M98 ⟨q98, c98⟩
  refine g_retV rfl ?_
  refine ⟨cKeep.tr ?_ q98, c98⟩
  exact (((((cKeep.rf.cp (fun j => cSc_run hb (by omega))).cp (fun j => cSc_run hb (by omega))).cp (fun j => cSc_run hb (by omega))).cp (fun j => cSc_run hb (by omega))).cp (fun j => cSc_run hb (by omega))).up (cSc_run0 hb)
set_option maxRecDepth 20000 in
theorem sc_factsOf {k : Int32} {t : Nat} (hb : IsRun b) (ht : t ≤ 6) : EvP (d + 2) miX4_factsOf [.ref b, .int k, .int (Int32.ofNat t)] (hp (zz E T) M) (.int (M (b + 2) t >>> (8 * k &&& 31) &&& 255)) := by
  refine ev_of mt_X4_factsOf rfl ?_
  refine g_aload_n (n := 1) rfl rfl rfl ?_
  refine g_getR (n := 4) rfl rfl (zr0 hb) rfl ?_
  refine g_iload_n (n := 5) rfl rfl rfl ?_
  refine g_iald (n := 6) rfl rfl (zr2 hb) rfl rfl (by omega) ?_
  refine g_iload_n (n := 7) rfl rfl rfl ?_
  refine g_cP2 (n := 10) rfl rfl rfl rfl mt_X4_share rfl rfl rfl (sc_share) ?_
  refine g_retP rfl ?_
  rfl
set_option maxRecDepth 20000 in
theorem sc_sentFacts {k : Int32} {t h : Nat} (hb : IsRun b) (ht : t ≤ 6) (h4 : h < 4) : EvP (d + 2) miX4_sentFacts [.ref b, .int (Int32.ofNat t), .int (Int32.ofNat h), .int k] (hp (zz E T) M) (.int (M (b + 3) (4 * t + h) >>> (8 * k &&& 31) &&& 255)) := by
  refine ev_of mt_X4_sentFacts rfl ?_
  refine g_aload_n (n := 1) rfl rfl rfl ?_
  refine g_getR (n := 4) rfl rfl (zr0 hb) rfl ?_
  refine g_const (n := 5) rfl rfl (s_iconst (v := 4) (by decide)) ?_
  refine g_iload_n (n := 6) rfl rfl rfl ?_
  refine g_imul (n := 7) rfl rfl ?_
  refine g_iload_n (n := 8) rfl rfl rfl ?_
  refine g_iadd (n := 9) rfl rfl ?_
  refine g_iald (n := 10) rfl rfl (zr3 hb) rfl (ix44 t h) (by omega) ?_
  refine g_iload_n (n := 11) rfl rfl rfl ?_
  refine g_cP2 (n := 14) rfl rfl rfl rfl mt_X4_share rfl rfl rfl (sc_share) ?_
  refine g_retP rfl ?_
  rfl
def cFeels (M : Mem) (b : Nat) (x : Int32) (t h : Nat) : Bool := bif decide (x < 200) then !(decide (M (b + 3) (4 * t + h) >>> (8 * (x &&& 3) &&& 31) &&& 255 = 0)) else decide (Int32.ofNat t < M (b + 5) h)
set_option maxRecDepth 20000 in
theorem sc_feels {x : Int32} {t h : Nat} (hb : IsRun b) (ht : cTick x = Int32.ofNat t) (ht6 : t ≤ 6) (hh : cHost x = Int32.ofNat h) (h4 : h < 4) : EvP (d + 3) miX4_feels [.ref b, .int x] (hp (zz E T) M) (.int (bI (cFeels M b x t h))) := by
  refine ev_of mt_X4_feels rfl ?_
  refine g_iload_n (n := 1) rfl rfl rfl ?_
  refine g_cP1 (n := 4) rfl rfl rfl rfl mt_X0_tickOf rfl rfl rfl (sc_tickOf) ?_
  rw [ht]
  refine g_istore_n (n := 5) rfl rfl ?_
  refine g_iload_n (n := 6) rfl rfl rfl ?_
  refine g_cP1 (n := 9) rfl rfl rfl rfl mt_X0_hostOf rfl rfl rfl (sc_hostOf) ?_
  rw [hh]
  refine g_istore_n (n := 10) rfl rfl ?_
  refine g_iload_n (n := 11) rfl rfl rfl ?_
  refine g_cP1 (n := 14) rfl rfl rfl rfl mt_X0_isLoss rfl rfl rfl (sc_isLoss) ?_
  refine g_bz (n := 17) rfl rfl (fun h14 => ?_) (fun h14 => ?_)
  · skip
    refine g_aload_n (n := 37) rfl rfl rfl ?_
    refine g_getR (n := 40) rfl rfl (zr0 hb) rfl ?_
    refine g_iload_n (n := 41) rfl rfl rfl ?_
    refine g_iald (n := 42) rfl rfl (zr5 hb) rfl rfl (by omega) ?_
    refine g_iload_n (n := 43) rfl rfl rfl ?_
    refine g_ile (n := 46) rfl rfl (fun h43 => ?_) (fun h43 => ?_)
    · skip
      refine g_const (n := 51) rfl rfl (s_iconst (v := 0) (by decide)) ?_
      refine g_retPZ rfl (by decide) ?_
      first | (unfold cFeels; rw [h14, dT h27]; rfl) | (unfold cFeels; rw [h14, dF h27]; rfl) | (unfold cFeels; rw [h14, dT h43]; rfl) | (unfold cFeels; rw [h14, dlt h43]; rfl)
    · skip
      refine g_const (n := 47) rfl rfl (s_iconst (v := 1) (by decide)) ?_
      refine g_goto rfl ?_
      refine g_retPZ rfl (by decide) ?_
      first | (unfold cFeels; rw [h14, dT h27]; rfl) | (unfold cFeels; rw [h14, dF h27]; rfl) | (unfold cFeels; rw [h14, dT h43]; rfl) | (unfold cFeels; rw [h14, dlt h43]; rfl)
  · skip
    refine g_aload_n (n := 18) rfl rfl rfl ?_
    refine g_iload_n (n := 19) rfl rfl rfl ?_
    refine g_iload_n (n := 20) rfl rfl rfl ?_
    refine g_iload_n (n := 21) rfl rfl rfl ?_
    refine g_cP1 (n := 24) rfl rfl rfl rfl mt_X0_targetOf rfl rfl rfl (sc_targetOf) ?_
    refine g_cP4 (n := 27) rfl rfl rfl rfl mt_X4_sentFacts rfl rfl (r_k (zr0 hb)) (sc_sentFacts hb ht6 h4) ?_
    refine g_zeq (n := 30) rfl rfl (fun h27 => ?_) (fun h27 => ?_)
    · skip
      refine g_const (n := 35) rfl rfl (s_iconst (v := 0) (by decide)) ?_
      refine g_retPZ rfl (by decide) ?_
      first | (unfold cFeels; rw [h14, dT h27]; rfl) | (unfold cFeels; rw [h14, dF h27]; rfl) | (unfold cFeels; rw [h14, dT h43]; rfl) | (unfold cFeels; rw [h14, dlt h43]; rfl)
    · skip
      refine g_const (n := 31) rfl rfl (s_iconst (v := 1) (by decide)) ?_
      refine g_goto rfl ?_
      refine g_retPZ rfl (by decide) ?_
      first | (unfold cFeels; rw [h14, dT h27]; rfl) | (unfold cFeels; rw [h14, dF h27]; rfl) | (unfold cFeels; rw [h14, dT h43]; rfl) | (unfold cFeels; rw [h14, dlt h43]; rfl)
set_option maxRecDepth 20000 in
theorem sc_breaks (hb : IsRun b) (hC : CW E T M n rs) : ∃ t : Bool, EvP (d + 1) miX4_breaks [.ref b] (hp (zz E T) M) (.int (bI t)) := by
  obtain ⟨e, -, he6, he⟩ := hC.2.2.2.2.1
  obtain ⟨k, hk, ek⟩ := hC.2.2.2.2.2
  refine ⟨(!(decide (M (b + 2) e &&& M 1 4 = 0)) && decide (M (b + 2) e &&& M 1 6 = 0)) && decide (Int32.ofNat e < M (b + 5) k), ?_⟩
  refine ev_of mt_X4_breaks rfl ?_
  refine g_aload_n (n := 1) rfl rfl rfl ?_
  refine g_getR (n := 4) rfl rfl (zr0 hb) rfl ?_
  refine g_aload_n (n := 5) rfl rfl rfl ?_
  refine g_getR (n := 8) rfl rfl (zr0 hb) rfl ?_
  refine g_getI (n := 11) rfl rfl z_1 rfl ?_
  refine g_iald (n := 12) rfl rfl (zr2 hb) rfl he (by omega) ?_
  refine g_istore_n (n := 13) rfl rfl ?_
  refine g_iload_n (n := 14) rfl rfl rfl ?_
  refine g_aload_n (n := 15) rfl rfl rfl ?_
  refine g_getR (n := 18) rfl rfl (zr0 hb) rfl ?_
  refine g_getI (n := 21) rfl rfl z_1 rfl ?_
  refine g_iand (n := 22) rfl rfl ?_
  refine g_zeq (n := 25) rfl rfl (fun h22 => ?_) (fun h22 => ?_)
  · skip
    refine g_const (n := 42) rfl rfl (s_iconst (v := 0) (by decide)) ?_
    refine g_istore_n (n := 43) rfl rfl ?_
    refine g_iload_n (n := 44) rfl rfl rfl ?_
    refine g_zeq (n := 47) rfl rfl (fun h44 => ?_) (fun h44 => ?_)
    · skip
      refine g_const (n := 74) rfl rfl (s_iconst (v := 0) (by decide)) ?_
      refine g_retPZ rfl (by decide) ?_
      first | (rw [dT h22]; rfl) | (rw [dF h22, dF h34]; rfl) | (rw [dF h22, dT h34, dT h66]; rfl) | (rw [dF h22, dT h34, dlt h66]; rfl)
    · skip
      exact absurd h44 (by decide)
  · skip
    refine g_iload_n (n := 26) rfl rfl rfl ?_
    refine g_aload_n (n := 27) rfl rfl rfl ?_
    refine g_getR (n := 30) rfl rfl (zr0 hb) rfl ?_
    refine g_getI (n := 33) rfl rfl z_1 rfl ?_
    refine g_iand (n := 34) rfl rfl ?_
    refine g_zne (n := 37) rfl rfl (fun h34 => ?_) (fun h34 => ?_)
    · skip
      refine g_const (n := 42) rfl rfl (s_iconst (v := 0) (by decide)) ?_
      refine g_istore_n (n := 43) rfl rfl ?_
      refine g_iload_n (n := 44) rfl rfl rfl ?_
      refine g_zeq (n := 47) rfl rfl (fun h44 => ?_) (fun h44 => ?_)
      · skip
        refine g_const (n := 74) rfl rfl (s_iconst (v := 0) (by decide)) ?_
        refine g_retPZ rfl (by decide) ?_
        first | (rw [dT h22]; rfl) | (rw [dF h22, dF h34]; rfl) | (rw [dF h22, dT h34, dT h66]; rfl) | (rw [dF h22, dT h34, dlt h66]; rfl)
      · skip
        exact absurd h44 (by decide)
    · skip
      refine g_const (n := 38) rfl rfl (s_iconst (v := 1) (by decide)) ?_
      refine g_goto rfl ?_
      refine g_istore_n (n := 43) rfl rfl ?_
      refine g_iload_n (n := 44) rfl rfl rfl ?_
      refine g_zeq (n := 47) rfl rfl (fun h44 => ?_) (fun h44 => ?_)
      · skip
        exact absurd h44 (by decide)
      · skip
        refine g_aload_n (n := 48) rfl rfl rfl ?_
        refine g_getR (n := 51) rfl rfl (zr0 hb) rfl ?_
        refine g_aload_n (n := 52) rfl rfl rfl ?_
        refine g_getR (n := 55) rfl rfl (zr0 hb) rfl ?_
        refine g_getI (n := 58) rfl rfl z_1 rfl ?_
        refine g_iald (n := 59) rfl rfl (zr5 hb) rfl ek hk ?_
        refine g_aload_n (n := 60) rfl rfl rfl ?_
        refine g_getR (n := 63) rfl rfl (zr0 hb) rfl ?_
        refine g_getI (n := 66) rfl rfl z_1 rfl ?_
        refine g_ile (n := 69) rfl rfl (fun h66 => ?_) (fun h66 => ?_)
        · skip
          rw [he] at h66
          refine g_const (n := 74) rfl rfl (s_iconst (v := 0) (by decide)) ?_
          refine g_retPZ rfl (by decide) ?_
          first | (rw [dT h22]; rfl) | (rw [dF h22, dF h34]; rfl) | (rw [dF h22, dT h34, dT h66]; rfl) | (rw [dF h22, dT h34, dlt h66]; rfl)
        · skip
          rw [he] at h66
          refine g_const (n := 70) rfl rfl (s_iconst (v := 1) (by decide)) ?_
          refine g_goto rfl ?_
          refine g_retPZ rfl (by decide) ?_
          first | (rw [dT h22]; rfl) | (rw [dF h22, dF h34]; rfl) | (rw [dF h22, dT h34, dT h66]; rfl) | (rw [dF h22, dT h34, dlt h66]; rfl)
end RC
