/-! The reference's layers: whole passes; rule -/
section LZ
variable {E : Value} {T : List SH} {M : Mem} {d : Nat}
/-- what the rules' cells hold -/
def RulesOK (M : Mem) : Prop := ∀ r, r < 13 → jF (M 44 r) ∧ jF (M 45 r) ∧ jN (M 46 r) ∧ jN (M 47 r) ∧ jH (M 48 r)
set_option maxRecDepth 20000 in
theorem jF.mv8 {q r : Nat} (h : jF (M q r)) : mv M q r < 8 ∧ M q r = Int32.ofNat (mv M q r) := by
  obtain ⟨k, hk, e⟩ := h
  rw [mv_eq e (by omega)]
  exact ⟨hk, e⟩
set_option maxRecDepth 20000 in
theorem jN.mv8 {q r : Nat} (h : jN (M q r)) : mv M q r < 8 := by
  rcases h with e | h
  · unfold mv; rw [e]; decide
  · exact h.mv8.1
set_option maxRecDepth 20000 in
theorem lp_lays37 {n : Nat} {l0 : Nat → Nat} (hr : M 41 1 = Int32.ofNat n) (hn : n ≤ 13) (hR : RulesOK M) {Q : QT}
    (K : ∀ l' more' can' M2, Fr mLy M M2 → LayAt M2 l' → PS M n n l0 l' more' can' → Go [] d (some .boolean) tabX9_lays 25 [(0, .ref 41), (1, .int (bI more')), (2, .int (bI can'))] [] (hp (zz E T) M2) 0 0 Q) : ∀ i, i ≤ n → ∀ l more can M1, Fr mLy M M1 → LayAt M1 l → PS M n i l0 l more can → Go [] d (some .boolean) tabX9_lays 37 [(0, .ref 41), (1, .int (bI more)), (2, .int (bI can)), (3, .int (Int32.ofNat i))] [] (hp (zz E T) M1) 0 0 Q := by
  refine loop_up n ?_
  intro i hi ih l more can M1 f1 hl hps
  have K2 : i < n → ∀ l' more' can' M2, Fr mLy M M2 → LayAt M2 l' → PS M n (i + 1) l0 l' more' can' → Go [] d (some .boolean) tabX9_lays 210 [(0, .ref 41), (1, .int (bI more')), (2, .int (bI can')), (3, .int (Int32.ofNat i))] [] (hp (zz E T) M2) 0 0 Q := by
    intro g l' more' can' M2 f2 hl2 hp2
    refine g_iinc (n := 213) rfl rfl rfl (jn_1 _) ?_
    refine g_goto rfl ?_
    exact ih g l' more' can' M2 f2 hl2 hp2
  refine g_iload_n (n := 38) rfl rfl rfl ?_
  refine g_aload_n (n := 39) rfl rfl rfl ?_
  refine g_getI (n := 42) rfl rfl z_41 rfl ?_
  refine g_ige (n := 45) rfl rfl (fun h42 => ?_) (fun h42 => ?_)
  · skip
    rw [f1 41 1 rfl, hr] at h42
    have g9 := (jn_le (by omega) (by omega)).mp h42
    refine g_goto rfl ?_
    refine go_only 3 ?_
    rw [show i = n by omega] at hps
    exact K l more can M1 f1 hl hps
  · skip
    rw [f1 41 1 rfl, hr] at h42
    have g9 := (jn_lt (by omega) (by omega)).mp h42
    obtain ⟨j44, j45, j46, j47, -⟩ := hR i (by omega)
    have b45 := j45.mv8
    have b46 := j46.mv8
    have b47 := j47.mv8
    have e45 : M1 45 i = Int32.ofNat (mv M 45 i) := (f1 45 i rfl).trans b45.2
    have l45 := hps.1 _ b45.1
    have l46 := hps.1 _ b46
    have l47 := hps.1 _ b47
    refine g_const (n := 46) rfl rfl (s_iconst (v := 0) (by decide)) ?_
    refine g_istore (n := 48) rfl rfl ?_
    refine g_aload_n (n := 49) rfl rfl rfl ?_
    refine g_getR (n := 52) rfl rfl z_41 rfl ?_
    refine g_iload_n (n := 53) rfl rfl rfl ?_
    refine g_iald (n := 54) rfl rfl z_43 rfl rfl (by omega) ?_
    refine g_zne (n := 57) rfl rfl (fun h54 => ?_) (fun h54 => ?_)
    · skip
      rw [f1 43 i rfl] at h54
      exact st_lays162 (lst := 0) g9 hn j44 b45.1 b46 b47 f1 hl hps (Or.inr ⟨h54, rfl⟩) (K2 g9)
    · skip
      rw [f1 43 i rfl] at h54
      refine g_aload_n (n := 58) rfl rfl rfl ?_
      refine g_getR (n := 61) rfl rfl z_41 rfl ?_
      refine g_aload_n (n := 62) rfl rfl rfl ?_
      refine g_getR (n := 65) rfl rfl z_41 rfl ?_
      refine g_iload_n (n := 66) rfl rfl rfl ?_
      refine g_iald (n := 67) rfl rfl z_45 rfl rfl (by omega) ?_
      refine g_iald (n := 68) rfl rfl z_51 rfl e45 b45.1 ?_
      rw [hl _ b45.1]
      refine g_istore (n := 70) rfl rfl ?_
      refine g_aload_n (n := 71) rfl rfl rfl ?_
      refine g_getR (n := 74) rfl rfl z_41 rfl ?_
      refine g_iload_n (n := 75) rfl rfl rfl ?_
      refine g_iald (n := 76) rfl rfl z_46 rfl rfl (by omega) ?_
      refine g_const (n := 77) rfl rfl (s_iconst (v := (-1)) (by decide)) ?_
      refine g_ieq (n := 80) rfl rfl (fun h77 => ?_) (fun h77 => ?_)
      · skip
        rw [f1 46 i rfl] at h77
        refine g_iload (n := 112) rfl rfl rfl ?_
        refine g_istore (n := 114) rfl rfl ?_
        refine g_aload_n (n := 115) rfl rfl rfl ?_
        refine g_getR (n := 118) rfl rfl z_41 rfl ?_
        refine g_iload_n (n := 119) rfl rfl rfl ?_
        refine g_iald (n := 120) rfl rfl z_47 rfl rfl (by omega) ?_
        refine g_const (n := 121) rfl rfl (s_iconst (v := (-1)) (by decide)) ?_
        refine g_ieq (n := 124) rfl rfl (fun h121 => ?_) (fun h121 => ?_)
        · skip
          rw [f1 47 i rfl] at h121
          refine g_iload (n := 160) rfl rfl rfl ?_
          refine g_istore (n := 162) rfl rfl ?_
          refine st_lays162 g9 hn j44 b45.1 b46 b47 f1 hl hps (Or.inl ⟨h54, ?_⟩) (K2 g9)
          unfold mNeed
          simp only [h77, h121, if_true, if_false]
          omega
        · skip
          rw [f1 47 i rfl] at h121
          have e47 : M1 47 i = Int32.ofNat (mv M 47 i) := (f1 47 i rfl).trans (jF.mv8 (j47.resolve_left h121)).2
          refine g_aload_n (n := 125) rfl rfl rfl ?_
          refine g_getR (n := 128) rfl rfl z_41 rfl ?_
          refine g_aload_n (n := 129) rfl rfl rfl ?_
          refine g_getR (n := 132) rfl rfl z_41 rfl ?_
          refine g_iload_n (n := 133) rfl rfl rfl ?_
          refine g_iald (n := 134) rfl rfl z_47 rfl rfl (by omega) ?_
          refine g_iald (n := 135) rfl rfl z_51 rfl e47 b47 ?_
          rw [hl _ b47]
          refine g_const (n := 136) rfl rfl (s_iconst (v := 1) (by decide)) ?_
          refine g_iadd (n := 137) rfl rfl ?_
          rw [show Int32.ofNat (l (mv M 47 i)) + 1 = Int32.ofNat (l (mv M 47 i) + 1) from jn_add _ 1]
          refine g_iload (n := 139) rfl rfl rfl ?_
          refine g_ile (n := 142) rfl rfl (fun h139 => ?_) (fun h139 => ?_)
          · skip
            have g139 := (jn_le (by omega) (by omega)).mp h139
            refine g_iload (n := 160) rfl rfl rfl ?_
            refine g_istore (n := 162) rfl rfl ?_
            refine st_lays162 g9 hn j44 b45.1 b46 b47 f1 hl hps (Or.inl ⟨h54, ?_⟩) (K2 g9)
            unfold mNeed
            simp only [h77, h121, if_true, if_false]
            omega
          · skip
            have g139 := (jn_lt (by omega) (by omega)).mp h139
            refine g_aload_n (n := 143) rfl rfl rfl ?_
            refine g_getR (n := 146) rfl rfl z_41 rfl ?_
            refine g_aload_n (n := 147) rfl rfl rfl ?_
            refine g_getR (n := 150) rfl rfl z_41 rfl ?_
            refine g_iload_n (n := 151) rfl rfl rfl ?_
            refine g_iald (n := 152) rfl rfl z_47 rfl rfl (by omega) ?_
            refine g_iald (n := 153) rfl rfl z_51 rfl e47 b47 ?_
            rw [hl _ b47]
            refine g_const (n := 154) rfl rfl (s_iconst (v := 1) (by decide)) ?_
            refine g_iadd (n := 155) rfl rfl ?_
            rw [show Int32.ofNat (l (mv M 47 i)) + 1 = Int32.ofNat (l (mv M 47 i) + 1) from jn_add _ 1]
            refine g_goto rfl ?_
            refine g_istore (n := 162) rfl rfl ?_
            refine st_lays162 g9 hn j44 b45.1 b46 b47 f1 hl hps (Or.inl ⟨h54, ?_⟩) (K2 g9)
            unfold mNeed
            simp only [h77, h121, if_true, if_false]
            omega
      · skip
        rw [f1 46 i rfl] at h77
        have e46 : M1 46 i = Int32.ofNat (mv M 46 i) := (f1 46 i rfl).trans (jF.mv8 (j46.resolve_left h77)).2
        refine g_aload_n (n := 81) rfl rfl rfl ?_
        refine g_getR (n := 84) rfl rfl z_41 rfl ?_
        refine g_aload_n (n := 85) rfl rfl rfl ?_
        refine g_getR (n := 88) rfl rfl z_41 rfl ?_
        refine g_iload_n (n := 89) rfl rfl rfl ?_
        refine g_iald (n := 90) rfl rfl z_46 rfl rfl (by omega) ?_
        refine g_iald (n := 91) rfl rfl z_51 rfl e46 b46 ?_
        rw [hl _ b46]
        refine g_iload (n := 93) rfl rfl rfl ?_
        refine g_ile (n := 96) rfl rfl (fun h93 => ?_) (fun h93 => ?_)
        · skip
          have g93 := (jn_le (by omega) (by omega)).mp h93
          refine g_iload (n := 112) rfl rfl rfl ?_
          refine g_istore (n := 114) rfl rfl ?_
          refine g_aload_n (n := 115) rfl rfl rfl ?_
          refine g_getR (n := 118) rfl rfl z_41 rfl ?_
          refine g_iload_n (n := 119) rfl rfl rfl ?_
          refine g_iald (n := 120) rfl rfl z_47 rfl rfl (by omega) ?_
          refine g_const (n := 121) rfl rfl (s_iconst (v := (-1)) (by decide)) ?_
          refine g_ieq (n := 124) rfl rfl (fun h121 => ?_) (fun h121 => ?_)
          · skip
            rw [f1 47 i rfl] at h121
            refine g_iload (n := 160) rfl rfl rfl ?_
            refine g_istore (n := 162) rfl rfl ?_
            refine st_lays162 g9 hn j44 b45.1 b46 b47 f1 hl hps (Or.inl ⟨h54, ?_⟩) (K2 g9)
            unfold mNeed
            simp only [h77, h121, if_true, if_false]
            omega
          · skip
            rw [f1 47 i rfl] at h121
            have e47 : M1 47 i = Int32.ofNat (mv M 47 i) := (f1 47 i rfl).trans (jF.mv8 (j47.resolve_left h121)).2
            refine g_aload_n (n := 125) rfl rfl rfl ?_
            refine g_getR (n := 128) rfl rfl z_41 rfl ?_
            refine g_aload_n (n := 129) rfl rfl rfl ?_
            refine g_getR (n := 132) rfl rfl z_41 rfl ?_
            refine g_iload_n (n := 133) rfl rfl rfl ?_
            refine g_iald (n := 134) rfl rfl z_47 rfl rfl (by omega) ?_
            refine g_iald (n := 135) rfl rfl z_51 rfl e47 b47 ?_
            rw [hl _ b47]
            refine g_const (n := 136) rfl rfl (s_iconst (v := 1) (by decide)) ?_
            refine g_iadd (n := 137) rfl rfl ?_
            rw [show Int32.ofNat (l (mv M 47 i)) + 1 = Int32.ofNat (l (mv M 47 i) + 1) from jn_add _ 1]
            refine g_iload (n := 139) rfl rfl rfl ?_
            refine g_ile (n := 142) rfl rfl (fun h139 => ?_) (fun h139 => ?_)
            · skip
              have g139 := (jn_le (by omega) (by omega)).mp h139
              refine g_iload (n := 160) rfl rfl rfl ?_
              refine g_istore (n := 162) rfl rfl ?_
              refine st_lays162 g9 hn j44 b45.1 b46 b47 f1 hl hps (Or.inl ⟨h54, ?_⟩) (K2 g9)
              unfold mNeed
              simp only [h77, h121, if_true, if_false]
              omega
            · skip
              have g139 := (jn_lt (by omega) (by omega)).mp h139
              refine g_aload_n (n := 143) rfl rfl rfl ?_
              refine g_getR (n := 146) rfl rfl z_41 rfl ?_
              refine g_aload_n (n := 147) rfl rfl rfl ?_
              refine g_getR (n := 150) rfl rfl z_41 rfl ?_
              refine g_iload_n (n := 151) rfl rfl rfl ?_
              refine g_iald (n := 152) rfl rfl z_47 rfl rfl (by omega) ?_
              refine g_iald (n := 153) rfl rfl z_51 rfl e47 b47 ?_
              rw [hl _ b47]
              refine g_const (n := 154) rfl rfl (s_iconst (v := 1) (by decide)) ?_
              refine g_iadd (n := 155) rfl rfl ?_
              rw [show Int32.ofNat (l (mv M 47 i)) + 1 = Int32.ofNat (l (mv M 47 i) + 1) from jn_add _ 1]
              refine g_goto rfl ?_
              refine g_istore (n := 162) rfl rfl ?_
              refine st_lays162 g9 hn j44 b45.1 b46 b47 f1 hl hps (Or.inl ⟨h54, ?_⟩) (K2 g9)
              unfold mNeed
              simp only [h77, h121, if_true, if_false]
              omega
        · skip
          have g93 := (jn_lt (by omega) (by omega)).mp h93
          refine g_aload_n (n := 97) rfl rfl rfl ?_
          refine g_getR (n := 100) rfl rfl z_41 rfl ?_
          refine g_aload_n (n := 101) rfl rfl rfl ?_
          refine g_getR (n := 104) rfl rfl z_41 rfl ?_
          refine g_iload_n (n := 105) rfl rfl rfl ?_
          refine g_iald (n := 106) rfl rfl z_46 rfl rfl (by omega) ?_
          refine g_iald (n := 107) rfl rfl z_51 rfl e46 b46 ?_
          rw [hl _ b46]
          refine g_goto rfl ?_
          refine g_istore (n := 114) rfl rfl ?_
          refine g_aload_n (n := 115) rfl rfl rfl ?_
          refine g_getR (n := 118) rfl rfl z_41 rfl ?_
          refine g_iload_n (n := 119) rfl rfl rfl ?_
          refine g_iald (n := 120) rfl rfl z_47 rfl rfl (by omega) ?_
          refine g_const (n := 121) rfl rfl (s_iconst (v := (-1)) (by decide)) ?_
          refine g_ieq (n := 124) rfl rfl (fun h121 => ?_) (fun h121 => ?_)
          · skip
            rw [f1 47 i rfl] at h121
            refine g_iload (n := 160) rfl rfl rfl ?_
            refine g_istore (n := 162) rfl rfl ?_
            refine st_lays162 g9 hn j44 b45.1 b46 b47 f1 hl hps (Or.inl ⟨h54, ?_⟩) (K2 g9)
            unfold mNeed
            simp only [h77, h121, if_true, if_false]
            omega
          · skip
            rw [f1 47 i rfl] at h121
            have e47 : M1 47 i = Int32.ofNat (mv M 47 i) := (f1 47 i rfl).trans (jF.mv8 (j47.resolve_left h121)).2
            refine g_aload_n (n := 125) rfl rfl rfl ?_
            refine g_getR (n := 128) rfl rfl z_41 rfl ?_
            refine g_aload_n (n := 129) rfl rfl rfl ?_
            refine g_getR (n := 132) rfl rfl z_41 rfl ?_
            refine g_iload_n (n := 133) rfl rfl rfl ?_
            refine g_iald (n := 134) rfl rfl z_47 rfl rfl (by omega) ?_
            refine g_iald (n := 135) rfl rfl z_51 rfl e47 b47 ?_
            rw [hl _ b47]
            refine g_const (n := 136) rfl rfl (s_iconst (v := 1) (by decide)) ?_
            refine g_iadd (n := 137) rfl rfl ?_
            rw [show Int32.ofNat (l (mv M 47 i)) + 1 = Int32.ofNat (l (mv M 47 i) + 1) from jn_add _ 1]
            refine g_iload (n := 139) rfl rfl rfl ?_
            refine g_ile (n := 142) rfl rfl (fun h139 => ?_) (fun h139 => ?_)
            · skip
              have g139 := (jn_le (by omega) (by omega)).mp h139
              refine g_iload (n := 160) rfl rfl rfl ?_
              refine g_istore (n := 162) rfl rfl ?_
              refine st_lays162 g9 hn j44 b45.1 b46 b47 f1 hl hps (Or.inl ⟨h54, ?_⟩) (K2 g9)
              unfold mNeed
              simp only [h77, h121, if_true, if_false]
              omega
            · skip
              have g139 := (jn_lt (by omega) (by omega)).mp h139
              refine g_aload_n (n := 143) rfl rfl rfl ?_
              refine g_getR (n := 146) rfl rfl z_41 rfl ?_
              refine g_aload_n (n := 147) rfl rfl rfl ?_
              refine g_getR (n := 150) rfl rfl z_41 rfl ?_
              refine g_iload_n (n := 151) rfl rfl rfl ?_
              refine g_iald (n := 152) rfl rfl z_47 rfl rfl (by omega) ?_
              refine g_iald (n := 153) rfl rfl z_51 rfl e47 b47 ?_
              rw [hl _ b47]
              refine g_const (n := 154) rfl rfl (s_iconst (v := 1) (by decide)) ?_
              refine g_iadd (n := 155) rfl rfl ?_
              rw [show Int32.ofNat (l (mv M 47 i)) + 1 = Int32.ofNat (l (mv M 47 i) + 1) from jn_add _ 1]
              refine g_goto rfl ?_
              refine g_istore (n := 162) rfl rfl ?_
              refine st_lays162 g9 hn j44 b45.1 b46 b47 f1 hl hps (Or.inl ⟨h54, ?_⟩) (K2 g9)
              unfold mNeed
              simp only [h77, h121, if_true, if_false]
              omega
set_option maxRecDepth 20000 in
theorem lp_lays25 {n : Nat} (hr : M 41 1 = Int32.ofNat n) (hn : n ≤ 13) (hR : RulesOK M) : ∀ a : (Nat → Nat) × Mem × Bool × Bool, (Fr mLy M a.2.1 ∧ LayAt a.2.1 a.1 ∧ (∀ f, f < 8 → a.1 f ≤ 8 + n) ∧ (a.2.2.2 = true → ∀ f, f < 8 → a.1 f ≤ 7) ∧ (a.2.2.2 = false → ∃ f, f < 8 ∧ 8 ≤ a.1 f) ∧ (∀ L, Sol M n L → ∀ f, f < 8 → a.1 f ≤ L f) ∧ (a.2.2.1 = false → Sol M n a.1)) → Go [] d (some .boolean) tabX9_lays 25 [(0, .ref 41), (1, .int (bI a.2.2.1)), (2, .int (bI a.2.2.2))] [] (hp (zz E T) a.2.1) 0 0 (QI (zz E T) (fun x M' => Fr mLy M M' ∧ ∃ l, LayAt M' l ∧ (∀ L, Sol M n L → ∀ f, f < 8 → l f ≤ L f) ∧ ((x = 1 ∧ Sol M n l ∧ ∀ f, f < 8 → l f ≤ 7) ∨ (x = 0 ∧ ∃ f, f < 8 ∧ 8 ≤ l f)))) := by
  refine loop_ms (fun a => 2 * sumN a.1 8 + (if a.2.2.1 = true then 0 else 1)) 400 ?_
  rintro ⟨l, M1, more, can⟩ ih ⟨f1, hl, hb, hc1, hc2, hL, hS⟩
  refine g_iload_n (n := 26) rfl rfl rfl ?_
  refine g_bz (n := 29) rfl rfl (fun h26 => ?_) (fun h26 => ?_)
  · skip
    refine g_iload_n (n := 220) rfl rfl rfl ?_
    refine g_retZ rfl bI01 ?_
    refine ⟨f1, l, hl, hL, ?_⟩
    simp only at hc1 hc2 hS h26
    cases hcan : can with
    | true => exact Or.inl ⟨rfl, hS h26, hc1 hcan⟩
    | false => exact Or.inr ⟨rfl, hc2 hcan⟩
  · skip
    refine g_iload_n (n := 30) rfl rfl rfl ?_
    refine g_bz (n := 33) rfl rfl (fun h30 => ?_) (fun h30 => ?_)
    · skip
      refine g_iload_n (n := 220) rfl rfl rfl ?_
      refine g_retZ rfl bI01 ?_
      refine ⟨f1, l, hl, hL, ?_⟩
      simp only at hc1 hc2 hS h30
      rw [h30]
      exact Or.inr ⟨rfl, hc2 h30⟩
    · skip
      refine g_const (n := 34) rfl rfl (s_iconst (v := 0) (by decide)) ?_
      refine g_istore_n (n := 35) rfl rfl ?_
      refine g_const (n := 36) rfl rfl (s_iconst (v := 0) (by decide)) ?_
      refine g_istore_n (n := 37) rfl rfl ?_
      refine lp_lays37 (l0 := l) hr hn hR (fun l' more' can' M2 f2 hl2 hp2 => ?_) 0 (by omega) l false can M1 f1 hl ?_
      · refine ih (l', M2, more', can') ?_ ?_ ⟨f2, hl2, hp2.1, hp2.2.1, hp2.2.2.1, hp2.2.2.2.1, fun hm => ?_⟩
        · show 2 * sumN l 8 + (if more = true then 0 else 1) < 2 * sumN l' 8 + (if more' = true then 0 else 1)
          have h26' : more = true := h26
          rw [h26']
          cases hm : more' with
          | true => have := hp2.2.2.2.2.2.1 hm; simp; omega
          | false => have := (hp2.2.2.2.2.2.2 hm).1; rw [this]; simp
        · have := sumN_bd 8 hp2.1
          simp only
          split <;> omega
        · exact (hp2.2.2.2.2.2.2 hm).2
      · exact ⟨fun f hf => Nat.le_trans (hc1 h30 f hf) (by omega), hc1, hc2, hL, fun f hf => Nat.le_refl _, fun q => (by cases q), fun _ => ⟨rfl, fun r hr => absurd hr (by omega)⟩⟩
set_option maxRecDepth 20000 in
theorem lp_lays2 {Q : QT} (K : ∀ M1, Fr mLy M M1 → LayAt M1 (fun _ => 0) → Go [] d (some .boolean) tabX9_lays 21 [(0, .ref 41)] [] (hp (zz E T) M1) 0 0 Q) : ∀ i, i ≤ 8 → ∀ M1, Fr mLy M M1 → (∀ f, f < i → M1 51 f = 0) → Go [] d (some .boolean) tabX9_lays 2 [(0, .ref 41), (1, .int (Int32.ofNat i))] [] (hp (zz E T) M1) 0 0 Q := by
  refine loop_up 8 ?_
  intro i hi ih M1 f1 hz
  refine g_iload_n (n := 3) rfl rfl rfl ?_
  refine g_const (n := 5) rfl rfl (s_bipush (v := 8) (by decide)) ?_
  refine g_ige (n := 8) rfl rfl (fun h5 => ?_) (fun h5 => ?_)
  · skip
    have g9 := (jn_le (b := i) (a := 8) (by omega) (by omega)).mp h5
    refine go_only 1 ?_; exact K M1 f1 (fun f hf => hz f (by omega))
  · skip
    have g9 := (jn_lt (b := 8) (a := i) (by omega) (by omega)).mp h5
    refine g_aload_n (n := 9) rfl rfl rfl ?_
    refine g_getR (n := 12) rfl rfl z_41 rfl ?_
    refine g_iload_n (n := 13) rfl rfl rfl ?_
    refine g_const (n := 14) rfl rfl (s_iconst (v := 0) (by decide)) ?_
    refine g_iast (n := 15) rfl rfl z_51 rfl rfl (by omega) ?_
    refine g_iinc (n := 18) rfl rfl rfl (jn_1 _) ?_
    refine g_goto rfl ?_
    refine ih g9 _ ?_ ?_
    · exact f1.up rfl
    · intro f hf
      by_cases e : f = i
      · subst e; exact mup_same
      · rw [mup_j e]; exact hz f (by omega)
set_option maxRecDepth 20000 in
theorem sp_lays {n : Nat} (hr : M 41 1 = Int32.ofNat n) (hn : n ≤ 13) (hR : RulesOK M) : EvI (d + 1) miX9_lays [.ref 41] (zz E T) M (fun x M' => Fr mLy M M' ∧ ∃ l, LayAt M' l ∧ (∀ L, Sol M n L → ∀ f, f < 8 → l f ≤ L f) ∧ ((x = 1 ∧ Sol M n l ∧ ∀ f, f < 8 → l f ≤ 7) ∨ (x = 0 ∧ ∃ f, f < 8 ∧ 8 ≤ l f))) := by
  refine ev_of mt_X9_lays rfl ?_
  refine g_const (n := 1) rfl rfl (s_iconst (v := 0) (by decide)) ?_
  refine g_istore_n (n := 2) rfl rfl ?_
  refine lp_lays2 (M := M) (fun M1 f1 hl => ?_) 0 (by omega) M Fr.rf (fun f hf => absurd hf (by omega))
  refine g_const (n := 22) rfl rfl (s_iconst (v := 1) (by decide)) ?_
  refine g_istore_n (n := 23) rfl rfl ?_
  refine g_const (n := 24) rfl rfl (s_iconst (v := 1) (by decide)) ?_
  refine g_istore_n (n := 25) rfl rfl ?_
  exact lp_lays25 hr hn hR (fun _ => 0, M1, true, true) ⟨f1, hl, fun f hf => Nat.zero_le _, fun _ f hf => Nat.zero_le _, fun q => (by cases q), fun L _ f _ => Nat.zero_le _, fun q => (by cases q)⟩
end LZ
