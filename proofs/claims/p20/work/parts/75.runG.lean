/-! The program: what its runs come to -/
section RunG
variable {E : Value} {T : List SH} {M : Mem} {d n : Nat} {rs : Nat → Nat}
set_option maxRecDepth 20000 in
theorem Fr.cp {S : Nat → Nat → Bool} {M1 : Mem} {q0 q k : Nat} (h : Fr S M M1) (hs : ∀ j, S q j = true) : Fr S M (mcp M1 q0 q k) := by
  intro a b hab
  have hq : a ≠ q := by
    rintro rfl
    rw [hs] at hab
    cases hab
  rw [mcp_q hq, h a b hab]
set_option maxRecDepth 20000 in
theorem IsRun.rg {b : Nat} (h : IsRun b) : 15 ≤ b ∧ b ≤ 33 := by rcases h with rfl | rfl | rfl | rfl <;> omega
/-- the program's rules, as such, and which of them count -/
def CRW (M : Mem) (n : Nat) (rs : Nat → Nat) (R : RW) : Prop := rN R = n ∧ RWok R ∧ ∀ i, i < n → rK R i = M (rs i) 1 ∧ rH R i = M (rs i) 2 ∧ rL R i = M 4 (M (rs i) 2).toNatClampNeg ∧ rT R i = M (rs i) 6 ∧ (∀ h f, rW R i h f = cWorks M (rs i) h f) ∧ rC R i = gb (M 6 4) i
/-- the program's world -/
def CX (E : Value) (T : List SH) (M : Mem) (n : Nat) (rs : Nat → Nat) (V : VW) : Prop := CW E T M n rs ∧ CRW M n rs (vR V) ∧ (∀ k, k < 4 → byt (M 1 3) k = vF V k) ∧ (M 1 2 = Int32.ofNat (vE V) ∧ vE V ≤ 6) ∧ (M 1 4 = cBit (Int32.ofNat (vA V)) (Int32.ofNat (vP V)) ∧ vA V < 4 ∧ vP V < 8) ∧ (M 1 5 = Int32.ofNat (vB V) ∧ vB V < 4) ∧ M 1 6 = cBit (Int32.ofNat (vB V)) (Int32.ofNat (vQ V)) ∧ vQ V < 8
set_option maxRecDepth 20000 in
theorem CRW.fr {S : Nat → Nat → Bool} {M' : Mem} {R : RW} (hL : LR E T n rs) (h : CRW M n rs R) (k : Fr S M M') (s1 : ∀ j, S 4 j = false) (s2 : S 6 4 = false) (s3 : ∀ q j, 61 ≤ q → S q j = false) : CRW M' n rs R := by
  obtain ⟨h1, h2, h3⟩ := h
  refine ⟨h1, h2, fun i hi => ?_⟩
  have e := fun j => k (rs i) j (s3 _ j (hL.1 i hi).1)
  obtain ⟨a1, a2, a3, a4, a5, a6⟩ := h3 i hi
  rw [e 1, e 2, e 6, k 4 _ (s1 _), k 6 4 s2]
  refine ⟨a1, a2, a3, a4, fun h f => ?_, a6⟩
  rw [a5 h f]
  unfold cWorks
  rw [e 0, e 7, e 8]
set_option maxRecDepth 20000 in
theorem CX.fr {S : Nat → Nat → Bool} {M' : Mem} {V : VW} (h : CX E T M n rs V) (k : Fr S M M') (s0 : S 3 2 = false) (s1 : ∀ j, S 4 j = false) (s2 : S 6 4 = false) (s3 : ∀ q j, 61 ≤ q → S q j = false) (s4 : ∀ j, S 1 j = false) : CX E T M' n rs V := by
  obtain ⟨h1, h2, h3, h4, h5, h6, h7, h8⟩ := h
  refine ⟨h1.fr k s0 (s4 2) (s4 5) s3, h2.fr h1.1 k s1 s2 s3, ?_, ?_, ?_, ?_, ?_, h8⟩
  · rw [k 1 3 (s4 3)]; exact h3
  · rw [k 1 2 (s4 2)]; exact h4
  · rw [k 1 4 (s4 4)]; exact h5
  · rw [k 1 5 (s4 5)]; exact h6
  · rw [k 1 6 (s4 6)]; exact h7
set_option maxRecDepth 20000 in
theorem CX.keep {M' : Mem} {V : VW} (h : CX E T M n rs V) (k : cKeep M M') : CX E T M' n rs V := h.fr (S := cSc) k rfl (fun _ => rfl) rfl (fun _ _ hq => cSc_hi hq) (fun _ => rfl)
/-- what the program has learned is right -/
def Memo (M : Mem) (R : RW) : Prop := ∀ h, h < 4 → ∀ w, w < 256 → M 7 (256 * h + w) = -1 ∨ (M 7 (256 * h + w) = setl R (Int32.ofNat h) (Int32.ofNat w) ∧ M 8 (256 * h + w) = kepT R (Int32.ofNat h) (setl R (Int32.ofNat h) (Int32.ofNat w)) (rN R) ∧ ∀ g, g < 4 → byt (M 9 (256 * h + w)) g = senT R (Int32.ofNat h) (setl R (Int32.ofNat h) (Int32.ofNat w)) (Int32.ofNat g) (rN R))
set_option maxRecDepth 20000 in
theorem Memo.cg {M' : Mem} {R : RW} (h : Memo M R) (e7 : ∀ j, M' 7 j = M 7 j) (e8 : ∀ j, M' 8 j = M 8 j) (e9 : ∀ j, M' 9 j = M 9 j) : Memo M' R := by
  intro a ha w hw
  rw [e7, e8, e9]
  exact h a ha w hw
set_option maxRecDepth 20000 in
theorem Memo.new {R : RW} (h : ∀ j, M 7 j = -1) : Memo M R := fun _ _ _ _ => Or.inl (h _)
set_option maxRecDepth 20000 in
theorem stp_no {R : RW} {h l f : Int32} {i : Nat} (hc : (decide (rK R i = 0) && (decide (rL R i = l) && (rC R i && rW R i h f))) = false) : stp R h l i f = f := by
  unfold stp wk
  rw [hc]
  rfl
set_option maxRecDepth 20000 in
theorem stp_yes {R : RW} {h l f : Int32} {i : Nat} (hc : (decide (rK R i = 0) && (decide (rL R i = l) && (rC R i && rW R i h f))) = true) : stp R h l i f = f ||| one8 (rH R i) := by
  unfold stp wk
  rw [hc]
  rfl
set_option maxRecDepth 20000 in
theorem lq_settle36 {h w l x5 x6 x7 f0 : Int32} {R : RW} (hC : CW E T M n rs) (hR : CRW M n rs R) {Q : QT} (K : ∀ f, f = pas R h l n f0 → Go [] (d + 3) (some .int) tabX6_settle 141 [(0, .ref 6), (1, .int h), (2, .int w), (3, .int f), (4, .int l), (5, .int x5), (6, .int x6), (7, .int x7)] [] (hp (zz E T) M) 0 0 Q) : ∀ i, i ≤ n → ∀ f, f = pas R h l i f0 → Go [] (d + 3) (some .int) tabX6_settle 36 [(0, .ref 6), (1, .int h), (2, .int w), (3, .int f), (4, .int l), (5, .int x5), (6, .int x6), (7, .int x7), (8, .int (Int32.ofNat i))] [] (hp (zz E T) M) 0 0 Q := by
  obtain ⟨hL, hn12, hn, hR0, -⟩ := hC
  refine loop_up n ?_
  intro i hi ih f hf
  have nx : ∀ f', f' = stp R h l i f → f' = pas R h l (i + 1) f0 := fun f' h' => by
    rw [h', hf]
    rfl
  refine g_iload (n := 38) rfl rfl rfl ?_
  refine g_aload_n (n := 39) rfl rfl rfl ?_
  refine g_getR (n := 42) rfl rfl z_6 rfl ?_
  refine g_getR (n := 45) rfl rfl z_2 rfl ?_
  refine g_cP1 (n := 48) rfl rfl rfl rfl mt_Jx4a65c_size_8abf5 rfl rfl (r_k z_3) (sc_size) ?_
  refine g_ige (n := 51) rfl rfl (fun h48 => ?_) (fun h48 => ?_)
  · skip
    rw [hn] at h48
    have g9 := (jn_le (by omega) (by omega)).mp h48
    refine go_only 8 ?_
    refine K f ?_
    rw [hf, show i = n by omega]
  · skip
    rw [hn] at h48
    have g9 := (jn_lt (by omega) (by omega)).mp h48
    obtain ⟨⟨hd, hd8, ehd⟩, -⟩ := hR0 i g9
    obtain ⟨r1, r2, r3, -, r5, r6⟩ := hR.2.2 i g9
    rw [ehd, clampNat (by omega)] at r3
    refine g_aload_n (n := 52) rfl rfl rfl ?_
    refine g_getR (n := 55) rfl rfl z_6 rfl ?_
    refine g_getR (n := 58) rfl rfl z_2 rfl ?_
    refine g_iload (n := 60) rfl rfl rfl ?_
    refine g_cP2 (n := 63) rfl rfl rfl rfl mt_Jx4a65c_get_915e3 rfl rfl (r_k z_3) (sc_get hL hn hn12 g9) ?_
    refine g_cast (n := 66) rfl rfl (hL.1 i g9).2 ?_
    refine g_astore (n := 68) rfl rfl ?_
    refine g_aload (n := 70) rfl rfl rfl ?_
    refine g_getI (n := 73) rfl rfl (hL.1 i g9).2 rfl ?_
    refine g_zne (n := 76) rfl rfl (fun h73 => ?_) (fun h73 => ?_)
    · skip
      refine g_const (n := 108) rfl rfl (s_iconst (v := 0) (by decide)) ?_
      refine g_istore (n := 110) rfl rfl ?_
      refine g_iload (n := 112) rfl rfl rfl ?_
      refine g_zeq (n := 115) rfl rfl (fun h112 => ?_) (fun h112 => ?_)
      · skip
        refine g_iinc (n := 138) rfl rfl rfl (jn_1 _) ?_
        refine g_goto rfl ?_
        refine go_only 9 ?_
        exact ih g9 _ (nx _ (stp_no (by rw [r1, dF h73, Bool.false_and])).symm)
      · skip
        exact absurd h112 (by decide)
    · skip
      refine g_aload_n (n := 77) rfl rfl rfl ?_
      refine g_getR (n := 80) rfl rfl z_6 rfl ?_
      refine g_getR (n := 83) rfl rfl z_2 rfl ?_
      refine g_aload (n := 85) rfl rfl rfl ?_
      refine g_getI (n := 88) rfl rfl (hL.1 i g9).2 rfl ?_
      refine g_iald (n := 89) rfl rfl z_4 rfl ehd hd8 ?_
      refine g_iload (n := 91) rfl rfl rfl ?_
      refine g_ine (n := 94) rfl rfl (fun h91 => ?_) (fun h91 => ?_)
      · skip
        refine g_const (n := 108) rfl rfl (s_iconst (v := 0) (by decide)) ?_
        refine g_istore (n := 110) rfl rfl ?_
        refine g_iload (n := 112) rfl rfl rfl ?_
        refine g_zeq (n := 115) rfl rfl (fun h112 => ?_) (fun h112 => ?_)
        · skip
          refine g_iinc (n := 138) rfl rfl rfl (jn_1 _) ?_
          refine g_goto rfl ?_
          refine go_only 9 ?_
          exact ih g9 _ (nx _ (stp_no (by rw [r3, dF h91, Bool.false_and, Bool.and_false])).symm)
        · skip
          exact absurd h112 (by decide)
      · skip
        refine g_aload_n (n := 95) rfl rfl rfl ?_
        refine g_iload (n := 97) rfl rfl rfl ?_
        refine g_cP2 (n := 100) rfl rfl rfl rfl mt_X6_counts rfl rfl (r_k z_6) (sc_counts) ?_
        refine g_bz (n := 103) rfl rfl (fun h100 => ?_) (fun h100 => ?_)
        · skip
          rw [bit_1 (show i < 32 by omega), ← r6] at h100
          refine g_const (n := 108) rfl rfl (s_iconst (v := 0) (by decide)) ?_
          refine g_istore (n := 110) rfl rfl ?_
          refine g_iload (n := 112) rfl rfl rfl ?_
          refine g_zeq (n := 115) rfl rfl (fun h112 => ?_) (fun h112 => ?_)
          · skip
            refine g_iinc (n := 138) rfl rfl rfl (jn_1 _) ?_
            refine g_goto rfl ?_
            refine go_only 9 ?_
            exact ih g9 _ (nx _ (stp_no (by rw [h100, Bool.false_and, Bool.and_false, Bool.and_false])).symm)
          · skip
            exact absurd h112 (by decide)
        · skip
          rw [bit_1 (show i < 32 by omega), ← r6] at h100
          refine g_const (n := 104) rfl rfl (s_iconst (v := 1) (by decide)) ?_
          refine g_goto rfl ?_
          refine g_istore (n := 110) rfl rfl ?_
          refine g_iload (n := 112) rfl rfl rfl ?_
          refine g_zeq (n := 115) rfl rfl (fun h112 => ?_) (fun h112 => ?_)
          · skip
            exact absurd h112 (by decide)
          · skip
            refine g_aload (n := 117) rfl rfl rfl ?_
            refine g_iload_n (n := 118) rfl rfl rfl ?_
            refine g_iload_n (n := 119) rfl rfl rfl ?_
            refine g_cP3 (n := 122) rfl rfl rfl rfl mt_X2_works rfl rfl (r_k (hL.1 i g9).2) (sc_works (hL.1 i g9).2) ?_
            refine g_bz (n := 125) rfl rfl (fun h122 => ?_) (fun h122 => ?_)
            · skip
              rw [← r5] at h122
              refine g_iinc (n := 138) rfl rfl rfl (jn_1 _) ?_
              refine g_goto rfl ?_
              refine go_only 9 ?_
              exact ih g9 _ (nx _ (stp_no (by rw [h122, Bool.and_false, Bool.and_false, Bool.and_false])).symm)
            · skip
              rw [← r5] at h122
              refine g_iload_n (n := 126) rfl rfl rfl ?_
              refine g_const (n := 127) rfl rfl (s_iconst (v := 1) (by decide)) ?_
              refine g_aload (n := 129) rfl rfl rfl ?_
              refine g_getI (n := 132) rfl rfl (hL.1 i g9).2 rfl ?_
              refine g_ishl (n := 133) rfl rfl ?_
              refine g_ior (n := 134) rfl rfl ?_
              refine g_istore_n (n := 135) rfl rfl ?_
              refine g_iinc (n := 138) rfl rfl rfl (jn_1 _) ?_
              refine g_goto rfl ?_
              refine go_only 9 ?_
              refine ih g9 _ (nx _ ?_)
              rw [stp_yes (by rw [r1, dT h73, r3, dT h91, h100, h122]; rfl), r2]
              rfl
set_option maxRecDepth 20000 in
theorem lq_settle18 {h w l f0 : Int32} {R : RW} (hC : CW E T M n rs) (hR : CRW M n rs R) {Q : QT} (K : ∀ f, f = clo R h l f0 → Go [] (d + 3) (some .int) tabX6_settle 160 [(0, .ref 6), (1, .int h), (2, .int w), (3, .int f), (4, .int l)] [] (hp (zz E T) M) 0 0 Q) : ∀ i, i ≤ 8 → ∀ f m, f = itr (pas R h l (rN R)) i f0 → (m = true ∨ pas R h l (rN R) f = f) → Go [] (d + 3) (some .int) tabX6_settle 18 [(0, .ref 6), (1, .int h), (2, .int w), (3, .int f), (4, .int l), (5, .int (bI m)), (6, .int (Int32.ofNat i))] [] (hp (zz E T) M) 0 0 Q := by
  refine loop_up 8 ?_
  intro i hi ih f m hf hm
  have K2 : i < 8 → ∀ f' x5, f' = pas R h l (rN R) f → Go [] (d + 3) (some .int) tabX6_settle 141 [(0, .ref 6), (1, .int h), (2, .int w), (3, .int f'), (4, .int l), (5, .int x5), (6, .int (Int32.ofNat i)), (7, .int f)] [] (hp (zz E T) M) 0 0 Q := by
    intro g f' x5 hf'
    have h1 : f' = itr (pas R h l (rN R)) (i + 1) f0 := by
      rw [hf', hf]
      rfl
    refine g_iload_n (n := 142) rfl rfl rfl ?_
    refine g_iload (n := 144) rfl rfl rfl ?_
    refine g_ieq (n := 147) rfl rfl (fun h144 => ?_) (fun h144 => ?_)
    · skip
      refine g_const (n := 152) rfl rfl (s_iconst (v := 0) (by decide)) ?_
      refine g_istore (n := 154) rfl rfl ?_
      refine g_iinc (n := 157) rfl rfl rfl (jn_1 _) ?_
      refine g_goto rfl ?_
      refine go_only 7 ?_
      refine ih g f' false h1 (Or.inr ?_)
      rw [h144] at hf' ⊢
      exact hf'.symm
    · skip
      refine g_const (n := 148) rfl rfl (s_iconst (v := 1) (by decide)) ?_
      refine g_goto rfl ?_
      refine g_istore (n := 154) rfl rfl ?_
      refine g_iinc (n := 157) rfl rfl rfl (jn_1 _) ?_
      refine g_goto rfl ?_
      refine go_only 7 ?_
      exact ih g f' true h1 (Or.inl rfl)
  refine g_iload (n := 20) rfl rfl rfl ?_
  refine g_bz (n := 23) rfl rfl (fun h20 => ?_) (fun h20 => ?_)
  · skip
    refine go_only 5 ?_
    refine K f (pas_eq hR.2.1 hf ?_)
    rcases hm with e | e
    · rw [e] at h20; cases h20
    · exact e
  · skip
    refine g_iload (n := 25) rfl rfl rfl ?_
    refine g_const (n := 27) rfl rfl (s_bipush (v := 8) (by decide)) ?_
    refine g_ige (n := 30) rfl rfl (fun h27 => ?_) (fun h27 => ?_)
    · skip
      have g9 := (jn_le (b := i) (a := 8) (by omega) (by omega)).mp h27
      refine go_only 5 ?_
      refine K f ?_
      rw [hf, show i = 8 by omega]
      rfl
    · skip
      have g9 := (jn_lt (b := 8) (a := i) (by omega) (by omega)).mp h27
      refine g_iload_n (n := 31) rfl rfl rfl ?_
      refine g_istore (n := 33) rfl rfl ?_
      refine g_const (n := 34) rfl rfl (s_iconst (v := 0) (by decide)) ?_
      refine g_istore (n := 36) rfl rfl ?_
      refine lq_settle36 (R := R) (f0 := f) hC hR (fun f' hf' => K2 g9 f' _ (by rw [hR.1]; exact hf')) 0 (by omega) f rfl
set_option maxRecDepth 20000 in
theorem lq_settle5 {h w : Int32} {R : RW} (hC : CW E T M n rs) (hR : CRW M n rs R) : ∀ i, i ≤ 8 → ∀ f, f = sett R h i w → Go [] (d + 3) (some .int) tabX6_settle 5 [(0, .ref 6), (1, .int h), (2, .int w), (3, .int f), (4, .int (Int32.ofNat i))] [] (hp (zz E T) M) 0 0 (QI (zz E T) (fun x M' => M' = M ∧ x = setl R h w)) := by
  refine loop_up 8 ?_
  intro i hi ih f hf
  have K2 : i < 8 → ∀ f', f' = clo R h (Int32.ofNat i) f → Go [] (d + 3) (some .int) tabX6_settle 160 [(0, .ref 6), (1, .int h), (2, .int w), (3, .int f'), (4, .int (Int32.ofNat i))] [] (hp (zz E T) M) 0 0 (QI (zz E T) (fun x M' => M' = M ∧ x = setl R h w)) := by
    intro g f' hf'
    have h1 : f' = sett R h (i + 1) w := by
      rw [hf', hf]
      rfl
    refine g_iinc (n := 163) rfl rfl rfl (jn_1 _) ?_
    refine g_goto rfl ?_
    exact ih g f' h1
  refine g_iload (n := 7) rfl rfl rfl ?_
  refine g_const (n := 9) rfl rfl (s_bipush (v := 8) (by decide)) ?_
  refine g_ige (n := 12) rfl rfl (fun h9 => ?_) (fun h9 => ?_)
  · skip
    have g9 := (jn_le (b := i) (a := 8) (by omega) (by omega)).mp h9
    refine g_iload_n (n := 167) rfl rfl rfl ?_
    refine g_retI rfl ?_
    refine ⟨rfl, ?_⟩
    rw [hf, show i = 8 by omega]
    rfl
  · skip
    have g9 := (jn_lt (b := 8) (a := i) (by omega) (by omega)).mp h9
    refine g_const (n := 13) rfl rfl (s_iconst (v := 1) (by decide)) ?_
    refine g_istore (n := 15) rfl rfl ?_
    refine g_const (n := 16) rfl rfl (s_iconst (v := 0) (by decide)) ?_
    refine g_istore (n := 18) rfl rfl ?_
    exact lq_settle18 (f0 := f) hC hR (K2 g9) 0 (by omega) f true rfl (Or.inl rfl)
set_option maxRecDepth 20000 in
theorem sd_settle {h w : Int32} {R : RW} (hC : CW E T M n rs) (hR : CRW M n rs R) : EvI (d + 4) miX6_settle [.ref 6, .int h, .int w] (zz E T) M (fun x M' => M' = M ∧ x = setl R h w) := by
  refine ev_of mt_X6_settle rfl ?_
  refine g_iload_n (n := 1) rfl rfl rfl ?_
  refine g_istore_n (n := 2) rfl rfl ?_
  refine g_const (n := 3) rfl rfl (s_iconst (v := 0) (by decide)) ?_
  refine g_istore (n := 5) rfl rfl ?_
  exact lq_settle5 hC hR 0 (by omega) _ rfl
set_option maxRecDepth 20000 in
theorem sh9x : ∀ k, k < 4 → ∀ j, j < 8 → (((8 * Int32.ofNat k + Int32.ofNat j) &&& 31).toBitVec.smod 32).toNat = 8 * k + j := by decide
set_option maxRecDepth 20000 in
theorem gb_cBit {k j i : Nat} (hk : k < 4) (hj : j < 8) (hi : i < 32) : gb (cBit (Int32.ofNat k) (Int32.ofNat j)) i = decide (i = 8 * k + j) := by
  unfold cBit
  rw [gb_shlG (sh9x k hk j hj) hi, gb_1]
  by_cases h : i < 8 * k + j
  · rw [decide_eq_true h, decide_eq_false (show ¬ i = 8 * k + j by omega)]; rfl
  · rw [decide_eq_false h]
    by_cases e : i = 8 * k + j
    · rw [decide_eq_true e, decide_eq_true (show i - (8 * k + j) = 0 by omega)]; rfl
    · rw [decide_eq_false e, decide_eq_false (show ¬ i - (8 * k + j) = 0 by omega)]; rfl
set_option maxRecDepth 20000 in
theorem byt_cBit {k j g : Nat} (hk : k < 4) (hj : j < 8) (hg : g < 4) : byt (cBit (Int32.ofNat k) (Int32.ofNat j)) g = if g = k then one8 (Int32.ofNat j) else 0 := by
  apply gb_ext
  intro i hi
  rw [gb_byt hg]
  by_cases h8 : i < 8
  · rw [decide_eq_true h8, Bool.true_and, gb_cBit hk hj (by omega)]
    by_cases e : g = k
    · subst e
      rw [if_pos rfl]
      unfold one8
      rw [gb_one (by omega) hi, decide_eq_decide]
      omega
    · rw [if_neg e, gb_0, decide_eq_false (by omega)]
  · rw [decide_eq_false h8, Bool.false_and]
    by_cases e : g = k
    · rw [if_pos e]
      exact (E8.one hj i (by omega)).symm
    · rw [if_neg e, gb_0]
set_option maxRecDepth 20000 in
theorem kep_no {R : RW} {h f : Int32} {i : Nat} (hc : (decide (rK R i = 1) && (rC R i && rW R i h f)) = false) : kepT R h f (i + 1) = kepT R h f i := by
  show (bif decide (rK R i = 1) && (rC R i && rW R i h f) then _ else _) = _
  rw [hc]
  rfl
set_option maxRecDepth 20000 in
theorem kep_yes {R : RW} {h f : Int32} {i : Nat} (hc : (decide (rK R i = 1) && (rC R i && rW R i h f)) = true) : kepT R h f (i + 1) = kepT R h f i ||| one8 (rH R i) := by
  show (bif decide (rK R i = 1) && (rC R i && rW R i h f) then _ else _) = _
  rw [hc]
  rfl
def SNB (R : RW) (h f : Int32) (i : Nat) (x : Int32) : Prop := ∀ g, g < 4 → byt x g = senT R h f (Int32.ofNat g) i
set_option maxRecDepth 20000 in
theorem SNB.no {R : RW} {h f x : Int32} {i : Nat} (hx : SNB R h f i x) (hc : (decide (rK R i = 2) && (rC R i && rW R i h f)) = false) : SNB R h f (i + 1) x := by
  intro g hg
  rw [hx g hg, sen_no]
  unfold wk
  cases h2 : decide (rK R i = 2)
  · rfl
  · rw [h2, Bool.true_and] at hc
    rw [hc, Bool.and_false, Bool.and_false]
set_option maxRecDepth 20000 in
theorem SNB.yes {R : RW} {h f x : Int32} {i t k : Nat} (hx : SNB R h f i x) (hc : (decide (rK R i = 2) && (rC R i && rW R i h f)) = true) (ht : t < 4) (hk : k < 8) (et : rT R i = Int32.ofNat t) (ek : rH R i = Int32.ofNat k) : SNB R h f (i + 1) (x ||| cBit (Int32.ofNat t) (Int32.ofNat k)) := by
  intro g hg
  rw [Bool.and_eq_true] at hc
  rw [byt_or hg, hx g hg, byt_cBit ht hk hg]
  by_cases e : g = t
  · subst e
    rw [if_pos rfl, sen_yes, ek]
    unfold wk
    rw [hc.1, hc.2, et, decide_eq_true rfl]
    rfl
  · rw [if_neg e, sen_no]
    · exact Int32.or_zero
    · rw [et, decide_eq_false (fun q => e (jn_inj (by omega) (by omega) q).symm), Bool.false_and, Bool.and_false]
set_option maxRecDepth 20000 in
theorem lq_learn16 {h w f : Int32} {R : RW} (hC : CW E T M n rs) (hR : CRW M n rs R) {Q : QT} (K : ∀ x5 x6, SNB R h f n x5 → Go [] (d + 4) none tabX6_learn 127 [(0, .ref 6), (1, .int h), (2, .int w), (3, .int f), (4, .int (kepT R h f n)), (5, .int x5), (6, .int x6)] [] (hp (zz E T) M) 0 0 Q) : ∀ i, i ≤ n → ∀ x4 x5, x4 = kepT R h f i → SNB R h f i x5 → Go [] (d + 4) none tabX6_learn 16 [(0, .ref 6), (1, .int h), (2, .int w), (3, .int f), (4, .int x4), (5, .int x5), (6, .int (Int32.ofNat i))] [] (hp (zz E T) M) 0 0 Q := by
  obtain ⟨hL, hn12, hn, hR0, -⟩ := hC
  refine loop_up n ?_
  intro i hi ih x4 x5 h4 h5
  refine g_iload (n := 18) rfl rfl rfl ?_
  refine g_aload_n (n := 19) rfl rfl rfl ?_
  refine g_getR (n := 22) rfl rfl z_6 rfl ?_
  refine g_getR (n := 25) rfl rfl z_2 rfl ?_
  refine g_cP1 (n := 28) rfl rfl rfl rfl mt_Jx4a65c_size_8abf5 rfl rfl (r_k z_3) (sc_size) ?_
  refine g_ige (n := 31) rfl rfl (fun h28 => ?_) (fun h28 => ?_)
  · skip
    rw [hn] at h28
    have g9 := (jn_le (by omega) (by omega)).mp h28
    refine go_only 7 ?_
    obtain rfl : i = n := by omega
    rw [h4]
    exact K _ _ h5
  · skip
    rw [hn] at h28
    have g9 := (jn_lt (by omega) (by omega)).mp h28
    obtain ⟨r1, r2, -, r4, r5, r6⟩ := hR.2.2 i g9
    obtain ⟨⟨hd, hd8, ehd⟩, -, -, -, ⟨to, hto, eto⟩⟩ := hR0 i g9
    refine g_aload_n (n := 32) rfl rfl rfl ?_
    refine g_getR (n := 35) rfl rfl z_6 rfl ?_
    refine g_getR (n := 38) rfl rfl z_2 rfl ?_
    refine g_iload (n := 40) rfl rfl rfl ?_
    refine g_cP2 (n := 43) rfl rfl rfl rfl mt_Jx4a65c_get_915e3 rfl rfl (r_k z_3) (sc_get hL hn hn12 g9) ?_
    refine g_cast (n := 46) rfl rfl (hL.1 i g9).2 ?_
    refine g_astore (n := 48) rfl rfl ?_
    refine g_aload_n (n := 49) rfl rfl rfl ?_
    refine g_iload (n := 51) rfl rfl rfl ?_
    refine g_cP2 (n := 54) rfl rfl rfl rfl mt_X6_counts rfl rfl (r_k z_6) (sc_counts) ?_
    refine g_bz (n := 57) rfl rfl (fun h54 => ?_) (fun h54 => ?_)
    · skip
      rw [bit_1 (show i < 32 by omega), ← r6] at h54
      refine g_iinc (n := 124) rfl rfl rfl (jn_1 _) ?_
      refine g_goto rfl ?_
      refine go_only 7 ?_
      exact ih g9 _ _ (by rw [h4, kep_no (by rw [h54, Bool.false_and, Bool.and_false])]) (h5.no (by rw [h54, Bool.false_and, Bool.and_false]))
    · skip
      rw [bit_1 (show i < 32 by omega), ← r6] at h54
      refine g_aload (n := 59) rfl rfl rfl ?_
      refine g_iload_n (n := 60) rfl rfl rfl ?_
      refine g_iload_n (n := 61) rfl rfl rfl ?_
      refine g_cP3 (n := 64) rfl rfl rfl rfl mt_X2_works rfl rfl (r_k (hL.1 i g9).2) (sc_works (hL.1 i g9).2) ?_
      refine g_bnz (n := 67) rfl rfl (fun h64 => ?_) (fun h64 => ?_)
      · skip
        rw [← r5] at h64
        refine g_aload (n := 72) rfl rfl rfl ?_
        refine g_getI (n := 75) rfl rfl (hL.1 i g9).2 rfl ?_
        refine g_const (n := 76) rfl rfl (s_iconst (v := 1) (by decide)) ?_
        refine g_ine (n := 79) rfl rfl (fun h76 => ?_) (fun h76 => ?_)
        · skip
          refine g_aload (n := 96) rfl rfl rfl ?_
          refine g_getI (n := 99) rfl rfl (hL.1 i g9).2 rfl ?_
          refine g_const (n := 100) rfl rfl (s_iconst (v := 2) (by decide)) ?_
          refine g_ine (n := 103) rfl rfl (fun h100 => ?_) (fun h100 => ?_)
          · skip
            refine g_iinc (n := 124) rfl rfl rfl (jn_1 _) ?_
            refine g_goto rfl ?_
            refine go_only 7 ?_
            exact ih g9 _ _ (by rw [h4, kep_no (by rw [r1, dF h76, Bool.false_and])]) (h5.no (by rw [r1, dF h100, Bool.false_and]))
          · skip
            refine g_iload (n := 105) rfl rfl rfl ?_
            refine g_aload (n := 107) rfl rfl rfl ?_
            refine g_getI (n := 110) rfl rfl (hL.1 i g9).2 rfl ?_
            refine g_aload (n := 112) rfl rfl rfl ?_
            refine g_getI (n := 115) rfl rfl (hL.1 i g9).2 rfl ?_
            refine g_cP2 (n := 118) rfl rfl rfl rfl mt_X8_bitOf rfl rfl rfl (sc_bitOf) ?_
            refine g_ior (n := 119) rfl rfl ?_
            refine g_istore (n := 121) rfl rfl ?_
            refine g_iinc (n := 124) rfl rfl rfl (jn_1 _) ?_
            refine g_goto rfl ?_
            refine go_only 7 ?_
            rw [eto, ehd]
            exact ih g9 _ _ (by rw [h4, kep_no (by rw [r1, dF h76, Bool.false_and])]) (h5.yes (by rw [r1, dT h100, h54, h64]; rfl) hto hd8 (r4.trans eto) (r2.trans ehd))
        · skip
          refine g_iload (n := 81) rfl rfl rfl ?_
          refine g_const (n := 82) rfl rfl (s_iconst (v := 1) (by decide)) ?_
          refine g_aload (n := 84) rfl rfl rfl ?_
          refine g_getI (n := 87) rfl rfl (hL.1 i g9).2 rfl ?_
          refine g_ishl (n := 88) rfl rfl ?_
          refine g_ior (n := 89) rfl rfl ?_
          refine g_istore (n := 91) rfl rfl ?_
          refine g_goto rfl ?_
          refine g_iinc (n := 124) rfl rfl rfl (jn_1 _) ?_
          refine g_goto rfl ?_
          refine go_only 7 ?_
          refine ih g9 _ _ ?_ (h5.no (by rw [r1, h76]; rfl))
          rw [h4, kep_yes (by rw [r1, h76, h54, h64]; rfl), r2]
          rfl
      · skip
        rw [← r5] at h64
        refine g_goto rfl ?_
        refine g_iinc (n := 124) rfl rfl rfl (jn_1 _) ?_
        refine g_goto rfl ?_
        refine go_only 7 ?_
        exact ih g9 _ _ (by rw [h4, kep_no (by rw [h64, Bool.and_false, Bool.and_false])]) (h5.no (by rw [h64, Bool.and_false, Bool.and_false]))
/-- the tables of what is learned -/
def kT (q _j : Nat) : Bool := Nat.beq q 7 || (Nat.beq q 8 || Nat.beq q 9)
set_option maxRecDepth 20000 in
theorem E8_m1 {x : Int32} (h : E8 x) : ¬ x = -1 := by
  intro e
  have h1 := h 8 (by omega)
  rw [e, gb_m1 (by omega)] at h1
  cases h1
set_option maxRecDepth 20000 in
theorem kT_up {M1 : Mem} {q j : Nat} {x : Int32} (h : Fr kT M M1) (hs : kT q j = true) : Fr kT M (mup M1 q j x) := h.up hs
set_option maxRecDepth 20000 in
theorem sd_learn {h w : Nat} {R : RW} (h4 : h < 4) (hw : w < 256) (hC : CW E T M n rs) (hR : CRW M n rs R) (hM : Memo M R) : EvV (d + 5) miX6_learn [.ref 6, .int (Int32.ofNat h), .int (Int32.ofNat w)] (zz E T) M (fun M' => Fr kT M M' ∧ Memo M' R ∧ ¬ M' 7 (256 * h + w) = -1) := by
  have K2 : ∀ f x5 x6, f = setl R (Int32.ofNat h) (Int32.ofNat w) → SNB R (Int32.ofNat h) f n x5 → Go [] (d + 4) none tabX6_learn 127 [(0, .ref 6), (1, .int (Int32.ofNat h)), (2, .int (Int32.ofNat w)), (3, .int f), (4, .int (kepT R (Int32.ofNat h) f n)), (5, .int x5), (6, .int x6)] [] (hp (zz E T) M) 0 0 (QV (zz E T) (fun M' => Fr kT M M' ∧ Memo M' R ∧ ¬ M' 7 (256 * h + w) = -1)) := by
    intro f x5 x6 hf h5
    subst hf
    refine g_iload_n (n := 128) rfl rfl rfl ?_
    refine g_iload_n (n := 129) rfl rfl rfl ?_
    refine g_cP2 (n := 132) rfl rfl rfl rfl mt_X6_placeOf rfl rfl rfl (sc_placeOf) ?_
    refine g_istore (n := 134) rfl rfl ?_
    refine g_aload_n (n := 135) rfl rfl rfl ?_
    refine g_getR (n := 138) rfl rfl z_6 rfl ?_
    refine g_iload (n := 140) rfl rfl rfl ?_
    refine g_iload_n (n := 141) rfl rfl rfl ?_
    refine g_iast (n := 142) rfl rfl z_7 rfl (ix256 h w) (by omega) ?_
    refine g_aload_n (n := 143) rfl rfl rfl ?_
    refine g_getR (n := 146) rfl rfl z_6 rfl ?_
    refine g_iload (n := 148) rfl rfl rfl ?_
    refine g_iload (n := 150) rfl rfl rfl ?_
    refine g_iast (n := 151) rfl rfl z_8 rfl (ix256 h w) (by omega) ?_
    refine g_aload_n (n := 152) rfl rfl rfl ?_
    refine g_getR (n := 155) rfl rfl z_6 rfl ?_
    refine g_iload (n := 157) rfl rfl rfl ?_
    refine g_iload (n := 159) rfl rfl rfl ?_
    refine g_iast (n := 160) rfl rfl z_9 rfl (ix256 h w) (by omega) ?_
    refine g_retV rfl ?_
    refine ⟨((Fr.rf.up rfl).up rfl).up rfl, fun h' hh' w' hw' => ?_, ?_⟩
    · by_cases e : 256 * h' + w' = 256 * h + w
      · obtain rfl : h' = h := by omega
        obtain rfl : w' = w := by omega
        right
        refine ⟨?_, ?_, fun g hg => ?_⟩
        · rw [mup_q (by omega), mup_q (by omega), mup_same]
        · rw [mup_q (by omega), mup_same, hR.1]
        · rw [mup_same, hR.1]
          exact h5 g hg
      · rw [mup_j e, mup_j e, mup_j e, mup_j e, mup_j e, mup_j e, mup_j e, mup_j e, mup_j e]
        exact hM h' hh' w' hw'
    · rw [mup_q (by omega), mup_q (by omega), mup_same]
      exact E8_m1 (E8_setl hR.2.1 (E8.nat hw))
  refine ev_of mt_X6_learn rfl ?_
  refine g_aload_n (n := 1) rfl rfl rfl ?_
  refine g_iload_n (n := 2) rfl rfl rfl ?_
  refine g_iload_n (n := 3) rfl rfl rfl ?_
  refine g_cI3 (n := 6) rfl rfl rfl rfl mt_X6_settle rfl rfl (r_k z_6) (sd_settle hC hR) ?_
  rintro x3 M3 ⟨rfl, rfl⟩
  refine g_istore_n (n := 7) rfl rfl ?_
  refine g_const (n := 8) rfl rfl (s_iconst (v := 0) (by decide)) ?_
  refine g_istore (n := 10) rfl rfl ?_
  refine g_const (n := 11) rfl rfl (s_iconst (v := 0) (by decide)) ?_
  refine g_istore (n := 13) rfl rfl ?_
  refine g_const (n := 14) rfl rfl (s_iconst (v := 0) (by decide)) ?_
  refine g_istore (n := 16) rfl rfl ?_
  refine lq_learn16 hC hR (fun x5 x6 h5 => K2 _ x5 x6 rfl h5) 0 (by omega) _ _ rfl (fun g hg => ?_)
  rw [byt_0 hg]
  rfl
-- a run's cells: b, b + 1 ..
variable {b : Nat}
def kR (b q _j : Nat) : Bool := Nat.beq q 7 || (Nat.beq q 8 || (Nat.beq q 9 || (Nat.ble b q && Nat.blt q (b + 6))))
set_option maxRecDepth 20000 in
theorem kR_T {q j : Nat} (h : kT q j = true) : kR b q j = true := by
  unfold kT at h
  unfold kR
  simp only [Bool.or_eq_true] at h ⊢
  rcases h with h | h | h
  · exact Or.inl h
  · exact Or.inr (Or.inl h)
  · exact Or.inr (Or.inr (Or.inl h))
set_option maxRecDepth 20000 in
theorem kR_run {k j : Nat} (hk : k < 6) : kR b (b + k) j = true := by
  have h1 : Nat.ble b (b + k) = true := Nat.ble_eq.mpr (by omega)
  have h2 : Nat.blt (b + k) (b + 6) = true := Nat.blt_eq.mpr (by omega)
  simp only [kR, h1, h2, Bool.and_self, Bool.or_true]
set_option maxRecDepth 20000 in
theorem kR_run0 {j : Nat} : kR b b j = true := kR_run (k := 0) (by omega)
set_option maxRecDepth 20000 in
theorem kR_no {q j : Nat} (h7 : q ≠ 7) (h8 : q ≠ 8) (h9 : q ≠ 9) (h : q < b ∨ b + 6 ≤ q) : kR b q j = false := by
  have e : ∀ k, q ≠ k → Nat.beq q k = false := fun k hk => by
    cases hb : Nat.beq q k with
    | false => rfl
    | true => exact absurd (Nat.eq_of_beq_eq_true hb) hk
  have e2 : (Nat.ble b q && Nat.blt q (b + 6)) = false := by
    cases hb : (Nat.ble b q && Nat.blt q (b + 6)) with
    | false => rfl
    | true => simp only [Bool.and_eq_true, Nat.blt_eq, Nat.ble_eq] at hb; omega
  simp only [kR, e 7 h7, e 8 h8, e 9 h9, e2, Bool.or_self]
set_option maxRecDepth 20000 in
theorem kR_sc {q j : Nat} (hb : IsRun b) (h : kR b q j = true) : cSc q j = true := by
  have hg := hb.rg
  unfold kR at h
  unfold cSc
  simp only [Bool.or_eq_true, Bool.and_eq_true, Nat.blt_eq, Nat.ble_eq] at h ⊢
  rcases h with h | h | h | h
  · exact Or.inl h
  · exact Or.inr (Or.inl h)
  · exact Or.inr (Or.inr (Or.inl h))
  · exact Or.inr (Or.inr (Or.inr ⟨by omega, by omega⟩))
set_option maxRecDepth 20000 in
theorem Fr.sc {M' : Mem} (hb : IsRun b) (h : Fr (kR b) M M') : cKeep M M' := h.mono (fun _ _ => kR_sc hb)
/-- what a host that lives does to a run's cells -/
def LIV (M : Mem) (b t h : Nat) (R : RW) (M' : Mem) : Prop := Fr (kR b) M M' ∧ Memo M' R ∧ (∀ j, M' b j = M b j) ∧ (∀ j, M' (b + 4) j = M (b + 4) j) ∧ (∀ j, M' (b + 5) j = M (b + 5) j) ∧
  (∀ j, j ≠ 4 * t + h → M' (b + 3) j = M (b + 3) j) ∧ (∀ j, j ≠ t → M' (b + 2) j = M (b + 2) j) ∧ (∀ j, j ≠ t + 1 → M' (b + 1) j = M (b + 1) j) ∧
  (∀ k, k < 4 → byt (M' (b + 2) t) k = byt (M (b + 2) t) k ||| (if k = h then setl R (Int32.ofNat h) (byt (M (b + 1) t) h) else 0)) ∧
  (∀ g, g < 4 → byt (M' (b + 3) (4 * t + h)) g = senT R (Int32.ofNat h) (setl R (Int32.ofNat h) (byt (M (b + 1) t) h)) (Int32.ofNat g) (rN R)) ∧
  (∀ k, k < 4 → byt (M' (b + 1) (t + 1)) k = (byt (M (b + 1) (t + 1)) k ||| (if k = h then kepT R (Int32.ofNat h) (setl R (Int32.ofNat h) (byt (M (b + 1) t) h)) (rN R) else 0)) ||| byt (M' (b + 3) (4 * t + h) &&& (M (b + 4) (4 * t + h) ^^^ -1)) k)
set_option maxRecDepth 20000 in
theorem sd_live44 {h t w : Nat} {x4 : Int32} {R : RW} {M1 : Mem} (hb : IsRun b) (h4 : h < 4) (ht : t ≤ 6) (hw : w < 256) (ew : byt (M (b + 1) t) h = Int32.ofNat w) (hok : RWok R) (k1 : Fr kT M M1) (m1 : Memo M1 R) (hne : ¬ M1 7 (256 * h + w) = -1) : Go [] (d + 5) none tabX4_live 44 [(0, .ref b), (1, .int (Int32.ofNat h)), (2, .int (Int32.ofNat t)), (3, .ref 6), (4, .int x4), (5, .int (Int32.ofNat (256 * h + w)))] [] (hp (zz E T) M1) 0 0 (QV (zz E T) (LIV M b t h R)) := by
  have hg := hb.rg
  obtain ⟨m7, m8, m9⟩ := (m1 h h4 w hw).resolve_left hne
  have kr : ∀ q j, b ≤ q → M1 q j = M q j := fun q j hq => by
    apply k1
    cases hk : kT q j with
    | false => rfl
    | true =>
      unfold kT at hk
      simp only [Bool.or_eq_true, Nat.beq_eq] at hk
      omega
  refine g_const (n := 45) rfl rfl (s_iconst (v := 4) (by decide)) ?_
  refine g_iload_n (n := 46) rfl rfl rfl ?_
  refine g_imul (n := 47) rfl rfl ?_
  refine g_iload_n (n := 48) rfl rfl rfl ?_
  refine g_iadd (n := 49) rfl rfl ?_
  rw [ix44]
  refine g_istore (n := 51) rfl rfl ?_
  refine g_aload_n (n := 52) rfl rfl rfl ?_
  refine g_getR (n := 55) rfl rfl (zr0 hb) rfl ?_
  refine g_iload (n := 57) rfl rfl rfl ?_
  refine g_aload_n (n := 58) rfl rfl rfl ?_
  refine g_getR (n := 61) rfl rfl z_6 rfl ?_
  refine g_iload (n := 63) rfl rfl rfl ?_
  refine g_iald (n := 64) rfl rfl z_9 rfl rfl (by omega) ?_
  refine g_iast (n := 65) rfl rfl (zr3 hb) rfl rfl (by omega) ?_
  obtain ⟨A1, hA1⟩ : ∃ A, A = mup M1 (b + 3) (4 * t + h) (M1 9 (256 * h + w)) := ⟨_, rfl⟩
  rw [← hA1]
  refine g_aload_n (n := 66) rfl rfl rfl ?_
  refine g_getR (n := 69) rfl rfl (zr0 hb) rfl ?_
  refine g_iload_n (n := 70) rfl rfl rfl ?_
  refine g_dup2 (n := 71) rfl rfl ?_
  refine g_iald (n := 72) rfl rfl (zr2 hb) rfl rfl (by omega) ?_
  refine g_aload_n (n := 73) rfl rfl rfl ?_
  refine g_getR (n := 76) rfl rfl z_6 rfl ?_
  refine g_iload (n := 78) rfl rfl rfl ?_
  refine g_iald (n := 79) rfl rfl z_7 rfl rfl (by omega) ?_
  refine g_const (n := 81) rfl rfl (s_bipush (v := 8) (by decide)) ?_
  refine g_iload_n (n := 82) rfl rfl rfl ?_
  refine g_imul (n := 83) rfl rfl ?_
  refine g_ishl (n := 84) rfl rfl ?_
  refine g_ior (n := 85) rfl rfl ?_
  refine g_iast (n := 86) rfl rfl (zr2 hb) rfl rfl (by omega) ?_
  obtain ⟨A2, hA2⟩ : ∃ A, A = mup A1 (b + 2) t (A1 (b + 2) t ||| A1 7 (256 * h + w) <<< (8 * Int32.ofNat h &&& 31)) := ⟨_, rfl⟩
  rw [← hA2]
  refine g_aload_n (n := 87) rfl rfl rfl ?_
  refine g_getR (n := 90) rfl rfl (zr0 hb) rfl ?_
  refine g_iload_n (n := 91) rfl rfl rfl ?_
  refine g_const (n := 92) rfl rfl (s_iconst (v := 1) (by decide)) ?_
  refine g_iadd (n := 93) rfl rfl ?_
  refine g_dup2 (n := 94) rfl rfl ?_
  refine g_iald (n := 95) rfl rfl (zr1 hb) rfl (jn_add t 1) (by omega) ?_
  refine g_aload_n (n := 96) rfl rfl rfl ?_
  refine g_getR (n := 99) rfl rfl z_6 rfl ?_
  refine g_iload (n := 101) rfl rfl rfl ?_
  refine g_iald (n := 102) rfl rfl z_8 rfl rfl (by omega) ?_
  refine g_const (n := 104) rfl rfl (s_bipush (v := 8) (by decide)) ?_
  refine g_iload_n (n := 105) rfl rfl rfl ?_
  refine g_imul (n := 106) rfl rfl ?_
  refine g_ishl (n := 107) rfl rfl ?_
  refine g_ior (n := 108) rfl rfl ?_
  refine g_iast (n := 109) rfl rfl (zr1 hb) rfl (jn_add t 1) (by omega) ?_
  obtain ⟨A3, hA3⟩ : ∃ A, A = mup A2 (b + 1) (t + 1) (A2 (b + 1) (t + 1) ||| A2 8 (256 * h + w) <<< (8 * Int32.ofNat h &&& 31)) := ⟨_, rfl⟩
  rw [← hA3]
  refine g_aload_n (n := 110) rfl rfl rfl ?_
  refine g_getR (n := 113) rfl rfl (zr0 hb) rfl ?_
  refine g_iload_n (n := 114) rfl rfl rfl ?_
  refine g_const (n := 115) rfl rfl (s_iconst (v := 1) (by decide)) ?_
  refine g_iadd (n := 116) rfl rfl ?_
  refine g_dup2 (n := 117) rfl rfl ?_
  refine g_iald (n := 118) rfl rfl (zr1 hb) rfl (jn_add t 1) (by omega) ?_
  refine g_aload_n (n := 119) rfl rfl rfl ?_
  refine g_getR (n := 122) rfl rfl z_6 rfl ?_
  refine g_iload (n := 124) rfl rfl rfl ?_
  refine g_iald (n := 125) rfl rfl z_9 rfl rfl (by omega) ?_
  refine g_aload_n (n := 126) rfl rfl rfl ?_
  refine g_getR (n := 129) rfl rfl (zr0 hb) rfl ?_
  refine g_iload (n := 131) rfl rfl rfl ?_
  refine g_iald (n := 132) rfl rfl (zr4 hb) rfl rfl (by omega) ?_
  refine g_const (n := 133) rfl rfl (s_iconst (v := (-1)) (by decide)) ?_
  refine g_ixor (n := 134) rfl rfl ?_
  refine g_iand (n := 135) rfl rfl ?_
  refine g_ior (n := 136) rfl rfl ?_
  refine g_iast (n := 137) rfl rfl (zr1 hb) rfl (jn_add t 1) (by omega) ?_
  refine g_retV rfl ?_
  obtain ⟨A4, hA4⟩ : ∃ A, A = mup A3 (b + 1) (t + 1) (A3 (b + 1) (t + 1) ||| A3 9 (256 * h + w) &&& (A3 (b + 4) (4 * t + h) ^^^ -1)) := ⟨_, rfl⟩
  rw [← hA4]
  have a1 : ∀ q, q ≠ b + 3 → A1 q = M1 q := fun q hq => by rw [hA1, mup_q hq]
  have a2 : ∀ q, q ≠ b + 2 → A2 q = A1 q := fun q hq => by rw [hA2, mup_q hq]
  have a3 : ∀ q, q ≠ b + 1 → A3 q = A2 q := fun q hq => by rw [hA3, mup_q hq]
  have a4 : ∀ q, q ≠ b + 1 → A4 q = A3 q := fun q hq => by rw [hA4, mup_q hq]
  have c7 : A1 7 (256 * h + w) = setl R (Int32.ofNat h) (Int32.ofNat w) := by rw [a1 7 (by omega)]; exact m7
  have c8 : A2 8 (256 * h + w) = kepT R (Int32.ofNat h) (setl R (Int32.ofNat h) (Int32.ofNat w)) (rN R) := by rw [a2 8 (by omega), a1 8 (by omega)]; exact m8
  have c9 : A3 9 (256 * h + w) = A4 (b + 3) (4 * t + h) := by
    rw [a3 9 (by omega), a2 9 (by omega), a1 9 (by omega), a4 (b + 3) (by omega), a3 (b + 3) (by omega), a2 (b + 3) (by omega), hA1, mup_same]
  have s9 : A4 (b + 3) (4 * t + h) = M1 9 (256 * h + w) := by
    rw [a4 (b + 3) (by omega), a3 (b + 3) (by omega), a2 (b + 3) (by omega), hA1, mup_same]
  have c4 : A3 (b + 4) (4 * t + h) = M (b + 4) (4 * t + h) := by
    rw [a3 (b + 4) (by omega), a2 (b + 4) (by omega), a1 (b + 4) (by omega)]
    exact kr _ _ (by omega)
  have oth : ∀ q, q ≠ b + 1 → q ≠ b + 2 → q ≠ b + 3 → A4 q = M1 q := fun q q1 q2 q3 => by rw [a4 q q1, a3 q q1, a2 q q2, a1 q q3]
  have hS : E8 (setl R (Int32.ofNat h) (Int32.ofNat w)) := E8_setl hok (E8.nat hw)
  have hK : E8 (kepT R (Int32.ofNat h) (setl R (Int32.ofNat h) (Int32.ofNat w)) (rN R)) := E8_kepT hok _ (Nat.le_refl _)
  unfold LIV
  rw [ew]
  refine ⟨fun q j hq => ?_, m1.cg (fun j => by rw [oth 7 (by omega) (by omega) (by omega)]) (fun j => by rw [oth 8 (by omega) (by omega) (by omega)]) (fun j => by rw [oth 9 (by omega) (by omega) (by omega)]), fun j => ?_, fun j => ?_, fun j => ?_, fun j hj => ?_, fun j hj => ?_, fun j hj => ?_, fun k hk => ?_, fun g hg' => ?_, fun k hk => ?_⟩
  · have q1 : q ≠ b + 1 := by rintro rfl; rw [kR_run (by omega)] at hq; cases hq
    have q2 : q ≠ b + 2 := by rintro rfl; rw [kR_run (by omega)] at hq; cases hq
    have q3 : q ≠ b + 3 := by rintro rfl; rw [kR_run (by omega)] at hq; cases hq
    rw [oth q q1 q2 q3]
    apply k1
    cases hk : kT q j with
    | false => rfl
    | true => rw [kR_T hk] at hq; cases hq
  · rw [oth b (by omega) (by omega) (by omega)]; exact kr _ _ (by omega)
  · rw [oth (b + 4) (by omega) (by omega) (by omega)]; exact kr _ _ (by omega)
  · rw [oth (b + 5) (by omega) (by omega) (by omega)]; exact kr _ _ (by omega)
  · rw [a4 (b + 3) (by omega), a3 (b + 3) (by omega), a2 (b + 3) (by omega), hA1, mup_j hj]; exact kr _ _ (by omega)
  · rw [a4 (b + 2) (by omega), a3 (b + 2) (by omega), hA2, mup_j hj, a1 (b + 2) (by omega)]; exact kr _ _ (by omega)
  · rw [hA4, mup_j hj, hA3, mup_j hj, a2 (b + 1) (by omega), a1 (b + 1) (by omega)]; exact kr _ _ (by omega)
  · rw [a4 (b + 2) (by omega), a3 (b + 2) (by omega), hA2, mup_same, byt_or hk, c7, byt_shl hS h4 hk, a1 (b + 2) (by omega), kr (b + 2) t (by omega)]
  · rw [s9]; exact m9 g hg'
  · rw [hA4, mup_same, byt_or hk, ← hA4, c9, c4]
    congr 1
    rw [hA3, mup_same, byt_or hk, c8, byt_shl hK h4 hk, a2 (b + 1) (by omega), a1 (b + 1) (by omega), kr (b + 1) (t + 1) (by omega)]
set_option maxRecDepth 20000 in
theorem sd_live {h t : Nat} {V : VW} (hb : IsRun b) (h4 : h < 4) (ht : t ≤ 6) (hX : CX E T M n rs V) (hM : Memo M (vR V)) : EvV (d + 6) miX4_live [.ref b, .int (Int32.ofNat h), .int (Int32.ofNat t)] (zz E T) M (LIV M b t h (vR V)) := by
  obtain ⟨w, hw, ew⟩ := and255 (M (b + 1) t >>> (8 * Int32.ofNat h &&& 31))
  refine ev_of mt_X4_live rfl ?_
  refine g_aload_n (n := 1) rfl rfl rfl ?_
  refine g_getR (n := 4) rfl rfl (zr0 hb) rfl ?_
  refine g_getR (n := 7) rfl rfl z_1 rfl ?_
  refine g_astore_n (n := 8) rfl rfl ?_
  refine g_aload_n (n := 9) rfl rfl rfl ?_
  refine g_getR (n := 12) rfl rfl (zr0 hb) rfl ?_
  refine g_iload_n (n := 13) rfl rfl rfl ?_
  refine g_iald (n := 14) rfl rfl (zr1 hb) rfl rfl (by omega) ?_
  refine g_iload_n (n := 15) rfl rfl rfl ?_
  refine g_cP2 (n := 18) rfl rfl rfl rfl mt_X4_share rfl rfl rfl (sc_share) ?_
  rw [ew]
  refine g_istore (n := 20) rfl rfl ?_
  refine g_iload_n (n := 21) rfl rfl rfl ?_
  refine g_iload (n := 23) rfl rfl rfl ?_
  refine g_cP2 (n := 26) rfl rfl rfl rfl mt_X6_placeOf rfl rfl rfl (sc_placeOf) ?_
  rw [ix256]
  refine g_istore (n := 28) rfl rfl ?_
  refine g_aload_n (n := 29) rfl rfl rfl ?_
  refine g_iload (n := 31) rfl rfl rfl ?_
  refine g_cP2 (n := 34) rfl rfl rfl rfl mt_X6_knows rfl rfl (r_k z_6) (sc_knows (by omega)) ?_
  refine g_bnz (n := 37) rfl rfl (fun h34 => ?_) (fun h34 => ?_)
  · skip
    refine sd_live44 hb h4 ht hw ew hX.2.1.2.1 Fr.rf hM (fun e => ?_)
    rw [dT e] at h34
    cases h34
  · skip
    refine g_aload_n (n := 38) rfl rfl rfl ?_
    refine g_iload_n (n := 39) rfl rfl rfl ?_
    refine g_iload (n := 41) rfl rfl rfl ?_
    refine g_cV3 (n := 44) rfl rfl rfl rfl mt_X6_learn rfl rfl (r_k z_6) (sd_learn h4 hw hX.1 hX.2.1 hM) ?_
    rintro M41 ⟨q41, m41, e41⟩
    exact sd_live44 hb h4 ht hw ew hX.2.1.2.1 q41 m41 e41
/-- the blows that a run is struck with; how far it is right -/
def RunS (M : Mem) (b : Nat) (bl : List Nat) : Prop := (∀ t, t ≤ 6 → ∀ s, s < 4 → ∀ g, g < 4 → byt (M (b + 4) (4 * t + s)) g = bif loB bl t s g then 255 else 0) ∧ ∀ h, h < 4 → ∃ k, k ≤ 7 ∧ M (b + 5) h = Int32.ofNat k ∧ ∀ t, t ≤ 6 → flB bl t h = decide (k ≤ t)
def RunT (M : Mem) (b : Nat) (V : VW) (bl : List Nat) (c : Nat) : Prop := ∀ t, t < c → t ≤ vE V → ∀ k, k < 4 → byt (M (b + 2) t) k = hsB V bl t k ∧ (∀ g, g < 4 → byt (M (b + 3) (4 * t + k)) g = snB V bl t k g) ∧ byt (M (b + 1) (t + 1)) k = bgB V bl (t + 1) k
def RunI (M : Mem) (b : Nat) (V : VW) (bl : List Nat) (c : Nat) : Prop := c ≤ 7 ∧ M b 6 = Int32.ofNat c ∧ RunS M b bl ∧ RunT M b V bl c
set_option maxRecDepth 20000 in
theorem RunS.cg {M' : Mem} {bl : List Nat} (h : RunS M b bl) (e4 : ∀ j, M' (b + 4) j = M (b + 4) j) (e5 : ∀ j, M' (b + 5) j = M (b + 5) j) : RunS M' b bl := by
  refine ⟨fun t ht s hs g hg => ?_, fun k hk => ?_⟩
  · rw [e4]; exact h.1 t ht s hs g hg
  · rw [e5]; exact h.2 k hk
set_option maxRecDepth 20000 in
theorem RunI.oth {M' : Mem} {c m : Nat} {V : VW} {bl : List Nat} (h : RunI M c V bl m) (k : Fr (kR b) M M') (hd : c + 6 ≤ b ∨ b + 6 ≤ c) (h15 : 15 ≤ c) : RunI M' c V bl m := by
  have e : ∀ i j, i < 6 → M' (c + i) j = M (c + i) j := fun i j hi => k _ _ (kR_no (by omega) (by omega) (by omega) (by omega))
  obtain ⟨h1, h2, h3, h4⟩ := h
  refine ⟨h1, (e 0 6 (by omega)).trans h2, h3.cg (fun j => e 4 j (by omega)) (fun j => e 5 j (by omega)), fun t ht hte k hk => ?_⟩
  rw [e 2 _ (by omega), e 1 _ (by omega)]
  refine ⟨(h4 t ht hte k hk).1, fun g hg => ?_, (h4 t ht hte k hk).2.2⟩
  rw [e 3 _ (by omega)]
  exact (h4 t ht hte k hk).2.1 g hg
/-- a tick under way: i hosts are done -/
def GT (M : Mem) (b t i : Nat) (V : VW) (bl : List Nat) (M1 : Mem) : Prop := Fr (kR b) M M1 ∧ Memo M1 (vR V) ∧ RunS M1 b bl ∧ RunT M1 b V bl t ∧ ((∀ k, k < 4 → byt (M1 (b + 1) t) k = bgB V bl t k) ∧ ∀ k, k < 4 → byt (M1 (b + 1) 0) k = vF V k) ∧
  (∀ k, k < 4 → byt (M1 (b + 2) t) k = if k < i then hsB V bl t k else 0) ∧ (∀ k, k < i → ∀ g, g < 4 → byt (M1 (b + 3) (4 * t + k)) g = snB V bl t k g) ∧ ∀ g, g < 4 → byt (M1 (b + 1) (t + 1)) g = (if g < i then kpB V bl t g else 0) ||| orT (fun s => bif loB bl t s g then 0 else snB V bl t s g) i
set_option maxRecDepth 20000 in
theorem or4 {a b c e : Int32} : ((a ||| b) ||| c) ||| e = (a ||| c) ||| (b ||| e) := by
  apply gb_ext
  intro i _
  simp only [gb_or]
  cases gb a i <;> cases gb b i <;> cases gb c i <;> cases gb e i <;> rfl
set_option maxRecDepth 20000 in
theorem or0 {a : Int32} : a ||| 0 = a := by
  apply gb_ext
  intro i _
  rw [gb_or, gb_0, Bool.or_false]
set_option maxRecDepth 20000 in
theorem or0' {a : Int32} : 0 ||| a = a := by
  apply gb_ext
  intro i _
  rw [gb_or, gb_0, Bool.false_or]
set_option maxRecDepth 20000 in
theorem fallen_0 {V : VW} {bl : List Nat} {t h g : Nat} (hf : flB bl t h = true) : hsB V bl t h = 0 ∧ snB V bl t h g = 0 ∧ kpB V bl t h = 0 := by
  unfold hsB snB kpB hasF senF kepF
  rw [hf]
  exact ⟨rfl, rfl, rfl⟩
set_option maxRecDepth 20000 in
theorem GT.fall {M1 : Mem} {t i : Nat} {V : VW} {bl : List Nat} (h : GT M b t i V bl M1) (h15 : 15 ≤ b) (hi : i < 4) (hf : flB bl t i = true) : GT M b t (i + 1) V bl (mup M1 (b + 3) (4 * t + i) 0) := by
  obtain ⟨h1, h2, h3, h4, h5, h6, h7, h8⟩ := h
  have e : ∀ q, q ≠ b + 3 → mup M1 (b + 3) (4 * t + i) 0 q = M1 q := fun q hq => mup_q hq
  refine ⟨h1.up (kR_run (by omega)), h2.cg (fun j => by rw [e 7 (by omega)]) (fun j => by rw [e 8 (by omega)]) (fun j => by rw [e 9 (by omega)]), h3.cg (fun j => by rw [e (b + 4) (by omega)]) (fun j => by rw [e (b + 5) (by omega)]), fun t' ht' hte k hk => ?_, ⟨fun k hk => by rw [e (b + 1) (by omega)]; exact h5.1 k hk, fun k hk => by rw [e (b + 1) (by omega)]; exact h5.2 k hk⟩, fun k hk => ?_, fun k hk g hg => ?_, fun g hg => ?_⟩
  · obtain ⟨g1, g2, g3⟩ := h4 t' ht' hte k hk
    rw [e (b + 2) (by omega), e (b + 1) (by omega)]
    refine ⟨g1, fun g hg => ?_, g3⟩
    rw [mup_j (by omega)]
    exact g2 g hg
  · rw [e (b + 2) (by omega), h6 k hk]
    by_cases e1 : k = i
    · subst e1
      rw [if_neg (by omega), if_pos (by omega), (fallen_0 (g := 0) hf).1]
    · by_cases e2 : k < i
      · rw [if_pos e2, if_pos (by omega)]
      · rw [if_neg e2, if_neg (by omega)]
  · by_cases e1 : k = i
    · subst e1
      rw [mup_same, byt_0 hg, (fallen_0 (g := g) hf).2.1]
    · rw [mup_j (by omega)]
      exact h7 k (by omega) g hg
  · rw [e (b + 1) (by omega), h8 g hg]
    show _ = (if g < i + 1 then kpB V bl t g else 0) ||| (orT (fun s => bif loB bl t s g then 0 else snB V bl t s g) i ||| (bif loB bl t i g then 0 else snB V bl t i g))
    rw [(fallen_0 (g := g) hf).2.1, show (bif loB bl t i g then (0 : Int32) else 0) = 0 by cases loB bl t i g <;> rfl, or0]
    by_cases e1 : g = i
    · subst e1
      rw [if_neg (by omega), if_pos (by omega), (fallen_0 (g := 0) hf).2.2]
    · by_cases e2 : g < i
      · rw [if_pos e2, if_pos (by omega)]
      · rw [if_neg e2, if_neg (by omega)]
set_option maxRecDepth 20000 in
theorem GT.live {M1 M2 : Mem} {t i : Nat} {V : VW} {bl : List Nat} (h : GT M b t i V bl M1) (h15 : 15 ≤ b) (ht6 : t ≤ 6) (hi : i < 4) (hf : flB bl t i = false) (hL : LIV (mup M1 (b + 3) (4 * t + i) 0) b t i (vR V) M2) : GT M b t (i + 1) V bl M2 := by
  obtain ⟨h1, h2, h3, h4, h5, h6, h7, h8⟩ := h
  obtain ⟨l1, l2, l3, l4, l5, l6, l7, l8, l9, l10, l11⟩ := hL
  have e : ∀ q, q ≠ b + 3 → mup M1 (b + 3) (4 * t + i) 0 q = M1 q := fun q hq => mup_q hq
  rw [e (b + 2) (by omega)] at l7 l9
  rw [e (b + 1) (by omega)] at l8 l9 l10 l11
  rw [e (b + 4) (by omega)] at l4 l11
  rw [e (b + 5) (by omega)] at l5
  rw [h5.1 i hi] at l9 l10 l11
  have eh : hsB V bl t i = setl (vR V) (Int32.ofNat i) (bgB V bl t i) := by
    unfold hsB hasF
    rw [hf]
    rfl
  have es : ∀ g, snB V bl t i g = senT (vR V) (Int32.ofNat i) (setl (vR V) (Int32.ofNat i) (bgB V bl t i)) (Int32.ofNat g) (rN (vR V)) := fun g => by
    unfold snB senF
    rw [hf]
    rfl
  have ek : kpB V bl t i = kepT (vR V) (Int32.ofNat i) (setl (vR V) (Int32.ofNat i) (bgB V bl t i)) (rN (vR V)) := by
    unfold kpB kepF
    rw [hf]
    rfl
  have f2 : Fr (kR b) M (mup M1 (b + 3) (4 * t + i) 0) := h1.up (kR_run (by omega))
  refine ⟨f2.tr l1, l2, h3.cg l4 l5, fun t' ht' hte k hk => ?_, ⟨fun k hk => by rw [l8 t (by omega)]; exact h5.1 k hk, fun k hk => by rw [l8 0 (by omega)]; exact h5.2 k hk⟩, fun k hk => ?_, fun k hk g hg => ?_, fun g hg => ?_⟩
  · obtain ⟨g1, g2, g3⟩ := h4 t' ht' hte k hk
    rw [l7 t' (by omega), l8 (t' + 1) (by omega)]
    refine ⟨g1, fun g hg => ?_, g3⟩
    rw [l6 (4 * t' + k) (by omega), mup_j (by omega)]
    exact g2 g hg
  · rw [l9 k hk, h6 k hk]
    by_cases e1 : k = i
    · subst e1
      rw [if_neg (by omega), if_pos rfl, if_pos (by omega), or0', eh]
    · rw [if_neg e1, or0]
      by_cases e2 : k < i
      · rw [if_pos e2, if_pos (by omega)]
      · rw [if_neg e2, if_neg (by omega)]
  · by_cases e1 : k = i
    · subst e1
      rw [l10 g hg, es g]
    · rw [l6 (4 * t + k) (by omega), mup_j (by omega)]
      exact h7 k (by omega) g hg
  · rw [l11 g hg, h8 g hg, byt_andn hg (h3.1 t ht6 i hi g hg), l10 g hg, or4]
    show _ = (if g < i + 1 then kpB V bl t g else 0) ||| (orT (fun s => bif loB bl t s g then 0 else snB V bl t s g) i ||| (bif loB bl t i g then 0 else snB V bl t i g))
    rw [es g]
    congr 1
    by_cases e1 : g = i
    · subst e1
      rw [if_neg (by omega), if_pos rfl, if_pos (by omega), or0', ek]
    · rw [if_neg e1, or0]
      by_cases e2 : g < i
      · rw [if_pos e2, if_pos (by omega)]
      · rw [if_neg e2, if_neg (by omega)]
set_option maxRecDepth 20000 in
theorem lq_goOn47 {t : Nat} {V : VW} {bl : List Nat} {Q : QT} (hb : IsRun b) (ht : t ≤ 6) (hX : CX E T M n rs V) (K : ∀ M1, GT M b t 4 V bl M1 → Go [] (d + 6) none tabX4_goOn 85 [(0, .ref b), (1, .int (Int32.ofNat t))] [] (hp (zz E T) M1) 0 0 Q) : ∀ i, i ≤ 4 → ∀ M1, GT M b t i V bl M1 → Go [] (d + 6) none tabX4_goOn 47 [(0, .ref b), (1, .int (Int32.ofNat t)), (2, .int (Int32.ofNat i))] [] (hp (zz E T) M1) 0 0 Q := by
  have hg := hb.rg
  refine loop_up 4 ?_
  intro i hi ih M1 k1
  refine g_iload_n (n := 48) rfl rfl rfl ?_
  refine g_const (n := 49) rfl rfl (s_iconst (v := 4) (by decide)) ?_
  refine g_ige (n := 52) rfl rfl (fun h49 => ?_) (fun h49 => ?_)
  · skip
    have g9 := (jn_le (b := i) (a := 4) (by omega) (by omega)).mp h49
    refine go_only 2 ?_
    obtain rfl : i = 4 := by omega
    exact K M1 k1
  · skip
    have g9 := (jn_lt (b := 4) (a := i) (by omega) (by omega)).mp h49
    have k2 : Fr (kR b) M (mup M1 (b + 3) (4 * t + i) 0) := k1.1.up (kR_run (by omega))
    have m2 : Memo (mup M1 (b + 3) (4 * t + i) 0) (vR V) := k1.2.1.cg (fun j => by rw [mup_q (by omega)]) (fun j => by rw [mup_q (by omega)]) (fun j => by rw [mup_q (by omega)])
    obtain ⟨fk, fk7, efk, hfk⟩ := k1.2.2.1.2 i g9
    refine g_aload_n (n := 53) rfl rfl rfl ?_
    refine g_getR (n := 56) rfl rfl (zr0 hb) rfl ?_
    refine g_const (n := 57) rfl rfl (s_iconst (v := 4) (by decide)) ?_
    refine g_iload_n (n := 58) rfl rfl rfl ?_
    refine g_imul (n := 59) rfl rfl ?_
    refine g_iload_n (n := 60) rfl rfl rfl ?_
    refine g_iadd (n := 61) rfl rfl ?_
    refine g_const (n := 62) rfl rfl (s_iconst (v := 0) (by decide)) ?_
    refine g_iast (n := 63) rfl rfl (zr3 hb) rfl (ix44 t i) (by omega) ?_
    refine g_aload_n (n := 64) rfl rfl rfl ?_
    refine g_getR (n := 67) rfl rfl (zr0 hb) rfl ?_
    refine g_iload_n (n := 68) rfl rfl rfl ?_
    refine g_iald (n := 69) rfl rfl (zr5 hb) rfl rfl (by omega) ?_
    refine g_iload_n (n := 70) rfl rfl rfl ?_
    refine g_ile (n := 73) rfl rfl (fun h70 => ?_) (fun h70 => ?_)
    · skip
      rw [mup_q (by omega), efk] at h70
      have l70 := (jn_le (by omega) (by omega)).mp h70
      refine g_iinc (n := 82) rfl rfl rfl (jn_1 _) ?_
      refine g_goto rfl ?_
      exact ih g9 _ (k1.fall hg.1 g9 (by rw [hfk t ht, dT l70]))
    · skip
      rw [mup_q (by omega), efk] at h70
      have l70 := (jn_lt (by omega) (by omega)).mp h70
      refine g_aload_n (n := 74) rfl rfl rfl ?_
      refine g_iload_n (n := 75) rfl rfl rfl ?_
      refine g_iload_n (n := 76) rfl rfl rfl ?_
      refine g_cV3 (n := 79) rfl rfl rfl rfl mt_X4_live rfl rfl (r_k (zr0 hb)) (sd_live hb g9 ht (hX.keep (k2.sc hb)) m2) ?_
      intro M76 q76
      refine g_iinc (n := 82) rfl rfl rfl (jn_1 _) ?_
      refine g_goto rfl ?_
      exact ih g9 _ (k1.live hg.1 ht g9 (by rw [hfk t ht, dF (by omega)]) q76)
/-- between two ticks -/
def GU (M : Mem) (b i : Nat) (V : VW) (bl : List Nat) (M1 : Mem) : Prop := Fr (kR b) M M1 ∧ Memo M1 (vR V) ∧ RunS M1 b bl ∧ RunT M1 b V bl i ∧ ∀ k, k < 4 → byt (M1 (b + 1) 0) k = vF V k
set_option maxRecDepth 20000 in
theorem GU.bg {M1 : Mem} {i : Nat} {V : VW} {bl : List Nat} (h : GU M b i V bl M1) (hi : i ≤ vE V + 1) : ∀ k, k < 4 → byt (M1 (b + 1) i) k = bgB V bl i k := by
  intro k hk
  cases i with
  | zero => exact h.2.2.2.2 k hk
  | succ i => exact (h.2.2.2.1 i (by omega) (by omega) k hk).2.2
set_option maxRecDepth 20000 in
theorem lq_goOn18 {V : VW} {bl : List Nat} (hb : IsRun b) (hX : CX E T M n rs V) : ∀ i, i ≤ 7 → ∀ M1, GU M b i V bl M1 → Go [] (d + 6) none tabX4_goOn 18 [(0, .ref b), (1, .int (Int32.ofNat i))] [] (hp (zz E T) M1) 0 0 (QV (zz E T) (fun M' => Fr (kR b) M M' ∧ Memo M' (vR V) ∧ RunI M' b V bl 7)) := by
  have hg := hb.rg
  obtain ⟨he, he6⟩ := hX.2.2.2.1
  refine loop_up 7 ?_
  intro i hi ih M1 k1
  have K2 : i ≤ vE V → ∀ M2, GT M b i 4 V bl M2 → Go [] (d + 6) none tabX4_goOn 85 [(0, .ref b), (1, .int (Int32.ofNat i))] [] (hp (zz E T) M2) 0 0 (QV (zz E T) (fun M' => Fr (kR b) M M' ∧ Memo M' (vR V) ∧ RunI M' b V bl 7)) := by
    intro g M2 k2
    have k3 : GU M b (i + 1) V bl M2 := by
      obtain ⟨h1, h2, h3, h4, h5, h6, h7, h8⟩ := k2
      refine ⟨h1, h2, h3, fun t ht hte k hk => ?_, h5.2⟩
      by_cases e : t = i
      · subst e
        refine ⟨?_, fun g hg => h7 k hk g hg, ?_⟩
        · rw [h6 k hk, if_pos hk]
        · rw [h8 k hk, if_pos hk]
          exact bgB_succ.symm
      · exact h4 t (by omega) hte k hk
    refine g_iinc (n := 88) rfl rfl rfl (jn_1 _) ?_
    refine g_goto rfl ?_
    exact ih (by omega) M2 k3
  refine g_iload_n (n := 19) rfl rfl rfl ?_
  refine g_aload_n (n := 20) rfl rfl rfl ?_
  refine g_getR (n := 23) rfl rfl (zr0 hb) rfl ?_
  refine g_getI (n := 26) rfl rfl z_1 rfl ?_
  refine g_igt (n := 29) rfl rfl (fun h26 => ?_) (fun h26 => ?_)
  · skip
    rw [k1.1 1 2 (kR_no (by omega) (by omega) (by omega) (by omega)), he] at h26
    have g9 := (jn_lt (by omega) (by omega)).mp h26
    refine g_aload_n (n := 92) rfl rfl rfl ?_
    refine g_const (n := 94) rfl rfl (s_bipush (v := 7) (by decide)) ?_
    refine g_putI (n := 97) rfl rfl (zr0 hb) rfl rfl ?_
    refine g_retV rfl ?_
    refine ⟨k1.1.up kR_run0, k1.2.1.cg (fun j => by rw [mup_q (by omega)]) (fun j => by rw [mup_q (by omega)]) (fun j => by rw [mup_q (by omega)]), by omega, mup_same, k1.2.2.1.cg (fun j => by rw [mup_q (by omega)]) (fun j => by rw [mup_q (by omega)]), fun t ht hte k hk => ?_⟩
    rw [mup_q (by omega), mup_q (by omega), mup_q (by omega)]
    exact k1.2.2.2.1 t (by omega) hte k hk
  · skip
    rw [k1.1 1 2 (kR_no (by omega) (by omega) (by omega) (by omega)), he] at h26
    have g9 := (jn_le (by omega) (by omega)).mp h26
    refine g_aload_n (n := 30) rfl rfl rfl ?_
    refine g_getR (n := 33) rfl rfl (zr0 hb) rfl ?_
    refine g_iload_n (n := 34) rfl rfl rfl ?_
    refine g_const (n := 35) rfl rfl (s_iconst (v := 0) (by decide)) ?_
    refine g_iast (n := 36) rfl rfl (zr2 hb) rfl rfl (by omega) ?_
    refine g_aload_n (n := 37) rfl rfl rfl ?_
    refine g_getR (n := 40) rfl rfl (zr0 hb) rfl ?_
    refine g_iload_n (n := 41) rfl rfl rfl ?_
    refine g_const (n := 42) rfl rfl (s_iconst (v := 1) (by decide)) ?_
    refine g_iadd (n := 43) rfl rfl ?_
    refine g_const (n := 44) rfl rfl (s_iconst (v := 0) (by decide)) ?_
    refine g_iast (n := 45) rfl rfl (zr1 hb) rfl (jn_add i 1) (by omega) ?_
    refine g_const (n := 46) rfl rfl (s_iconst (v := 0) (by decide)) ?_
    refine g_istore_n (n := 47) rfl rfl ?_
    obtain ⟨A1, hA1⟩ : ∃ A, A = mup (mup M1 (b + 2) i 0) (b + 1) (i + 1) 0 := ⟨_, rfl⟩
    rw [← hA1]
    have a : ∀ q, q ≠ b + 1 → q ≠ b + 2 → A1 q = M1 q := fun q q1 q2 => by rw [hA1, mup_q q1, mup_q q2]
    have a1 : ∀ j, j ≠ i + 1 → A1 (b + 1) j = M1 (b + 1) j := fun j hj => by rw [hA1, mup_j hj, mup_q (by omega)]
    have a2 : ∀ j, j ≠ i → A1 (b + 2) j = M1 (b + 2) j := fun j hj => by rw [hA1, mup_q (by omega), mup_j hj]
    have g1 : GT M b i 0 V bl A1 := by
      refine ⟨?_, k1.2.1.cg (fun j => by rw [a 7 (by omega) (by omega)]) (fun j => by rw [a 8 (by omega) (by omega)]) (fun j => by rw [a 9 (by omega) (by omega)]), k1.2.2.1.cg (fun j => by rw [a (b + 4) (by omega) (by omega)]) (fun j => by rw [a (b + 5) (by omega) (by omega)]), fun t ht hte k hk => ?_, ⟨fun k hk => ?_, fun k hk => ?_⟩, fun k hk => ?_, fun k hk => absurd hk (by omega), fun g hg => ?_⟩
      · rw [hA1]; exact (k1.1.up (kR_run (by omega))).up (kR_run (by omega))
      · obtain ⟨g1, g2, g3⟩ := k1.2.2.2.1 t ht hte k hk
        rw [a2 t (by omega), a1 (t + 1) (by omega), a (b + 3) (by omega) (by omega)]
        exact ⟨g1, g2, g3⟩
      · rw [a1 i (by omega)]; exact k1.bg (by omega) k hk
      · rw [a1 0 (by omega)]; exact k1.2.2.2.2 k hk
      · rw [hA1, mup_q (by omega), mup_same, byt_0 hk, if_neg (by omega)]
      · rw [hA1, mup_same, byt_0 hg, if_neg (by omega)]
        exact or0.symm
    exact lq_goOn47 hb (by omega) hX (K2 g9) 0 (by omega) A1 g1
set_option maxRecDepth 20000 in
theorem sd_goOn {V : VW} {bl : List Nat} {c : Nat} (hb : IsRun b) (hX : CX E T M n rs V) (hM : Memo M (vR V)) (hI : RunI M b V bl c) : EvV (d + 7) miX4_goOn [.ref b] (zz E T) M (fun M' => Fr (kR b) M M' ∧ Memo M' (vR V) ∧ RunI M' b V bl 7) := by
  have hg := hb.rg
  obtain ⟨hc7, ec, hS, hT⟩ := hI
  have ec2 : mup M (b + 1) 0 (M 1 3) b 6 = Int32.ofNat c := by rw [mup_q (by omega)]; exact ec
  refine ev_of mt_X4_goOn rfl ?_
  refine g_aload_n (n := 1) rfl rfl rfl ?_
  refine g_getR (n := 4) rfl rfl (zr0 hb) rfl ?_
  refine g_const (n := 5) rfl rfl (s_iconst (v := 0) (by decide)) ?_
  refine g_aload_n (n := 6) rfl rfl rfl ?_
  refine g_getR (n := 9) rfl rfl (zr0 hb) rfl ?_
  refine g_getI (n := 12) rfl rfl z_1 rfl ?_
  refine g_iast (n := 13) rfl rfl (zr1 hb) rfl (j := 0) rfl (by omega) ?_
  refine g_aload_n (n := 14) rfl rfl rfl ?_
  refine g_getI (n := 17) rfl rfl (zr0 hb) rfl ?_
  rw [ec2]
  refine g_istore_n (n := 18) rfl rfl ?_
  refine lq_goOn18 hb hX c hc7 _ ⟨Fr.rf.up (kR_run (by omega)), hM.cg (fun j => by rw [mup_q (by omega)]) (fun j => by rw [mup_q (by omega)]) (fun j => by rw [mup_q (by omega)]), hS.cg (fun j => by rw [mup_q (by omega)]) (fun j => by rw [mup_q (by omega)]), fun t ht hte k hk => ?_, fun k hk => ?_⟩
  · rw [mup_q (show b + 2 ≠ b + 1 by omega), mup_q (show b + 3 ≠ b + 1 by omega), mup_j (show t + 1 ≠ 0 by omega)]
    exact hT t ht hte k hk
  · rw [mup_same]; exact hX.2.2.1 k hk
set_option maxRecDepth 20000 in
theorem sd_strikeNone {V : VW} (hb : IsRun b) : EvV (d + 2) miX4_strikeNone [.ref b] (zz E T) M (fun M' => Fr (kR b) M M' ∧ (∀ q j, q < 15 → M' q j = M q j) ∧ RunI M' b V [] 0) := by
  have hg := hb.rg
  refine ev_of mt_X4_strikeNone rfl ?_
  refine g_aload_n (n := 1) rfl rfl rfl ?_
  refine g_getR (n := 4) rfl rfl (zr0 hb) rfl ?_
  refine g_const (n := 5) rfl rfl (s_iconst (v := 0) (by decide)) ?_
  refine g_cV2 (n := 8) rfl rfl rfl rfl mt_J7_fill_53178 rfl rfl rfl (sp_fill (zr4 hb) rfl) ?_
  rintro M5 rfl
  refine g_aload_n (n := 9) rfl rfl rfl ?_
  refine g_getR (n := 12) rfl rfl (zr0 hb) rfl ?_
  refine g_const (n := 14) rfl rfl (s_bipush (v := 7) (by decide)) ?_
  refine g_cV2 (n := 17) rfl rfl rfl rfl mt_J7_fill_53178 rfl rfl rfl (sp_fill (zr5 hb) rfl) ?_
  rintro M14 rfl
  refine g_aload_n (n := 18) rfl rfl rfl ?_
  refine g_const (n := 19) rfl rfl (s_iconst (v := 0) (by decide)) ?_
  refine g_putI (n := 22) rfl rfl (zr0 hb) rfl rfl ?_
  refine g_retV rfl ?_
  refine ⟨((Fr.rf.fl (fun j => kR_run (by omega))).fl (fun j => kR_run (by omega))).up kR_run0, fun q j hq => ?_, by omega, mup_same, ⟨fun t ht s hs g hg' => ?_, fun h hh => ⟨7, by omega, ?_, fun t ht => ?_⟩⟩, fun t ht => absurd ht (by omega)⟩
  · rw [mup_q (by omega), mfl_q (by omega), mfl_q (by omega)]
  · rw [mup_q (by omega), mfl_q (by omega), mfl_same, byt_0 hg']
    unfold loB
    simp
  · rw [mup_q (by omega)]
    exact mfl_same
  · rw [dF (show ¬ 7 ≤ t by omega)]
    rfl
/-- what a blow's number says -/
def hoN (x : Nat) : Nat := if x < 200 then x / 4 % 4 else x % 4
set_option maxRecDepth 20000 in
theorem blN {e x : Nat} (he : e ≤ 6) (hx : x < 228) (h : cBlow (Int32.ofNat e) (Int32.ofNat x) = true) : cTick (Int32.ofNat x) = Int32.ofNat (tkN x) ∧ tkN x ≤ e ∧ cHost (Int32.ofNat x) = Int32.ofNat (hoN x) ∧ hoN x < 4 ∧ (x < 200 → x / 16 < e ∧ x / 4 % 4 ≠ x % 4) := by
  obtain ⟨n, t, k, hn, en, et, hte, ek, hk, h1, h2⟩ := blow_ok he h
  have := jn_inj (by omega) (by omega) en
  subst this
  unfold tkN hoN
  by_cases hl : x < 200
  · obtain ⟨a1, a2, a3⟩ := h1 hl
    rw [if_pos hl, if_pos hl, ← a1, ← a3]
    refine ⟨et, hte, ek, hk, fun _ => ⟨a2, fun e4 => ?_⟩⟩
    unfold cBlow at h
    have hlt : Int32.ofNat x < 200 := (jn_lt (b := 200) (by omega) (by omega)).mpr hl
    rw [decide_eq_true hlt, cond_true] at h
    simp only [Bool.and_eq_true] at h
    have h3 := h.2.2
    rw [ek, jn_and3 (by omega), e4, decide_eq_true rfl] at h3
    cases h3
  · obtain ⟨a1, a2⟩ := h2 (by omega)
    rw [if_neg hl, if_neg hl, ← a1, ← a2]
    exact ⟨et, hte, ek, hk, fun g => absurd g hl⟩
set_option maxRecDepth 20000 in
theorem E8_255 : E8 255 := fun i hi => by rw [gb_255, decide_eq_false (by omega)]
set_option maxRecDepth 20000 in
theorem or255 {a : Int32} (h : a = 0 ∨ a = 255) : a ||| 255 = 255 := by rcases h with rfl | rfl <;> decide
set_option maxRecDepth 20000 in
/-- one blow more: what it does to the cells -/
theorem sd_strike {x c : Nat} {V : VW} {bl : List Nat} (hb : IsRun b) (hx : x < 228) (hX : cBlow (Int32.ofNat (vE V)) (Int32.ofNat x) = true) (he6 : vE V ≤ 6) (hI : RunI M b V bl c) : EvV (d + 3) miX4_strike [.ref b, .int (Int32.ofNat x)] (zz E T) M (fun M' => Fr (kR b) M M' ∧ (∀ q j, q < 15 → M' q j = M q j) ∧ RunI M' b V (x :: bl) (min c (tkN x))) := by
  have hg := hb.rg
  obtain ⟨et, hte, eh, hh4, hlo⟩ := blN he6 hx hX
  obtain ⟨hc7, ec, hS, hT⟩ := hI
  have emin : (if Int32.ofNat (tkN x) < Int32.ofNat c then Int32.ofNat (tkN x) else Int32.ofNat c) = Int32.ofNat (min c (tkN x)) := by
    by_cases g : tkN x < c
    · rw [if_pos ((jn_lt (by omega) (by omega)).mpr g), Nat.min_eq_right (by omega)]
    · rw [if_neg (fun q => g ((jn_lt (by omega) (by omega)).mp q)), Nat.min_eq_left (by omega)]
  have early : ∀ M', (∀ j, M' (b + 1) j = M (b + 1) j) → (∀ j, M' (b + 2) j = M (b + 2) j) → (∀ j, M' (b + 3) j = M (b + 3) j) → RunT M' b V (x :: bl) (min c (tkN x)) := fun M' e1 e2 e3 t ht hte2 k hk => by
    have htc : t < c := by omega
    have htk : t < tkN x := by omega
    obtain ⟨g1, g2, g3⟩ := hT t htc hte2 k hk
    rw [e1, e2, hsB_early hx htk hk, bgB_early hx (by omega) hk]
    refine ⟨g1, fun g hg' => ?_, g3⟩
    rw [e3, snB_early hx htk hk]
    exact g2 g hg'
  refine ev_of mt_X4_strike rfl ?_
  refine g_iload_n (n := 1) rfl rfl rfl ?_
  refine g_cP1 (n := 4) rfl rfl rfl rfl mt_X0_tickOf rfl rfl rfl (sc_tickOf) ?_
  rw [et]
  refine g_istore_n (n := 5) rfl rfl ?_
  refine g_iload_n (n := 6) rfl rfl rfl ?_
  refine g_cP1 (n := 9) rfl rfl rfl rfl mt_X0_hostOf rfl rfl rfl (sc_hostOf) ?_
  rw [eh]
  refine g_istore_n (n := 10) rfl rfl ?_
  refine g_iload_n (n := 11) rfl rfl rfl ?_
  refine g_cP1 (n := 14) rfl rfl rfl rfl mt_X0_isLoss rfl rfl rfl (sc_isLoss) ?_
  refine g_bz (n := 17) rfl rfl (fun h14 => ?_) (fun h14 => ?_)
  · skip
    have hl : 200 ≤ x := by
      have h14 := of_decide_eq_false h14
      exact (jn_le (a := 200) (by omega) (by omega)).mp (Int32.not_lt.mp h14)
    have t1 : tkN x = (x - 200) / 4 := if_neg (by omega)
    have t2 : hoN x = x % 4 := if_neg (by omega)
    refine g_aload_n (n := 45) rfl rfl rfl ?_
    refine g_getR (n := 48) rfl rfl (zr0 hb) rfl ?_
    refine g_iload_n (n := 49) rfl rfl rfl ?_
    refine g_aload_n (n := 50) rfl rfl rfl ?_
    refine g_getR (n := 53) rfl rfl (zr0 hb) rfl ?_
    refine g_iload_n (n := 54) rfl rfl rfl ?_
    refine g_iald (n := 55) rfl rfl (zr5 hb) rfl rfl (by omega) ?_
    refine g_iload_n (n := 56) rfl rfl rfl ?_
    refine g_min (n := 59) rfl rfl rfl ?_
    refine g_iast (n := 60) rfl rfl (zr5 hb) rfl rfl (by omega) ?_
    refine g_aload_n (n := 61) rfl rfl rfl ?_
    refine g_aload_n (n := 62) rfl rfl rfl ?_
    refine g_getI (n := 65) rfl rfl (zr0 hb) rfl ?_
    refine g_iload_n (n := 66) rfl rfl rfl ?_
    refine g_min (n := 69) rfl rfl rfl ?_
    refine g_putI (n := 72) rfl rfl (zr0 hb) rfl rfl ?_
    refine g_retV rfl ?_
    obtain ⟨k0, k07, ek0, hk0⟩ := hS.2 (hoN x) hh4
    have emin2 : (if Int32.ofNat (tkN x) < M (b + 5) (hoN x) then Int32.ofNat (tkN x) else M (b + 5) (hoN x)) = Int32.ofNat (min k0 (tkN x)) := by
      rw [ek0]
      by_cases g : tkN x < k0
      · rw [if_pos ((jn_lt (by omega) (by omega)).mpr g), Nat.min_eq_right (by omega)]
      · rw [if_neg (fun q => g ((jn_lt (by omega) (by omega)).mp q)), Nat.min_eq_left (by omega)]
    rw [emin2]
    obtain ⟨A, hA⟩ : ∃ A, A = mup (mup M (b + 5) (hoN x) (Int32.ofNat (min k0 (tkN x)))) b 6 (if Int32.ofNat (tkN x) < mup M (b + 5) (hoN x) (Int32.ofNat (min k0 (tkN x))) b 6 then Int32.ofNat (tkN x) else mup M (b + 5) (hoN x) (Int32.ofNat (min k0 (tkN x))) b 6) := ⟨_, rfl⟩
    rw [← hA]
    have a : ∀ q, q ≠ b → q ≠ b + 5 → A q = M q := fun q q1 q2 => by rw [hA, mup_q q1, mup_q q2]
    refine ⟨?_, fun q j hq => by rw [a q (by omega) (by omega)], by omega, ?_, ⟨fun t ht s hs g hg' => ?_, fun h hh => ?_⟩, early A (fun j => by rw [a (b + 1) (by omega) (by omega)]) (fun j => by rw [a (b + 2) (by omega) (by omega)]) (fun j => by rw [a (b + 3) (by omega) (by omega)])⟩
    · rw [hA]; exact (Fr.rf.up (kR_run (by omega))).up kR_run0
    · rw [hA, mup_same, mup_q (by omega), ec]; exact emin
    · rw [a (b + 4) (by omega) (by omega), loB_ne (show 16 * t + 4 * s + g ≠ x by omega)]
      exact hS.1 t ht s hs g hg'
    · have e5 : A (b + 5) = mup M (b + 5) (hoN x) (Int32.ofNat (min k0 (tkN x))) (b + 5) := by rw [hA, mup_q (by omega)]
      rw [e5]
      by_cases e : h = hoN x
      · subst e
        refine ⟨min k0 (tkN x), by omega, mup_same, fun t ht => ?_⟩
        rw [flB_cons, decide_eq_true hl, decide_eq_true (show x % 4 = hoN x by omega), hk0 t ht, Bool.true_and, Bool.true_and, ← t1]
        by_cases g1 : tkN x ≤ t
        · rw [dT g1, dT (show min k0 (tkN x) ≤ t by omega), Bool.true_or]
        · rw [dF g1, Bool.false_or, decide_eq_decide]; omega
      · obtain ⟨k, k7, ek, hk⟩ := hS.2 h hh
        refine ⟨k, k7, by rw [mup_j e]; exact ek, fun t ht => ?_⟩
        rw [flB_cons, decide_eq_false (show ¬ x % 4 = h by omega), Bool.false_and, Bool.and_false, Bool.false_or]
        exact hk t ht
  · skip
    have hl : x < 200 := (jn_lt (b := 200) (by omega) (by omega)).mp (of_decide_eq_true h14)
    have t1 : tkN x = x / 16 := if_pos hl
    have t2 : hoN x = x / 4 % 4 := if_pos hl
    have hne := (hlo hl).2
    refine g_aload_n (n := 18) rfl rfl rfl ?_
    refine g_getR (n := 21) rfl rfl (zr0 hb) rfl ?_
    refine g_const (n := 22) rfl rfl (s_iconst (v := 4) (by decide)) ?_
    refine g_iload_n (n := 23) rfl rfl rfl ?_
    refine g_imul (n := 24) rfl rfl ?_
    refine g_iload_n (n := 25) rfl rfl rfl ?_
    refine g_iadd (n := 26) rfl rfl ?_
    refine g_dup2 (n := 27) rfl rfl ?_
    refine g_iald (n := 28) rfl rfl (zr4 hb) rfl (ix44 (tkN x) (hoN x)) (by omega) ?_
    refine g_const (n := 31) rfl rfl (s_sipush (v := 255) (by decide)) ?_
    refine g_const (n := 33) rfl rfl (s_bipush (v := 8) (by decide)) ?_
    refine g_iload_n (n := 34) rfl rfl rfl ?_
    refine g_cP1 (n := 37) rfl rfl rfl rfl mt_X0_targetOf rfl rfl rfl (sc_targetOf) ?_
    rw [jn_and3 (show x < 2147483648 by omega)]
    refine g_imul (n := 38) rfl rfl ?_
    refine g_ishl (n := 39) rfl rfl ?_
    refine g_ior (n := 40) rfl rfl ?_
    refine g_iast (n := 41) rfl rfl (zr4 hb) rfl (ix44 (tkN x) (hoN x)) (by omega) ?_
    refine g_goto rfl ?_
    refine g_aload_n (n := 61) rfl rfl rfl ?_
    refine g_aload_n (n := 62) rfl rfl rfl ?_
    refine g_getI (n := 65) rfl rfl (zr0 hb) rfl ?_
    refine g_iload_n (n := 66) rfl rfl rfl ?_
    refine g_min (n := 69) rfl rfl rfl ?_
    refine g_putI (n := 72) rfl rfl (zr0 hb) rfl rfl ?_
    refine g_retV rfl ?_
    obtain ⟨A, hA⟩ : ∃ A, A = mup (mup M (b + 4) (4 * tkN x + hoN x) (M (b + 4) (4 * tkN x + hoN x) ||| 255 <<< (8 * Int32.ofNat (x % 4) &&& 31))) b 6 (if Int32.ofNat (tkN x) < mup M (b + 4) (4 * tkN x + hoN x) (M (b + 4) (4 * tkN x + hoN x) ||| 255 <<< (8 * Int32.ofNat (x % 4) &&& 31)) b 6 then Int32.ofNat (tkN x) else mup M (b + 4) (4 * tkN x + hoN x) (M (b + 4) (4 * tkN x + hoN x) ||| 255 <<< (8 * Int32.ofNat (x % 4) &&& 31)) b 6) := ⟨_, rfl⟩
    rw [← hA]
    have a : ∀ q, q ≠ b → q ≠ b + 4 → A q = M q := fun q q1 q2 => by rw [hA, mup_q q1, mup_q q2]
    refine ⟨?_, fun q j hq => by rw [a q (by omega) (by omega)], by omega, ?_, ⟨fun t ht s hs g hg' => ?_, fun h hh => ?_⟩, early A (fun j => by rw [a (b + 1) (by omega) (by omega)]) (fun j => by rw [a (b + 2) (by omega) (by omega)]) (fun j => by rw [a (b + 3) (by omega) (by omega)])⟩
    · rw [hA]; exact (Fr.rf.up (kR_run (by omega))).up kR_run0
    · rw [hA, mup_same, mup_q (by omega), ec]; exact emin
    · have e4 : A (b + 4) = mup M (b + 4) (4 * tkN x + hoN x) (M (b + 4) (4 * tkN x + hoN x) ||| 255 <<< (8 * Int32.ofNat (x % 4) &&& 31)) (b + 4) := by rw [hA, mup_q (by omega)]
      rw [e4, loB_cons]
      by_cases e : 4 * t + s = 4 * tkN x + hoN x
      · have ett : t = x / 16 := by omega
        have ess : s = x / 4 % 4 := by omega
        rw [e, mup_same, byt_or hg', ← e, hS.1 t ht s hs g hg', byt_shl E8_255 (by omega) hg']
        by_cases eg : g = x % 4
        · rw [if_pos eg, decide_eq_true (show 16 * t + 4 * s + g = x by omega), decide_eq_false (show ¬ s = g by omega), Bool.not_false, Bool.true_and, Bool.or_true, cond_true]
          exact or255 (by cases loB bl t s g; exact Or.inl rfl; exact Or.inr rfl)
        · rw [if_neg eg, or0, decide_eq_false (show ¬ 16 * t + 4 * s + g = x by omega), Bool.and_false, Bool.or_false]
      · rw [mup_j e, hS.1 t ht s hs g hg', decide_eq_false (show ¬ 16 * t + 4 * s + g = x by omega), Bool.and_false, Bool.or_false]
    · obtain ⟨k, k7, ek, hk⟩ := hS.2 h hh
      refine ⟨k, k7, by rw [a (b + 5) (by omega) (by omega)]; exact ek, fun t ht => ?_⟩
      rw [flB_cons, decide_eq_false (show ¬ 200 ≤ x by omega), Bool.false_and, Bool.false_or]
      exact hk t ht
set_option maxRecDepth 20000 in
theorem sd_strikeLike {c x : Nat} {V : VW} {bl : List Nat} (hb : IsRun b) (hc : IsRun c) (hbc : c ≠ b) (hx : x < 228) (hX : cBlow (Int32.ofNat (vE V)) (Int32.ofNat x) = true) (he6 : vE V ≤ 6) (hI : RunI M c V bl 7) : EvV (d + 4) miX4_strikeLike [.ref b, .ref c, .int (Int32.ofNat x)] (zz E T) M (fun M' => Fr (kR b) M M' ∧ (∀ q j, q < 15 → M' q j = M q j) ∧ RunI M' b V (x :: bl) (tkN x)) := by
  have hg := hb.rg
  have hg2 := hc.rg
  have hd : c + 6 ≤ b ∨ b + 6 ≤ c := by
    rcases hb with rfl | rfl | rfl | rfl <;> rcases hc with rfl | rfl | rfl | rfl <;> omega
  have htk : tkN x ≤ 6 := by have := (blN he6 hx hX).2.1; omega
  obtain ⟨hc7, ec, hS, hT⟩ := hI
  refine ev_of mt_X4_strikeLike rfl ?_
  refine g_aload_n (n := 1) rfl rfl rfl ?_
  refine g_getR (n := 4) rfl rfl (zr0 hc) rfl ?_
  refine g_const (n := 5) rfl rfl (s_iconst (v := 0) (by decide)) ?_
  refine g_aload_n (n := 6) rfl rfl rfl ?_
  refine g_getR (n := 9) rfl rfl (zr0 hb) rfl ?_
  refine g_const (n := 10) rfl rfl (s_iconst (v := 0) (by decide)) ?_
  refine g_aload_n (n := 11) rfl rfl rfl ?_
  refine g_getR (n := 14) rfl rfl (zr0 hb) rfl ?_
  refine g_alen (n := 15) rfl rfl (zr1 hb) ?_
  refine g_copy (n := 18) rfl rfl rfl (zr1 hc) (zr1 hb) rfl (by omega) (by omega) rfl ?_
  refine g_aload_n (n := 19) rfl rfl rfl ?_
  refine g_getR (n := 22) rfl rfl (zr0 hc) rfl ?_
  refine g_const (n := 23) rfl rfl (s_iconst (v := 0) (by decide)) ?_
  refine g_aload_n (n := 24) rfl rfl rfl ?_
  refine g_getR (n := 27) rfl rfl (zr0 hb) rfl ?_
  refine g_const (n := 28) rfl rfl (s_iconst (v := 0) (by decide)) ?_
  refine g_aload_n (n := 29) rfl rfl rfl ?_
  refine g_getR (n := 32) rfl rfl (zr0 hb) rfl ?_
  refine g_alen (n := 33) rfl rfl (zr2 hb) ?_
  refine g_copy (n := 36) rfl rfl rfl (zr2 hc) (zr2 hb) rfl (by omega) (by omega) rfl ?_
  refine g_aload_n (n := 37) rfl rfl rfl ?_
  refine g_getR (n := 40) rfl rfl (zr0 hc) rfl ?_
  refine g_const (n := 41) rfl rfl (s_iconst (v := 0) (by decide)) ?_
  refine g_aload_n (n := 42) rfl rfl rfl ?_
  refine g_getR (n := 45) rfl rfl (zr0 hb) rfl ?_
  refine g_const (n := 46) rfl rfl (s_iconst (v := 0) (by decide)) ?_
  refine g_aload_n (n := 47) rfl rfl rfl ?_
  refine g_getR (n := 50) rfl rfl (zr0 hb) rfl ?_
  refine g_alen (n := 51) rfl rfl (zr3 hb) ?_
  refine g_copy (n := 54) rfl rfl rfl (zr3 hc) (zr3 hb) rfl (by omega) (by omega) rfl ?_
  refine g_aload_n (n := 55) rfl rfl rfl ?_
  refine g_getR (n := 58) rfl rfl (zr0 hc) rfl ?_
  refine g_const (n := 59) rfl rfl (s_iconst (v := 0) (by decide)) ?_
  refine g_aload_n (n := 60) rfl rfl rfl ?_
  refine g_getR (n := 63) rfl rfl (zr0 hb) rfl ?_
  refine g_const (n := 64) rfl rfl (s_iconst (v := 0) (by decide)) ?_
  refine g_aload_n (n := 65) rfl rfl rfl ?_
  refine g_getR (n := 68) rfl rfl (zr0 hb) rfl ?_
  refine g_alen (n := 69) rfl rfl (zr4 hb) ?_
  refine g_copy (n := 72) rfl rfl rfl (zr4 hc) (zr4 hb) rfl (by omega) (by omega) rfl ?_
  refine g_aload_n (n := 73) rfl rfl rfl ?_
  refine g_getR (n := 76) rfl rfl (zr0 hc) rfl ?_
  refine g_const (n := 77) rfl rfl (s_iconst (v := 0) (by decide)) ?_
  refine g_aload_n (n := 78) rfl rfl rfl ?_
  refine g_getR (n := 81) rfl rfl (zr0 hb) rfl ?_
  refine g_const (n := 82) rfl rfl (s_iconst (v := 0) (by decide)) ?_
  refine g_aload_n (n := 83) rfl rfl rfl ?_
  refine g_getR (n := 86) rfl rfl (zr0 hb) rfl ?_
  refine g_alen (n := 87) rfl rfl (zr5 hb) ?_
  refine g_copy (n := 90) rfl rfl rfl (zr5 hc) (zr5 hb) rfl (by omega) (by omega) rfl ?_
  refine g_aload_n (n := 91) rfl rfl rfl ?_
  refine g_const (n := 93) rfl rfl (s_bipush (v := 7) (by decide)) ?_
  refine g_putI (n := 96) rfl rfl (zr0 hb) rfl rfl ?_
  obtain ⟨A, hA⟩ : ∃ A, A = mup (mcp (mcp (mcp (mcp (mcp M (c + 1) (b + 1) 8) (c + 2) (b + 2) 7) (c + 3) (b + 3) 28) (c + 4) (b + 4) 28) (c + 5) (b + 5) 4) b 6 7 := ⟨_, rfl⟩
  rw [← hA]
  have fA : Fr (kR b) M A := by
    rw [hA]
    exact (((((Fr.rf.cp (fun j => kR_run (by omega))).cp (fun j => kR_run (by omega))).cp (fun j => kR_run (by omega))).cp (fun j => kR_run (by omega))).cp (fun j => kR_run (by omega))).up kR_run0
  have lA : ∀ q j, q < 15 → A q j = M q j := fun q j hq => by rw [hA, mup_q (by omega), mcp_q (by omega), mcp_q (by omega), mcp_q (by omega), mcp_q (by omega), mcp_q (by omega)]
  have a1 : ∀ j, j < 8 → A (b + 1) j = M (c + 1) j := fun j hj => by rw [hA, mup_q (by omega), mcp_q (by omega), mcp_q (by omega), mcp_q (by omega), mcp_q (by omega), mcp_same hj]
  have a2 : ∀ j, j < 7 → A (b + 2) j = M (c + 2) j := fun j hj => by rw [hA, mup_q (by omega), mcp_q (by omega), mcp_q (by omega), mcp_q (by omega), mcp_same hj, mcp_q (by omega)]
  have a3 : ∀ j, j < 28 → A (b + 3) j = M (c + 3) j := fun j hj => by rw [hA, mup_q (by omega), mcp_q (by omega), mcp_q (by omega), mcp_same hj, mcp_q (by omega), mcp_q (by omega)]
  have a4 : ∀ j, j < 28 → A (b + 4) j = M (c + 4) j := fun j hj => by rw [hA, mup_q (by omega), mcp_q (by omega), mcp_same hj, mcp_q (by omega), mcp_q (by omega), mcp_q (by omega)]
  have a5 : ∀ j, j < 4 → A (b + 5) j = M (c + 5) j := fun j hj => by rw [hA, mup_q (by omega), mcp_same hj, mcp_q (by omega), mcp_q (by omega), mcp_q (by omega), mcp_q (by omega)]
  have iA : RunI A b V bl 7 := by
    refine ⟨by omega, by rw [hA]; exact mup_same, ⟨fun t ht s hs g hg' => ?_, fun h hh => ?_⟩, fun t ht hte k hk => ?_⟩
    · rw [a4 _ (by omega)]; exact hS.1 t ht s hs g hg'
    · rw [a5 _ hh]; exact hS.2 h hh
    · obtain ⟨g1, g2, g3⟩ := hT t ht hte k hk
      rw [a2 _ (by omega), a1 _ (by omega)]
      refine ⟨g1, fun g hg' => ?_, g3⟩
      rw [a3 _ (by omega)]
      exact g2 g hg'
  refine g_aload_n (n := 97) rfl rfl rfl ?_
  refine g_iload_n (n := 98) rfl rfl rfl ?_
  refine g_cV2 (n := 101) rfl rfl rfl rfl mt_X4_strike rfl rfl (r_k (zr0 hb)) (sd_strike hb hx hX he6 iA) ?_
  rintro M98 ⟨q98, l98, i98⟩
  refine g_retV rfl ?_
  refine ⟨fA.tr q98, fun q j hq => (l98 q j hq).trans (lA q j hq), ?_⟩
  rw [Nat.min_eq_right (by omega)] at i98
  exact i98
set_option maxRecDepth 20000 in
theorem sd_feels {x : Nat} {V : VW} {bl : List Nat} (hb : IsRun b) (hx : x < 228) (hX : cBlow (Int32.ofNat (vE V)) (Int32.ofNat x) = true) (he6 : vE V ≤ 6) (hI : RunI M b V bl 7) : EvP (d + 3) miX4_feels [.ref b, .int (Int32.ofNat x)] (hp (zz E T) M) (.int (bI (fe V bl x))) := by
  obtain ⟨et, hte, eh, hh4, hlo⟩ := blN he6 hx hX
  obtain ⟨hc7, ec, hS, hT⟩ := hI
  have e : cFeels M b (Int32.ofNat x) (tkN x) (hoN x) = fe V bl x := by
    unfold cFeels fe
    by_cases hl : x < 200
    · have hlt : Int32.ofNat x < 200 := (jn_lt (b := 200) (by omega) (by omega)).mpr hl
      rw [decide_eq_true hl, decide_eq_true hlt, cond_true, cond_true, jn_and3 (by omega)]
      have t1 : tkN x = x / 16 := if_pos hl
      have t2 : hoN x = x / 4 % 4 := if_pos hl
      have h1 := (hT (tkN x) (by omega) hte (hoN x) hh4).2.1 (x % 4) (by omega)
      unfold byt at h1
      rw [h1, t1, t2]
    · have hlt : ¬ Int32.ofNat x < 200 := fun q => hl ((jn_lt (b := 200) (by omega) (by omega)).mp q)
      rw [decide_eq_false hl, decide_eq_false hlt, cond_false, cond_false]
      have t1 : tkN x = (x - 200) / 4 := if_neg hl
      have t2 : hoN x = x % 4 := if_neg hl
      obtain ⟨k, k7, ek, hk⟩ := hS.2 (hoN x) hh4
      rw [ek, ← t1, ← t2, hk (tkN x) (by omega)]
      by_cases g : k ≤ tkN x
      · rw [dT g, dF (fun q => by have := (jn_lt (by omega) (by omega)).mp q; omega)]
        rfl
      · rw [dF g, dT ((jn_lt (by omega) (by omega)).mpr (by omega))]
        rfl
  rw [← e]
  exact sc_feels hb et (by omega) eh hh4
set_option maxRecDepth 20000 in
theorem gb_ne0 {v : Int32} {k j : Nat} (hk : k < 4) (hj : j < 8) : decide (v &&& cBit (Int32.ofNat k) (Int32.ofNat j) = 0) = !(gb (byt v k) j) := by
  have e1 : gb (byt v k) j = gb v (8 * k + j) := by rw [gb_byt hk, decide_eq_true hj, Bool.true_and]
  rw [e1]
  cases hb : gb v (8 * k + j)
  · refine decide_eq_true ?_
    apply gb_ext
    intro i hi
    rw [gb_and, gb_cBit hk hj hi, gb_0]
    by_cases e : i = 8 * k + j
    · rw [e, hb, Bool.false_and]
    · rw [decide_eq_false e, Bool.and_false]
  · refine decide_eq_false (fun e => ?_)
    have h1 : gb (v &&& cBit (Int32.ofNat k) (Int32.ofNat j)) (8 * k + j) = false := by rw [e, gb_0]
    rw [gb_and, gb_cBit hk hj (by omega), hb, decide_eq_true rfl] at h1
    cases h1
set_option maxRecDepth 20000 in
theorem sd_breaks {V : VW} {bl : List Nat} (hb : IsRun b) (hX : CX E T M n rs V) (hI : RunI M b V bl 7) : EvP (d + 1) miX4_breaks [.ref b] (hp (zz E T) M) (.int (bI (bk V bl))) := by
  obtain ⟨-, -, -, ⟨he, he6⟩, ⟨e4, ha, hp8⟩, ⟨e5, hb4⟩, e6, hq8⟩ := hX
  obtain ⟨hc7, ec, hS, hT⟩ := hI
  obtain ⟨k, k7, ek, hk⟩ := hS.2 (vB V) hb4
  have hA := (hT (vE V) (by omega) (Nat.le_refl _) (vA V) ha).1
  have hB := (hT (vE V) (by omega) (Nat.le_refl _) (vB V) hb4).1
  have d4 : decide (M (b + 2) (vE V) &&& M 1 4 = 0) = !(gb (hsB V bl (vE V) (vA V)) (vP V)) := by rw [e4, gb_ne0 ha hp8, hA]
  have d6 : decide (M (b + 2) (vE V) &&& M 1 6 = 0) = !(gb (hsB V bl (vE V) (vB V)) (vQ V)) := by rw [e6, gb_ne0 hb4 hq8, hB]
  have d5 : decide (Int32.ofNat (vE V) < M (b + 5) (vB V)) = !(flB bl (vE V) (vB V)) := by
    rw [ek, hk (vE V) he6]
    by_cases g : k ≤ vE V
    · rw [dT g, dF (fun q => by have := (jn_lt (by omega) (by omega)).mp q; omega)]
      rfl
    · rw [dF g, dT ((jn_lt (by omega) (by omega)).mpr (by omega))]
      rfl
  have e : bk V bl = ((!(decide (M (b + 2) (vE V) &&& M 1 4 = 0)) && decide (M (b + 2) (vE V) &&& M 1 6 = 0)) && decide (Int32.ofNat (vE V) < M (b + 5) (vB V))) := by
    rw [d4, d6, d5, Bool.not_not, Bool.and_assoc]
    rfl
  rw [e]
  refine ev_of mt_X4_breaks rfl ?_
  refine g_aload_n (n := 1) rfl rfl rfl ?_
  refine g_getR (n := 4) rfl rfl (zr0 hb) rfl ?_
  refine g_aload_n (n := 5) rfl rfl rfl ?_
  refine g_getR (n := 8) rfl rfl (zr0 hb) rfl ?_
  refine g_getI (n := 11) rfl rfl z_1 rfl ?_
  refine g_iald (n := 12) rfl rfl (zr2 hb) rfl he (by omega) ?_
  refine g_istore_n (n := 13) rfl rfl ?_
  refine g_iload_n (n := 14) rfl rfl rfl ?_
  refine g_aload_n (n := 15) rfl rfl rfl ?_
  refine g_getR (n := 18) rfl rfl (zr0 hb) rfl ?_
  refine g_getI (n := 21) rfl rfl z_1 rfl ?_
  refine g_iand (n := 22) rfl rfl ?_
  refine g_zeq (n := 25) rfl rfl (fun h22 => ?_) (fun h22 => ?_)
  · skip
    refine g_const (n := 42) rfl rfl (s_iconst (v := 0) (by decide)) ?_
    refine g_istore_n (n := 43) rfl rfl ?_
    refine g_iload_n (n := 44) rfl rfl rfl ?_
    refine g_zeq (n := 47) rfl rfl (fun h44 => ?_) (fun h44 => ?_)
    · skip
      refine g_const (n := 74) rfl rfl (s_iconst (v := 0) (by decide)) ?_
      refine g_retPZ rfl (by decide) ?_
      first | (rw [dT h22]; rfl) | (rw [dF h22, dF h34]; rfl) | (rw [dF h22, dT h34, dT h66]; rfl) | (rw [dF h22, dT h34, dlt h66]; rfl)
    · skip
      exact absurd h44 (by decide)
  · skip
    refine g_iload_n (n := 26) rfl rfl rfl ?_
    refine g_aload_n (n := 27) rfl rfl rfl ?_
    refine g_getR (n := 30) rfl rfl (zr0 hb) rfl ?_
    refine g_getI (n := 33) rfl rfl z_1 rfl ?_
    refine g_iand (n := 34) rfl rfl ?_
    refine g_zne (n := 37) rfl rfl (fun h34 => ?_) (fun h34 => ?_)
    · skip
      refine g_const (n := 42) rfl rfl (s_iconst (v := 0) (by decide)) ?_
      refine g_istore_n (n := 43) rfl rfl ?_
      refine g_iload_n (n := 44) rfl rfl rfl ?_
      refine g_zeq (n := 47) rfl rfl (fun h44 => ?_) (fun h44 => ?_)
      · skip
        refine g_const (n := 74) rfl rfl (s_iconst (v := 0) (by decide)) ?_
        refine g_retPZ rfl (by decide) ?_
        first | (rw [dT h22]; rfl) | (rw [dF h22, dF h34]; rfl) | (rw [dF h22, dT h34, dT h66]; rfl) | (rw [dF h22, dT h34, dlt h66]; rfl)
      · skip
        exact absurd h44 (by decide)
    · skip
      refine g_const (n := 38) rfl rfl (s_iconst (v := 1) (by decide)) ?_
      refine g_goto rfl ?_
      refine g_istore_n (n := 43) rfl rfl ?_
      refine g_iload_n (n := 44) rfl rfl rfl ?_
      refine g_zeq (n := 47) rfl rfl (fun h44 => ?_) (fun h44 => ?_)
      · skip
        exact absurd h44 (by decide)
      · skip
        refine g_aload_n (n := 48) rfl rfl rfl ?_
        refine g_getR (n := 51) rfl rfl (zr0 hb) rfl ?_
        refine g_aload_n (n := 52) rfl rfl rfl ?_
        refine g_getR (n := 55) rfl rfl (zr0 hb) rfl ?_
        refine g_getI (n := 58) rfl rfl z_1 rfl ?_
        refine g_iald (n := 59) rfl rfl (zr5 hb) rfl e5 hb4 ?_
        refine g_aload_n (n := 60) rfl rfl rfl ?_
        refine g_getR (n := 63) rfl rfl (zr0 hb) rfl ?_
        refine g_getI (n := 66) rfl rfl z_1 rfl ?_
        refine g_ile (n := 69) rfl rfl (fun h66 => ?_) (fun h66 => ?_)
        · skip
          rw [he] at h66
          refine g_const (n := 74) rfl rfl (s_iconst (v := 0) (by decide)) ?_
          refine g_retPZ rfl (by decide) ?_
          first | (rw [dT h22]; rfl) | (rw [dF h22, dF h34]; rfl) | (rw [dF h22, dT h34, dT h66]; rfl) | (rw [dF h22, dT h34, dlt h66]; rfl)
        · skip
          rw [he] at h66
          refine g_const (n := 70) rfl rfl (s_iconst (v := 1) (by decide)) ?_
          refine g_goto rfl ?_
          refine g_retPZ rfl (by decide) ?_
          first | (rw [dT h22]; rfl) | (rw [dF h22, dF h34]; rfl) | (rw [dF h22, dT h34, dT h66]; rfl) | (rw [dF h22, dT h34, dlt h66]; rfl)
end RunG
