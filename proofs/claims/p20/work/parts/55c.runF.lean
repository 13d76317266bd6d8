/-! The reference's runs: what they come to -/
section RunM
variable {E : Value} {T : List SH} {M : Mem} {d : Nat}
/-- the reference's rules, as such -/
def MRW (M : Mem) (R : RW) : Prop := rN R ≤ 12 ∧ M 41 1 = Int32.ofNat (rN R) ∧ RWok R ∧ ∀ i, i < rN R → rK R i = M 43 i ∧ rH R i = M 44 i ∧ rL R i = M 51 (M 44 i).toNatClampNeg ∧ rT R i = M 48 i ∧ ∀ h f, wk R i h f = (mCnt M i h && mFit M i f)
set_option maxRecDepth 20000 in
theorem mAdd_stp {R : RW} (hR : MRW M R) {i : Nat} (hi : i < rN R) {h l f : Int32} : mAdd M h l i f = stp R h l i f := by
  obtain ⟨e1, e2, e3, e4, e5⟩ := hR.2.2.2 i hi
  unfold mAdd stp one8
  rw [e1, e2, e3, e5 h f]
  cases decide (M 43 i = 0) <;> cases mCnt M i h <;> cases decide (M 51 (M 44 i).toNatClampNeg = l) <;> cases mFit M i f <;> simp
set_option maxRecDepth 20000 in
theorem mPass_pas {R : RW} (hR : MRW M R) {h l f : Int32} : ∀ n, n ≤ rN R → mPass M h l n f = pas R h l n f := by
  intro n
  induction n with
  | zero => intro _; rfl
  | succ n ih =>
    intro hn
    show mAdd M h l n (mPass M h l n f) = stp R h l n (pas R h l n f)
    rw [ih (by omega), mAdd_stp hR (by omega)]
set_option maxRecDepth 20000 in
theorem pas_m1 {R : RW} {h l : Int32} {n : Nat} : pas R h l n (-1) = -1 := by
  apply gb_ext
  intro i hi
  rw [gb_m1 hi]
  exact pas_sub i (gb_m1 hi)
set_option maxRecDepth 20000 in
theorem lq_closed17 {h l w f0 : Int32} {R : RW} (hI : MI M) (hR : MRW M R) {Q : QT} (K : ∀ f, f = clo R h l f0 → Go [] (d + 1) (some .int) tabX9_closed 110 [(0, .ref 41), (1, .int h), (2, .int w), (3, .int f), (4, .int l)] [] (hp (zz E T) M) 0 0 Q) : ∀ a : Int32 × Int32, (∃ k, a.1 = itr (pas R h l (rN R)) k f0) → (a.2 = -1 ∨ a.1 = pas R h l (rN R) a.2) → Go [] (d + 1) (some .int) tabX9_closed 17 [(0, .ref 41), (1, .int h), (2, .int w), (3, .int a.1), (4, .int l), (5, .int a.2)] [] (hp (zz E T) M) 0 0 Q := by
  refine loop_ms (fun a => 2 * a.1.toBitVec.toNat + (if a.2 = a.1 then 1 else 0)) 8589934591 ?_
  rintro ⟨f, was⟩ ih ⟨k, hk⟩ hw
  simp only at hk hw
  refine g_iload (n := 19) rfl rfl rfl ?_
  refine g_iload_n (n := 20) rfl rfl rfl ?_
  refine g_ieq (n := 23) rfl rfl (fun h20 => ?_) (fun h20 => ?_)
  · skip
    refine go_only 5 ?_
    have h20 : was = f := h20
    refine K f (pas_eq hR.2.2.1 hk ?_)
    rcases hw with e | e
    · rw [← h20, e]; exact pas_m1
    · rw [h20] at e; exact e.symm
  · skip
    refine g_iload_n (n := 24) rfl rfl rfl ?_
    refine g_istore (n := 26) rfl rfl ?_
    refine g_const (n := 27) rfl rfl (s_iconst (v := 0) (by decide)) ?_
    refine g_istore (n := 29) rfl rfl ?_
    refine lp_closed29 hI hR.1 hR.2.1 (fun f' hf' => ?_) 0 (by omega) _ rfl
    have hp' : f' = pas R h l (rN R) f := hf'.trans (mPass_pas hR _ (Nat.le_refl _))
    refine ih (f', f) ?_ ?_ ⟨k + 1, ?_⟩ (Or.inr hp')
    · have h1 : f.toBitVec.toNat ≤ f'.toBitVec.toNat := by rw [hf']; exact mPass_ge
      simp only [if_neg h20]
      by_cases e : f = f'
      · rw [if_pos e]; omega
      · have := or_grow h1 e; omega
    · have := bv_top f'
      simp only
      split <;> omega
    · show f' = pas R h l (rN R) (itr (pas R h l (rN R)) k f0)
      rw [hp', hk]
set_option maxRecDepth 20000 in
theorem lq_closed5 {h w f0 : Int32} {hg : Nat} {R : RW} (hI : MI M) (hR : MRW M R) (hh : M 41 30 = Int32.ofNat hg) (h7 : hg ≤ 7) (hL : ∀ i, i < rN R → rK R i = 0 → ∃ k, k < hg + 1 ∧ rL R i = Int32.ofNat k) : ∀ i, i ≤ hg + 1 → ∀ f, f = sett R h i f0 → Go [] (d + 1) (some .int) tabX9_closed 5 [(0, .ref 41), (1, .int h), (2, .int w), (3, .int f), (4, .int (Int32.ofNat i))] [] (hp (zz E T) M) 0 0 (QI (zz E T) (fun x M' => M' = M ∧ x = setl R h f0)) := by
  refine loop_up (hg + 1) ?_
  intro i hi ih f hf
  refine g_iload (n := 7) rfl rfl rfl ?_
  refine g_aload_n (n := 8) rfl rfl rfl ?_
  refine g_getI (n := 11) rfl rfl z_41 rfl ?_
  rw [hh]
  refine g_igt (n := 14) rfl rfl (fun h11 => ?_) (fun h11 => ?_)
  · skip
    have g9 := (jn_lt (by omega) (by omega)).mp h11
    refine g_iload_n (n := 117) rfl rfl rfl ?_
    refine g_retI rfl ?_
    refine ⟨rfl, ?_⟩
    have e8 := sett_top (h := h) (f := f0) (L := hg + 1) hL (7 - hg) (by omega)
    rw [show hg + 1 + (7 - hg) = 8 by omega] at e8
    rw [hf, show i = hg + 1 by omega]
    exact e8.symm
  · skip
    have g9 := (jn_le (by omega) (by omega)).mp h11
    refine g_const (n := 15) rfl rfl (s_iconst (v := (-1)) (by decide)) ?_
    refine g_istore (n := 17) rfl rfl ?_
    refine lq_closed17 hI hR (fun f' hf' => st_closed110 rfl (ih (by omega) f' ?_)) (f, -1) ⟨0, rfl⟩ (Or.inl rfl)
    rw [hf', hf]
    rfl
set_option maxRecDepth 20000 in
theorem sq_closed {h f : Int32} {hg : Nat} {R : RW} (hI : MI M) (hR : MRW M R) (hh : M 41 30 = Int32.ofNat hg) (h7 : hg ≤ 7) (hL : ∀ i, i < rN R → rK R i = 0 → ∃ k, k < hg + 1 ∧ rL R i = Int32.ofNat k) : EvI (d + 2) miX9_closed [.ref 41, .int h, .int f] (zz E T) M (fun x M' => M' = M ∧ x = setl R h f) := by
  refine ev_of mt_X9_closed rfl ?_
  refine g_iload_n (n := 1) rfl rfl rfl ?_
  refine g_istore_n (n := 2) rfl rfl ?_
  refine g_const (n := 3) rfl rfl (s_iconst (v := 0) (by decide)) ?_
  refine g_istore (n := 5) rfl rfl ?_
  exact lq_closed5 hI hR hh h7 hL 0 (by omega) f rfl
/-- the blows that a run is struck with -/
def blL (nb : Nat) (g : Nat → Nat) : List Nat := (List.range nb).map g
def BL (M : Mem) (nb : Nat) (g : Nat → Nat) : Prop := nb ≤ 4 ∧ M 41 23 = Int32.ofNat nb ∧ ∀ k, k < nb → g k < 2147483648 ∧ M 54 k = Int32.ofNat (g k)
set_option maxRecDepth 20000 in
theorem blL_succ {nb : Nat} {g : Nat → Nat} : blL (nb + 1) g = blL nb g ++ [g nb] := by
  unfold blL
  rw [List.range_succ, List.map_append]
  rfl
set_option maxRecDepth 20000 in
theorem any_mem {nb x : Nat} {g : Nat → Nat} (hx : x < 2147483648) : ∀ i, i ≤ nb → (∀ k, k < nb → g k < 2147483648 ∧ M 54 k = Int32.ofNat (g k)) → mAny (fun k => decide (M 54 k = Int32.ofNat x)) i = decide (x ∈ blL i g) := by
  intro i
  induction i with
  | zero => intro _ _; simp [mAny, blL]
  | succ i ih =>
    intro hi hb
    obtain ⟨h1, h2⟩ := hb i (by omega)
    show (mAny (fun k => decide (M 54 k = Int32.ofNat x)) i || decide (M 54 i = Int32.ofNat x)) = _
    rw [ih (by omega) hb, blL_succ, h2]
    have e : decide (Int32.ofNat (g i) = Int32.ofNat x) = decide (x = g i) := by
      rw [decide_eq_decide]
      exact ⟨fun h => (jn_inj h1 hx h).symm, fun h => by rw [h]⟩
    rw [e]
    simp
set_option maxRecDepth 20000 in
theorem struck {nb t s h : Nat} {g : Nat → Nat} (hb : BL M nb g) (ht : 1 ≤ t) (ht6 : t ≤ 6) (hs : s < 4) (hh : h < 4) : mAny (fun k => decide (M 54 k = 16 * (Int32.ofNat t - 1) + 4 * Int32.ofNat s + Int32.ofNat h)) nb = decide (16 * (t - 1) + 4 * s + h ∈ blL nb g) := by
  rw [ix16 t s h ht]
  exact any_mem (by omega) nb (Nat.le_refl _) hb.2.2
set_option maxRecDepth 20000 in
theorem orT_step {G : Nat → Int32} {i : Nat} {f x : Int32} (hf : f = orT G i) (hx : G i = x) : f ||| x = orT G (i + 1) := by
  rw [hf, ← hx]
  rfl
set_option maxRecDepth 20000 in
theorem lq_came {t h nb : Nat} {g : Nat → Nat} (ht : 1 ≤ t) (ht6 : t ≤ 6) (h4 : h < 4) (hb : BL M nb g) : ∀ i, i ≤ 4 → ∀ f, f = orT (fun s => bif loB (blL nb g) (t - 1) s h then 0 else M 57 (16 * (t - 1) + 4 * s + h)) i → Go [] (d + 1) (some .int) tabX9_came 5 [(0, .ref 41), (1, .int (Int32.ofNat h)), (2, .int (Int32.ofNat t)), (3, .int f), (4, .int (Int32.ofNat i))] [] (hp (zz E T) M) 0 0 (QI (zz E T) (fun x M' => M' = M ∧ x = orT (fun s => bif loB (blL nb g) (t - 1) s h then 0 else M 57 (16 * (t - 1) + 4 * s + h)) 4)) := by
  refine loop_up 4 ?_
  intro i hi ih f hf
  refine g_iload (n := 7) rfl rfl rfl ?_
  refine g_const (n := 8) rfl rfl (s_iconst (v := 4) (by decide)) ?_
  refine g_ige (n := 11) rfl rfl (fun h8 => ?_) (fun h8 => ?_)
  · skip
    have g9 := (jn_le (b := i) (a := 4) (by omega) (by omega)).mp h8
    refine g_iload_n (n := 81) rfl rfl rfl ?_
    refine g_retI rfl ?_
    exact ⟨rfl, by rw [hf, show i = 4 by omega]⟩
  · skip
    have g9 := (jn_lt (b := 4) (a := i) (by omega) (by omega)).mp h8
    refine g_iload (n := 13) rfl rfl rfl ?_
    refine g_iload_n (n := 14) rfl rfl rfl ?_
    refine g_ieq (n := 17) rfl rfl (fun h14 => ?_) (fun h14 => ?_)
    · skip
      have lo : loB (blL nb g) (t - 1) i h = false := by
        unfold loB
        rw [decide_eq_true (jn_inj (by omega) (by omega) h14)]
        rfl
      refine g_const (n := 42) rfl rfl (s_iconst (v := 0) (by decide)) ?_
      refine g_istore (n := 44) rfl rfl ?_
      refine g_iload_n (n := 45) rfl rfl rfl ?_
      refine g_iload (n := 47) rfl rfl rfl ?_
      refine g_zeq (n := 50) rfl rfl (fun h47 => ?_) (fun h47 => ?_)
      · skip
        refine g_aload_n (n := 55) rfl rfl rfl ?_
        refine g_getR (n := 58) rfl rfl z_41 rfl ?_
        refine g_const (n := 60) rfl rfl (s_bipush (v := 16) (by decide)) ?_
        refine g_iload_n (n := 61) rfl rfl rfl ?_
        refine g_const (n := 62) rfl rfl (s_iconst (v := 1) (by decide)) ?_
        refine g_isub (n := 63) rfl rfl ?_
        refine g_imul (n := 64) rfl rfl ?_
        refine g_const (n := 65) rfl rfl (s_iconst (v := 4) (by decide)) ?_
        refine g_iload (n := 67) rfl rfl rfl ?_
        refine g_imul (n := 68) rfl rfl ?_
        refine g_iadd (n := 69) rfl rfl ?_
        refine g_iload_n (n := 70) rfl rfl rfl ?_
        refine g_iadd (n := 71) rfl rfl ?_
        refine g_iald (n := 72) rfl rfl z_57 rfl (ix16 t i h ht) (by omega) ?_
        refine g_ior (n := 73) rfl rfl ?_
        refine g_istore_n (n := 74) rfl rfl ?_
        refine g_iinc (n := 77) rfl rfl rfl (jn_1 _) ?_
        refine g_goto rfl ?_
        refine go_only 5 ?_
        refine ih g9 _ (orT_step hf ?_)
        simp only [lo, cond_true, cond_false]
      · skip
        exact absurd h47 (by decide)
    · skip
      have nih : decide (i = h) = false := decide_eq_false (fun e => h14 (by rw [e]))
      refine g_aload_n (n := 18) rfl rfl rfl ?_
      refine g_const (n := 20) rfl rfl (s_bipush (v := 16) (by decide)) ?_
      refine g_iload_n (n := 21) rfl rfl rfl ?_
      refine g_const (n := 22) rfl rfl (s_iconst (v := 1) (by decide)) ?_
      refine g_isub (n := 23) rfl rfl ?_
      refine g_imul (n := 24) rfl rfl ?_
      refine g_const (n := 25) rfl rfl (s_iconst (v := 4) (by decide)) ?_
      refine g_iload (n := 27) rfl rfl rfl ?_
      refine g_imul (n := 28) rfl rfl ?_
      refine g_iadd (n := 29) rfl rfl ?_
      refine g_iload_n (n := 30) rfl rfl rfl ?_
      refine g_iadd (n := 31) rfl rfl ?_
      refine g_cP2 (n := 34) rfl rfl rfl rfl mt_X9_isStruck rfl rfl (r_k z_41) (sp_isStruck hb.2.1 hb.1) ?_
      refine g_bz (n := 37) rfl rfl (fun h34 => ?_) (fun h34 => ?_)
      · skip
        rw [struck hb ht ht6 g9 h4] at h34
        have lo : loB (blL nb g) (t - 1) i h = false := by unfold loB; rw [h34, Bool.and_false]
        refine g_const (n := 42) rfl rfl (s_iconst (v := 0) (by decide)) ?_
        refine g_istore (n := 44) rfl rfl ?_
        refine g_iload_n (n := 45) rfl rfl rfl ?_
        refine g_iload (n := 47) rfl rfl rfl ?_
        refine g_zeq (n := 50) rfl rfl (fun h47 => ?_) (fun h47 => ?_)
        · skip
          refine g_aload_n (n := 55) rfl rfl rfl ?_
          refine g_getR (n := 58) rfl rfl z_41 rfl ?_
          refine g_const (n := 60) rfl rfl (s_bipush (v := 16) (by decide)) ?_
          refine g_iload_n (n := 61) rfl rfl rfl ?_
          refine g_const (n := 62) rfl rfl (s_iconst (v := 1) (by decide)) ?_
          refine g_isub (n := 63) rfl rfl ?_
          refine g_imul (n := 64) rfl rfl ?_
          refine g_const (n := 65) rfl rfl (s_iconst (v := 4) (by decide)) ?_
          refine g_iload (n := 67) rfl rfl rfl ?_
          refine g_imul (n := 68) rfl rfl ?_
          refine g_iadd (n := 69) rfl rfl ?_
          refine g_iload_n (n := 70) rfl rfl rfl ?_
          refine g_iadd (n := 71) rfl rfl ?_
          refine g_iald (n := 72) rfl rfl z_57 rfl (ix16 t i h ht) (by omega) ?_
          refine g_ior (n := 73) rfl rfl ?_
          refine g_istore_n (n := 74) rfl rfl ?_
          refine g_iinc (n := 77) rfl rfl rfl (jn_1 _) ?_
          refine g_goto rfl ?_
          refine go_only 5 ?_
          refine ih g9 _ (orT_step hf ?_)
          simp only [lo, cond_true, cond_false]
        · skip
          exact absurd h47 (by decide)
      · skip
        rw [struck hb ht ht6 g9 h4] at h34
        have lo : loB (blL nb g) (t - 1) i h = true := by unfold loB; rw [h34, nih]; rfl
        refine g_const (n := 38) rfl rfl (s_iconst (v := 1) (by decide)) ?_
        refine g_goto rfl ?_
        refine g_istore (n := 44) rfl rfl ?_
        refine g_iload_n (n := 45) rfl rfl rfl ?_
        refine g_iload (n := 47) rfl rfl rfl ?_
        refine g_zeq (n := 50) rfl rfl (fun h47 => ?_) (fun h47 => ?_)
        · skip
          exact absurd h47 (by decide)
        · skip
          refine g_const (n := 51) rfl rfl (s_iconst (v := 0) (by decide)) ?_
          refine g_goto rfl ?_
          refine g_ior (n := 73) rfl rfl ?_
          refine g_istore_n (n := 74) rfl rfl ?_
          refine g_iinc (n := 77) rfl rfl rfl (jn_1 _) ?_
          refine g_goto rfl ?_
          refine go_only 5 ?_
          refine ih g9 _ (orT_step hf ?_)
          simp only [lo, cond_true, cond_false]
set_option maxRecDepth 20000 in
theorem sq_came {t h nb : Nat} {g : Nat → Nat} (ht : 1 ≤ t) (ht6 : t ≤ 6) (h4 : h < 4) (hb : BL M nb g) : EvI (d + 2) miX9_came [.ref 41, .int (Int32.ofNat h), .int (Int32.ofNat t)] (zz E T) M (fun x M' => M' = M ∧ x = orT (fun s => bif loB (blL nb g) (t - 1) s h then 0 else M 57 (16 * (t - 1) + 4 * s + h)) 4) := by
  refine ev_of mt_X9_came rfl ?_
  refine g_const (n := 1) rfl rfl (s_iconst (v := 0) (by decide)) ?_
  refine g_istore_n (n := 2) rfl rfl ?_
  refine g_const (n := 3) rfl rfl (s_iconst (v := 0) (by decide)) ?_
  refine g_istore (n := 5) rfl rfl ?_
  exact lq_came ht ht6 h4 hb 0 (by omega) _ rfl
set_option maxRecDepth 20000 in
theorem kep_step {R : RW} {i : Nat} {h F f x : Int32} {D : Bool} (hf : f = bif D then 0 else kepT R h F i) (hx : x = bif !D && (decide (rK R i = 1) && wk R i h F) then one8 (rH R i) else 0) : f ||| x = bif D then 0 else kepT R h F (i + 1) := by
  subst hf hx
  cases D
  · show kepT R h F i ||| (bif true && (decide (rK R i = 1) && wk R i h F) then one8 (rH R i) else 0) = bif decide (rK R i = 1) && wk R i h F then kepT R h F i ||| one8 (rH R i) else kepT R h F i
    cases decide (rK R i = 1) && wk R i h F <;> simp
  · show (0 : Int32) ||| 0 = 0
    decide
set_option maxRecDepth 20000 in
theorem lq_keptBy {t h : Nat} {R : RW} (hR : MRW M R) (ht6 : t ≤ 6) (h4 : h < 4) : ∀ i, i ≤ rN R → ∀ f, f = (bif decide (M 58 h ≤ Int32.ofNat t) then 0 else kepT R (Int32.ofNat h) (M 56 (4 * t + h)) i) → Go [] (d + 1) (some .int) tabX9_keptBy 5 [(0, .ref 41), (1, .int (Int32.ofNat h)), (2, .int (Int32.ofNat t)), (3, .int f), (4, .int (Int32.ofNat i))] [] (hp (zz E T) M) 0 0 (QI (zz E T) (fun x M' => M' = M ∧ x = bif decide (M 58 h ≤ Int32.ofNat t) then 0 else kepT R (Int32.ofNat h) (M 56 (4 * t + h)) (rN R))) := by
  have hn := hR.1
  have hr := hR.2.1
  refine loop_up (rN R) ?_
  intro i hi ih f hf
  refine g_iload (n := 7) rfl rfl rfl ?_
  refine g_aload_n (n := 8) rfl rfl rfl ?_
  refine g_getI (n := 11) rfl rfl z_41 rfl ?_
  rw [hr]
  refine g_ige (n := 14) rfl rfl (fun h11 => ?_) (fun h11 => ?_)
  · skip
    have g9 := (jn_le (by omega) (by omega)).mp h11
    refine g_iload_n (n := 86) rfl rfl rfl ?_
    refine g_retI rfl ?_
    exact ⟨rfl, by rw [hf, show i = rN R by omega]⟩
  · skip
    have g9 := (jn_lt (by omega) (by omega)).mp h11
    obtain ⟨eK, eH, -, -, eW⟩ := hR.2.2.2 i g9
    refine g_iload_n (n := 15) rfl rfl rfl ?_
    refine g_aload_n (n := 16) rfl rfl rfl ?_
    refine g_iload_n (n := 17) rfl rfl rfl ?_
    refine g_iload_n (n := 18) rfl rfl rfl ?_
    refine g_cP3 (n := 21) rfl rfl rfl rfl mt_X9_isFallen rfl rfl (r_k z_41) (sp_isFallen h4) ?_
    refine g_bnz (n := 24) rfl rfl (fun h21 => ?_) (fun h21 => ?_)
    · skip
      refine g_const (n := 77) rfl rfl (s_iconst (v := 0) (by decide)) ?_
      refine g_ior (n := 78) rfl rfl ?_
      refine g_istore_n (n := 79) rfl rfl ?_
      refine g_iinc (n := 82) rfl rfl rfl (jn_1 _) ?_
      refine g_goto rfl ?_
      first
        | exact ih g9 _ (kep_step hf (by rw [h21]; rfl))
        | exact ih g9 _ (kep_step hf (by rw [h21, eK, dF h32]; rfl))
        | exact ih g9 _ (kep_step hf (by rw [h21, eK, dT h32, eW, h42]; rfl))
        | exact ih g9 _ (kep_step hf (by rw [h21, eK, dT h32, eW, h42, h61, eH]; rfl))
    · skip
      refine g_aload_n (n := 25) rfl rfl rfl ?_
      refine g_getR (n := 28) rfl rfl z_41 rfl ?_
      refine g_iload (n := 30) rfl rfl rfl ?_
      refine g_iald (n := 31) rfl rfl z_43 rfl rfl (by omega) ?_
      refine g_const (n := 32) rfl rfl (s_iconst (v := 1) (by decide)) ?_
      refine g_ine (n := 35) rfl rfl (fun h32 => ?_) (fun h32 => ?_)
      · skip
        refine g_const (n := 77) rfl rfl (s_iconst (v := 0) (by decide)) ?_
        refine g_ior (n := 78) rfl rfl ?_
        refine g_istore_n (n := 79) rfl rfl ?_
        refine g_iinc (n := 82) rfl rfl rfl (jn_1 _) ?_
        refine g_goto rfl ?_
        first
          | exact ih g9 _ (kep_step hf (by rw [h21]; rfl))
          | exact ih g9 _ (kep_step hf (by rw [h21, eK, dF h32]; rfl))
          | exact ih g9 _ (kep_step hf (by rw [h21, eK, dT h32, eW, h42]; rfl))
          | exact ih g9 _ (kep_step hf (by rw [h21, eK, dT h32, eW, h42, h61, eH]; rfl))
      · skip
        refine g_aload_n (n := 36) rfl rfl rfl ?_
        refine g_iload (n := 38) rfl rfl rfl ?_
        refine g_iload_n (n := 39) rfl rfl rfl ?_
        refine g_cP3 (n := 42) rfl rfl rfl rfl mt_X9_counts rfl rfl (r_k z_41) (sp_counts (by omega)) ?_
        refine g_bz (n := 45) rfl rfl (fun h42 => ?_) (fun h42 => ?_)
        · skip
          refine g_const (n := 77) rfl rfl (s_iconst (v := 0) (by decide)) ?_
          refine g_ior (n := 78) rfl rfl ?_
          refine g_istore_n (n := 79) rfl rfl ?_
          refine g_iinc (n := 82) rfl rfl rfl (jn_1 _) ?_
          refine g_goto rfl ?_
          first
            | exact ih g9 _ (kep_step hf (by rw [h21]; rfl))
            | exact ih g9 _ (kep_step hf (by rw [h21, eK, dF h32]; rfl))
            | exact ih g9 _ (kep_step hf (by rw [h21, eK, dT h32, eW, h42]; rfl))
            | exact ih g9 _ (kep_step hf (by rw [h21, eK, dT h32, eW, h42, h61, eH]; rfl))
        · skip
          refine g_aload_n (n := 46) rfl rfl rfl ?_
          refine g_iload (n := 48) rfl rfl rfl ?_
          refine g_aload_n (n := 49) rfl rfl rfl ?_
          refine g_getR (n := 52) rfl rfl z_41 rfl ?_
          refine g_const (n := 53) rfl rfl (s_iconst (v := 4) (by decide)) ?_
          refine g_iload_n (n := 54) rfl rfl rfl ?_
          refine g_imul (n := 55) rfl rfl ?_
          refine g_iload_n (n := 56) rfl rfl rfl ?_
          refine g_iadd (n := 57) rfl rfl ?_
          refine g_iald (n := 58) rfl rfl z_56 rfl (ix44 t h) (by omega) ?_
          refine g_cP3 (n := 61) rfl rfl rfl rfl mt_X9_fits rfl rfl (r_k z_41) (sp_fits (by omega)) ?_
          refine g_bz (n := 64) rfl rfl (fun h61 => ?_) (fun h61 => ?_)
          · skip
            refine g_const (n := 77) rfl rfl (s_iconst (v := 0) (by decide)) ?_
            refine g_ior (n := 78) rfl rfl ?_
            refine g_istore_n (n := 79) rfl rfl ?_
            refine g_iinc (n := 82) rfl rfl rfl (jn_1 _) ?_
            refine g_goto rfl ?_
            first
              | exact ih g9 _ (kep_step hf (by rw [h21]; rfl))
              | exact ih g9 _ (kep_step hf (by rw [h21, eK, dF h32]; rfl))
              | exact ih g9 _ (kep_step hf (by rw [h21, eK, dT h32, eW, h42]; rfl))
              | exact ih g9 _ (kep_step hf (by rw [h21, eK, dT h32, eW, h42, h61, eH]; rfl))
          · skip
            refine g_const (n := 65) rfl rfl (s_iconst (v := 1) (by decide)) ?_
            refine g_aload_n (n := 66) rfl rfl rfl ?_
            refine g_getR (n := 69) rfl rfl z_41 rfl ?_
            refine g_iload (n := 71) rfl rfl rfl ?_
            refine g_iald (n := 72) rfl rfl z_44 rfl rfl (by omega) ?_
            refine g_ishl (n := 73) rfl rfl ?_
            refine g_goto rfl ?_
            refine g_ior (n := 78) rfl rfl ?_
            refine g_istore_n (n := 79) rfl rfl ?_
            refine g_iinc (n := 82) rfl rfl rfl (jn_1 _) ?_
            refine g_goto rfl ?_
            first
              | exact ih g9 _ (kep_step hf (by rw [h21]; rfl))
              | exact ih g9 _ (kep_step hf (by rw [h21, eK, dF h32]; rfl))
              | exact ih g9 _ (kep_step hf (by rw [h21, eK, dT h32, eW, h42]; rfl))
              | exact ih g9 _ (kep_step hf (by rw [h21, eK, dT h32, eW, h42, h61, eH]; rfl))
set_option maxRecDepth 20000 in
theorem sq_keptBy {t h : Nat} {R : RW} (hR : MRW M R) (ht6 : t ≤ 6) (h4 : h < 4) : EvI (d + 2) miX9_keptBy [.ref 41, .int (Int32.ofNat h), .int (Int32.ofNat t)] (zz E T) M (fun x M' => M' = M ∧ x = bif decide (M 58 h ≤ Int32.ofNat t) then 0 else kepT R (Int32.ofNat h) (M 56 (4 * t + h)) (rN R)) := by
  refine ev_of mt_X9_keptBy rfl ?_
  refine g_const (n := 1) rfl rfl (s_iconst (v := 0) (by decide)) ?_
  refine g_istore_n (n := 2) rfl rfl ?_
  refine g_const (n := 3) rfl rfl (s_iconst (v := 0) (by decide)) ?_
  refine g_istore (n := 5) rfl rfl ?_
  exact lq_keptBy hR ht6 h4 0 (by omega) _ (by cases decide (M 58 h ≤ Int32.ofNat t) <;> rfl)
/-! Falls -/
set_option maxRecDepth 20000 in
theorem flB_app {bl : List Nat} {x t h : Nat} : flB (bl ++ [x]) t h = (flB bl t h || (decide (200 ≤ x) && (decide (x % 4 = h) && decide ((x - 200) / 4 ≤ t)))) := by
  unfold flB
  rw [List.any_append, List.any_cons, List.any_nil, Bool.or_false]
def FAl (M1 : Mem) (bl : List Nat) : Prop := ∀ h, h < 4 → ∃ k, k ≤ 100 ∧ M1 58 h = Int32.ofNat k ∧ ∀ t, t ≤ 6 → flB bl t h = decide (k ≤ t)
set_option maxRecDepth 20000 in
theorem fa_keep {M1 : Mem} {bl : List Nat} {x k : Nat} (hF : FAl M1 bl) (hk : M1 58 (x % 4) = Int32.ofNat k) (hk100 : k ≤ 100) (hno : x < 200 ∨ k ≤ (x - 200) / 4) : FAl (mup M1 58 (x % 4) (M1 58 (x % 4))) (bl ++ [x]) := by
  intro h hh
  obtain ⟨k', h1, h2, h3⟩ := hF h hh
  refine ⟨k', h1, ?_, fun t ht => ?_⟩
  · by_cases e : h = x % 4
    · rw [e, mup_same, ← e]; exact h2
    · rw [mup_j e]; exact h2
  · rw [flB_app, h3 t ht]
    cases hb : (decide (200 ≤ x) && (decide (x % 4 = h) && decide ((x - 200) / 4 ≤ t)))
    · rw [Bool.or_false]
    · simp only [Bool.and_eq_true, decide_eq_true_eq] at hb
      obtain ⟨b1, b2, b3⟩ := hb
      rw [b2] at hk
      have := jn_inj (by omega) (by omega) (h2.symm.trans hk)
      rw [decide_eq_true (show k' ≤ t by omega)]
      rfl
set_option maxRecDepth 20000 in
theorem fa_new {M1 : Mem} {bl : List Nat} {x k : Nat} (hF : FAl M1 bl) (h200 : 200 ≤ x) (hk : M1 58 (x % 4) = Int32.ofNat k) (hk100 : k ≤ 100) (hlt : (x - 200) / 4 < k) : FAl (mup M1 58 (x % 4) (Int32.ofNat ((x - 200) / 4))) (bl ++ [x]) := by
  intro h hh
  obtain ⟨k', h1, h2, h3⟩ := hF h hh
  by_cases e : h = x % 4
  · subst e
    have := jn_inj (by omega) (by omega) (h2.symm.trans hk)
    refine ⟨(x - 200) / 4, by omega, mup_same, fun t ht => ?_⟩
    rw [flB_app, h3 t ht, decide_eq_true h200, decide_eq_true rfl, Bool.true_and, Bool.true_and]
    by_cases g : (x - 200) / 4 ≤ t
    · rw [decide_eq_true g, Bool.or_true]
    · rw [decide_eq_false g, Bool.or_false, decide_eq_false (by omega)]
  · refine ⟨k', h1, by rw [mup_j e]; exact h2, fun t ht => ?_⟩
    rw [flB_app, h3 t ht, decide_eq_false (show ¬ x % 4 = h from fun g => e g.symm), Bool.false_and, Bool.and_false, Bool.or_false]
set_option maxRecDepth 20000 in
theorem rem4n {n : Nat} (h : n < 2147483648) : Int32.ofNat n - Int32.ofNat n / 4 * 4 = Int32.ofNat (n % 4) := by
  show Int32.ofNat n - Int32.ofNat n / Int32.ofNat 4 * Int32.ofNat 4 = _
  rw [← Int32.ofNat_div (by omega) (by decide), jn_mul, jn_sub (by omega)]
  congr 1
  omega
set_option maxRecDepth 20000 in
theorem mTick_hi {n : Nat} (h : 200 ≤ n) (h2 : n < 2147483648) : mTick (Int32.ofNat n) = Int32.ofNat ((n - 200) / 4) := by
  unfold mTick
  have hn : ¬ Int32.ofNat n < 200 := Int32.not_lt.mpr ((jn_le (a := 200) (by omega) h2).mpr h)
  rw [if_neg hn, show Int32.ofNat n - 200 = Int32.ofNat (n - 200) from jn_sub (b := 200) h]
  exact (Int32.ofNat_div (b := 4) (by omega) (by decide)).symm
/-- what the cells are while a run goes on -/
def RJ (M M1 : Mem) : Prop := mKeep M M1 ∧ M1 41 23 = M 41 23 ∧ (∀ k, M1 54 k = M 54 k) ∧ M1 41 25 = M 41 25
set_option maxRecDepth 20000 in
theorem RJ.rf : RJ M M := ⟨mKeep.rf, rfl, fun _ => rfl, rfl⟩
set_option maxRecDepth 20000 in
theorem RJ.up {M M1 : Mem} {q j : Nat} {x : Int32} (h : RJ M M1) (hq : (Nat.blt 54 q && Nat.blt q 59) = true) : RJ M (mup M1 q j x) := by
  simp only [Bool.and_eq_true, Nat.blt_eq] at hq
  have hs : mScr q j = true := by
    have h1 : Nat.blt 53 q = true := Nat.blt_eq.mpr (by omega)
    have h2 : Nat.blt q 59 = true := Nat.blt_eq.mpr (by omega)
    simp only [mScr, h1, h2, Bool.and_self, Bool.true_or]
  refine ⟨h.1.up hs, ?_, fun k => ?_, ?_⟩
  · rw [mup_q (by omega)]; exact h.2.1
  · rw [mup_q (by omega)]; exact h.2.2.1 k
  · rw [mup_q (by omega)]; exact h.2.2.2
set_option maxRecDepth 20000 in
theorem RJ.hg {M M1 : Mem} {x : Int32} (h : RJ M M1) : RJ M (mup M1 41 30 x) := ⟨h.1.up rfl, h.2.1, h.2.2.1, h.2.2.2⟩
set_option maxRecDepth 20000 in
theorem RJ.bl {M M1 : Mem} {nb : Nat} {g : Nat → Nat} (h : RJ M M1) (hb : BL M nb g) : BL M1 nb g := ⟨hb.1, h.2.1.trans hb.2.1, fun k hk => ⟨(hb.2.2 k hk).1, (h.2.2.1 k).trans (hb.2.2 k hk).2⟩⟩
set_option maxRecDepth 20000 in
theorem MRW.ri {M M1 : Mem} {R : RW} (hR : MRW M R) (h : mKeep M M1) (h25 : M1 41 25 = M 41 25) : MRW M1 R := by
  obtain ⟨a, b, c, e⟩ := hR
  refine ⟨a, (h 41 1 rfl).trans b, c, fun i hi => ?_⟩
  obtain ⟨e1, e2, e3, e4, e5⟩ := e i hi
  rw [h 43 i rfl, h 44 i rfl, h 48 i rfl, h 51 _ rfl]
  refine ⟨e1, e2, e3, e4, fun k f => ?_⟩
  rw [e5 k f]
  unfold mCnt mFit
  rw [h 42 i rfl, h 45 i rfl, h 46 i rfl, h 47 i rfl, h 49 i rfl, h25]
set_option maxRecDepth 20000 in
theorem lq_falls2 {Q : QT} (K : ∀ M1, RJ M M1 → (∀ h, h < 4 → M1 58 h = 100) → Go [] (d + 2) none tabX9_falls 21 [(0, .ref 41)] [] (hp (zz E T) M1) 0 0 Q) : ∀ i, i ≤ 4 → ∀ M1, RJ M M1 → (∀ h, h < i → M1 58 h = 100) → Go [] (d + 2) none tabX9_falls 2 [(0, .ref 41), (1, .int (Int32.ofNat i))] [] (hp (zz E T) M1) 0 0 Q := by
  refine loop_up 4 ?_
  intro i hi ih M1 k1 k2
  refine g_iload_n (n := 3) rfl rfl rfl ?_
  refine g_const (n := 4) rfl rfl (s_iconst (v := 4) (by decide)) ?_
  refine g_ige (n := 7) rfl rfl (fun h4 => ?_) (fun h4 => ?_)
  · skip
    have g9 := (jn_le (b := i) (a := 4) (by omega) (by omega)).mp h4
    refine go_only 1 ?_; exact K M1 k1 (fun h hh => k2 h (by omega))
  · skip
    have g9 := (jn_lt (b := 4) (a := i) (by omega) (by omega)).mp h4
    refine g_aload_n (n := 8) rfl rfl rfl ?_
    refine g_getR (n := 11) rfl rfl z_41 rfl ?_
    refine g_iload_n (n := 12) rfl rfl rfl ?_
    refine g_const (n := 14) rfl rfl (s_bipush (v := 100) (by decide)) ?_
    refine g_iast (n := 15) rfl rfl z_58 rfl rfl (by omega) ?_
    refine g_iinc (n := 18) rfl rfl rfl (jn_1 _) ?_
    refine g_goto rfl ?_
    refine ih g9 _ (k1.up rfl) (fun h hh => ?_)
    by_cases e : h = i
    · subst e; exact mup_same
    · rw [mup_j e]; exact k2 h (by omega)
set_option maxRecDepth 20000 in
theorem lq_falls23 {nb : Nat} {g : Nat → Nat} (hb : BL M nb g) : ∀ i, i ≤ nb → ∀ M1, RJ M M1 → FAl M1 (blL i g) → Go [] (d + 2) none tabX9_falls 23 [(0, .ref 41), (1, .int (Int32.ofNat i))] [] (hp (zz E T) M1) 0 0 (QV (zz E T) (fun M1 => RJ M M1 ∧ FAl M1 (blL nb g))) := by
  obtain ⟨hn, hb1, hb2⟩ := hb
  refine loop_up nb ?_
  intro i hi ih M1 k1 hF
  refine g_iload_n (n := 24) rfl rfl rfl ?_
  refine g_aload_n (n := 25) rfl rfl rfl ?_
  refine g_getI (n := 28) rfl rfl z_41 rfl ?_
  refine g_ige (n := 31) rfl rfl (fun h28 => ?_) (fun h28 => ?_)
  · skip
    rw [k1.2.1, hb1] at h28
    have g9 := (jn_le (by omega) (by omega)).mp h28
    refine g_retV rfl ?_
    rw [show nb = i by omega]; exact ⟨k1, hF⟩
  · skip
    rw [k1.2.1, hb1] at h28
    have g9 := (jn_lt (by omega) (by omega)).mp h28
    have gx := (hb2 i g9).1
    have e54 : M1 54 i = Int32.ofNat (g i) := (k1.2.2.1 i).trans (hb2 i g9).2
    have ej : M1 54 i - M1 54 i / 4 * 4 = Int32.ofNat (g i % 4) := by rw [e54]; exact rem4n gx
    obtain ⟨k, hk100, hk, -⟩ := hF (g i % 4) (by omega)
    refine g_aload_n (n := 32) rfl rfl rfl ?_
    refine g_getR (n := 35) rfl rfl z_41 rfl ?_
    refine g_iload_n (n := 36) rfl rfl rfl ?_
    refine g_iald (n := 37) rfl rfl z_54 rfl rfl (by omega) ?_
    refine g_const (n := 38) rfl rfl (s_iconst (v := 4) (by decide)) ?_
    refine g_irem (n := 39) rfl rfl rfl ?_
    rw [ej]
    refine g_istore_n (n := 40) rfl rfl ?_
    refine g_aload_n (n := 41) rfl rfl rfl ?_
    refine g_getR (n := 44) rfl rfl z_41 rfl ?_
    refine g_iload_n (n := 45) rfl rfl rfl ?_
    refine g_aload_n (n := 46) rfl rfl rfl ?_
    refine g_getR (n := 49) rfl rfl z_41 rfl ?_
    refine g_iload_n (n := 50) rfl rfl rfl ?_
    refine g_iald (n := 51) rfl rfl z_54 rfl rfl (by omega) ?_
    refine g_cP1 (n := 54) rfl rfl rfl rfl mt_X9_isLoss rfl rfl rfl (sp_isLoss) ?_
    refine g_bnz (n := 57) rfl rfl (fun h54 => ?_) (fun h54 => ?_)
    · skip
      rw [e54] at h54
      have l54 : g i < 200 := (jn_lt (b := 200) gx (by omega)).mp (of_decide_eq_true h54)
      refine g_aload_n (n := 88) rfl rfl rfl ?_
      refine g_getR (n := 91) rfl rfl z_41 rfl ?_
      refine g_iload_n (n := 92) rfl rfl rfl ?_
      refine g_iald (n := 93) rfl rfl z_58 rfl rfl (by omega) ?_
      refine g_iast (n := 94) rfl rfl z_58 rfl rfl (by omega) ?_
      refine g_iinc (n := 97) rfl rfl rfl (jn_1 _) ?_
      refine g_goto rfl ?_
      refine go_only 2 ?_
      refine ih g9 _ (k1.up rfl) ?_
      rw [blL_succ]
      exact fa_keep hF hk hk100 (Or.inl l54)
    · skip
      rw [e54] at h54
      have l54 : 200 ≤ g i := (jn_le (a := 200) (by omega) gx).mp (Int32.not_lt.mp (of_decide_eq_false h54))
      refine g_aload_n (n := 58) rfl rfl rfl ?_
      refine g_getR (n := 61) rfl rfl z_41 rfl ?_
      refine g_iload_n (n := 62) rfl rfl rfl ?_
      refine g_iald (n := 63) rfl rfl z_54 rfl rfl (by omega) ?_
      refine g_cP1 (n := 66) rfl rfl rfl rfl mt_X9_tickOf rfl rfl rfl (sp_tickOf) ?_
      refine g_aload_n (n := 67) rfl rfl rfl ?_
      refine g_getR (n := 70) rfl rfl z_41 rfl ?_
      refine g_iload_n (n := 71) rfl rfl rfl ?_
      refine g_iald (n := 72) rfl rfl z_58 rfl rfl (by omega) ?_
      refine g_ige (n := 75) rfl rfl (fun h72 => ?_) (fun h72 => ?_)
      · skip
        rw [e54, mTick_hi l54 gx, hk] at h72
        have l72 := (jn_le (by omega) (by omega)).mp h72
        refine g_aload_n (n := 88) rfl rfl rfl ?_
        refine g_getR (n := 91) rfl rfl z_41 rfl ?_
        refine g_iload_n (n := 92) rfl rfl rfl ?_
        refine g_iald (n := 93) rfl rfl z_58 rfl rfl (by omega) ?_
        refine g_iast (n := 94) rfl rfl z_58 rfl rfl (by omega) ?_
        refine g_iinc (n := 97) rfl rfl rfl (jn_1 _) ?_
        refine g_goto rfl ?_
        refine go_only 2 ?_
        refine ih g9 _ (k1.up rfl) ?_
        rw [blL_succ]
        exact fa_keep hF hk hk100 (Or.inr l72)
      · skip
        rw [e54, mTick_hi l54 gx, hk] at h72
        have l72 := (jn_lt (by omega) (by omega)).mp h72
        refine g_aload_n (n := 76) rfl rfl rfl ?_
        refine g_getR (n := 79) rfl rfl z_41 rfl ?_
        refine g_iload_n (n := 80) rfl rfl rfl ?_
        refine g_iald (n := 81) rfl rfl z_54 rfl rfl (by omega) ?_
        refine g_cP1 (n := 84) rfl rfl rfl rfl mt_X9_tickOf rfl rfl rfl (sp_tickOf) ?_
        refine g_goto rfl ?_
        refine g_iast (n := 94) rfl rfl z_58 rfl rfl (by omega) ?_
        refine g_iinc (n := 97) rfl rfl rfl (jn_1 _) ?_
        refine g_goto rfl ?_
        refine go_only 2 ?_
        refine ih g9 _ (k1.up rfl) ?_
        rw [blL_succ, e54, mTick_hi l54 gx]
        exact fa_new hF l54 hk hk100 l72
set_option maxRecDepth 20000 in
theorem sq_falls {nb : Nat} {g : Nat → Nat} (hb : BL M nb g) : EvV (d + 3) miX9_falls [.ref 41] (zz E T) M (fun M1 => RJ M M1 ∧ FAl M1 (blL nb g)) := by
  refine ev_of mt_X9_falls rfl ?_
  refine g_const (n := 1) rfl rfl (s_iconst (v := 0) (by decide)) ?_
  refine g_istore_n (n := 2) rfl rfl ?_
  refine lq_falls2 (M := M) (fun M1 k1 k2 => ?_) 0 (by omega) M RJ.rf (fun h hh => absurd hh (by omega))
  refine g_const (n := 22) rfl rfl (s_iconst (v := 0) (by decide)) ?_
  refine g_istore_n (n := 23) rfl rfl ?_
  refine lq_falls23 hb 0 (by omega) M1 k1 (fun h hh => ⟨100, by omega, k2 h hh, fun t ht => ?_⟩)
  rw [decide_eq_false (show ¬ 100 ≤ t by omega)]
  rfl
/-! The ticks -/
/-- the cells with p places (tick and host) done -/
def RQ (M : Mem) (V : VW) (bl : List Nat) (hg p : Nat) (M1 : Mem) : Prop := RJ M M1 ∧ FAl M1 bl ∧ M1 41 30 = Int32.ofNat hg ∧ ∀ k, k < p → M1 56 k = hsB V bl (k / 4) (k % 4) ∧ ∀ g, g < 4 → M1 57 (4 * k + g) = snB V bl (k / 4) (k % 4) g
set_option maxRecDepth 20000 in
theorem RQ.up {V : VW} {bl : List Nat} {hg p q j : Nat} {x : Int32} {M1 : Mem} (h : RQ M V bl hg p M1) (hq : q = 55 ∨ (q = 56 ∧ p ≤ j) ∨ (q = 57 ∧ 4 * p ≤ j)) : RQ M V bl hg p (mup M1 q j x) := by
  obtain ⟨h1, h2, h3, h4⟩ := h
  refine ⟨h1.up ?_, fun k hk => ?_, ?_, fun k hk => ⟨?_, fun g hg' => ?_⟩⟩
  · rcases hq with rfl | ⟨rfl, -⟩ | ⟨rfl, -⟩ <;> rfl
  · obtain ⟨a, b, c, e⟩ := h2 k hk
    exact ⟨a, b, by rw [mup_q (by omega)]; exact c, e⟩
  · rw [mup_q (by omega)]; exact h3
  · rw [mup_if, if_neg (by omega)]; exact (h4 k hk).1
  · rw [mup_if, if_neg (by omega)]; exact (h4 k hk).2 g hg'
set_option maxRecDepth 20000 in
theorem RQ.next {V : VW} {bl : List Nat} {hg t h : Nat} {M1 : Mem} (k1 : RQ M V bl hg (4 * t + h) M1) (h4 : h < 4) (h56 : M1 56 (4 * t + h) = hsB V bl t h) (h57 : ∀ g, g < 4 → M1 57 (4 * (4 * t + h) + g) = snB V bl t h g) : RQ M V bl hg (4 * t + h + 1) M1 := by
  refine ⟨k1.1, k1.2.1, k1.2.2.1, fun k hk => ?_⟩
  by_cases e : k = 4 * t + h
  · subst e
    rw [show (4 * t + h) / 4 = t by omega, show (4 * t + h) % 4 = h by omega]
    exact ⟨h56, h57⟩
  · exact k1.2.2.2 k (by omega)
set_option maxRecDepth 20000 in
theorem sen_no {R : RW} {i : Nat} {h F g : Int32} (hc : (decide (rK R i = 2) && (decide (rT R i = g) && wk R i h F)) = false) : senT R h F g (i + 1) = senT R h F g i := by
  show (bif decide (rK R i = 2) && (decide (rT R i = g) && wk R i h F) then _ else _) = _
  rw [hc]
  rfl
set_option maxRecDepth 20000 in
theorem sen_yes {R : RW} {i : Nat} {h F g : Int32} (hc : (decide (rK R i = 2) && (decide (rT R i = g) && wk R i h F)) = true) : senT R h F g (i + 1) = senT R h F g i ||| one8 (rH R i) := by
  show (bif decide (rK R i = 2) && (decide (rT R i = g) && wk R i h F) then _ else _) = _
  rw [hc]
  rfl
set_option maxRecDepth 20000 in
theorem sn_of {V : VW} {bl : List Nat} {t h g i : Nat} {fl : Bool} (hfl : fl = flB bl t h) (hx : fl = true ∨ i = rN (vR V)) : (bif fl then 0 else senT (vR V) (Int32.ofNat h) (hsB V bl t h) (Int32.ofNat g) i) = snB V bl t h g := by
  subst hfl
  unfold snB senF hsB hasF
  cases hb : flB bl t h
  · rcases hx with e | e
    · rw [hb] at e; cases e
    · subst e; rfl
  · rfl
set_option maxRecDepth 20000 in
theorem lq_runs204 {t h hg : Nat} {fl : Bool} {V : VW} {bl : List Nat} (hI : MI M) (hR : MRW M (vR V)) (ht6 : t ≤ 6) (h4 : h < 4) (hfl : fl = flB bl t h) {Q : QT} (K : ∀ M1, RQ M V bl hg (4 * t + h + 1) M1 → Go [] (d + 3) none tabX9_runs 288 [(0, .ref 41), (1, .int (Int32.ofNat t)), (2, .int (Int32.ofNat h))] [] (hp (zz E T) M1) 0 0 Q) : ∀ i, i ≤ rN (vR V) → ∀ M1, RQ M V bl hg (4 * t + h) M1 → M1 56 (4 * t + h) = hsB V bl t h → (∀ g, g < 4 → M1 57 (4 * (4 * t + h) + g) = bif fl then 0 else senT (vR V) (Int32.ofNat h) (hsB V bl t h) (Int32.ofNat g) i) → Go [] (d + 3) none tabX9_runs 204 [(0, .ref 41), (1, .int (Int32.ofNat t)), (2, .int (Int32.ofNat h)), (3, .int (Int32.ofNat (4 * t + h))), (4, .int (bI fl)), (5, .int (Int32.ofNat i))] [] (hp (zz E T) M1) 0 0 Q := by
  have hn := hR.1
  refine loop_up (rN (vR V)) ?_
  intro i hi ih M1 k1 h56 h57
  have hI1 := hI.keep k1.1.1
  have hR1 := hR.ri k1.1.1 k1.1.2.2.2
  have hr1 := hR1.2.1
  refine g_iload (n := 206) rfl rfl rfl ?_
  refine g_aload_n (n := 207) rfl rfl rfl ?_
  refine g_getI (n := 210) rfl rfl z_41 rfl ?_
  refine g_ige (n := 213) rfl rfl (fun h210 => ?_) (fun h210 => ?_)
  · skip
    rw [hr1] at h210
    have g9 := (jn_le (by omega) (by omega)).mp h210
    refine go_only 3 ?_
    exact K M1 (k1.next h4 h56 (fun g hg' => (h57 g hg').trans (sn_of hfl (Or.inr (by omega)))))
  · skip
    rw [hr1] at h210
    have g9 := (jn_lt (by omega) (by omega)).mp h210
    obtain ⟨-, -, -, -, ⟨to, hto, eto⟩⟩ := hI1.2.2.1 i (by omega)
    obtain ⟨eK, eH, -, eT, eW⟩ := hR1.2.2.2 i g9
    refine g_iload (n := 215) rfl rfl rfl ?_
    refine g_bnz (n := 218) rfl rfl (fun h215 => ?_) (fun h215 => ?_)
    · skip
      refine go_only 3 ?_
      exact K M1 (k1.next h4 h56 (fun g hg' => (h57 g hg').trans (sn_of hfl (Or.inl h215))))
    · skip
      refine g_aload_n (n := 219) rfl rfl rfl ?_
      refine g_getR (n := 222) rfl rfl z_41 rfl ?_
      refine g_iload (n := 224) rfl rfl rfl ?_
      refine g_iald (n := 225) rfl rfl z_43 rfl rfl (by omega) ?_
      refine g_const (n := 226) rfl rfl (s_iconst (v := 2) (by decide)) ?_
      refine g_ine (n := 229) rfl rfl (fun h226 => ?_) (fun h226 => ?_)
      · skip
        refine g_iinc (n := 285) rfl rfl rfl (jn_1 _) ?_
        refine g_goto rfl ?_
        refine ih g9 _ k1 h56 (fun g hg' => (h57 g hg').trans ?_)
        rw [sen_no (by rw [eK, dF h226]; rfl)]
      · skip
        refine g_aload_n (n := 230) rfl rfl rfl ?_
        refine g_iload (n := 232) rfl rfl rfl ?_
        refine g_iload_n (n := 233) rfl rfl rfl ?_
        refine g_cP3 (n := 236) rfl rfl rfl rfl mt_X9_counts rfl rfl (r_k z_41) (sp_counts (by omega)) ?_
        refine g_bz (n := 239) rfl rfl (fun h236 => ?_) (fun h236 => ?_)
        · skip
          refine g_iinc (n := 285) rfl rfl rfl (jn_1 _) ?_
          refine g_goto rfl ?_
          refine ih g9 _ k1 h56 (fun g hg' => (h57 g hg').trans ?_)
          rw [sen_no (by rw [eW, h236]; simp)]
        · skip
          refine g_aload_n (n := 240) rfl rfl rfl ?_
          refine g_iload (n := 242) rfl rfl rfl ?_
          refine g_aload_n (n := 243) rfl rfl rfl ?_
          refine g_getR (n := 246) rfl rfl z_41 rfl ?_
          refine g_iload_n (n := 247) rfl rfl rfl ?_
          refine g_iald (n := 248) rfl rfl z_56 rfl rfl (by omega) ?_
          rw [h56]
          refine g_cP3 (n := 251) rfl rfl rfl rfl mt_X9_fits rfl rfl (r_k z_41) (sp_fits (by omega)) ?_
          refine g_bz (n := 254) rfl rfl (fun h251 => ?_) (fun h251 => ?_)
          · skip
            refine g_iinc (n := 285) rfl rfl rfl (jn_1 _) ?_
            refine g_goto rfl ?_
            refine ih g9 _ k1 h56 (fun g hg' => (h57 g hg').trans ?_)
            rw [sen_no (by rw [eW, h236, h251]; simp)]
          · skip
            refine g_aload_n (n := 255) rfl rfl rfl ?_
            refine g_getR (n := 258) rfl rfl z_41 rfl ?_
            refine g_const (n := 259) rfl rfl (s_iconst (v := 4) (by decide)) ?_
            refine g_iload_n (n := 260) rfl rfl rfl ?_
            refine g_imul (n := 261) rfl rfl ?_
            refine g_aload_n (n := 262) rfl rfl rfl ?_
            refine g_getR (n := 265) rfl rfl z_41 rfl ?_
            refine g_iload (n := 267) rfl rfl rfl ?_
            refine g_iald (n := 268) rfl rfl z_48 rfl rfl (by omega) ?_
            refine g_iadd (n := 269) rfl rfl ?_
            refine g_dup2 (n := 270) rfl rfl ?_
            refine g_iald (n := 271) rfl rfl z_57 rfl (by rw [eto]; exact ix44 _ _) (by omega) ?_
            refine g_const (n := 272) rfl rfl (s_iconst (v := 1) (by decide)) ?_
            refine g_aload_n (n := 273) rfl rfl rfl ?_
            refine g_getR (n := 276) rfl rfl z_41 rfl ?_
            refine g_iload (n := 278) rfl rfl rfl ?_
            refine g_iald (n := 279) rfl rfl z_44 rfl rfl (by omega) ?_
            refine g_ishl (n := 280) rfl rfl ?_
            refine g_ior (n := 281) rfl rfl ?_
            refine g_iast (n := 282) rfl rfl z_57 rfl (by rw [eto]; exact ix44 _ _) (by omega) ?_
            refine g_iinc (n := 285) rfl rfl rfl (jn_1 _) ?_
            refine g_goto rfl ?_
            refine ih g9 _ (k1.up (Or.inr (Or.inr ⟨rfl, by omega⟩))) ?_ (fun g hg' => ?_)
            · rw [mup_q (by omega)]; exact h56
            · by_cases e : g = to
              · subst e
                rw [mup_same, h57 g hg', h215, cond_false, cond_false, sen_yes (by rw [eK, dT h226, eT, eto, decide_eq_true rfl, eW, h236, h251]; rfl), eH]
                rfl
              · rw [mup_j (by omega), h57 g hg', sen_no (by rw [eT, eto, decide_eq_false (fun q => e (jn_inj (by omega) (by omega) q).symm)]; simp)]
set_option maxRecDepth 20000 in
theorem lq_runs177 {t h hg : Nat} {fl : Bool} {V : VW} {bl : List Nat} (hI : MI M) (hR : MRW M (vR V)) (ht6 : t ≤ 6) (h4 : h < 4) (hfl : fl = flB bl t h) {Q : QT} (K : ∀ M1, RQ M V bl hg (4 * t + h + 1) M1 → Go [] (d + 3) none tabX9_runs 288 [(0, .ref 41), (1, .int (Int32.ofNat t)), (2, .int (Int32.ofNat h))] [] (hp (zz E T) M1) 0 0 Q) : ∀ i, i ≤ 4 → ∀ M1, RQ M V bl hg (4 * t + h) M1 → M1 56 (4 * t + h) = hsB V bl t h → (∀ g, g < i → M1 57 (4 * (4 * t + h) + g) = 0) → Go [] (d + 3) none tabX9_runs 177 [(0, .ref 41), (1, .int (Int32.ofNat t)), (2, .int (Int32.ofNat h)), (3, .int (Int32.ofNat (4 * t + h))), (4, .int (bI fl)), (5, .int (Int32.ofNat i))] [] (hp (zz E T) M1) 0 0 Q := by
  refine loop_up 4 ?_
  intro i hi ih M1 k1 h56 h57
  refine g_iload (n := 179) rfl rfl rfl ?_
  refine g_const (n := 180) rfl rfl (s_iconst (v := 4) (by decide)) ?_
  refine g_ige (n := 183) rfl rfl (fun h180 => ?_) (fun h180 => ?_)
  · skip
    have g9 := (jn_le (b := i) (a := 4) (by omega) (by omega)).mp h180
    refine g_const (n := 202) rfl rfl (s_iconst (v := 0) (by decide)) ?_
    refine g_istore (n := 204) rfl rfl ?_
    refine lq_runs204 hI hR ht6 h4 hfl K 0 (by omega) M1 k1 h56 (fun g hg' => (h57 g (by omega)).trans ?_)
    cases fl <;> rfl
  · skip
    have g9 := (jn_lt (b := 4) (a := i) (by omega) (by omega)).mp h180
    refine g_aload_n (n := 184) rfl rfl rfl ?_
    refine g_getR (n := 187) rfl rfl z_41 rfl ?_
    refine g_const (n := 188) rfl rfl (s_iconst (v := 4) (by decide)) ?_
    refine g_iload_n (n := 189) rfl rfl rfl ?_
    refine g_imul (n := 190) rfl rfl ?_
    refine g_iload (n := 192) rfl rfl rfl ?_
    refine g_iadd (n := 193) rfl rfl ?_
    refine g_const (n := 194) rfl rfl (s_iconst (v := 0) (by decide)) ?_
    refine g_iast (n := 195) rfl rfl z_57 rfl (ix44 _ _) (by omega) ?_
    refine g_iinc (n := 198) rfl rfl rfl (jn_1 _) ?_
    refine g_goto rfl ?_
    refine ih g9 _ (k1.up (Or.inr (Or.inr ⟨rfl, by omega⟩))) ?_ (fun g hg' => ?_)
    · rw [mup_q (by omega)]; exact h56
    · by_cases e : g = i
      · subst e; exact mup_same
      · rw [mup_j (by omega)]; exact h57 g (by omega)
set_option maxRecDepth 20000 in
theorem sq_runs147 {t h hg : Nat} {fl : Bool} {v : Int32} {V : VW} {bl : List Nat} (hI : MI M) (hR : MRW M (vR V)) (h7 : hg ≤ 7) (hL : ∀ i, i < rN (vR V) → rK (vR V) i = 0 → ∃ k, k < hg + 1 ∧ rL (vR V) i = Int32.ofNat k) (ht6 : t ≤ 6) (h4 : h < 4) (hfl : fl = flB bl t h) {Q : QT} (K : ∀ M1, RQ M V bl hg (4 * t + h + 1) M1 → Go [] (d + 3) none tabX9_runs 288 [(0, .ref 41), (1, .int (Int32.ofNat t)), (2, .int (Int32.ofNat h))] [] (hp (zz E T) M1) 0 0 Q) {M1 : Mem} (k1 : RQ M V bl hg (4 * t + h) M1) (hv : fl = false → v = bgB V bl t h) : Go [] (d + 3) none tabX9_runs 147 [(0, .ref 41), (1, .int (Int32.ofNat t)), (2, .int (Int32.ofNat h)), (3, .int (Int32.ofNat (4 * t + h))), (4, .int (bI fl))] [.int v, .int (Int32.ofNat (4 * t + h)), .ref 55] (hp (zz E T) M1) 0 0 Q := by
  have k2 : RQ M V bl hg (4 * t + h) (mup M1 55 (4 * t + h) v) := k1.up (Or.inl rfl)
  have hI2 := hI.keep k2.1.1
  have hR2 := hR.ri k2.1.1 k2.1.2.2.2
  have hh : hsB V bl t h = bif fl then 0 else setl (vR V) (Int32.ofNat h) (bgB V bl t h) := by rw [hfl]; rfl
  refine g_iast (n := 148) rfl rfl z_55 rfl rfl (by omega) ?_
  refine g_aload_n (n := 149) rfl rfl rfl ?_
  refine g_getR (n := 152) rfl rfl z_41 rfl ?_
  refine g_iload_n (n := 153) rfl rfl rfl ?_
  refine g_iload (n := 155) rfl rfl rfl ?_
  refine g_bz (n := 158) rfl rfl (fun h155 => ?_) (fun h155 => ?_)
  · skip
    refine g_aload_n (n := 163) rfl rfl rfl ?_
    refine g_iload_n (n := 164) rfl rfl rfl ?_
    refine g_aload_n (n := 165) rfl rfl rfl ?_
    refine g_getR (n := 168) rfl rfl z_41 rfl ?_
    refine g_iload_n (n := 169) rfl rfl rfl ?_
    refine g_iald (n := 170) rfl rfl z_55 rfl rfl (by omega) ?_
    refine g_cI3 (n := 173) rfl rfl rfl rfl mt_X9_closed rfl rfl (r_k z_41) (sq_closed hI2 hR2 k2.2.2.1 h7 hL) ?_
    rintro x170 M170 ⟨rfl, hx⟩
    refine g_iast (n := 174) rfl rfl z_56 rfl rfl (by omega) ?_
    refine g_const (n := 175) rfl rfl (s_iconst (v := 0) (by decide)) ?_
    refine g_istore (n := 177) rfl rfl ?_
    refine lq_runs177 hI hR ht6 h4 hfl K 0 (by omega) _ (k2.up (Or.inr (Or.inl ⟨rfl, Nat.le_refl _⟩))) ?_ (fun g hg' => absurd hg' (by omega))
    rw [mup_same, hx, mup_same, hv h155, hh, h155]
    rfl
  · skip
    refine g_const (n := 159) rfl rfl (s_iconst (v := 0) (by decide)) ?_
    refine g_goto rfl ?_
    refine g_iast (n := 174) rfl rfl z_56 rfl rfl (by omega) ?_
    refine g_const (n := 175) rfl rfl (s_iconst (v := 0) (by decide)) ?_
    refine g_istore (n := 177) rfl rfl ?_
    refine lq_runs177 hI hR ht6 h4 hfl K 0 (by omega) _ (k2.up (Or.inr (Or.inl ⟨rfl, Nat.le_refl _⟩))) ?_ (fun g hg' => absurd hg' (by omega))
    rw [mup_same, hh, h155]
    rfl
set_option maxRecDepth 20000 in
theorem fall_eq {bl : List Nat} {t h : Nat} {M1 : Mem} (hF : FAl M1 bl) (ht6 : t ≤ 6) (h4 : h < 4) : decide (M1 58 h ≤ Int32.ofNat t) = flB bl t h := by
  obtain ⟨k, h1, h2, h3⟩ := hF h h4
  rw [h3 t ht6, h2, decide_eq_decide]
  exact jn_le (by omega) (by omega)
set_option maxRecDepth 20000 in
/-- what a host begins a tick with, from the cells of the tick before -/
theorem begun_eq {V : VW} {bl : List Nat} {hg t i : Nat} {M1 : Mem} (k1 : RQ M V bl hg (4 * t + i) M1) (ht : 1 ≤ t) (ht6 : t ≤ 6) (h4 : i < 4) : (bif decide (M1 58 i ≤ Int32.ofNat (t - 1)) then 0 else kepT (vR V) (Int32.ofNat i) (M1 56 (4 * (t - 1) + i)) (rN (vR V))) ||| orT (fun s => bif loB bl (t - 1) s i then 0 else M1 57 (16 * (t - 1) + 4 * s + i)) 4 = bgB V bl t i := by
  have e : bgB V bl t i = kpB V bl (t - 1) i ||| orT (fun s => bif loB bl (t - 1) s i then 0 else snB V bl (t - 1) s i) 4 := by
    have := bgB_succ (V := V) (bl := bl) (t := t - 1) (h := i)
    rw [show t - 1 + 1 = t by omega] at this
    exact this
  rw [e]
  congr 1
  · have h56 := (k1.2.2.2 (4 * (t - 1) + i) (by omega)).1
    rw [show (4 * (t - 1) + i) / 4 = t - 1 by omega, show (4 * (t - 1) + i) % 4 = i by omega] at h56
    rw [fall_eq k1.2.1 (by omega) h4, h56]
    unfold kpB kepF hsB hasF
    cases flB bl (t - 1) i <;> rfl
  · apply orT_c
    intro s hs
    have h57 := (k1.2.2.2 (4 * (t - 1) + s) (by omega)).2 i h4
    rw [show (4 * (t - 1) + s) / 4 = t - 1 by omega, show (4 * (t - 1) + s) % 4 = s by omega, show 4 * (4 * (t - 1) + s) + i = 16 * (t - 1) + 4 * s + i by omega] at h57
    simp only [h57]
set_option maxRecDepth 20000 in
theorem lq_runs86 {t hg nb : Nat} {gb' : Nat → Nat} {V : VW} (hI : MI M) (hR : MRW M (vR V)) (h7 : hg ≤ 7) (hL : ∀ i, i < rN (vR V) → rK (vR V) i = 0 → ∃ k, k < hg + 1 ∧ rL (vR V) i = Int32.ofNat k) (hF0 : ∀ k, k < 4 → M 50 k = vF V k) (hb : BL M nb gb') (ht6 : t ≤ 6) {Q : QT} (K : ∀ M1, RQ M V (blL nb gb') hg (4 * t + 4) M1 → Go [] (d + 3) none tabX9_runs 294 [(0, .ref 41), (1, .int (Int32.ofNat t))] [] (hp (zz E T) M1) 0 0 Q) : ∀ i, i ≤ 4 → ∀ M1, RQ M V (blL nb gb') hg (4 * t + i) M1 → Go [] (d + 3) none tabX9_runs 86 [(0, .ref 41), (1, .int (Int32.ofNat t)), (2, .int (Int32.ofNat i))] [] (hp (zz E T) M1) 0 0 Q := by
  refine loop_up 4 ?_
  intro i hi ih M1 k1
  have K2 : i < 4 → ∀ M1, RQ M V (blL nb gb') hg (4 * t + i + 1) M1 → Go [] (d + 3) none tabX9_runs 288 [(0, .ref 41), (1, .int (Int32.ofNat t)), (2, .int (Int32.ofNat i))] [] (hp (zz E T) M1) 0 0 Q := by
    intro g M1 k1
    refine g_iinc (n := 291) rfl rfl rfl (jn_1 _) ?_
    refine g_goto rfl ?_
    exact ih g M1 k1
  refine g_iload_n (n := 87) rfl rfl rfl ?_
  refine g_const (n := 88) rfl rfl (s_iconst (v := 4) (by decide)) ?_
  refine g_ige (n := 91) rfl rfl (fun h88 => ?_) (fun h88 => ?_)
  · skip
    have g9 := (jn_le (b := i) (a := 4) (by omega) (by omega)).mp h88
    refine go_only 2 ?_
    obtain rfl : i = 4 := by omega
    exact K M1 k1
  · skip
    have g9 := (jn_lt (b := 4) (a := i) (by omega) (by omega)).mp h88
    refine g_const (n := 92) rfl rfl (s_iconst (v := 4) (by decide)) ?_
    refine g_iload_n (n := 93) rfl rfl rfl ?_
    refine g_imul (n := 94) rfl rfl ?_
    refine g_iload_n (n := 95) rfl rfl rfl ?_
    refine g_iadd (n := 96) rfl rfl ?_
    rw [ix44]
    refine g_istore_n (n := 97) rfl rfl ?_
    refine g_aload_n (n := 98) rfl rfl rfl ?_
    refine g_iload_n (n := 99) rfl rfl rfl ?_
    refine g_iload_n (n := 100) rfl rfl rfl ?_
    refine g_cP3 (n := 103) rfl rfl rfl rfl mt_X9_isFallen rfl rfl (r_k z_41) (sp_isFallen g9) ?_
    refine g_istore (n := 105) rfl rfl ?_
    refine g_aload_n (n := 106) rfl rfl rfl ?_
    refine g_getR (n := 109) rfl rfl z_41 rfl ?_
    refine g_iload_n (n := 110) rfl rfl rfl ?_
    refine g_iload (n := 112) rfl rfl rfl ?_
    refine g_bz (n := 115) rfl rfl (fun h112 => ?_) (fun h112 => ?_)
    · skip
      refine g_iload_n (n := 120) rfl rfl rfl ?_
      refine g_zne (n := 123) rfl rfl (fun h120 => ?_) (fun h120 => ?_)
      · skip
        have ht1 : 1 ≤ t := by
          rcases Nat.eq_zero_or_pos t with e | e
          · subst e; exact absurd rfl h120
          · exact e
        refine g_aload_n (n := 133) rfl rfl rfl ?_
        refine g_iload_n (n := 134) rfl rfl rfl ?_
        refine g_iload_n (n := 135) rfl rfl rfl ?_
        refine g_const (n := 136) rfl rfl (s_iconst (v := 1) (by decide)) ?_
        refine g_isub (n := 137) rfl rfl ?_
        rw [show Int32.ofNat t - 1 = Int32.ofNat (t - 1) from jn_sub (b := 1) ht1]
        refine g_cI3 (n := 140) rfl rfl rfl rfl mt_X9_keptBy rfl rfl (r_k z_41) (sq_keptBy (t := t - 1) (hR.ri k1.1.1 k1.1.2.2.2) (by omega) g9) ?_
        rintro x137 M137 ⟨rfl, hx1⟩
        refine g_aload_n (n := 141) rfl rfl rfl ?_
        refine g_iload_n (n := 142) rfl rfl rfl ?_
        refine g_iload_n (n := 143) rfl rfl rfl ?_
        refine g_cI3 (n := 146) rfl rfl rfl rfl mt_X9_came rfl rfl (r_k z_41) (sq_came ht1 ht6 g9 (k1.1.bl hb)) ?_
        rintro x143 M143 ⟨rfl, hx2⟩
        refine g_ior (n := 147) rfl rfl ?_
        refine sq_runs147 hI hR h7 hL ht6 g9 (fall_eq k1.2.1 ht6 g9) (K2 g9) k1 (fun _ => ?_)
        rw [hx1, hx2]
        exact begun_eq k1 ht1 ht6 g9
      · skip
        refine g_aload_n (n := 124) rfl rfl rfl ?_
        refine g_getR (n := 127) rfl rfl z_41 rfl ?_
        refine g_iload_n (n := 128) rfl rfl rfl ?_
        refine g_iald (n := 129) rfl rfl z_50 rfl rfl (by omega) ?_
        refine g_goto rfl ?_
        refine sq_runs147 hI hR h7 hL ht6 g9 (fall_eq k1.2.1 ht6 g9) (K2 g9) k1 (fun _ => ?_)
        have t0 : t = 0 := jn_inj (by omega) (by omega) (show Int32.ofNat t = Int32.ofNat 0 from h120)
        subst t0
        exact (k1.1.1 50 i rfl).trans (hF0 i g9)
    · skip
      refine g_const (n := 116) rfl rfl (s_iconst (v := 0) (by decide)) ?_
      refine g_goto rfl ?_
      exact sq_runs147 hI hR h7 hL ht6 g9 (fall_eq k1.2.1 ht6 g9) (K2 g9) k1 (fun e => by rw [h112] at e; cases e)
set_option maxRecDepth 20000 in
theorem lq_runs76 {e hg nb : Nat} {gb' : Nat → Nat} {V : VW} (hI : MI M) (hR : MRW M (vR V)) (h7 : hg ≤ 7) (hL : ∀ i, i < rN (vR V) → rK (vR V) i = 0 → ∃ k, k < hg + 1 ∧ rL (vR V) i = Int32.ofNat k) (hF0 : ∀ k, k < 4 → M 50 k = vF V k) (hb : BL M nb gb') (he : M 41 0 = Int32.ofNat e) (he6 : e ≤ 6) : ∀ i, i ≤ e + 1 → ∀ M1, RQ M V (blL nb gb') hg (4 * i) M1 → Go [] (d + 3) none tabX9_runs 76 [(0, .ref 41), (1, .int (Int32.ofNat i))] [] (hp (zz E T) M1) 0 0 (QV (zz E T) (fun M1 => ∃ hg, RQ M V (blL nb gb') hg (4 * (e + 1)) M1)) := by
  refine loop_up (e + 1) ?_
  intro i hi ih M1 k1
  have K2 : i < e + 1 → ∀ M1, RQ M V (blL nb gb') hg (4 * i + 4) M1 → Go [] (d + 3) none tabX9_runs 294 [(0, .ref 41), (1, .int (Int32.ofNat i))] [] (hp (zz E T) M1) 0 0 (QV (zz E T) (fun M1 => ∃ hg, RQ M V (blL nb gb') hg (4 * (e + 1)) M1)) := by
    intro g M1 k1
    refine g_iinc (n := 297) rfl rfl rfl (jn_1 _) ?_
    refine g_goto rfl ?_
    exact ih g M1 k1
  refine g_iload_n (n := 77) rfl rfl rfl ?_
  refine g_aload_n (n := 78) rfl rfl rfl ?_
  refine g_getI (n := 81) rfl rfl z_41 rfl ?_
  refine g_igt (n := 84) rfl rfl (fun h81 => ?_) (fun h81 => ?_)
  · skip
    rw [k1.1.1 41 0 rfl, he] at h81
    have g9 := (jn_lt (by omega) (by omega)).mp h81
    refine g_retV rfl ?_
    obtain rfl : i = e + 1 := by omega
    exact ⟨hg, k1⟩
  · skip
    rw [k1.1.1 41 0 rfl, he] at h81
    have g9 := (jn_le (by omega) (by omega)).mp h81
    refine g_const (n := 85) rfl rfl (s_iconst (v := 0) (by decide)) ?_
    refine g_istore_n (n := 86) rfl rfl ?_
    exact lq_runs86 hI hR h7 hL hF0 hb (by omega) (K2 (by omega)) 0 (by omega) M1 k1
set_option maxRecDepth 20000 in
theorem lq_runs11 {V : VW} {bl : List Nat} (hI : MI M) (hR : MRW M (vR V)) {Q : QT} (K : ∀ M1 hg, hg ≤ 7 → (∀ i, i < rN (vR V) → rK (vR V) i = 0 → ∃ k, k < hg + 1 ∧ rL (vR V) i = Int32.ofNat k) → RJ M M1 → FAl M1 bl → M1 41 30 = Int32.ofNat hg → Go [] (d + 3) none tabX9_runs 74 [(0, .ref 41)] [] (hp (zz E T) M1) 0 0 Q) : ∀ i, i ≤ rN (vR V) → ∀ M1 hg, hg ≤ 7 → (∀ j, j < i → rK (vR V) j = 0 → ∃ k, k < hg + 1 ∧ rL (vR V) j = Int32.ofNat k) → RJ M M1 → FAl M1 bl → M1 41 30 = Int32.ofNat hg → Go [] (d + 3) none tabX9_runs 11 [(0, .ref 41), (1, .int (Int32.ofNat i))] [] (hp (zz E T) M1) 0 0 Q := by
  have hn := hR.1
  refine loop_up (rN (vR V)) ?_
  intro i hi ih M1 hg h7 hL k1 hF e30
  have hI1 := hI.keep k1.1
  have hR1 := hR.ri k1.1 k1.2.2.2
  have hr1 := hR1.2.1
  have fa : ∀ x, FAl (mup M1 41 30 x) bl := fun x => hF
  refine g_iload_n (n := 12) rfl rfl rfl ?_
  refine g_aload_n (n := 13) rfl rfl rfl ?_
  refine g_getI (n := 16) rfl rfl z_41 rfl ?_
  refine g_ige (n := 19) rfl rfl (fun h16 => ?_) (fun h16 => ?_)
  · skip
    rw [hr1] at h16
    have g9 := (jn_le (by omega) (by omega)).mp h16
    refine go_only 1 ?_
    obtain rfl : i = rN (vR V) := by omega
    exact K M1 hg h7 hL k1 hF e30
  · skip
    rw [hr1] at h16
    have g9 := (jn_lt (by omega) (by omega)).mp h16
    obtain ⟨⟨hd, hd8, hde⟩, -⟩ := hI1.2.2.1 i (by omega)
    obtain ⟨eK, -, eL, -, -⟩ := hR1.2.2.2 i g9
    obtain ⟨-, -, lv, hlv, elv⟩ := hR1.2.2.1 i g9
    have e51 : M1 51 hd = Int32.ofNat lv := by
      rw [← elv, eL, hde, clampNat (by omega)]
    refine g_aload_n (n := 20) rfl rfl rfl ?_
    refine g_aload_n (n := 21) rfl rfl rfl ?_
    refine g_getR (n := 24) rfl rfl z_41 rfl ?_
    refine g_iload_n (n := 25) rfl rfl rfl ?_
    refine g_iald (n := 26) rfl rfl z_43 rfl rfl (by omega) ?_
    refine g_zne (n := 29) rfl rfl (fun h26 => ?_) (fun h26 => ?_)
    · skip
      refine g_aload_n (n := 62) rfl rfl rfl ?_
      refine g_getI (n := 65) rfl rfl z_41 rfl ?_
      refine g_putI (n := 68) rfl rfl z_41 rfl rfl ?_
      refine g_iinc (n := 71) rfl rfl rfl (jn_1 _) ?_
      refine g_goto rfl ?_
      refine ih g9 _ hg h7 (fun j hj e0 => ?_) k1.hg (fa _) e30
      by_cases e : j = i
      · subst e; rw [eK] at e0; exact absurd e0 h26
      · exact hL j (by omega) e0
    · skip
      refine g_aload_n (n := 30) rfl rfl rfl ?_
      refine g_getR (n := 33) rfl rfl z_41 rfl ?_
      refine g_aload_n (n := 34) rfl rfl rfl ?_
      refine g_getR (n := 37) rfl rfl z_41 rfl ?_
      refine g_iload_n (n := 38) rfl rfl rfl ?_
      refine g_iald (n := 39) rfl rfl z_44 rfl rfl (by omega) ?_
      refine g_iald (n := 40) rfl rfl z_51 rfl hde hd8 ?_
      refine g_aload_n (n := 41) rfl rfl rfl ?_
      refine g_getI (n := 44) rfl rfl z_41 rfl ?_
      refine g_ile (n := 47) rfl rfl (fun h44 => ?_) (fun h44 => ?_)
      · skip
        rw [e51, e30] at h44
        have l44 := (jn_le (by omega) (by omega)).mp h44
        refine g_aload_n (n := 62) rfl rfl rfl ?_
        refine g_getI (n := 65) rfl rfl z_41 rfl ?_
        refine g_putI (n := 68) rfl rfl z_41 rfl rfl ?_
        refine g_iinc (n := 71) rfl rfl rfl (jn_1 _) ?_
        refine g_goto rfl ?_
        refine ih g9 _ hg h7 (fun j hj e0 => ?_) k1.hg (fa _) e30
        by_cases e : j = i
        · subst e; exact ⟨lv, by omega, elv⟩
        · exact hL j (by omega) e0
      · skip
        rw [e51, e30] at h44
        have l44 := (jn_lt (by omega) (by omega)).mp h44
        refine g_aload_n (n := 48) rfl rfl rfl ?_
        refine g_getR (n := 51) rfl rfl z_41 rfl ?_
        refine g_aload_n (n := 52) rfl rfl rfl ?_
        refine g_getR (n := 55) rfl rfl z_41 rfl ?_
        refine g_iload_n (n := 56) rfl rfl rfl ?_
        refine g_iald (n := 57) rfl rfl z_44 rfl rfl (by omega) ?_
        refine g_iald (n := 58) rfl rfl z_51 rfl hde hd8 ?_
        refine g_goto rfl ?_
        refine g_putI (n := 68) rfl rfl z_41 rfl rfl ?_
        refine g_iinc (n := 71) rfl rfl rfl (jn_1 _) ?_
        refine g_goto rfl ?_
        refine ih g9 _ lv (by omega) (fun j hj e0 => ?_) k1.hg (fa _) e51
        by_cases e : j = i
        · subst e; exact ⟨lv, by omega, elv⟩
        · obtain ⟨k, hk, ek⟩ := hL j (by omega) e0
          exact ⟨k, by omega, ek⟩
set_option maxRecDepth 20000 in
theorem sq_runs {e nb : Nat} {gb' : Nat → Nat} {V : VW} (hI : MI M) (hR : MRW M (vR V)) (hF0 : ∀ k, k < 4 → M 50 k = vF V k) (hb : BL M nb gb') (he : M 41 0 = Int32.ofNat e) (he6 : e ≤ 6) : EvV (d + 4) miX9_runs [.ref 41] (zz E T) M (fun M1 => ∃ hg, RQ M V (blL nb gb') hg (4 * (e + 1)) M1) := by
  refine ev_of mt_X9_runs rfl ?_
  refine g_aload_n (n := 1) rfl rfl rfl ?_
  refine g_cV1 (n := 4) rfl rfl rfl rfl mt_X9_falls rfl rfl (r_k z_41) (sq_falls hb) ?_
  rintro M1 ⟨k1, k2⟩
  refine g_aload_n (n := 5) rfl rfl rfl ?_
  refine g_const (n := 6) rfl rfl (s_iconst (v := 0) (by decide)) ?_
  refine g_putI (n := 9) rfl rfl z_41 rfl rfl ?_
  refine g_const (n := 10) rfl rfl (s_iconst (v := 0) (by decide)) ?_
  refine g_istore_n (n := 11) rfl rfl ?_
  refine lq_runs11 (M := M) (bl := blL nb gb') hI hR (fun M2 hg h7 hL q2 f2 e2 => ?_) 0 (by omega) _ 0 (by omega) (fun j hj => absurd hj (by omega)) k1.hg k2 rfl
  refine g_const (n := 75) rfl rfl (s_iconst (v := 0) (by decide)) ?_
  refine g_istore_n (n := 76) rfl rfl ?_
  exact lq_runs76 hI hR h7 hL hF0 hb he he6 0 (by omega) M2 ⟨q2, f2, e2, fun k hk => absurd hk (by omega)⟩
end RunM
