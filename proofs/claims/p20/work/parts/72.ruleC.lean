/-! The program: rule -/
section RR
variable {E : Value} {T : List SH} {M : Mem} {d n : Nat} {rs : Nat → Nat}
/-- the rules with one more ahead of them -/
def wR (q : Nat) (rs : Nat → Nat) (j : Nat) : Nat := match j with
  | 0 => q
  | j + 1 => rs j
set_option maxRecDepth 20000 in
theorem cT_q {M' : Mem} (f : Fr cT M M') {q j : Nat} (h : q ≠ 5) : M' q j = M q j := by
  apply f
  unfold cT
  cases hb : Nat.beq q 5 with
  | false => rfl
  | true => exact absurd (Nat.eq_of_beq_eq_true hb) h
set_option maxRecDepth 20000 in
theorem ROK.congr {M' : Mem} {q : Nat} (h : ROK M q) (f : ∀ j, M' q j = M q j) : ROK M' q := by
  unfold ROK
  rw [f 2, f 3, f 4, f 5]
  exact h
set_option maxRecDepth 20000 in
theorem cNeed_congr {M' : Mem} {q : Nat} {t : Nat → Nat} (f : ∀ j, M' q j = M q j) : cNeed M' t q = cNeed M t q := by
  unfold cNeed mv
  rw [f 3, f 4, f 5]
/-- what is fast while rounds go on -/
def HL (E : Value) (T : List SH) (M : Mem) (n q : Nat) (rs : Nat → Nat) : Prop := LR E T n rs ∧ n ≤ 12 ∧ M 3 2 = Int32.ofNat n ∧ (∀ j, j < n + 1 → ROK M (wR q rs j)) ∧ 61 ≤ q ∧ a_at (zz E T) q = some ruleSh
set_option maxRecDepth 20000 in
theorem HL.w61 {q : Nat} (h : HL E T M n q rs) : ∀ j, j < n + 1 → 61 ≤ wR q rs j := by
  intro j hj
  cases j with
  | zero => exact h.2.2.2.2.1
  | succ j => exact (h.1.1 j (by omega)).1
set_option maxRecDepth 20000 in
theorem HL.fr {q : Nat} {M' : Mem} (h : HL E T M n q rs) (f : Fr cT M M') : HL E T M' n q rs := by
  refine ⟨h.1, h.2.1, (cT_q f (by omega)).trans h.2.2.1, fun j hj => (h.2.2.2.1 j hj).congr (fun k => cT_q f ?_), h.2.2.2.2⟩
  have := h.w61 j hj
  omega
set_option maxRecDepth 20000 in
/-- the lift's answer, over the memory at the beginning -/
theorem lift_back {q : Nat} {M1 M2 : Mem} {t : Nat → Nat} {x : Int32} {i : Nat} (h : HL E T M n q rs) (hi : i < n + 1) (f1 : Fr cT M M1) (hQ : LiftQ M1 t (wR q rs i) x M2) : Fr cT M M2 ∧ ∃ t' b, TriedAt M2 t' ∧ x = bI b ∧ ((b = false ∧ t' = t ∧ (M (wR q rs i) 1 = 0 → cNeed M t (wR q rs i) ≤ t (mv M (wR q rs i) 2))) ∨ (b = true ∧ M (wR q rs i) 1 = 0 ∧ t (mv M (wR q rs i) 2) < cNeed M t (wR q rs i) ∧ t' = lset t (mv M (wR q rs i) 2) (cNeed M t (wR q rs i)))) := by
  have h61 := h.w61 i hi
  have e : ∀ j, M1 (wR q rs i) j = M (wR q rs i) j := fun j => cT_q f1 (by omega)
  obtain ⟨f2, t', b, h1, h2, h3⟩ := hQ
  refine ⟨f1.tr f2, t', b, h1, h2, ?_⟩
  have e2 : mv M1 (wR q rs i) 2 = mv M (wR q rs i) 2 := by unfold mv; rw [e 2]
  rw [e 1, cNeed_congr e, e2] at h3
  exact h3
set_option maxRecDepth 20000 in
theorem lp_has31 {q rd : Nat} {t0 : Nat → Nat} (h : HL E T M n q rs) (hrd : rd < 8) {Q : QT} (K : ∀ t lf M1, Fr cT M M1 → TriedAt M1 t → (∀ f, f < 8 → t f ≤ 13 * (rd + 1)) → RP M (wR q rs) (n + 1) (n + 1) t0 t lf → Go [] (d + 3) (some .boolean) tabX3_hasLayersWith 78 [(0, .ref 2), (1, .ref q), (2, .int (bI lf)), (3, .int (Int32.ofNat rd))] [] (hp (zz E T) M1) 0 0 Q) : ∀ i, i ≤ n → ∀ t lf M1, Fr cT M M1 → TriedAt M1 t → (∀ f, f < 8 → t f ≤ 13 * rd + 1 + i) → RP M (wR q rs) (n + 1) (i + 1) t0 t lf → Go [] (d + 3) (some .boolean) tabX3_hasLayersWith 31 [(0, .ref 2), (1, .ref q), (2, .int (bI lf)), (3, .int (Int32.ofNat rd)), (4, .int (Int32.ofNat i))] [] (hp (zz E T) M1) 0 0 Q := by
  refine loop_up n ?_
  intro i hi ih t lf M1 f1 ht hbd hr
  obtain ⟨hL, hn12, hn, hRk, -, -⟩ := h.fr f1
  refine g_iload (n := 33) rfl rfl rfl ?_
  refine g_aload_n (n := 34) rfl rfl rfl ?_
  refine g_getR (n := 37) rfl rfl z_2 rfl ?_
  refine g_cP1 (n := 40) rfl rfl rfl rfl mt_Jx4a65c_size_8abf5 rfl rfl (r_k z_3) (sc_size) ?_
  refine g_ige (n := 43) rfl rfl (fun h40 => ?_) (fun h40 => ?_)
  · skip
    rw [hn] at h40
    have g9 := (jn_le (by omega) (by omega)).mp h40
    refine go_only 4 ?_
    exact K t lf M1 f1 ht (fun f hf => Nat.le_trans (hbd f hf) (by omega)) (by rw [show i = n by omega] at hr; exact hr)
  · skip
    rw [hn] at h40
    have g9 := (jn_lt (by omega) (by omega)).mp h40
    refine g_aload_n (n := 44) rfl rfl rfl ?_
    refine g_aload_n (n := 45) rfl rfl rfl ?_
    refine g_getR (n := 48) rfl rfl z_2 rfl ?_
    refine g_iload (n := 50) rfl rfl rfl ?_
    refine g_cP2 (n := 53) rfl rfl rfl rfl mt_Jx4a65c_get_915e3 rfl rfl (r_k z_3) (sc_get hL hn hn12 g9) ?_
    refine g_cast (n := 56) rfl rfl (hL.1 i g9).2 ?_
    refine g_cI2 (n := 59) rfl rfl rfl rfl mt_X3_lift rfl rfl (r_k z_2) (sc_lift (bd := 13 * rd + 1 + i) (hL.1 i g9).2 (hRk (i + 1) (by omega)) ht hbd (by omega)) ?_
    rintro x M2 hq
    obtain ⟨f2, t', b, ht', rfl, hcase⟩ := lift_back (i := i + 1) h (by omega) f1 hq
    obtain ⟨hr2, hb2⟩ := hr.step (by omega) h.2.2.2.1 hbd hcase
    refine g_bnz (n := 62) rfl rfl (fun h59 => ?_) (fun h59 => ?_)
    · skip
      refine g_const (n := 67) rfl rfl (s_iconst (v := 1) (by decide)) ?_
      refine g_goto rfl ?_
      refine g_istore_n (n := 72) rfl rfl ?_
      refine g_iinc (n := 75) rfl rfl rfl (jn_1 _) ?_
      refine g_goto rfl ?_
      first | (rw [h59] at hr2; exact ih g9 t' true _ f2 ht' (fun f hf => Nat.le_trans (hb2 f hf) (by omega)) hr2) | (rw [h59, h63] at hr2; exact ih g9 t' true _ f2 ht' (fun f hf => Nat.le_trans (hb2 f hf) (by omega)) hr2) | (rw [h59, h63] at hr2; exact ih g9 t' false _ f2 ht' (fun f hf => Nat.le_trans (hb2 f hf) (by omega)) hr2)
    · skip
      refine g_iload_n (n := 63) rfl rfl rfl ?_
      refine g_bz (n := 66) rfl rfl (fun h63 => ?_) (fun h63 => ?_)
      · skip
        refine g_const (n := 71) rfl rfl (s_iconst (v := 0) (by decide)) ?_
        refine g_istore_n (n := 72) rfl rfl ?_
        refine g_iinc (n := 75) rfl rfl rfl (jn_1 _) ?_
        refine g_goto rfl ?_
        first | (rw [h59] at hr2; exact ih g9 t' true _ f2 ht' (fun f hf => Nat.le_trans (hb2 f hf) (by omega)) hr2) | (rw [h59, h63] at hr2; exact ih g9 t' true _ f2 ht' (fun f hf => Nat.le_trans (hb2 f hf) (by omega)) hr2) | (rw [h59, h63] at hr2; exact ih g9 t' false _ f2 ht' (fun f hf => Nat.le_trans (hb2 f hf) (by omega)) hr2)
      · skip
        refine g_const (n := 67) rfl rfl (s_iconst (v := 1) (by decide)) ?_
        refine g_goto rfl ?_
        refine g_istore_n (n := 72) rfl rfl ?_
        refine g_iinc (n := 75) rfl rfl rfl (jn_1 _) ?_
        refine g_goto rfl ?_
        first | (rw [h59] at hr2; exact ih g9 t' true _ f2 ht' (fun f hf => Nat.le_trans (hb2 f hf) (by omega)) hr2) | (rw [h59, h63] at hr2; exact ih g9 t' true _ f2 ht' (fun f hf => Nat.le_trans (hb2 f hf) (by omega)) hr2) | (rw [h59, h63] at hr2; exact ih g9 t' false _ f2 ht' (fun f hf => Nat.le_trans (hb2 f hf) (by omega)) hr2)
/-- what hasLayersWith finds -/
def HasQ (M : Mem) (n q : Nat) (rs : Nat → Nat) (x : Int32) (M' : Mem) : Prop := Fr cT M M' ∧ ∃ t, TriedAt M' t ∧ ((x = 1 ∧ Least M (wR q rs) (n + 1) t) ∨ (x = 0 ∧ ∀ L, ¬ CSol M (wR q rs) (n + 1) L))
set_option maxRecDepth 20000 in
theorem lp_has12 {q : Nat} (h : HL E T M n q rs) : ∀ i, i ≤ 8 → ∀ t lf M1, Fr cT M M1 → TriedAt M1 t → (∀ f, f < 8 → t f ≤ 13 * i) → (∀ L, CSol M (wR q rs) (n + 1) L → ∀ f, f < 8 → t f ≤ L f) → (lf = false → CSol M (wR q rs) (n + 1) t) → (lf = true → ∀ L, Least M (wR q rs) (n + 1) L → i + 1 ≤ sumN (hit t L) 8) → Go [] (d + 3) (some .boolean) tabX3_hasLayersWith 12 [(0, .ref 2), (1, .ref q), (2, .int (bI lf)), (3, .int (Int32.ofNat i))] [] (hp (zz E T) M1) 0 0 (QI (zz E T) (HasQ M n q rs)) := by
  refine loop_up 8 ?_
  intro i hi ih t lf M1 f1 ht hbd hle hs hc
  have h1 := h.fr f1
  have K2 : i < 8 → ∀ t1 lf1 M2, Fr cT M M2 → TriedAt M2 t1 → (∀ f, f < 8 → t1 f ≤ 13 * (i + 1)) → RP M (wR q rs) (n + 1) (n + 1) t t1 lf1 → lf = true → Go [] (d + 3) (some .boolean) tabX3_hasLayersWith 78 [(0, .ref 2), (1, .ref q), (2, .int (bI lf1)), (3, .int (Int32.ofNat i))] [] (hp (zz E T) M2) 0 0 (QI (zz E T) (HasQ M n q rs)) := by
    intro g t1 lf1 M2 f2 ht2 hbd2 hr hlf
    refine g_iinc (n := 81) rfl rfl rfl (jn_1 _) ?_
    refine g_goto rfl ?_
    refine ih g t1 lf1 M2 f2 ht2 hbd2 hr.2.1 (fun e => ?_) (fun e L hL => ?_)
    · have e1 := hr.2.2.1 e
      intro r hrn hk
      rw [e1]
      have := hr.2.2.2.2 r hrn hk
      rw [e1] at this
      exact this
    · have a1 := hc hlf L hL
      have a2 := hr.2.2.2.1 e
      have a3 := Least.grow h.2.2.2.1 hL hr.1 (hr.2.1 L hL.1) hr.2.2.2.2 (by
        apply Classical.byContradiction
        intro hno
        have hall : ∀ f, f < 8 → t1 f ≤ t f := fun f hf => by
          have b1 := hr.2.1 L hL.1 f hf
          have b2 : t f = L f := by
            apply Classical.byContradiction
            intro b3
            exact hno ⟨f, hf, b3⟩
          omega
        have := sumN_le 8 hall
        omega)
      omega
  refine g_iload_n (n := 13) rfl rfl rfl ?_
  refine g_bz (n := 16) rfl rfl (fun h13 => ?_) (fun h13 => ?_)
  · skip
    refine g_iload_n (n := 85) rfl rfl rfl ?_
    refine g_bnz (n := 88) rfl rfl (fun h85 => ?_) (fun h85 => ?_)
    · skip
      first | (rw [h13] at h85; cases h85) | skip
    · skip
      refine g_const (n := 89) rfl rfl (s_iconst (v := 1) (by decide)) ?_
      refine g_goto rfl ?_
      refine g_retZ rfl (by decide) ?_
      first | exact ⟨f1, t, ht, Or.inl ⟨rfl, hs h13, hle⟩⟩ | exact ⟨f1, t, ht, Or.inl ⟨rfl, hs h85, hle⟩⟩ | (refine ⟨f1, t, ht, Or.inr ⟨rfl, fun L hL => ?_⟩⟩; obtain ⟨L0, hL0⟩ := Least.ex h.2.2.2.1 hL; have a1 := hc h85 L0 hL0; have a2 := hit_bd (t := t) (L := L0); omega)
  · skip
    refine g_iload_n (n := 17) rfl rfl rfl ?_
    refine g_const (n := 19) rfl rfl (s_bipush (v := 8) (by decide)) ?_
    refine g_ige (n := 22) rfl rfl (fun h19 => ?_) (fun h19 => ?_)
    · skip
      have g9 := (jn_le (b := i) (a := 8) (by omega) (by omega)).mp h19
      refine g_iload_n (n := 85) rfl rfl rfl ?_
      refine g_bnz (n := 88) rfl rfl (fun h85 => ?_) (fun h85 => ?_)
      · skip
        refine g_const (n := 93) rfl rfl (s_iconst (v := 0) (by decide)) ?_
        refine g_retZ rfl (by decide) ?_
        first | exact ⟨f1, t, ht, Or.inl ⟨rfl, hs h13, hle⟩⟩ | exact ⟨f1, t, ht, Or.inl ⟨rfl, hs h85, hle⟩⟩ | (refine ⟨f1, t, ht, Or.inr ⟨rfl, fun L hL => ?_⟩⟩; obtain ⟨L0, hL0⟩ := Least.ex h.2.2.2.1 hL; have a1 := hc h85 L0 hL0; have a2 := hit_bd (t := t) (L := L0); omega)
      · skip
        refine g_const (n := 89) rfl rfl (s_iconst (v := 1) (by decide)) ?_
        refine g_goto rfl ?_
        refine g_retZ rfl (by decide) ?_
        first | exact ⟨f1, t, ht, Or.inl ⟨rfl, hs h13, hle⟩⟩ | exact ⟨f1, t, ht, Or.inl ⟨rfl, hs h85, hle⟩⟩ | (refine ⟨f1, t, ht, Or.inr ⟨rfl, fun L hL => ?_⟩⟩; obtain ⟨L0, hL0⟩ := Least.ex h.2.2.2.1 hL; have a1 := hc h85 L0 hL0; have a2 := hit_bd (t := t) (L := L0); omega)
    · skip
      have g9 := (jn_lt (b := 8) (a := i) (by omega) (by omega)).mp h19
      refine g_aload_n (n := 23) rfl rfl rfl ?_
      refine g_aload_n (n := 24) rfl rfl rfl ?_
      refine g_cI2 (n := 27) rfl rfl rfl rfl mt_X3_lift rfl rfl (r_k z_2) (sc_lift (bd := 13 * i) h1.2.2.2.2.2 (h1.2.2.2.1 0 (by omega)) ht hbd (by omega)) ?_
      rintro x M2 hq
      obtain ⟨f2, t', b, ht', rfl, hcase⟩ := lift_back (i := 0) h (by omega) f1 hq
      have hr0 : RP M (wR q rs) (n + 1) 0 t t false := ⟨fun f _ => Nat.le_refl _, hle, fun _ => rfl, fun e => (by cases e), fun j hj => absurd hj (by omega)⟩
      obtain ⟨hr2, hb2⟩ := hr0.step (by omega) h.2.2.2.1 hbd hcase
      rw [Bool.or_false] at hr2
      refine g_istore_n (n := 28) rfl rfl ?_
      refine g_const (n := 29) rfl rfl (s_iconst (v := 0) (by decide)) ?_
      refine g_istore (n := 31) rfl rfl ?_
      exact lp_has31 h g9 (fun t1 lf1 M3 a1 a2 a3 a4 => K2 g9 t1 lf1 M3 a1 a2 a3 a4 h13) 0 (by omega) t' b M2 f2 ht' (fun f hf => Nat.le_trans (hb2 f hf) (by omega)) hr2
set_option maxRecDepth 20000 in
theorem sc_has {q : Nat} (h : HL E T M n q rs) : EvI (d + 4) miX3_hasLayersWith [.ref 2, .ref q] (zz E T) M (HasQ M n q rs) := by
  refine ev_of mt_X3_hasLayersWith rfl ?_
  have f0 : Fr cT M (mfl M 5 0) := Fr.rf.fl (fun j => rfl)
  refine g_aload_n (n := 1) rfl rfl rfl ?_
  refine g_getR (n := 4) rfl rfl z_2 rfl ?_
  refine g_const (n := 5) rfl rfl (s_iconst (v := 0) (by decide)) ?_
  refine g_cV2 (n := 8) rfl rfl rfl rfl mt_J7_fill_53178 rfl rfl rfl (sp_fill z_5 rfl) ?_
  rintro M5 rfl
  refine g_const (n := 9) rfl rfl (s_iconst (v := 1) (by decide)) ?_
  refine g_istore_n (n := 10) rfl rfl ?_
  refine g_const (n := 11) rfl rfl (s_iconst (v := 0) (by decide)) ?_
  refine g_istore_n (n := 12) rfl rfl ?_
  refine lp_has12 h 0 (by omega) (fun _ => 0) true _ f0 (fun f hf => mfl_same) (fun f hf => Nat.zero_le _) (fun L hL f hf => Nat.zero_le _) (fun e => (by cases e)) (fun _ L hL => ?_)
  obtain ⟨f, hf, e⟩ := hL.zero h.2.2.2.1
  have : sumN (fun _ => 0) 8 < sumN (hit (fun _ => 0) L) 8 := sumN_lt 8 (fun g _ => Nat.zero_le _) ⟨f, hf, by unfold hit; rw [if_pos e.symm]; omega⟩
  omega
end RR
