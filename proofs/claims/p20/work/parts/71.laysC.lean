/-! The program's layers -/
section LS
variable {E : Value} {T : List SH} {M : Mem} {d n : Nat} {w : Nat → Nat}
def cNeed (M : Mem) (t : Nat → Nat) (q : Nat) : Nat := max (max (t (mv M q 3)) (t (mv M q 4))) (if M q 5 = -1 then 0 else t (mv M q 5) + 1)
/-- L fits the rules in the cells w 0 .. w (n - 1) -/
def CSol (M : Mem) (w : Nat → Nat) (n : Nat) (L : Nat → Nat) : Prop := ∀ r, r < n → M (w r) 1 = 0 → cNeed M L (w r) ≤ L (mv M (w r) 2)
def TriedAt (M : Mem) (t : Nat → Nat) : Prop := ∀ f, f < 8 → M 5 f = Int32.ofNat (t f)
def ROK (M : Mem) (q : Nat) : Prop := jF (M q 2) ∧ jF (M q 3) ∧ jF (M q 4) ∧ jN (M q 5)
def cT (q _j : Nat) : Bool := Nat.beq q 5
set_option maxRecDepth 20000 in
theorem cNeed_mono {l L : Nat → Nat} {q : Nat} (hR : ROK M q) (h : ∀ f, f < 8 → l f ≤ L f) : cNeed M l q ≤ cNeed M L q := by
  have g1 := h _ hR.2.1.mv8.1
  have g2 := h _ hR.2.2.1.mv8.1
  have g3 := h _ hR.2.2.2.mv8
  unfold cNeed
  split <;> omega
set_option maxRecDepth 20000 in
theorem cNeed_bd {t : Nat → Nat} {q bd : Nat} (hR : ROK M q) (h : ∀ f, f < 8 → t f ≤ bd) : cNeed M t q ≤ bd + 1 := by
  have g1 := h _ hR.2.1.mv8.1
  have g2 := h _ hR.2.2.1.mv8.1
  have g3 := h _ hR.2.2.2.mv8
  unfold cNeed
  split <;> omega
set_option maxRecDepth 20000 in
theorem max_nI {a b : Nat} (ha : a < 2147483648) (hb : b < 2147483648) : (if Int32.ofNat a < Int32.ofNat b then Int32.ofNat b else Int32.ofNat a) = Int32.ofNat (max a b) := by
  by_cases h : a < b
  · rw [if_pos ((jn_lt ha hb).mpr h), Nat.max_eq_right (by omega)]
  · rw [if_neg (fun g => h ((jn_lt ha hb).mp g)), Nat.max_eq_left (by omega)]
def LiftQ (M : Mem) (t : Nat → Nat) (q : Nat) (x : Int32) (M' : Mem) : Prop := Fr cT M M' ∧ ∃ t' b, TriedAt M' t' ∧ x = bI b ∧ ((b = false ∧ t' = t ∧ (M q 1 = 0 → cNeed M t q ≤ t (mv M q 2))) ∨ (b = true ∧ M q 1 = 0 ∧ t (mv M q 2) < cNeed M t q ∧ t' = lset t (mv M q 2) (cNeed M t q)))
set_option maxRecDepth 20000 in
theorem st_lift55 {t : Nat → Nat} {q bd : Nat} {y : Int32} (hq : a_at (zz E T) q = some ruleSh) (hR : ROK M q) (ht : TriedAt M t) (hbd : ∀ f, f < 8 → t f ≤ bd) (hb : bd < 10000) (hk : M q 1 = 0) (hy : y = Int32.ofNat (cNeed M t q)) : Go [] d (some .boolean) tabX3_lift 55 [(0, .ref 2), (1, .ref q), (2, .int y)] [] (hp (zz E T) M) 0 0 (QI (zz E T) (LiftQ M t q)) := by
  subst hy
  have h2 := hR.1.mv8
  have hn := cNeed_bd hR hbd
  have hb2 := hbd _ h2.1
  refine g_aload_n (n := 56) rfl rfl rfl ?_
  refine g_getR (n := 59) rfl rfl z_2 rfl ?_
  refine g_aload_n (n := 60) rfl rfl rfl ?_
  refine g_getI (n := 63) rfl rfl hq rfl ?_
  refine g_iald (n := 64) rfl rfl z_5 rfl h2.2 h2.1 ?_
  rw [ht _ h2.1]
  refine g_iload_n (n := 65) rfl rfl rfl ?_
  refine g_ilt (n := 68) rfl rfl (fun h65 => ?_) (fun h65 => ?_)
  · skip
    have g9 := (jn_lt (by omega) (by omega)).mp h65
    refine g_aload_n (n := 71) rfl rfl rfl ?_
    refine g_getR (n := 74) rfl rfl z_2 rfl ?_
    refine g_aload_n (n := 75) rfl rfl rfl ?_
    refine g_getI (n := 78) rfl rfl hq rfl ?_
    refine g_iload_n (n := 79) rfl rfl rfl ?_
    refine g_iast (n := 80) rfl rfl z_5 rfl h2.2 h2.1 ?_
    refine g_const (n := 81) rfl rfl (s_iconst (v := 1) (by decide)) ?_
    refine g_retZ rfl (by decide) ?_
    refine ⟨Fr.rf.up rfl, _, true, ?_, rfl, Or.inr ⟨rfl, hk, g9, rfl⟩⟩
    intro f hf
    unfold lset
    split
    · rename_i e; subst e; exact mup_same
    · rename_i e; rw [mup_j e]; exact ht f hf
  · skip
    have g9 := (jn_le (by omega) (by omega)).mp h65
    refine g_const (n := 69) rfl rfl (s_iconst (v := 0) (by decide)) ?_
    refine g_retZ rfl (by decide) ?_
    exact ⟨Fr.rf, t, false, ht, rfl, Or.inl ⟨rfl, rfl, fun _ => g9⟩⟩
set_option maxRecDepth 20000 in
theorem sc_lift {t : Nat → Nat} {q bd : Nat} (hq : a_at (zz E T) q = some ruleSh) (hR : ROK M q) (ht : TriedAt M t) (hbd : ∀ f, f < 8 → t f ≤ bd) (hb : bd < 10000) : EvI (d + 1) miX3_lift [.ref 2, .ref q] (zz E T) M (LiftQ M t q) := by
  have k3 := hR.2.1.mv8
  have k4 := hR.2.2.1.mv8
  have k5 := hR.2.2.2.mv8
  have b3 := hbd _ k3.1
  have b4 := hbd _ k4.1
  have b5 := hbd _ k5
  refine ev_of mt_X3_lift rfl ?_
  refine g_aload_n (n := 1) rfl rfl rfl ?_
  refine g_getI (n := 4) rfl rfl hq rfl ?_
  refine g_zeq (n := 7) rfl rfl (fun h4 => ?_) (fun h4 => ?_)
  · skip
    refine g_aload_n (n := 10) rfl rfl rfl ?_
    refine g_getR (n := 13) rfl rfl z_2 rfl ?_
    refine g_aload_n (n := 14) rfl rfl rfl ?_
    refine g_getI (n := 17) rfl rfl hq rfl ?_
    refine g_iald (n := 18) rfl rfl z_5 rfl k3.2 k3.1 ?_
    rw [ht _ k3.1]
    refine g_aload_n (n := 19) rfl rfl rfl ?_
    refine g_getR (n := 22) rfl rfl z_2 rfl ?_
    refine g_aload_n (n := 23) rfl rfl rfl ?_
    refine g_getI (n := 26) rfl rfl hq rfl ?_
    refine g_iald (n := 27) rfl rfl z_5 rfl k4.2 k4.1 ?_
    rw [ht _ k4.1]
    refine g_max (n := 30) rfl rfl rfl ?_
    rw [max_nI (by omega) (by omega)]
    refine g_istore_n (n := 31) rfl rfl ?_
    refine g_aload_n (n := 32) rfl rfl rfl ?_
    refine g_getI (n := 35) rfl rfl hq rfl ?_
    refine g_const (n := 36) rfl rfl (s_iconst (v := (-1)) (by decide)) ?_
    refine g_ieq (n := 39) rfl rfl (fun h36 => ?_) (fun h36 => ?_)
    · skip
      exact st_lift55 hq hR ht hbd hb h4 (by unfold cNeed; rw [if_pos h36]; simp)
    · skip
      have e5 := (jF.mv8 (hR.2.2.2.resolve_left h36)).2
      refine g_iload_n (n := 40) rfl rfl rfl ?_
      refine g_aload_n (n := 41) rfl rfl rfl ?_
      refine g_getR (n := 44) rfl rfl z_2 rfl ?_
      refine g_aload_n (n := 45) rfl rfl rfl ?_
      refine g_getI (n := 48) rfl rfl hq rfl ?_
      refine g_iald (n := 49) rfl rfl z_5 rfl e5 k5 ?_
      rw [ht _ k5]
      refine g_const (n := 50) rfl rfl (s_iconst (v := 1) (by decide)) ?_
      refine g_iadd (n := 51) rfl rfl ?_
      rw [show Int32.ofNat (t (mv M q 5)) + 1 = Int32.ofNat (t (mv M q 5) + 1) from jn_add _ 1]
      refine g_max (n := 54) rfl rfl rfl ?_
      rw [max_nI (by omega) (by omega)]
      refine g_istore_n (n := 55) rfl rfl ?_
      exact st_lift55 hq hR ht hbd hb h4 (by unfold cNeed; rw [if_neg h36])
  · skip
    refine g_const (n := 8) rfl rfl (s_iconst (v := 0) (by decide)) ?_
    refine g_retZ rfl (by decide) ?_
    exact ⟨Fr.rf, t, false, ht, rfl, Or.inl ⟨rfl, rfl, fun h => absurd h h4⟩⟩
/-- what a round has done so far to t0: it has gone through the first i rules -/
def RP (M : Mem) (w : Nat → Nat) (n i : Nat) (t0 t : Nat → Nat) (lf : Bool) : Prop :=
  (∀ f, f < 8 → t0 f ≤ t f) ∧ (∀ L, CSol M w n L → ∀ f, f < 8 → t f ≤ L f) ∧ (lf = false → t = t0) ∧ (lf = true → sumN t0 8 < sumN t 8) ∧ ∀ j, j < i → M (w j) 1 = 0 → cNeed M t0 (w j) ≤ t (mv M (w j) 2)
set_option maxRecDepth 20000 in
theorem RP.step {i bd : Nat} {t0 t t' : Nat → Nat} {lf b : Bool} (hi : i < n) (hR : ∀ j, j < n → ROK M (w j)) (h : RP M w n i t0 t lf) (hbd : ∀ f, f < 8 → t f ≤ bd) (hq : (b = false ∧ t' = t ∧ (M (w i) 1 = 0 → cNeed M t (w i) ≤ t (mv M (w i) 2))) ∨ (b = true ∧ M (w i) 1 = 0 ∧ t (mv M (w i) 2) < cNeed M t (w i) ∧ t' = lset t (mv M (w i) 2) (cNeed M t (w i)))) : RP M w n (i + 1) t0 t' (b || lf) ∧ ∀ f, f < 8 → t' f ≤ bd + 1 := by
  obtain ⟨h1, h2, h3, h4, h5⟩ := h
  have hRi := hR i hi
  rcases hq with ⟨rfl, rfl, hs⟩ | ⟨rfl, hk, hlt, rfl⟩
  · refine ⟨⟨h1, h2, h3, h4, fun j hj hk => ?_⟩, fun f hf => Nat.le_trans (hbd f hf) (by omega)⟩
    by_cases e : j = i
    · subst e
      exact Nat.le_trans (cNeed_mono hRi h1) (hs hk)
    · exact h5 j (by omega) hk
  · have hd := hRi.1.mv8.1
    have up : ∀ f, f < 8 → t f ≤ lset t (mv M (w i) 2) (cNeed M t (w i)) f := by
      intro f hf
      unfold lset
      split
      · rename_i e; subst e; omega
      · exact Nat.le_refl _
    refine ⟨⟨fun f hf => Nat.le_trans (h1 f hf) (up f hf), fun L hL f hf => ?_, fun q => (by cases q), fun _ => ?_, fun j hj hkj => ?_⟩, fun f hf => ?_⟩
    · unfold lset
      split
      · rename_i e
        subst e
        exact Nat.le_trans (cNeed_mono hRi (h2 L hL)) (hL i hi hk)
      · exact h2 L hL f hf
    · have a1 : sumN t0 8 ≤ sumN t 8 := sumN_le 8 h1
      have a2 := sumN_set hlt 8 hd
      omega
    · by_cases e : j = i
      · subst e
        have a1 : lset t (mv M (w j) 2) (cNeed M t (w j)) (mv M (w j) 2) = cNeed M t (w j) := by simp [lset]
        rw [a1]
        exact cNeed_mono hRi h1
      · exact Nat.le_trans (h5 j (by omega) hkj) (up _ (hR j (by omega)).1.mv8.1)
    · unfold lset
      split
      · exact cNeed_bd hRi hbd
      · exact Nat.le_trans (hbd f hf) (by omega)
-- how many facts have their layer
def hit (t L : Nat → Nat) (f : Nat) : Nat := if t f = L f then 1 else 0
set_option maxRecDepth 20000 in
theorem hit_bd {t L : Nat → Nat} : sumN (hit t L) 8 ≤ 8 := by
  have := sumN_bd (l := hit t L) (b := 1) 8 (fun f _ => by unfold hit; split <;> omega)
  omega
set_option maxRecDepth 20000 in
theorem sumN_lt {l l' : Nat → Nat} : ∀ n, (∀ f, f < n → l f ≤ l' f) → (∃ f, f < n ∧ l f < l' f) → sumN l n < sumN l' n := by
  intro n
  induction n with
  | zero => rintro _ ⟨f, hf, -⟩; omega
  | succ n ih =>
    rintro h ⟨f, hf, hlt⟩
    have hn := h n (by omega)
    have hle := sumN_le n (fun f hf => h f (by omega))
    show sumN l n + l n < sumN l' n + l' n
    by_cases e : f = n
    · subst e; omega
    · have := ih (fun f hf => h f (by omega)) ⟨f, by omega, hlt⟩
      omega
/-- the least of all that fit -/
def Least (M : Mem) (w : Nat → Nat) (n : Nat) (L : Nat → Nat) : Prop := CSol M w n L ∧ ∀ L', CSol M w n L' → ∀ f, f < 8 → L f ≤ L' f
set_option maxRecDepth 20000 in
theorem CSol.meet {L L' : Nat → Nat} (hR : ∀ j, j < n → ROK M (w j)) (h : CSol M w n L) (h' : CSol M w n L') : CSol M w n (fun f => min (L f) (L' f)) := by
  intro r hr hk
  have a1 := cNeed_mono (hR r hr) (l := fun f => min (L f) (L' f)) (L := L) (fun f _ => Nat.min_le_left _ _)
  have a2 := cNeed_mono (hR r hr) (l := fun f => min (L f) (L' f)) (L := L') (fun f _ => Nat.min_le_right _ _)
  have b1 := h r hr hk
  have b2 := h' r hr hk
  show _ ≤ min _ _
  omega
set_option maxRecDepth 20000 in
theorem Least.ex (hR : ∀ j, j < n → ROK M (w j)) {L : Nat → Nat} (h : CSol M w n L) : ∃ L0, Least M w n L0 := by
  have key : ∀ k L, CSol M w n L → sumN L 8 ≤ k → ∃ L0, Least M w n L0 := by
    intro k
    induction k with
    | zero =>
      intro L hL h0
      refine ⟨L, hL, fun L' _ f hf => ?_⟩
      have : L f ≤ sumN L 8 := by
        simp only [sumN]
        match f, hf with
        | 0, _ => omega
        | 1, _ => omega
        | 2, _ => omega
        | 3, _ => omega
        | 4, _ => omega
        | 5, _ => omega
        | 6, _ => omega
        | 7, _ => omega
      omega
    | succ k ih =>
      intro L hL hk
      by_cases hmin : ∀ L', CSol M w n L' → ∀ f, f < 8 → L f ≤ L' f
      · exact ⟨L, hL, hmin⟩
      · have hmin : ∃ L', CSol M w n L' ∧ ∃ f, f < 8 ∧ L' f < L f := by
          apply Classical.byContradiction
          intro hno
          apply hmin
          intro L' hL' f hf
          apply Classical.byContradiction
          intro hlt
          exact hno ⟨L', hL', f, hf, by omega⟩
        obtain ⟨L', hL', f, hf, hlt⟩ := hmin
        refine ih _ (hL.meet hR hL') ?_
        have : sumN (fun f => min (L f) (L' f)) 8 < sumN L 8 := sumN_lt 8 (fun f _ => Nat.min_le_left _ _) ⟨f, hf, by show min _ _ < _; omega⟩
        omega
  exact key _ L h (Nat.le_refl _)
set_option maxRecDepth 20000 in
/-- some fact has layer 0 -/
theorem Least.zero {L : Nat → Nat} (hR : ∀ j, j < n → ROK M (w j)) (h : Least M w n L) : ∃ f, f < 8 ∧ L f = 0 := by
  apply Classical.byContradiction
  intro hno
  have hpos : ∀ f, f < 8 → 1 ≤ L f := fun f hf => by
    rcases Nat.eq_zero_or_pos (L f) with e | e
    · exact absurd ⟨f, hf, e⟩ hno
    · exact e
  have hs : CSol M w n (fun f => L f - 1) := by
    intro r hr hk
    have b1 := h.1 r hr hk
    have p3 := hpos _ (hR r hr).2.1.mv8.1
    have p4 := hpos _ (hR r hr).2.2.1.mv8.1
    have p5 := hpos _ (hR r hr).2.2.2.mv8
    unfold cNeed at b1 ⊢
    dsimp only
    split <;> rename_i e
    · rw [if_pos e] at b1; omega
    · rw [if_neg e] at b1; omega
  have a1 := h.2 _ hs 0 (by omega)
  have a2 := hpos 0 (by omega)
  omega
set_option maxRecDepth 20000 in
/-- no gap between the layers, so none above 7 -/
theorem Least.gap {L : Nat → Nat} {v : Nat} (hR : ∀ j, j < n → ROK M (w j)) (h : Least M w n L) (hv : ∃ f, f < 8 ∧ v < L f) : ∃ f, f < 8 ∧ L f = v := by
  apply Classical.byContradiction
  intro hno
  have hne : ∀ f, f < 8 → L f ≠ v := fun f hf e => hno ⟨f, hf, e⟩
  have hs : CSol M w n (fun f => if v < L f then L f - 1 else L f) := by
    intro r hr hk
    have b1 := h.1 r hr hk
    have p2 := hne _ (hR r hr).1.mv8.1
    have p3 := hne _ (hR r hr).2.1.mv8.1
    have p4 := hne _ (hR r hr).2.2.1.mv8.1
    have p5 := hne _ (hR r hr).2.2.2.mv8
    unfold cNeed at b1 ⊢
    dsimp only
    by_cases e : M (w r) 5 = -1
    · rw [if_pos e] at b1 ⊢
      split <;> split <;> split <;> omega
    · rw [if_neg e] at b1 ⊢
      split <;> split <;> split <;> split <;> omega
  obtain ⟨f, hf, hlt⟩ := hv
  have := h.2 _ hs f hf
  simp only [if_pos hlt] at this
  omega
set_option maxRecDepth 20000 in
/-- a round that doesn't end it brings a fact to its layer -/
theorem Least.grow {L t0 t1 : Nat → Nat} (hR : ∀ j, j < n → ROK M (w j)) (h : Least M w n L) (h0 : ∀ f, f < 8 → t0 f ≤ t1 f) (h1 : ∀ f, f < 8 → t1 f ≤ L f) (hd : ∀ j, j < n → M (w j) 1 = 0 → cNeed M t0 (w j) ≤ t1 (mv M (w j) 2)) (hne : ∃ f, f < 8 ∧ t0 f ≠ L f) : sumN (hit t0 L) 8 < sumN (hit t1 L) 8 := by
  have hle : ∀ f, f < 8 → hit t0 L f ≤ hit t1 L f := by
    intro f hf
    have a := h0 f hf
    have b := h1 f hf
    unfold hit
    split
    · rename_i e
      rw [if_pos (by omega)]
      exact Nat.le_refl _
    · omega
  refine sumN_lt 8 hle ?_
  apply Classical.byContradiction
  intro hno
  have hsame : ∀ f, f < 8 → t0 f ≠ L f → t1 f ≠ L f := by
    intro f hf e0 e1
    apply hno
    refine ⟨f, hf, ?_⟩
    unfold hit
    rw [if_neg e0, if_pos e1]
    omega
  have hs : CSol M w n (fun f => if t0 f = L f then L f else L f - 1) := by
    intro r hr hk
    have b1 := h.1 r hr hk
    have d1 := hd r hr hk
    have R := hR r hr
    have q2 := R.1.mv8.1
    have q3 := R.2.1.mv8.1
    have q4 := R.2.2.1.mv8.1
    have q5 := R.2.2.2.mv8
    have s2 := hsame _ q2
    have c2 := h0 _ q2
    have e2 := h1 _ q2
    have c3 := Nat.le_trans (h0 _ q3) (h1 _ q3)
    have c4 := Nat.le_trans (h0 _ q4) (h1 _ q4)
    have c5 := Nat.le_trans (h0 _ q5) (h1 _ q5)
    unfold cNeed at b1 d1 ⊢
    dsimp only
    by_cases e : M (w r) 5 = -1
    · rw [if_pos e] at b1 d1 ⊢
      split <;> split <;> split <;> omega
    · rw [if_neg e] at b1 d1 ⊢
      split <;> split <;> split <;> split <;> omega
  obtain ⟨f, hf, hlt⟩ := hne
  have a := h.2 _ hs f hf
  have b := Nat.le_trans (h0 f hf) (h1 f hf)
  simp only [if_neg hlt] at a
  omega
end LS
