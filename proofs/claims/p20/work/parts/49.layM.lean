/-! The reference's layers -/
section LY
variable {E : Value} {T : List SH} {M : Mem} {d : Nat}
def mv (M : Mem) (q r : Nat) : Nat := (M q r).toNatClampNeg
set_option maxRecDepth 20000 in
theorem mv_eq {q r k : Nat} (h : M q r = Int32.ofNat k) (hk : k < 2147483648) : mv M q r = k := by unfold mv; rw [h]; exact clampNat hk
def mNeed (M : Mem) (l : Nat → Nat) (r : Nat) : Nat := max (max (l (mv M 45 r)) (if M 46 r = -1 then 0 else l (mv M 46 r))) (if M 47 r = -1 then 0 else l (mv M 47 r) + 1)
def Sol (M : Mem) (n : Nat) (L : Nat → Nat) : Prop := ∀ r, r < n → M 43 r = 0 → mNeed M L r ≤ L (mv M 44 r)
def LayAt (M : Mem) (l : Nat → Nat) : Prop := ∀ f, f < 8 → M 51 f = Int32.ofNat (l f)
def lset (l : Nat → Nat) (k v : Nat) : Nat → Nat := fun f => if f = k then v else l f
def sumN (l : Nat → Nat) (n : Nat) : Nat := match n with
  | 0 => 0
  | n + 1 => sumN l n + l n
set_option maxRecDepth 20000 in
theorem sumN_le {l l' : Nat → Nat} : ∀ n, (∀ f, f < n → l f ≤ l' f) → sumN l n ≤ sumN l' n := by
  intro n
  induction n with
  | zero => intro _; exact Nat.le_refl _
  | succ n ih => intro h; exact Nat.add_le_add (ih (fun f hf => h f (by omega))) (h n (by omega))
set_option maxRecDepth 20000 in
theorem sumN_set {l : Nat → Nat} {k v : Nat} (hv : l k < v) : ∀ n, k < n → sumN l n < sumN (lset l k v) n := by
  intro n
  induction n with
  | zero => intro h; omega
  | succ n ih =>
    intro h
    by_cases e : k = n
    · subst e
      have h1 : sumN l k ≤ sumN (lset l k v) k := sumN_le k (fun f hf => by unfold lset; rw [if_neg (by omega)]; exact Nat.le_refl _)
      have h2 : lset l k v k = v := by simp [lset]
      show sumN l k + l k < sumN (lset l k v) k + lset l k v k
      omega
    · have h2 : lset l k v n = l n := by unfold lset; rw [if_neg (by omega)]
      have := ih (by omega)
      show sumN l n + l n < sumN (lset l k v) n + lset l k v n
      omega
set_option maxRecDepth 20000 in
theorem sumN_bd {l : Nat → Nat} {b : Nat} : ∀ n, (∀ f, f < n → l f ≤ b) → sumN l n ≤ n * b := by
  intro n
  induction n with
  | zero => intro _; exact Nat.zero_le _
  | succ n ih =>
    intro h
    have h1 := ih (fun f hf => h f (by omega))
    have h2 := h n (by omega)
    show sumN l n + l n ≤ (n + 1) * b
    rw [Nat.succ_mul]
    omega
set_option maxRecDepth 20000 in
theorem mNeed_mono {l L : Nat → Nat} {r : Nat} (h1 : mv M 45 r < 8) (h2 : mv M 46 r < 8) (h3 : mv M 47 r < 8) (h : ∀ f, f < 8 → l f ≤ L f) : mNeed M l r ≤ mNeed M L r := by
  have g1 := h _ h1
  have g2 := h _ h2
  have g3 := h _ h3
  unfold mNeed
  split <;> split <;> omega
/-- only the layers change -/
def mLy (q _j : Nat) : Bool := Nat.beq q 51
/-- what a pass over the first i rules has done to the layers l0 -/
def PS (M : Mem) (n i : Nat) (l0 l : Nat → Nat) (more can : Bool) : Prop :=
  (∀ f, f < 8 → l f ≤ 8 + i) ∧ (can = true → ∀ f, f < 8 → l f ≤ 7) ∧ (can = false → ∃ f, f < 8 ∧ 8 ≤ l f) ∧ (∀ L, Sol M n L → ∀ f, f < 8 → l f ≤ L f) ∧ (∀ f, f < 8 → l0 f ≤ l f) ∧ (more = true → sumN l0 8 < sumN l 8) ∧ (more = false → l = l0 ∧ ∀ r, r < i → M 43 r = 0 → mNeed M l r ≤ l (mv M 44 r))
set_option maxRecDepth 20000 in
theorem PS.next {n i : Nat} {l0 l : Nat → Nat} {more can : Bool} (h : PS M n i l0 l more can) (hs : M 43 i = 0 → mNeed M l i ≤ l (mv M 44 i)) : PS M n (i + 1) l0 l more can := by
  obtain ⟨h1, h2, h3, h4, h5, h6, h7⟩ := h
  refine ⟨fun f hf => Nat.le_trans (h1 f hf) (by omega), h2, h3, h4, h5, h6, fun hm => ⟨(h7 hm).1, fun r hr hk => ?_⟩⟩
  by_cases e : r = i
  · subst e; exact hs hk
  · exact (h7 hm).2 r (by omega) hk
set_option maxRecDepth 20000 in
theorem PS.lift {n i : Nat} {l0 l : Nat → Nat} {more can : Bool} (hi : i < n) (h : PS M n i l0 l more can) (hk : M 43 i = 0) (h1 : mv M 44 i < 8) (h45 : mv M 45 i < 8) (h46 : mv M 46 i < 8) (h47 : mv M 47 i < 8) (hs : l (mv M 44 i) < mNeed M l i) : PS M n (i + 1) l0 (lset l (mv M 44 i) (mNeed M l i)) true (can && decide (mNeed M l i < 8)) := by
  obtain ⟨g1, g2, g3, g4, g5, g6, g7⟩ := h
  have hn : mNeed M l i ≤ 8 + i + 1 := by
    have a1 := g1 _ h45
    have a2 := g1 _ h46
    have a3 := g1 _ h47
    unfold mNeed
    split <;> split <;> omega
  refine ⟨fun f hf => ?_, fun hc f hf => ?_, fun hc => ?_, fun L hL f hf => ?_, fun f hf => ?_, fun _ => ?_, fun q => by cases q⟩
  · unfold lset
    split
    · omega
    · exact Nat.le_trans (g1 f hf) (by omega)
  · simp only [Bool.and_eq_true, decide_eq_true_eq] at hc
    unfold lset
    split
    · omega
    · exact g2 hc.1 f hf
  · cases hcan : can with
    | false =>
      obtain ⟨f, hf, h8⟩ := g3 hcan
      refine ⟨f, hf, ?_⟩
      unfold lset
      split
      · rename_i e
        subst e
        omega
      · exact h8
    | true =>
      rw [hcan] at hc
      simp only [Bool.true_and, decide_eq_false_iff_not] at hc
      exact ⟨_, h1, by unfold lset; rw [if_pos rfl]; omega⟩
  · unfold lset
    split
    · rename_i e
      subst e
      exact Nat.le_trans (mNeed_mono h45 h46 h47 (g4 L hL)) (hL i hi hk)
    · exact g4 L hL f hf
  · unfold lset
    split
    · rename_i e
      subst e
      exact Nat.le_trans (g5 _ h1) (by omega)
    · exact g5 f hf
  · have a1 : sumN l0 8 ≤ sumN l 8 := sumN_le 8 g5
    have a2 := sumN_set (l := l) (k := mv M 44 i) (v := mNeed M l i) hs 8 h1
    omega
set_option maxRecDepth 20000 in
theorem st_lays162 {n i lst : Nat} {l0 l : Nat → Nat} {more can : Bool} {M1 : Mem} {Q : QT} (hi : i < n) (hn : n ≤ 13) (h44 : jF (M 44 i)) (h45 : mv M 45 i < 8) (h46 : mv M 46 i < 8) (h47 : mv M 47 i < 8) (f1 : Fr mLy M M1) (hl : LayAt M1 l) (hps : PS M n i l0 l more can) (hlst : (M 43 i = 0 ∧ lst = mNeed M l i) ∨ (¬ M 43 i = 0 ∧ lst = 0))
    (K : ∀ l' more' can' M2, Fr mLy M M2 → LayAt M2 l' → PS M n (i + 1) l0 l' more' can' → Go [] d (some .boolean) tabX9_lays 210 [(0, .ref 41), (1, .int (bI more')), (2, .int (bI can')), (3, .int (Int32.ofNat i))] [] (hp (zz E T) M2) 0 0 Q) : Go [] d (some .boolean) tabX9_lays 162 [(0, .ref 41), (1, .int (bI more)), (2, .int (bI can)), (3, .int (Int32.ofNat i)), (4, .int (Int32.ofNat lst))] [] (hp (zz E T) M1) 0 0 Q := by
  obtain ⟨hd, hd8, hde⟩ := h44
  have hmv : mv M 44 i = hd := mv_eq hde (by omega)
  have hde1 : M1 44 i = Int32.ofNat hd := (f1 44 i rfl).trans hde
  have hlb : lst ≤ 30 := by
    rcases hlst with ⟨-, e⟩ | ⟨-, e⟩
    · have a1 := hps.1 _ h45
      have a2 := hps.1 _ h46
      have a3 := hps.1 _ h47
      rw [e]
      unfold mNeed
      split <;> split <;> omega
    · omega
  have hlb2 : l hd ≤ 30 := Nat.le_trans (hps.1 hd hd8) (by omega)

  refine g_iload (n := 164) rfl rfl rfl ?_
  refine g_aload_n (n := 165) rfl rfl rfl ?_
  refine g_getR (n := 168) rfl rfl z_41 rfl ?_
  refine g_aload_n (n := 169) rfl rfl rfl ?_
  refine g_getR (n := 172) rfl rfl z_41 rfl ?_
  refine g_iload_n (n := 173) rfl rfl rfl ?_
  refine g_iald (n := 174) rfl rfl z_44 rfl rfl (by omega) ?_
  refine g_iald (n := 175) rfl rfl z_51 rfl hde1 hd8 ?_
  rw [hl hd hd8]
  refine g_ile (n := 178) rfl rfl (fun h175 => ?_) (fun h175 => ?_)
  · skip
    have g9 := (jn_le (by omega) (by omega)).mp h175
    refine go_only 4 ?_
    refine K l more can M1 f1 hl (hps.next (fun hk0 => ?_))
    rcases hlst with ⟨-, e⟩ | ⟨e, -⟩
    · rw [← e, hmv]; exact g9
    · exact absurd hk0 e
  · skip
    have g9 := (jn_lt (by omega) (by omega)).mp h175
    have hk : M 43 i = 0 ∧ lst = mNeed M l i := by
      rcases hlst with e | ⟨-, e⟩
      · exact e
      · omega
    have hlift := hps.lift hi hk.1 (by rw [hmv]; exact hd8) h45 h46 h47 (by rw [hmv, ← hk.2]; exact g9)
    rw [hmv, ← hk.2] at hlift
    have f2 : Fr mLy M (mup M1 51 hd (Int32.ofNat lst)) := f1.up rfl
    have hl2 : LayAt (mup M1 51 hd (Int32.ofNat lst)) (lset l hd lst) := by
      intro f hf
      unfold lset
      split
      · rename_i e; subst e; exact mup_same
      · rename_i e; rw [mup_j e]; exact hl f hf
    refine g_aload_n (n := 179) rfl rfl rfl ?_
    refine g_getR (n := 182) rfl rfl z_41 rfl ?_
    refine g_aload_n (n := 183) rfl rfl rfl ?_
    refine g_getR (n := 186) rfl rfl z_41 rfl ?_
    refine g_iload_n (n := 187) rfl rfl rfl ?_
    refine g_iald (n := 188) rfl rfl z_44 rfl rfl (by omega) ?_
    refine g_iload (n := 190) rfl rfl rfl ?_
    refine g_iast (n := 191) rfl rfl z_51 rfl hde1 hd8 ?_
    refine g_const (n := 192) rfl rfl (s_iconst (v := 1) (by decide)) ?_
    refine g_istore_n (n := 193) rfl rfl ?_
    refine g_iload_n (n := 194) rfl rfl rfl ?_
    refine g_bz (n := 197) rfl rfl (fun h194 => ?_) (fun h194 => ?_)
    · skip
      refine g_const (n := 209) rfl rfl (s_iconst (v := 0) (by decide)) ?_
      refine g_istore_n (n := 210) rfl rfl ?_
      refine go_only 4 ?_
      rw [h194] at hlift
      exact K _ true false _ f2 hl2 hlift
    · skip
      refine g_iload (n := 199) rfl rfl rfl ?_
      refine g_const (n := 201) rfl rfl (s_bipush (v := 8) (by decide)) ?_
      refine g_ige (n := 204) rfl rfl (fun h201 => ?_) (fun h201 => ?_)
      · skip
        have g8 := (jn_le (a := 8) (by omega) (by omega)).mp h201
        refine g_const (n := 209) rfl rfl (s_iconst (v := 0) (by decide)) ?_
        refine g_istore_n (n := 210) rfl rfl ?_
        refine go_only 4 ?_
        rw [h194, dF (show ¬ lst < 8 by omega)] at hlift
        exact K _ true false _ f2 hl2 hlift
      · skip
        have g8 := (jn_lt (b := 8) (by omega) (by omega)).mp h201
        refine g_const (n := 205) rfl rfl (s_iconst (v := 1) (by decide)) ?_
        refine g_goto rfl ?_
        refine g_istore_n (n := 210) rfl rfl ?_
        refine go_only 4 ?_
        rw [h194, dT g8] at hlift
        exact K _ true true _ f2 hl2 hlift
end LY
