/-! The list of rules: add -/
section AD
variable {E : Value} {T : List SH} {M : Mem} {d n k r : Nat} {refs : List (Option Nat)}
set_option maxRecDepth 20000 in
theorem st_add11 {c s : Nat} (hz : a_at T k = some (.inr (.inl refs))) (hn : n < refs.length) (hn2 : n < 1000) (hr : a_at (zz E T) r = some ruleSh) : Go [] d none tabJx4a65c_add_72be8 11 [(0, .ref 3), (1, .ref r), (2, .ref (61 + k)), (3, .int (Int32.ofNat n))] [] (hp (zz E T) M) c s (fun v h' c' s' => v = none ∧ h' = hp (zz E (T.set k (.inr (.inl (refs.set n (some r)))))) (mup M 3 2 (Int32.ofNat (n + 1))) ∧ c' = c ∧ s' = s) := by
  refine g_aload_n (n := 12) rfl rfl rfl ?_
  refine g_iload_n (n := 13) rfl rfl rfl ?_
  refine g_aload_n (n := 14) rfl rfl rfl ?_
  refine g_aast (n := 15) rfl rfl (by rw [z_tail]; exact hz) hr rfl hn hn2 ?_
  rw [zz_set]
  refine g_aload_n (n := 16) rfl rfl rfl ?_
  refine g_iload_n (n := 17) rfl rfl rfl ?_
  refine g_const (n := 18) rfl rfl (s_iconst (v := 1) (by decide)) ?_
  refine g_iadd (n := 19) rfl rfl ?_
  rw [show Int32.ofNat n + 1 = Int32.ofNat (n + 1) from jn_add n 1]
  refine g_putI (n := 22) rfl rfl z_3 rfl rfl ?_
  exact go_ret rfl rfl rfl rfl ⟨rfl, rfl, rfl, rfl⟩
/-- how the shapes stand behind add -/
def AddT (T T' : List SH) : Prop := T.length ≤ T'.length ∧ ∀ q, a_at T q = some ruleSh → a_at T' q = some ruleSh
def AddQ (E : Value) (T : List SH) (M : Mem) (n r : Nat) (rs : Nat → Nat) : QT := fun v h' c s => v = none ∧ c ≤ 1 ∧ s ≤ 15 ∧ ∃ E' T', h' = hp (zz E' T') (mup M 3 2 (Int32.ofNat (n + 1))) ∧ AddT T T' ∧ LQ E' T' (n + 1) (fun i => if i = n then r else rs i)
theorem AddT.set (hz : a_at T k = some (.inr (.inl refs))) {X : List (Option Nat)} : AddT T (T.set k (.inr (.inl X))) := by
  refine ⟨by simp, fun q hq => ?_⟩
  by_cases e : q = k
  · subst e
    rw [hz] at hq
    cases hq
  · rw [a_at_eq, List.getElem?_set_ne (fun h => e h.symm), ← a_at_eq]
    exact hq
theorem AddT.snoc {X : List (Option Nat)} : AddT T (T ++ [.inr (.inl X)]) := by
  refine ⟨by simp, fun q hq => ?_⟩
  rw [a_at_eq, List.getElem?_append_left (at_lt hq), ← a_at_eq]
  exact hq
theorem AddT.tr {T1 T2 : List SH} (h1 : AddT T T1) (h2 : AddT T1 T2) : AddT T T2 := ⟨Nat.le_trans h1.1 h2.1, fun q hq => h2.2 q (h1.2 q hq)⟩
theorem set_at {l : List (Option Nat)} {rs : Nat → Nat} (hl : n < l.length) (h : ∀ i, i < n → a_at l i = some (some (rs i))) : ∀ i, i < n + 1 → a_at (l.set n (some r)) i = some (some (if i = n then r else rs i)) := by
  intro i hi
  by_cases e : i = n
  · subst e
    rw [a_at_eq, List.getElem?_set_self hl, if_pos rfl]
  · rw [a_at_eq, List.getElem?_set_ne (fun h => e h.symm), ← a_at_eq, h i (by omega), if_neg e]
theorem LQ_set {rs : Nat → Nat} {cap : Nat} (hk : k < T.length) (hl : refs.length = (if n + 1 ≤ 10 then 10 else 15)) (hn : n < refs.length) (h : ∀ i, i < n → a_at refs i = some (some (rs i))) : LQ (.ref (61 + k)) (T.set k (.inr (.inl (refs.set n (some r))))) (n + 1) (fun i => if i = n then r else rs i) := by
  refine ⟨fun h => absurd h (by omega), fun _ => ⟨k, refs.set n (some r), rfl, ?_, by rw [List.length_set]; exact hl, set_at hn h⟩⟩
  rw [a_at_eq, List.getElem?_set_self hk]
theorem snoc_set {X Y : SH} : (T ++ [X]).set T.length Y = T ++ [Y] := by
  rw [List.set_append_right _ _ (Nat.le_refl _)]
  simp
theorem at_snoc {X : SH} : a_at (T ++ [X]) T.length = some X := by
  rw [a_at_eq, List.getElem?_append_right (Nat.le_refl _)]
  simp
theorem zz_rule {E' : Value} {T' : List SH} (hr61 : 61 ≤ r) (hr : a_at (zz E T) r = some ruleSh) (h : AddT T T') : a_at (zz E' T') r = some ruleSh := by
  obtain ⟨j, rfl⟩ : ∃ j, r = 61 + j := ⟨r - 61, by omega⟩
  rw [z_tail] at hr ⊢
  exact h.2 j hr
set_option maxRecDepth 20000 in
theorem sc_growN {rs : Nat → Nat} (hm : M 3 2 = Int32.ofNat n) (hL : LR E T n rs) (hQ : LQ E T n rs) (hn : n = 0 ∨ n = 10) : EvG (d + 4) miJx4a65c_grow_d5877 [.ref 3] (hp (zz E T) M) (fun v h' c s => c ≤ 1 ∧ s ≤ 15 ∧ ∃ X, v = some (.ref (61 + T.length)) ∧ h' = hp (zz (.ref (61 + T.length)) (T ++ [.inr (.inl X)])) M ∧ X.length = (if n + 1 ≤ 10 then 10 else 15) ∧ n < X.length ∧ ∀ i, i < n → a_at X i = some (some (rs i))) := by
  refine ev_of mt_Jx4a65c_grow_d5877 rfl ?_
  refine g_aload_n (n := 1) rfl rfl rfl ?_
  refine g_aload_n (n := 2) rfl rfl rfl ?_
  refine g_getI (n := 5) rfl rfl z_3 rfl ?_
  refine g_const (n := 6) rfl rfl (s_iconst (v := 1) (by decide)) ?_
  refine g_iadd (n := 7) rfl rfl ?_
  rw [hm, show Int32.ofNat n + 1 = Int32.ofNat (n + 1) from jn_add n 1]
  rcases hn with rfl | rfl
  · have hE := hQ.1 rfl
    subst hE
    refine g_cG2 (n := 10) rfl rfl rfl rfl mt_Jx4a65c_grow_92f84 rfl rfl (r_k z_3) (sc_grow0 (c := 0) (s := 0)) ?_
    rintro v h' c1 s1 ⟨rfl, rfl, rfl, rfl⟩
    exact go_ret rfl rfl rfl rfl ⟨by omega, by omega, List.replicate 10 none, rfl, rfl, rfl, by decide, fun i hi => absurd hi (by omega)⟩
  · obtain ⟨k, refs, rfl, hz, hl, hx⟩ := hQ.2 (by omega)
    have hl : refs.length = 10 := hl
    have hall : ∀ v, some v ∈ refs → a_at (zz (.ref (61 + k)) T) v = some ruleSh := by
      intro v hv
      obtain ⟨i, hi, e⟩ := List.getElem_of_mem hv
      have h1 := hx i (by omega)
      rw [a_at_eq, List.getElem?_eq_getElem hi, e] at h1
      cases h1
      exact (hL.1 i (by omega)).2
    refine g_cG2 (n := 10) rfl rfl rfl rfl mt_Jx4a65c_grow_92f84 rfl rfl (r_k z_3) (sc_grow10 hz hl hall) ?_
    rintro v h' c1 s1 ⟨rfl, rfl, rfl, rfl⟩
    refine go_ret rfl rfl rfl rfl ⟨by omega, by omega, refs ++ List.replicate 5 none, rfl, rfl, by simp [hl], by simp [hl], fun i hi => ?_⟩
    rw [a_at_eq, List.getElem?_append_left (by omega), ← a_at_eq]
    exact hx i hi
set_option maxRecDepth 20000 in
theorem sc_add72 {rs : Nat → Nat} (hm : M 3 2 = Int32.ofNat n) (hn12 : n < 12) (hL : LR E T n rs) (hQ : LQ E T n rs) (hr61 : 61 ≤ r) (hr : a_at (zz E T) r = some ruleSh) : EvG (d + 5) miJx4a65c_add_72be8 [.ref 3, .ref r, E, .int (Int32.ofNat n)] (hp (zz E T) M) (AddQ E T M n r rs) := by
  have grown : n = 0 ∨ n = 10 → ∀ v2, Go [] (d + 4) none tabJx4a65c_add_72be8 6 [(0, .ref 3), (1, .ref r), (2, v2), (3, .int (Int32.ofNat n))] [] (hp (zz E T) M) 0 0 (AddQ E T M n r rs) := by
    intro hc v2
    refine g_aload_n (n := 7) rfl rfl rfl ?_
    refine g_cG1 (n := 10) rfl rfl rfl rfl mt_Jx4a65c_grow_d5877 rfl rfl (r_k z_3) (sc_growN hm hL hQ hc) ?_
    rintro v h' c1 s1 ⟨hc1, hs1, X, rfl, rfl, hXl, hXn, hX⟩
    refine g_astore_n (n := 11) rfl rfl ?_
    refine go_mono (st_add11 (k := T.length) (refs := X) at_snoc hXn (by omega) (zz_rule hr61 hr AddT.snoc)) ?_
    rintro v h' c' s' ⟨rfl, rfl, rfl, rfl⟩
    refine ⟨rfl, by omega, by omega, _, _, rfl, AddT.snoc.tr (AddT.set at_snoc), LQ_set (cap := 0) (by simp) hXl hXn hX⟩
  refine ev_of mt_Jx4a65c_add_72be8 rfl ?_
  refine g_iload_n (n := 1) rfl rfl rfl ?_
  rcases Nat.eq_zero_or_pos n with h0 | h0
  · have hE := hQ.1 h0
    subst hE
    refine g_aloadL (n := 2) rfl rfl rfl rfl ?_
    refine g_alenL (n := 3) rfl rfl ?_
    refine g_ine (n := 6) rfl rfl (fun h3 => absurd (by rw [h0]; rfl) h3) (fun h3 => ?_)
    exact grown (Or.inl h0) _
  · obtain ⟨k, refs, rfl, hz, hl, hx⟩ := hQ.2 h0
    refine g_aload_n (n := 2) rfl rfl rfl ?_
    refine g_alenR (n := 3) rfl rfl (by rw [z_tail]; exact hz) ?_
    have hb : refs.length ≤ 15 := by rw [hl]; split <;> omega
    refine g_ine (n := 6) rfl rfl (fun h3 => ?_) (fun h3 => ?_)
    · have hne : n ≠ refs.length := fun e => h3 (by rw [e])
      have h10 : n ≠ 10 := by
        intro e
        apply hne
        rw [hl, e]
        rfl
      have hlt : n < refs.length := by
        rw [hl]
        split <;> omega
      refine go_mono (st_add11 hz hlt (by omega) hr) ?_
      rintro v h' c' s' ⟨rfl, rfl, rfl, rfl⟩
      refine ⟨rfl, by omega, by omega, _, _, rfl, AddT.set hz, LQ_set (cap := 0) (at_lt hz) ?_ hlt hx⟩
      rw [hl]
      split <;> split <;> omega
    · have he : n = refs.length := jn_inj (by omega) (by omega) h3
      have h10 : n = 10 := by
        rw [hl] at he
        split at he <;> omega
      exact grown (Or.inr h10) _
set_option maxRecDepth 20000 in
theorem sc_add {rs : Nat → Nat} (hm : M 3 2 = Int32.ofNat n) (hn12 : n < 12) (hL : LR E T n rs) (hQ : LQ E T n rs) (hr61 : 61 ≤ r) (hr : a_at (zz E T) r = some ruleSh) : EvG (d + 6) miJx4a65c_add_9ea2d [.ref 3, .ref r] (hp (zz E T) M) (fun v h' c s => v = some (.int 1) ∧ AddQ E T (mup M 3 0 (M 3 0 + 1)) n r rs none h' c s) := by
  refine ev_of mt_Jx4a65c_add_9ea2d rfl ?_
  refine g_aload_n (n := 1) rfl rfl rfl ?_
  refine g_dup (n := 2) rfl rfl ?_
  refine g_getI (n := 5) rfl rfl z_3 rfl ?_
  refine g_const (n := 6) rfl rfl (s_iconst (v := 1) (by decide)) ?_
  refine g_iadd (n := 7) rfl rfl ?_
  refine g_putI (n := 10) rfl rfl z_3 rfl rfl ?_
  refine g_aload_n (n := 11) rfl rfl rfl ?_
  refine g_aload_n (n := 12) rfl rfl rfl ?_
  refine g_aload_n (n := 13) rfl rfl rfl ?_
  refine g_getR (n := 16) rfl rfl z_3 rfl ?_
  refine g_aload_n (n := 17) rfl rfl rfl ?_
  refine g_getI (n := 20) rfl rfl z_3 rfl ?_
  rw [show mup M 3 0 (M 3 0 + 1) 3 2 = Int32.ofNat n from hm]
  refine g_cG4 (n := 23) rfl rfl rfl rfl mt_Jx4a65c_add_72be8 rfl rfl (r_k z_3) (sc_add72 (M := mup M 3 0 (M 3 0 + 1)) hm hn12 hL hQ hr61 hr) ?_
  rintro v h' c1 s1 ⟨rfl, hq⟩
  refine g_const (n := 24) rfl rfl (s_iconst (v := 1) (by decide)) ?_
  exact go_ret rfl rfl rfl rfl ⟨rfl, rfl, by rw [Nat.zero_add]; exact hq.1, by rw [Nat.zero_add]; exact hq.2.1, hq.2.2⟩
end AD
