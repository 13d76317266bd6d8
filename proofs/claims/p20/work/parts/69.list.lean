/-! The list of rules: one more -/
section LI
variable {T : List SH} {M : Mem} {d : Nat} {h : AH}
def LQ (E : Value) (T : List SH) (n : Nat) (rs : Nat → Nat) : Prop := (n = 0 → E = .long 0) ∧ (0 < n → ∃ k refs, E = .ref (61 + k) ∧ a_at T k = some (.inr (.inl refs)) ∧ refs.length = (if n ≤ 10 then 10 else 15) ∧ ∀ i, i < n → a_at refs i = some (some (rs i)))
set_option maxRecDepth 20000 in
theorem sc_grow0 {c s : Nat} : EvG (d + 1) miJx4a65c_grow_92f84 [.ref 3, .int 1] (hp (zz (.long 0) T) M) (fun v h' c s => v = some (.ref (61 + T.length)) ∧ h' = hp (zz (.ref (61 + T.length)) (T ++ [.inr (.inl (List.replicate 10 none))])) M ∧ c = 1 ∧ s = 10) := by
  refine ev_of mt_Jx4a65c_grow_92f84 rfl ?_
  refine g_aload_n (n := 1) rfl rfl rfl ?_
  refine g_getR (n := 4) rfl rfl z_3 rfl ?_
  refine g_alenL (n := 5) rfl rfl ?_
  refine g_istore_n (n := 6) rfl rfl ?_
  refine g_iload_n (n := 7) rfl rfl rfl ?_
  refine g_zgt (n := 10) rfl rfl (fun h7 => absurd h7 (by decide)) (fun h7 => ?_)
  refine g_aload_n (n := 11) rfl rfl rfl ?_
  refine g_getR (n := 14) rfl rfl z_3 rfl ?_
  refine g_gst (n := 17) rfl rfl ?_
  refine g_acT rfl rfl ?_
  refine g_aload_n (n := 46) rfl rfl rfl ?_
  refine g_const (n := 48) rfl rfl (s_bipush (v := 10) (by decide)) ?_
  refine g_iload_n (n := 49) rfl rfl rfl ?_
  refine g_max (n := 52) rfl rfl rfl ?_
  refine g_anew (n := 55) (j := 10) rfl rfl (by decide) (by omega) ?_
  rw [zz_len, zz_snoc]
  refine g_dup_x1 (n := 56) rfl rfl ?_
  refine g_putE (n := 59) rfl rfl ?_
  exact go_ret rfl rfl rfl rfl ⟨rfl, rfl, rfl, rfl⟩
theorem sc_newLen : EvP (d + 1) miJ8_newLength_cabcc [.int 10, .int 1, .int 5] h (.int 15) := by
  refine ev_of mt_J8_newLength_cabcc rfl ?_
  refine g_iload_n (n := 1) rfl rfl rfl ?_
  refine g_iload_n (n := 2) rfl rfl rfl ?_
  refine g_iload_n (n := 3) rfl rfl rfl ?_
  refine g_max (n := 6) rfl rfl rfl ?_
  refine g_iadd (n := 7) rfl rfl ?_
  rw [show (10 : Int32) + (if (1 : Int32) < 5 then 5 else 1) = 15 from by decide]
  refine g_istore_n (n := 8) rfl rfl ?_
  refine g_const (n := 9) rfl rfl (s_iconst (v := 0) (by decide)) ?_
  refine g_iload_n (n := 10) rfl rfl rfl ?_
  refine g_ige (n := 13) rfl rfl (fun h10 => absurd h10 (by decide)) (fun h10 => ?_)
  refine g_iload_n (n := 14) rfl rfl rfl ?_
  refine g_const (n := 16) rfl rfl rfl ?_
  refine g_igt (n := 19) rfl rfl (fun h16 => absurd h16 (by decide)) (fun h16 => ?_)
  refine g_iload_n (n := 20) rfl rfl rfl ?_
  exact g_retP rfl rfl
variable {k : Nat} {refs : List (Option Nat)}
set_option maxRecDepth 20000 in
theorem sc_copyOf3 {E : Value} (hz : a_at T k = some (.inr (.inl refs))) (hl : refs.length = 10) (hall : ∀ v, some v ∈ refs → a_at (zz E T) v = some ruleSh) : EvG (d + 1) miJ7_copyOf_6403c [.ref (61 + k), .int 15, .long 2] (hp (zz E T) M) (fun v h' c s => v = some (.ref (61 + T.length)) ∧ h' = hp (zz E (T ++ [.inr (.inl (refs ++ List.replicate 5 none))])) M ∧ c = 1 ∧ s = 15) := by
  have hk := at_lt hz
  have hz2 : ∀ X : SH, a_at (zz E (T ++ [X])) (61 + k) = some (.inr (.inl refs)) := fun X => by
    rw [z_tail, a_at_eq, List.getElem?_append_left hk, ← a_at_eq]
    exact hz
  have hnew : ∀ X : SH, a_at (zz E (T ++ [X])) (61 + T.length) = some X := fun X => by
    rw [z_tail, a_at_eq, List.getElem?_append_right (Nat.le_refl _)]
    simp
  refine ev_of mt_J7_copyOf_6403c rfl ?_
  refine g_aloadL (n := 1) rfl rfl rfl rfl ?_
  refine g_ldcC (n := 3) rfl rfl ?_
  refine g_anT (n := 6) rfl rfl rfl ?_
  refine g_iload_n (n := 7) rfl rfl rfl ?_
  refine g_anew (n := 10) (j := 15) rfl rfl (by decide) (by omega) ?_
  rw [zz_len, zz_snoc]
  refine g_goto rfl ?_
  refine g_astore_n (n := 25) rfl rfl ?_
  refine g_aload_n (n := 26) rfl rfl rfl ?_
  refine g_const (n := 27) rfl rfl (s_iconst (v := 0) (by decide)) ?_
  refine g_aload_n (n := 28) rfl rfl rfl ?_
  refine g_const (n := 29) rfl rfl (s_iconst (v := 0) (by decide)) ?_
  refine g_aload_n (n := 30) rfl rfl rfl ?_
  refine g_alenR (n := 31) rfl rfl (hz2 _) ?_
  rw [hl]
  refine g_iload_n (n := 32) rfl rfl rfl ?_
  refine g_min (n := 35) rfl rfl rfl ?_
  refine g_copyR (n := 38) (j := 10) rfl rfl (by simp) (hz2 _) (hnew _) (by decide) hl (by simp) (by omega) (fun v hv => ?_) ?_
  · have h1 := hall v hv
    rw [show zz E (T ++ [_]) = zz E T ++ [_] from rfl, a_at_eq, List.getElem?_append_left (at_lt h1), ← a_at_eq]
    exact h1
  · rw [zz_set]
    have e1 : (T ++ [(.inr (.inl (List.replicate 15 none)) : SH)]).set T.length (.inr (.inl (refs ++ (List.replicate 15 (none : Option Nat)).drop 10))) = T ++ [(.inr (.inl (refs ++ List.replicate 5 none)) : SH)] := by
      rw [List.set_append_right _ _ (Nat.le_refl _)]
      simp
    rw [e1]
    refine g_aload_n (n := 39) rfl rfl rfl ?_
    exact go_ret rfl rfl rfl rfl ⟨rfl, rfl, rfl, rfl⟩
set_option maxRecDepth 20000 in
theorem sc_copyOf {E : Value} (hz : a_at T k = some (.inr (.inl refs))) (hl : refs.length = 10) (hall : ∀ v, some v ∈ refs → a_at (zz E T) v = some ruleSh) : EvG (d + 2) miJ7_copyOf_1904c [.ref (61 + k), .int 15] (hp (zz E T) M) (fun v h' c s => v = some (.ref (61 + T.length)) ∧ h' = hp (zz E (T ++ [.inr (.inl (refs ++ List.replicate 5 none))])) M ∧ c = 1 ∧ s = 15) := by
  refine ev_of mt_J7_copyOf_1904c rfl ?_
  refine g_aload_n (n := 1) rfl rfl rfl ?_
  refine g_iload_n (n := 2) rfl rfl rfl ?_
  refine g_aload_n (n := 3) rfl rfl rfl ?_
  refine g_getCl (n := 6) rfl rfl (by rw [z_tail]; exact hz) (by simp) ?_
  refine g_cG3 (n := 9) rfl rfl rfl rfl mt_J7_copyOf_6403c rfl rfl rfl (sc_copyOf3 hz hl hall) ?_
  rintro v h' c1 s1 ⟨rfl, rfl, rfl, rfl⟩
  exact go_ret rfl rfl rfl rfl ⟨rfl, rfl, rfl, rfl⟩
set_option maxRecDepth 20000 in
theorem sc_grow10 (hz : a_at T k = some (.inr (.inl refs))) (hl : refs.length = 10) (hall : ∀ v, some v ∈ refs → a_at (zz (.ref (61 + k)) T) v = some ruleSh) : EvG (d + 3) miJx4a65c_grow_92f84 [.ref 3, .int 11] (hp (zz (.ref (61 + k)) T) M) (fun v h' c s => v = some (.ref (61 + T.length)) ∧ h' = hp (zz (.ref (61 + T.length)) (T ++ [.inr (.inl (refs ++ List.replicate 5 none))])) M ∧ c = 1 ∧ s = 15) := by
  have hz1 : a_at (zz (.ref (61 + k)) T) (61 + k) = some (.inr (.inl refs)) := by rw [z_tail]; exact hz
  refine ev_of mt_Jx4a65c_grow_92f84 rfl ?_
  refine g_aload_n (n := 1) rfl rfl rfl ?_
  refine g_getR (n := 4) rfl rfl z_3 rfl ?_
  refine g_alenR (n := 5) rfl rfl hz1 ?_
  rw [hl]
  refine g_istore_n (n := 6) rfl rfl ?_
  refine g_iload_n (n := 7) rfl rfl rfl ?_
  refine g_zgt (n := 10) rfl rfl (fun h7 => ?_) (fun h7 => absurd h7 (by decide))
  refine g_iload_n (n := 21) rfl rfl rfl ?_
  refine g_iload_n (n := 22) rfl rfl rfl ?_
  refine g_iload_n (n := 23) rfl rfl rfl ?_
  refine g_isub (n := 24) rfl rfl ?_
  refine g_iload_n (n := 25) rfl rfl rfl ?_
  refine g_const (n := 26) rfl rfl (s_iconst (v := 1) (by decide)) ?_
  refine g_ishr (n := 27) rfl rfl ?_
  rw [show (11 : Int32) - Int32.ofNat 10 = 1 from by decide, show Int32.ofNat 10 >>> ((1 : Int32) &&& 31) = 5 from by decide, show Int32.ofNat 10 = 10 from rfl]
  refine g_cP3 (n := 30) rfl rfl rfl rfl mt_J8_newLength_cabcc rfl rfl rfl sc_newLen ?_
  refine g_istore_n (n := 31) rfl rfl ?_
  refine g_aload_n (n := 32) rfl rfl rfl ?_
  refine g_aload_n (n := 33) rfl rfl rfl ?_
  refine g_getR (n := 36) rfl rfl z_3 rfl ?_
  refine g_iload_n (n := 37) rfl rfl rfl ?_
  refine g_cG2 (n := 40) rfl rfl rfl rfl mt_J7_copyOf_1904c rfl rfl rfl (sc_copyOf hz hl hall) ?_
  rintro v h' c1 s1 ⟨rfl, rfl, rfl, rfl⟩
  refine g_dup_x1 (n := 41) rfl rfl ?_
  refine g_putE (n := 44) rfl rfl ?_
  exact go_ret rfl rfl rfl rfl ⟨rfl, rfl, rfl, rfl⟩
end LI
