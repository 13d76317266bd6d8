/-! The program: what seeking comes to -/
section SeekG
variable {E : Value} {T : List SH} {M : Mem} {d n : Nat} {rs : Nat → Nat}
/-- the blows within the bounds, in their order -/
def wlS (al : Nat → Bool) (m : Nat) : List Nat := match m with
  | 0 => []
  | k + 1 => bif al k then wlS al k ++ [k] else wlS al k
def pO (L : List Nat) (i : Nat) : Nat := match i with
  | 0 => 0
  | k + 1 => L.getD k 0 + 1
set_option maxRecDepth 20000 in
theorem pO_app {L : List Nat} {x i : Nat} (h : i ≤ L.length) : pO (L ++ [x]) i = pO L i := by
  cases i with
  | zero => rfl
  | succ i =>
    show (L ++ [x]).getD i 0 + 1 = L.getD i 0 + 1
    rw [getD_app (by omega)]
set_option maxRecDepth 20000 in
theorem wl_gap {al : Nat → Bool} (m : Nat) : (∀ i, i < (wlS al m).length → pO (wlS al m) i ≤ (wlS al m).getD i 0 ∧ (wlS al m).getD i 0 < m ∧ al ((wlS al m).getD i 0) = true ∧ ∀ x, pO (wlS al m) i ≤ x → x < (wlS al m).getD i 0 → al x = false) ∧ pO (wlS al m) (wlS al m).length ≤ m ∧ ∀ x, pO (wlS al m) (wlS al m).length ≤ x → x < m → al x = false := by
  induction m with
  | zero => exact ⟨fun i hi => absurd hi (Nat.not_lt_zero _), Nat.le_refl _, fun x _ hx => absurd hx (by omega)⟩
  | succ m ih =>
    obtain ⟨h1, h2, h3⟩ := ih
    cases hm : al m
    · have e : wlS al (m + 1) = wlS al m := by
        show (bif al m then _ else _) = _
        rw [hm]
        rfl
      rw [e]
      refine ⟨fun i hi => ?_, by omega, fun x g1 g2 => ?_⟩
      · obtain ⟨a1, a2, a3, a4⟩ := h1 i hi
        exact ⟨a1, by omega, a3, a4⟩
      · by_cases ex : x = m
        · rw [ex]; exact hm
        · exact h3 x g1 (by omega)
    · have e : wlS al (m + 1) = wlS al m ++ [m] := by
        show (bif al m then _ else _) = _
        rw [hm]
        rfl
      rw [e, List.length_append]
      have ep : pO (wlS al m ++ [m]) ((wlS al m).length + [m].length) = m + 1 := by
        show (wlS al m ++ [m]).getD (wlS al m).length 0 + 1 = m + 1
        rw [getD_end]
      rw [ep]
      refine ⟨fun i hi => ?_, by omega, fun x g1 g2 => absurd g1 (by omega)⟩
      simp only [List.length_cons, List.length_nil] at hi
      rw [pO_app (by omega)]
      by_cases ei : i = (wlS al m).length
      · rw [ei, getD_end]
        exact ⟨h2, by omega, hm, fun x g1 g2 => h3 x g1 g2⟩
      · rw [getD_app (by omega)]
        obtain ⟨a1, a2, a3, a4⟩ := h1 i (by omega)
        exact ⟨a1, by omega, a3, a4⟩
/-- there are no more than a hundred -/
def cnd (x : Nat) : Bool := (decide (x < 96) && !(decide (x / 4 % 4 = x % 4))) || decide (200 ≤ x)
def cnE (m : Nat) : Nat := match m with
  | 0 => 0
  | k + 1 => cnE k + (bif cnd k then 1 else 0)
set_option maxRecDepth 20000 in
theorem cnE_mono {a b : Nat} (h : a ≤ b) : cnE a ≤ cnE b := by
  induction b with
  | zero => rw [show a = 0 by omega]; exact Nat.le_refl _
  | succ b ih =>
    by_cases e : a = b + 1
    · rw [e]; exact Nat.le_refl _
    · have := ih (by omega)
      show cnE a ≤ cnE b + _
      omega
set_option maxRecDepth 20000 in
theorem cnE_227 : cnE 227 = 99 := by decide +kernel
set_option maxRecDepth 20000 in
theorem cnE_228 : cnE 228 = 100 := by decide +kernel
set_option maxRecDepth 20000 in
theorem wl_len {al : Nat → Bool} (h : ∀ x, x < 228 → al x = true → cnd x = true) : ∀ m, m ≤ 228 → (wlS al m).length ≤ cnE m := by
  intro m
  induction m with
  | zero => intro _; exact Nat.le_refl _
  | succ m ih =>
    intro hm
    have h1 := ih (by omega)
    show (bif al m then wlS al m ++ [m] else wlS al m).length ≤ cnE m + (bif cnd m then 1 else 0)
    cases hb : al m
    · show (wlS al m).length ≤ _
      omega
    · rw [h m (by omega) hb]
      show (wlS al m ++ [m]).length ≤ cnE m + 1
      rw [List.length_append]
      simp only [List.length_cons, List.length_nil]
      omega
/-- which blows are allowed, which two together -/
def ALW (M : Mem) (al : Nat → Bool) : Prop := ∀ x, x < 228 → cAllow M (M 1 2) (Int32.ofNat x) = al x
def BOT (M : Mem) (bo : Nat → Nat → Bool) : Prop := ∀ a b, a < 228 → b < 228 → cBoth M (Int32.ofNat a) (Int32.ofNat b) = bo a b
set_option maxRecDepth 20000 in
theorem ALW.cg {M' : Mem} {al : Nat → Bool} (h : ALW M al) (e1 : M' 1 2 = M 1 2) (e2 : ∀ j, M' 10 j = M 10 j) : ALW M' al := by
  intro x hx
  rw [← h x hx]
  unfold cAllow cMost
  rw [e1, e2 0, e2 1, e2 2]
set_option maxRecDepth 20000 in
theorem BOT.cg {M' : Mem} {bo : Nat → Nat → Bool} (h : BOT M bo) (e2 : ∀ j, M' 10 j = M 10 j) : BOT M' bo := by
  intro a b ha hb
  rw [← h a b ha hb]
  unfold cBoth cMost
  rw [e2 0, e2 1]
set_option maxRecDepth 20000 in
theorem ALW.bl {al : Nat → Bool} {e x : Nat} (h : ALW M al) (he : M 1 2 = Int32.ofNat e) (hx : x < 228) (ha : al x = true) : cBlow (Int32.ofNat e) (Int32.ofNat x) = true := by
  have h1 := h x hx
  rw [ha, he] at h1
  unfold cAllow at h1
  simp only [Bool.and_eq_true] at h1
  exact h1.2.2
set_option maxRecDepth 20000 in
theorem ALW.cn {al : Nat → Bool} {e : Nat} (h : ALW M al) (he : M 1 2 = Int32.ofNat e) (he6 : e ≤ 6) : ∀ x, x < 228 → al x = true → cnd x = true := by
  intro x hx ha
  obtain ⟨-, -, -, -, h5⟩ := blN he6 hx (h.bl he hx ha)
  unfold cnd
  by_cases hl : x < 200
  · obtain ⟨a1, a2⟩ := h5 hl
    rw [decide_eq_true (show x < 96 by omega), decide_eq_false a2]
    rfl
  · rw [decide_eq_true (show 200 ≤ x by omega), Bool.or_true]
def LST (M : Mem) (L : List Nat) : Prop := M 11 8 = Int32.ofNat L.length ∧ ∀ k, k < L.length → M 12 k = Int32.ofNat (L.getD k 0)
def kW (q j : Nat) : Bool := Nat.beq q 12 || (Nat.beq q 11 && Nat.beq j 8)
set_option maxRecDepth 20000 in
theorem lq_listWithin {al : Nat → Bool} {e : Nat} (hA : ALW M al) (he : M 1 2 = Int32.ofNat e) (he6 : e ≤ 6) : ∀ i, i ≤ 228 → ∀ M1, Fr kW M M1 → LST M1 (wlS al i) → Go [] (d + 4) none tabX5_listWithin 7 [(0, .ref 11), (1, .int (Int32.ofNat i))] [] (hp (zz E T) M1) 0 0 (QV (zz E T) (fun M1 => Fr kW M M1 ∧ LST M1 (wlS al 228))) := by
  have hlen := wl_len (hA.cn he he6)
  have c1 := cnE_227
  have c2 := cnE_228
  refine loop_up 228 ?_
  intro i hi ih M1 k1 hL
  have hA1 : ALW M1 al := hA.cg (k1 1 2 rfl) (fun j => k1 10 j rfl)
  have hw := hlen i hi
  have hw2 : (wlS al i).length ≤ 100 := by have := cnE_mono hi; omega
  obtain ⟨ew, hb⟩ := id hL
  refine g_iload_n (n := 8) rfl rfl rfl ?_
  refine g_const (n := 11) rfl rfl (s_sipush (v := 228) (by decide)) ?_
  refine g_ige (n := 14) rfl rfl (fun h11 => ?_) (fun h11 => ?_)
  · skip
    have g9 := (jn_le (b := i) (a := 228) (by omega) (by omega)).mp h11
    refine g_retV rfl ?_
    obtain rfl : i = 228 := by omega
    exact ⟨k1, hL⟩
  · skip
    have g9 := (jn_lt (b := 228) (a := i) (by omega) (by omega)).mp h11
    have hw3 : (wlS al i).length ≤ 99 := by have := cnE_mono (show i ≤ 227 by omega); omega
    refine g_aload_n (n := 15) rfl rfl rfl ?_
    refine g_getI (n := 18) rfl rfl z_11 rfl ?_
    refine g_const (n := 20) rfl rfl (s_bipush (v := 100) (by decide)) ?_
    refine g_ige (n := 23) rfl rfl (fun h20 => ?_) (fun h20 => ?_)
    · skip
      rw [ew] at h20
      exact absurd ((jn_le (a := 100) (by omega) (by omega)).mp h20) (by omega)
    · skip
      refine g_aload_n (n := 24) rfl rfl rfl ?_
      refine g_getR (n := 27) rfl rfl z_11 rfl ?_
      refine g_iload_n (n := 28) rfl rfl rfl ?_
      refine g_aload_n (n := 29) rfl rfl rfl ?_
      refine g_getR (n := 32) rfl rfl z_11 rfl ?_
      refine g_getI (n := 35) rfl rfl z_1 rfl ?_
      refine g_cP3 (n := 38) rfl rfl rfl rfl mt_X1_allowOne rfl rfl (r_k z_10) (sc_allowOne) ?_
      refine g_bz (n := 41) rfl rfl (fun h38 => ?_) (fun h38 => ?_)
      · skip
        rw [hA1 i g9] at h38
        have e : wlS al (i + 1) = wlS al i := by
          show (bif al i then _ else _) = _
          rw [h38]
          rfl
        refine g_iinc (n := 64) rfl rfl rfl (jn_1 _) ?_
        refine g_goto rfl ?_
        exact ih g9 M1 k1 (by rw [e]; exact hL)
      · skip
        rw [hA1 i g9] at h38
        have e : wlS al (i + 1) = wlS al i ++ [i] := by
          show (bif al i then _ else _) = _
          rw [h38]
          rfl
        refine g_aload_n (n := 42) rfl rfl rfl ?_
        refine g_getR (n := 45) rfl rfl z_11 rfl ?_
        refine g_aload_n (n := 46) rfl rfl rfl ?_
        refine g_getI (n := 49) rfl rfl z_11 rfl ?_
        refine g_iload_n (n := 50) rfl rfl rfl ?_
        refine g_iast (n := 51) rfl rfl z_12 rfl ew (by omega) ?_
        refine g_aload_n (n := 52) rfl rfl rfl ?_
        refine g_dup (n := 53) rfl rfl ?_
        refine g_getI (n := 56) rfl rfl z_11 rfl ?_
        refine g_const (n := 57) rfl rfl (s_iconst (v := 1) (by decide)) ?_
        refine g_iadd (n := 58) rfl rfl ?_
        refine g_putI (n := 61) rfl rfl z_11 rfl rfl ?_
        refine g_iinc (n := 64) rfl rfl rfl (jn_1 _) ?_
        refine g_goto rfl ?_
        refine ih g9 _ ((k1.up rfl).up rfl) ?_
        rw [e]
        refine ⟨?_, fun k hk => ?_⟩
        · show M1 11 8 + 1 = _
          rw [ew, List.length_append]
          exact jn_add _ 1
        · show mup M1 12 (wlS al i).length (Int32.ofNat i) 12 k = _
          rw [List.length_append] at hk
          simp only [List.length_cons, List.length_nil] at hk
          by_cases e2 : k = (wlS al i).length
          · rw [e2, mup_same, getD_end]
          · rw [mup_j e2, getD_app (by omega)]
            exact hb k (by omega)
set_option maxRecDepth 20000 in
theorem sd_listWithin {al : Nat → Bool} {e : Nat} (hA : ALW M al) (he : M 1 2 = Int32.ofNat e) (he6 : e ≤ 6) : EvV (d + 5) miX5_listWithin [.ref 11] (zz E T) M (fun M1 => Fr kW M M1 ∧ LST M1 (wlS al 228)) := by
  refine ev_of mt_X5_listWithin rfl ?_
  refine g_aload_n (n := 1) rfl rfl rfl ?_
  refine g_const (n := 2) rfl rfl (s_iconst (v := 0) (by decide)) ?_
  refine g_putI (n := 5) rfl rfl z_11 rfl rfl ?_
  refine g_const (n := 6) rfl rfl (s_iconst (v := 0) (by decide)) ?_
  refine g_istore_n (n := 7) rfl rfl ?_
  refine lq_listWithin hA he he6 0 (by omega) _ (Fr.rf.up rfl) ⟨rfl, fun k hk => absurd hk (Nat.not_lt_zero _)⟩
def ntB (M : Mem) (s x y : Int32) : Mem := if M 11 11 = 9 then mup (mup (mup M 11 11 s) 11 12 x) 11 13 y else M
set_option maxRecDepth 20000 in
theorem sd_noteBreak {s x y : Int32} : EvV (d + 1) miX5_noteBreak [.ref 11, .int s, .int x, .int y] (zz E T) M (fun M' => M' = ntB M s x y) := by
  refine ev_of mt_X5_noteBreak rfl ?_
  refine g_aload_n (n := 1) rfl rfl rfl ?_
  refine g_getI (n := 4) rfl rfl z_11 rfl ?_
  refine g_const (n := 6) rfl rfl (s_bipush (v := 9) (by decide)) ?_
  refine g_ine (n := 9) rfl rfl (fun h6 => ?_) (fun h6 => ?_)
  · skip
    refine g_retV rfl ?_
    first | (unfold ntB; rw [if_neg h6]) | (unfold ntB; rw [if_pos h6])
  · skip
    refine g_aload_n (n := 10) rfl rfl rfl ?_
    refine g_iload_n (n := 11) rfl rfl rfl ?_
    refine g_putI (n := 14) rfl rfl z_11 rfl rfl ?_
    refine g_aload_n (n := 15) rfl rfl rfl ?_
    refine g_iload_n (n := 16) rfl rfl rfl ?_
    refine g_putI (n := 19) rfl rfl z_11 rfl rfl ?_
    refine g_aload_n (n := 20) rfl rfl rfl ?_
    refine g_iload_n (n := 21) rfl rfl rfl ?_
    refine g_putI (n := 24) rfl rfl z_11 rfl rfl ?_
    refine g_retV rfl ?_
    first | (unfold ntB; rw [if_neg h6]) | (unfold ntB; rw [if_pos h6])
/-- what seeking writes while it goes through the listed blows -/
def kS (q j : Nat) : Bool := cSc q j || (Nat.beq q 13 || (Nat.beq q 11 && (Nat.beq j 11 || (Nat.beq j 12 || Nat.beq j 13))))
set_option maxRecDepth 20000 in
theorem kS_of {q j : Nat} (h : cSc q j = true) : kS q j = true := by unfold kS; rw [h]; rfl
set_option maxRecDepth 20000 in
theorem kS_hi {q j : Nat} (h : 61 ≤ q) : kS q j = false := by
  have e : ∀ k, k < 61 → Nat.beq q k = false := fun k hk => by
    cases hb : Nat.beq q k with
    | false => rfl
    | true => have := Nat.eq_of_beq_eq_true hb; omega
  simp only [kS, cSc_hi h, e 13 (by omega), e 11 (by omega), Bool.false_and, Bool.or_self]
set_option maxRecDepth 20000 in
theorem ntB_fr {S : Nat → Nat → Bool} {M1 : Mem} {s x y : Int32} (h : Fr S M M1) (h1 : S 11 11 = true) (h2 : S 11 12 = true) (h3 : S 11 13 = true) : Fr S M (ntB M1 s x y) := by
  unfold ntB
  split
  · exact ((h.up h1).up h2).up h3
  · exact h
set_option maxRecDepth 20000 in
theorem ntB_q {s x y : Int32} {q : Nat} (h : q ≠ 11) : ntB M s x y q = M q := by
  unfold ntB
  split
  · rw [mup_q h, mup_q h, mup_q h]
  · rfl
/-- the cells that tell what was found -/
def FC (M : Mem) (s l o : Int32) : Prop := M 11 11 = s ∧ M 11 12 = l ∧ M 11 13 = o
def SM (M M' : Mem) : Prop := (∀ j, M' 13 j = M 13 j) ∧ M' 11 11 = M 11 11 ∧ M' 11 12 = M 11 12 ∧ M' 11 13 = M 11 13
set_option maxRecDepth 20000 in
theorem FC.sm {M' : Mem} {s l o : Int32} (h : FC M s l o) (k : SM M M') : FC M' s l o := ⟨k.2.1.trans h.1, k.2.2.1.trans h.2.1, k.2.2.2.trans h.2.2⟩
set_option maxRecDepth 20000 in
theorem SM.of {b : Nat} {M' : Mem} (hb : IsRun b) (h : Fr (kR b) M M') : SM M M' := by
  have hg := hb.rg
  have e : ∀ q j, q = 11 ∨ q = 13 → M' q j = M q j := fun q j hq => h q j (kR_no (by omega) (by omega) (by omega) (by omega))
  exact ⟨fun j => e 13 j (by omega), e 11 11 (by omega), e 11 12 (by omega), e 11 13 (by omega)⟩
set_option maxRecDepth 20000 in
theorem SM.tr {M1 M2 : Mem} (h : SM M M1) (h2 : SM M1 M2) : SM M M2 := ⟨fun j => (h2.1 j).trans (h.1 j), h2.2.1.trans h.2.1, h2.2.2.1.trans h.2.2.1, h2.2.2.2.trans h.2.2.2⟩
def O1 (p1 : Nat → Bool) (m : Nat) (M : Mem) : Prop := (∀ x, x < 228 → M 13 x = Int32.ofNat (bif decide (x < m) && p1 x then 1 else 0)) ∧ (((∀ x, x < m → p1 x = false) ∧ FC M 9 (-1) (-1)) ∨ ∃ a, a < m ∧ p1 a = true ∧ (∀ x, x < a → p1 x = false) ∧ FC M 1 (Int32.ofNat a) (-1))
set_option maxRecDepth 20000 in
theorem O1.skip {p1 : Nat → Bool} {m m' : Nat} {M' : Mem} (h : O1 p1 m M) (hm : m ≤ m') (hz : ∀ x, m ≤ x → x < m' → p1 x = false) (k : SM M M') : O1 p1 m' M' := by
  refine ⟨fun x hx => ?_, ?_⟩
  · rw [k.1, h.1 x hx]
    by_cases g : x < m
    · rw [decide_eq_true g, decide_eq_true (show x < m' by omega)]
    · rw [decide_eq_false g]
      by_cases g2 : x < m'
      · rw [hz x (by omega) g2, Bool.and_false, Bool.and_false]
      · rw [decide_eq_false g2]
  · rcases h.2 with ⟨h1, h2⟩ | ⟨a, h1, h2, h3, h4⟩
    · refine Or.inl ⟨fun x hx => ?_, h2.sm k⟩
      by_cases g : x < m
      · exact h1 x g
      · exact hz x (by omega) hx
    · exact Or.inr ⟨a, by omega, h2, h3, h4.sm k⟩
set_option maxRecDepth 20000 in
theorem O1.yes {p1 : Nat → Bool} {x : Nat} (h : O1 p1 x M) (hx : x < 228) (hp : p1 x = true) : O1 p1 (x + 1) (ntB (mup M 13 x (M 13 x + 1)) 1 (Int32.ofNat x) (-1)) := by
  have e13 : ∀ y, y < 228 → ntB (mup M 13 x (M 13 x + 1)) 1 (Int32.ofNat x) (-1) 13 y = Int32.ofNat (bif decide (y < x + 1) && p1 y then 1 else 0) := fun y hy => by
    rw [ntB_q (by omega)]
    by_cases e : y = x
    · rw [e, mup_same, h.1 x hx, decide_eq_false (Nat.lt_irrefl x), decide_eq_true (Nat.lt_succ_self x), hp]
      rfl
    · rw [mup_j e, h.1 y hy]
      by_cases g : y < x
      · rw [decide_eq_true g, decide_eq_true (show y < x + 1 by omega)]
      · rw [decide_eq_false g, decide_eq_false (show ¬ y < x + 1 by omega)]
  refine ⟨e13, ?_⟩
  rcases h.2 with ⟨h1, h2⟩ | ⟨a, h1, h2, h3, h4⟩
  · right
    refine ⟨x, by omega, hp, h1, ?_⟩
    unfold ntB
    rw [if_pos (show mup M 13 x (M 13 x + 1) 11 11 = 9 from h2.1)]
    exact ⟨rfl, rfl, rfl⟩
  · right
    refine ⟨a, by omega, h2, h3, ?_⟩
    unfold ntB
    rw [if_neg (show ¬ mup M 13 x (M 13 x + 1) 11 11 = 9 from fun q => by
      have q : M 11 11 = 9 := q
      rw [h4.1] at q
      exact absurd q (by decide))]
    exact ⟨h4.1, h4.2.1, h4.2.2⟩
/-- while it goes through them -/
def WS (M : Mem) (V : VW) (M1 : Mem) : Prop := Fr kS M M1 ∧ Memo M1 (vR V) ∧ RunI M1 15 V [] 7
set_option maxRecDepth 20000 in
theorem WS.cx {V : VW} {M1 : Mem} (hX : CX E T M n rs V) (h : WS M V M1) : CX E T M1 n rs V := hX.fr h.1 rfl (fun _ => rfl) rfl (fun _ _ hq => kS_hi hq) (fun _ => rfl)
set_option maxRecDepth 20000 in
theorem WS.run {V : VW} {b : Nat} {M1 M2 : Mem} (h : WS M V M1) (hb : IsRun b) (hne : b ≠ 15) (k : Fr (kR b) M1 M2) (m : Memo M2 (vR V)) : WS M V M2 := by
  refine ⟨h.1.tr (Fr.mono (S := cSc) (k.sc hb) (fun _ _ => kS_of)), m, h.2.2.oth k ?_ (by omega)⟩
  rcases hb with rfl | rfl | rfl | rfl <;> omega
set_option maxRecDepth 20000 in
theorem Memo.lo {R : RW} {M' : Mem} (h : Memo M R) (k : ∀ q j, q < 15 → M' q j = M q j) : Memo M' R := h.cg (fun j => k 7 j (by omega)) (fun j => k 8 j (by omega)) (fun j => k 9 j (by omega))
set_option maxRecDepth 20000 in
theorem RunI.lw {b c : Nat} {V : VW} {bl : List Nat} {M' : Mem} (h : RunI M b V bl c) (k : ∀ q j, 15 ≤ q → M' q j = M q j) (h15 : 15 ≤ b := by omega) : RunI M' b V bl c := by
  obtain ⟨h1, h2, h3, h4⟩ := h
  refine ⟨h1, (k b 6 h15).trans h2, h3.cg (fun j => k _ j (by omega)) (fun j => k _ j (by omega)), fun t ht hte i hi => ?_⟩
  rw [k (b + 2) _ (by omega), k (b + 1) _ (by omega)]
  refine ⟨(h4 t ht hte i hi).1, fun g hg => ?_, (h4 t ht hte i hi).2.2⟩
  rw [k (b + 3) _ (by omega)]
  exact (h4 t ht hte i hi).2.1 g hg
def P1 (V : VW) (al : Nat → Bool) (a : Nat) : Bool := al a && bk V [a]
def P2 (V : VW) (al : Nat → Bool) (bo : Nat → Nat → Bool) (a b : Nat) : Bool := al a && (al b && (bo a b && bk V [a, b]))
set_option maxRecDepth 20000 in
theorem lq_ones {V : VW} {al : Nat → Bool} (hX : CX E T M n rs V) (hA : ALW M al) (hL : LST M (wlS al 228)) (h0 : bk V [] = false) : ∀ i, i ≤ (wlS al 228).length → ∀ M1, WS M V M1 → O1 (P1 V al) (pO (wlS al 228) i) M1 → Go [] (d + 7) none tabX5_lookAtOnes 2 [(0, .ref 11), (1, .int (Int32.ofNat i))] [] (hp (zz E T) M1) 0 0 (QV (zz E T) (fun M1 => WS M V M1 ∧ O1 (P1 V al) 228 M1)) := by
  obtain ⟨he, he6⟩ := hX.2.2.2.1
  obtain ⟨gp1, gp2, gp3⟩ := wl_gap (al := al) 228
  have hlen : (wlS al 228).length ≤ 100 := by have := wl_len (hA.cn he he6) 228 (by omega); have := cnE_228; omega
  refine loop_up (wlS al 228).length ?_
  intro i hi ih M1 k1 o1
  refine g_iload_n (n := 3) rfl rfl rfl ?_
  refine g_aload_n (n := 4) rfl rfl rfl ?_
  refine g_getI (n := 7) rfl rfl z_11 rfl ?_
  refine g_ige (n := 10) rfl rfl (fun h7 => ?_) (fun h7 => ?_)
  · skip
    rw [k1.1 11 8 rfl, hL.1] at h7
    have g9 := (jn_le (by omega) (by omega)).mp h7
    refine g_retV rfl ?_
    refine ⟨k1, o1.skip (by rw [show i = (wlS al 228).length by omega]; exact gp2) (fun y g1 g2 => ?_) ⟨fun _ => rfl, rfl, rfl, rfl⟩⟩
    rw [show i = (wlS al 228).length by omega] at g1
    unfold P1
    rw [gp3 y g1 g2, Bool.false_and]
  · skip
    rw [k1.1 11 8 rfl, hL.1] at h7
    have g9 := (jn_lt (by omega) (by omega)).mp h7
    obtain ⟨a1, hx, ax, a4⟩ := gp1 i g9
    obtain ⟨x, ex⟩ : ∃ x, x = (wlS al 228).getD i 0 := ⟨_, rfl⟩
    have e12 : M1 12 i = Int32.ofNat x := by rw [k1.1 12 i rfl, hL.2 i g9, ex]
    have epi : pO (wlS al 228) (i + 1) = x + 1 := by rw [ex]; rfl
    rw [← ex] at a1 hx ax a4
    have hbl := hA.bl he hx ax
    have sk : ∀ M2, SM M1 M2 → O1 (P1 V al) x M2 := fun M2 k => o1.skip a1 (fun y g1 g2 => by unfold P1; rw [a4 y g1 g2, Bool.false_and]) k
    have no : P1 V al x = false → ∀ M2, SM M1 M2 → O1 (P1 V al) (pO (wlS al 228) (i + 1)) M2 := fun hp M2 k => by
      rw [epi]
      refine (sk M2 k).skip (by omega) (fun y g1 g2 => ?_) ⟨fun _ => rfl, rfl, rfl, rfl⟩
      rw [show y = x by omega]
      exact hp
    refine g_aload_n (n := 11) rfl rfl rfl ?_
    refine g_getR (n := 14) rfl rfl z_11 rfl ?_
    refine g_iload_n (n := 15) rfl rfl rfl ?_
    refine g_iald (n := 16) rfl rfl z_12 rfl rfl (by omega) ?_
    rw [e12]
    refine g_istore_n (n := 17) rfl rfl ?_
    refine g_aload_n (n := 18) rfl rfl rfl ?_
    refine g_getR (n := 21) rfl rfl z_11 rfl ?_
    refine g_iload_n (n := 22) rfl rfl rfl ?_
    refine g_cP2 (n := 25) rfl rfl rfl rfl mt_X4_feels rfl rfl (r_k z_15) (sd_feels run15 hx hbl he6 k1.2.2) ?_
    refine g_bz (n := 28) rfl rfl (fun h25 => ?_) (fun h25 => ?_)
    · skip
      refine g_iinc (n := 77) rfl rfl rfl (jn_1 _) ?_
      refine g_goto rfl ?_
      refine go_only 2 ?_
      refine ih g9 _ k1 (no ?_ M1 ⟨fun _ => rfl, rfl, rfl, rfl⟩)
      unfold P1
      rw [unfelt h25 he6 hX.2.2.2.2.1.2.1 hX.2.2.2.2.2.1.2, h0, Bool.and_false]
    · skip
      refine g_aload_n (n := 29) rfl rfl rfl ?_
      refine g_getR (n := 32) rfl rfl z_11 rfl ?_
      refine g_aload_n (n := 33) rfl rfl rfl ?_
      refine g_getR (n := 36) rfl rfl z_11 rfl ?_
      refine g_iload_n (n := 37) rfl rfl rfl ?_
      refine g_cV3 (n := 40) rfl rfl rfl rfl mt_X4_strikeLike rfl rfl (r_k z_21) (sd_strikeLike run21 run15 (by omega) hx hbl he6 k1.2.2) ?_
      rintro M2 ⟨f2, l2, i2⟩
      have k2 := k1.run run21 (by omega) f2 (k1.2.1.lo l2)
      refine g_aload_n (n := 41) rfl rfl rfl ?_
      refine g_getR (n := 44) rfl rfl z_11 rfl ?_
      refine g_cV1 (n := 47) rfl rfl rfl rfl mt_X4_goOn rfl rfl (r_k z_21) (sd_goOn run21 (WS.cx hX k2) k2.2.1 i2) ?_
      rintro M3 ⟨f3, m3, i3⟩
      have k3 := k2.run run21 (by omega) f3 m3
      have s3 : SM M1 M3 := (SM.of run21 f2).tr (SM.of run21 f3)
      refine g_aload_n (n := 48) rfl rfl rfl ?_
      refine g_getR (n := 51) rfl rfl z_11 rfl ?_
      refine g_cP1 (n := 54) rfl rfl rfl rfl mt_X4_breaks rfl rfl (r_k z_21) (sd_breaks run21 (WS.cx hX k3) i3) ?_
      refine g_bz (n := 57) rfl rfl (fun h54 => ?_) (fun h54 => ?_)
      · skip
        refine g_iinc (n := 77) rfl rfl rfl (jn_1 _) ?_
        refine g_goto rfl ?_
        refine go_only 2 ?_
        refine ih g9 _ k3 (no ?_ M3 s3)
        unfold P1
        rw [h54, Bool.and_false]
      · skip
        refine g_aload_n (n := 58) rfl rfl rfl ?_
        refine g_getR (n := 61) rfl rfl z_11 rfl ?_
        refine g_iload_n (n := 62) rfl rfl rfl ?_
        refine g_dup2 (n := 63) rfl rfl ?_
        refine g_iald (n := 64) rfl rfl z_13 rfl rfl hx ?_
        refine g_const (n := 65) rfl rfl (s_iconst (v := 1) (by decide)) ?_
        refine g_iadd (n := 66) rfl rfl ?_
        refine g_iast (n := 67) rfl rfl z_13 rfl rfl hx ?_
        refine g_aload_n (n := 68) rfl rfl rfl ?_
        refine g_const (n := 69) rfl rfl (s_iconst (v := 1) (by decide)) ?_
        refine g_iload_n (n := 70) rfl rfl rfl ?_
        refine g_const (n := 71) rfl rfl (s_iconst (v := (-1)) (by decide)) ?_
        refine g_cV4 (n := 74) rfl rfl rfl rfl mt_X5_noteBreak rfl rfl (r_k z_11) (sd_noteBreak) ?_
        rintro M4 rfl
        refine g_iinc (n := 77) rfl rfl rfl (jn_1 _) ?_
        refine g_goto rfl ?_
        refine go_only 2 ?_
        refine ih g9 _ ⟨ntB_fr (k3.1.up rfl) rfl rfl rfl, ?_, ?_⟩ ?_
        · exact k3.2.1.cg (fun j => by rw [ntB_q (by omega), mup_q (by omega)]) (fun j => by rw [ntB_q (by omega), mup_q (by omega)]) (fun j => by rw [ntB_q (by omega), mup_q (by omega)])
        · exact k3.2.2.lw (fun q j hq => by rw [ntB_q (by omega), mup_q (by omega)])
        · rw [epi]
          exact (sk M3 s3).yes hx (by unfold P1; rw [ax, h54]; rfl)
set_option maxRecDepth 20000 in
theorem sd_ones {V : VW} {al : Nat → Bool} (hX : CX E T M n rs V) (hA : ALW M al) (hL : LST M (wlS al 228)) (h0 : bk V [] = false) (hM : Memo M (vR V)) (hI : RunI M 15 V [] 7) (ho : O1 (P1 V al) 0 M) : EvV (d + 8) miX5_lookAtOnes [.ref 11] (zz E T) M (fun M1 => WS M V M1 ∧ O1 (P1 V al) 228 M1) := by
  refine ev_of mt_X5_lookAtOnes rfl ?_
  refine g_const (n := 1) rfl rfl (s_iconst (v := 0) (by decide)) ?_
  refine g_istore_n (n := 2) rfl rfl ?_
  exact lq_ones hX hA hL h0 0 (Nat.zero_le _) M ⟨Fr.rf, hM, hI⟩ ho
-- pairs
def O2 (p2 : Nat → Nat → Bool) (a m : Nat) (M : Mem) : Prop := (∀ x, x < 228 → M 13 x = Int32.ofNat (prS p2 x a m)) ∧ (((∀ x y, x < a → x < y → y < 228 → p2 x y = false) ∧ (∀ y, a < y → y < m → p2 a y = false) ∧ FC M 9 (-1) (-1)) ∨ ∃ a' b', a' < b' ∧ b' < 228 ∧ p2 a' b' = true ∧ (∀ x y, x < a' → x < y → y < 228 → p2 x y = false) ∧ (∀ y, a' < y → y < b' → p2 a' y = false) ∧ FC M 2 (Int32.ofNat a') (Int32.ofNat b'))
set_option maxRecDepth 20000 in
theorem rwS_z {p2 : Nat → Nat → Bool} {x a m m' : Nat} (hm : m ≤ m') (h : ∀ y, m ≤ y → y < m' → a < y → p2 a y = false) : rwS p2 x a m' = rwS p2 x a m := by
  unfold rwS
  refine sumN_skip hm (fun y g1 g2 => ?_)
  by_cases g : a < y
  · rw [h y g1 g2 g, Bool.false_and, Bool.and_false]
    rfl
  · rw [decide_eq_false g, Bool.false_and]
    rfl
set_option maxRecDepth 20000 in
theorem O2.sm {p2 : Nat → Nat → Bool} {a m : Nat} {M' : Mem} (h : O2 p2 a m M) (k : SM M M') : O2 p2 a m M' := by
  refine ⟨fun x hx => by rw [k.1]; exact h.1 x hx, ?_⟩
  rcases h.2 with ⟨h1, h2, h3⟩ | ⟨a', b', h1, h2, h3, h4, h5, h6⟩
  · exact Or.inl ⟨h1, h2, h3.sm k⟩
  · exact Or.inr ⟨a', b', h1, h2, h3, h4, h5, h6.sm k⟩
set_option maxRecDepth 20000 in
theorem O2.skB {p2 : Nat → Nat → Bool} {a m m' : Nat} (h : O2 p2 a m M) (hm : m ≤ m') (hz : ∀ y, m ≤ y → y < m' → a < y → p2 a y = false) : O2 p2 a m' M := by
  refine ⟨fun x hx => ?_, ?_⟩
  · rw [h.1 x hx]
    unfold prS
    rw [rwS_z hm hz]
  · rcases h.2 with ⟨h1, h2, h3⟩ | h2
    · refine Or.inl ⟨h1, fun y g1 g2 => ?_, h3⟩
      by_cases g : y < m
      · exact h2 y g1 g
      · exact hz y (by omega) g2 g1
    · exact Or.inr h2
set_option maxRecDepth 20000 in
theorem O2.nxt {p2 : Nat → Nat → Bool} {a : Nat} (h : O2 p2 a 228 M) : O2 p2 (a + 1) 0 M := by
  refine ⟨fun x hx => ?_, ?_⟩
  · rw [h.1 x hx]
    rfl
  · rcases h.2 with ⟨h1, h2, h3⟩ | h2
    · refine Or.inl ⟨fun x y g1 g2 g3 => ?_, fun y g1 g2 => absurd g2 (by omega), h3⟩
      by_cases g : x = a
      · subst g; exact h2 y g2 g3
      · exact h1 x y (by omega) g2 g3
    · exact Or.inr h2
set_option maxRecDepth 20000 in
theorem O2.skA {p2 : Nat → Nat → Bool} {a a' : Nat} (h : O2 p2 a 0 M) (ha : a ≤ a') (hz : ∀ x, a ≤ x → x < a' → ∀ y, p2 x y = false) : O2 p2 a' 0 M := by
  have key : ∀ k, a + k ≤ a' → O2 p2 (a + k) 0 M := by
    intro k
    induction k with
    | zero => intro _; exact h
    | succ k ih =>
      intro hk
      exact ((ih (by omega)).skB (m' := 228) (by omega) (fun y _ _ _ => hz (a + k) (by omega) (by omega) y)).nxt
  have := key (a' - a) (by omega)
  rw [show a + (a' - a) = a' by omega] at this
  exact this
set_option maxRecDepth 20000 in
theorem O2.yes {p2 : Nat → Nat → Bool} {a y : Nat} (h : O2 p2 a y M) (hay : a < y) (hy : y < 228) (hp : p2 a y = true) : O2 p2 a (y + 1) (ntB (mup (mup M 13 a (M 13 a + 1)) 13 y (mup M 13 a (M 13 a + 1) 13 y + 1)) 2 (Int32.ofNat a) (Int32.ofNat y)) := by
  have st : ∀ x, prS p2 x a (y + 1) = prS p2 x a y + (bif decide (x = a) || decide (x = y) then 1 else 0) := fun x => by
    show sumN _ a + (rwS p2 x a y + (bif decide (a < y) && (p2 a y && (decide (x = a) || decide (x = y))) then 1 else 0)) = _
    rw [decide_eq_true hay, hp, Bool.true_and, Bool.true_and, ← Nat.add_assoc]
    rfl
  refine ⟨fun x hx => ?_, ?_⟩
  · rw [ntB_q (by omega), st x]
    by_cases e1 : x = y
    · rw [e1, mup_same, mup_j (by omega), h.1 y hy, decide_eq_true (rfl : y = y), Bool.or_true]
      exact jn_add _ 1
    · rw [mup_j e1]
      by_cases e2 : x = a
      · rw [e2, mup_same, h.1 a (by omega), decide_eq_true (rfl : a = a), Bool.true_or]
        exact jn_add _ 1
      · rw [mup_j e2, h.1 x hx, decide_eq_false e1, decide_eq_false e2]
        rfl
  · rcases h.2 with ⟨h1, h2, h3⟩ | ⟨a', b', h1, h2, h3, h4, h5, h6⟩
    · right
      refine ⟨a, y, hay, hy, hp, h1, h2, ?_⟩
      unfold ntB
      rw [if_pos (show mup (mup M 13 a (M 13 a + 1)) 13 y (mup M 13 a (M 13 a + 1) 13 y + 1) 11 11 = 9 from h3.1)]
      exact ⟨rfl, rfl, rfl⟩
    · right
      refine ⟨a', b', h1, h2, h3, h4, h5, ?_⟩
      unfold ntB
      rw [if_neg (show ¬ mup (mup M 13 a (M 13 a + 1)) 13 y (mup M 13 a (M 13 a + 1) 13 y + 1) 11 11 = 9 from fun q => by
        have q : M 11 11 = 9 := q
        rw [h6.1] at q
        exact absurd q (by decide))]
      exact ⟨h6.1, h6.2.1, h6.2.2⟩
set_option maxRecDepth 20000 in
theorem bk_sw {V : VW} {a b : Nat} : bk V [a, b] = bk V [b, a] := bk_perm (fun x => by simp [or_comm])
set_option maxRecDepth 20000 in
theorem lq_pairs40 {V : VW} {al : Nat → Bool} {bo : Nat → Nat → Bool} {a i0 : Nat} (hX : CX E T M n rs V) (hA : ALW M al) (hB : BOT M bo) (hL : LST M (wlS al 228)) (h1 : ∀ x, x < 228 → P1 V al x = false) (ha : a < 228) (ala : al a = true) (hi0 : i0 < (wlS al 228).length) (hp0 : pO (wlS al 228) (i0 + 1) = a + 1) {Q : QT} (K : ∀ M1, WS M V M1 → O2 (P2 V al bo) a 228 M1 → Go [] (d + 7) none tabX5_lookAtPairs 149 [(0, .ref 11), (1, .int (Int32.ofNat i0))] [] (hp (zz E T) M1) 0 0 Q) : ∀ i, i ≤ (wlS al 228).length → i0 < i → ∀ M1, WS M V M1 → RunI M1 21 V [a] 7 → a + 1 ≤ pO (wlS al 228) i → O2 (P2 V al bo) a (pO (wlS al 228) i) M1 → Go [] (d + 7) none tabX5_lookAtPairs 40 [(0, .ref 11), (1, .int (Int32.ofNat i0)), (2, .int (Int32.ofNat a)), (3, .int (Int32.ofNat i))] [] (hp (zz E T) M1) 0 0 Q := by
  obtain ⟨he, he6⟩ := hX.2.2.2.1
  obtain ⟨gp1, gp2, gp3⟩ := wl_gap (al := al) 228
  have hlen : (wlS al 228).length ≤ 100 := by have := wl_len (hA.cn he he6) 228 (by omega); have := cnE_228; omega
  have hba : bk V [a] = false := by
    have := h1 a ha
    unfold P1 at this
    rw [ala, Bool.true_and] at this
    exact this
  refine loop_up (wlS al 228).length ?_
  intro i hi ih hii M1 k1 r1 hai o1
  refine g_iload_n (n := 41) rfl rfl rfl ?_
  refine g_aload_n (n := 42) rfl rfl rfl ?_
  refine g_getI (n := 45) rfl rfl z_11 rfl ?_
  refine g_ige (n := 48) rfl rfl (fun h45 => ?_) (fun h45 => ?_)
  · skip
    rw [k1.1 11 8 rfl, hL.1] at h45
    have g9 := (jn_le (by omega) (by omega)).mp h45
    refine go_only 2 ?_
    refine K M1 k1 (o1.skB (by rw [show i = (wlS al 228).length by omega]; exact gp2) (fun y g1 g2 _ => ?_))
    rw [show i = (wlS al 228).length by omega] at g1
    unfold P2
    rw [gp3 y g1 g2, Bool.false_and, Bool.and_false]
  · skip
    rw [k1.1 11 8 rfl, hL.1] at h45
    have g9 := (jn_lt (by omega) (by omega)).mp h45
    obtain ⟨a1, hx, ax, a4⟩ := gp1 i g9
    obtain ⟨x, ex⟩ : ∃ x, x = (wlS al 228).getD i 0 := ⟨_, rfl⟩
    have e12 : M1 12 i = Int32.ofNat x := by rw [k1.1 12 i rfl, hL.2 i g9, ex]
    have epi : pO (wlS al 228) (i + 1) = x + 1 := by rw [ex]; rfl
    rw [← ex] at a1 hx ax a4
    have hbl := hA.bl he hx ax
    have sk : O2 (P2 V al bo) a x M1 := o1.skB a1 (fun y g1 g2 _ => by unfold P2; rw [a4 y g1 g2, Bool.false_and, Bool.and_false])
    have no : P2 V al bo a x = false → ∀ M2, SM M1 M2 → O2 (P2 V al bo) a (pO (wlS al 228) (i + 1)) M2 := fun hp M2 k => by
      rw [epi]
      refine (sk.sm k).skB (by omega) (fun y g1 g2 _ => ?_)
      rw [show y = x by omega]
      exact hp
    have nxa : a + 1 ≤ pO (wlS al 228) (i + 1) := by omega
    refine g_aload_n (n := 49) rfl rfl rfl ?_
    refine g_getR (n := 52) rfl rfl z_11 rfl ?_
    refine g_iload_n (n := 53) rfl rfl rfl ?_
    refine g_iald (n := 54) rfl rfl z_12 rfl rfl (by omega) ?_
    rw [e12]
    refine g_istore (n := 56) rfl rfl ?_
    refine g_aload_n (n := 57) rfl rfl rfl ?_
    refine g_getR (n := 60) rfl rfl z_11 rfl ?_
    refine g_iload_n (n := 61) rfl rfl rfl ?_
    refine g_iload (n := 63) rfl rfl rfl ?_
    refine g_cP3 (n := 66) rfl rfl rfl rfl mt_X1_allowBoth rfl rfl (r_k z_10) (sc_allowBoth) ?_
    refine g_bz (n := 69) rfl rfl (fun h66 => ?_) (fun h66 => ?_)
    · skip
      rw [(hB.cg (fun j => k1.1 10 j rfl)) a x ha hx] at h66
      refine g_iinc (n := 146) rfl rfl rfl (jn_1 _) ?_
      refine g_goto rfl ?_
      refine go_only 4 ?_
      refine ih g9 (by omega) _ k1 r1 nxa (no ?_ M1 ⟨fun _ => rfl, rfl, rfl, rfl⟩)
      unfold P2
      rw [h66, Bool.false_and, Bool.and_false, Bool.and_false]
    · skip
      rw [(hB.cg (fun j => k1.1 10 j rfl)) a x ha hx] at h66
      refine g_aload_n (n := 70) rfl rfl rfl ?_
      refine g_getR (n := 73) rfl rfl z_11 rfl ?_
      refine g_iload (n := 75) rfl rfl rfl ?_
      refine g_cP2 (n := 78) rfl rfl rfl rfl mt_X4_feels rfl rfl (r_k z_21) (sd_feels run21 hx hbl he6 r1) ?_
      refine g_bnz (n := 81) rfl rfl (fun h78 => ?_) (fun h78 => ?_)
      · skip
        refine g_aload_n (n := 85) rfl rfl rfl ?_
        refine g_getR (n := 88) rfl rfl z_11 rfl ?_
        refine g_aload_n (n := 89) rfl rfl rfl ?_
        refine g_getR (n := 92) rfl rfl z_11 rfl ?_
        refine g_iload (n := 94) rfl rfl rfl ?_
        refine g_cV3 (n := 97) rfl rfl rfl rfl mt_X4_strikeLike rfl rfl (r_k z_27) (sd_strikeLike run27 run21 (by omega) hx hbl he6 r1) ?_
        rintro M2 ⟨f2, l2, i2⟩
        have k2 := k1.run run27 (by omega) f2 (k1.2.1.lo l2)
        have r2 := r1.oth f2 (by omega) (by omega)
        refine g_aload_n (n := 98) rfl rfl rfl ?_
        refine g_getR (n := 101) rfl rfl z_11 rfl ?_
        refine g_cV1 (n := 104) rfl rfl rfl rfl mt_X4_goOn rfl rfl (r_k z_27) (sd_goOn run27 (WS.cx hX k2) k2.2.1 i2) ?_
        rintro M3 ⟨f3, m3, i3⟩
        have k3 := k2.run run27 (by omega) f3 m3
        have r3 := r2.oth f3 (by omega) (by omega)
        have s3 : SM M1 M3 := (SM.of run27 f2).tr (SM.of run27 f3)
        refine g_aload_n (n := 105) rfl rfl rfl ?_
        refine g_getR (n := 108) rfl rfl z_11 rfl ?_
        refine g_cP1 (n := 111) rfl rfl rfl rfl mt_X4_breaks rfl rfl (r_k z_27) (sd_breaks run27 (WS.cx hX k3) i3) ?_
        refine g_bz (n := 114) rfl rfl (fun h111 => ?_) (fun h111 => ?_)
        · skip
          refine g_iinc (n := 146) rfl rfl rfl (jn_1 _) ?_
          refine g_goto rfl ?_
          refine go_only 4 ?_
          refine ih g9 (by omega) _ k3 r3 nxa (no ?_ M3 s3)
          unfold P2
          rw [bk_sw, h111, Bool.and_false, Bool.and_false, Bool.and_false]
        · skip
          refine g_aload_n (n := 115) rfl rfl rfl ?_
          refine g_getR (n := 118) rfl rfl z_11 rfl ?_
          refine g_iload_n (n := 119) rfl rfl rfl ?_
          refine g_dup2 (n := 120) rfl rfl ?_
          refine g_iald (n := 121) rfl rfl z_13 rfl rfl ha ?_
          refine g_const (n := 122) rfl rfl (s_iconst (v := 1) (by decide)) ?_
          refine g_iadd (n := 123) rfl rfl ?_
          refine g_iast (n := 124) rfl rfl z_13 rfl rfl ha ?_
          refine g_aload_n (n := 125) rfl rfl rfl ?_
          refine g_getR (n := 128) rfl rfl z_11 rfl ?_
          refine g_iload (n := 130) rfl rfl rfl ?_
          refine g_dup2 (n := 131) rfl rfl ?_
          refine g_iald (n := 132) rfl rfl z_13 rfl rfl hx ?_
          refine g_const (n := 133) rfl rfl (s_iconst (v := 1) (by decide)) ?_
          refine g_iadd (n := 134) rfl rfl ?_
          refine g_iast (n := 135) rfl rfl z_13 rfl rfl hx ?_
          refine g_aload_n (n := 136) rfl rfl rfl ?_
          refine g_const (n := 137) rfl rfl (s_iconst (v := 2) (by decide)) ?_
          refine g_iload_n (n := 138) rfl rfl rfl ?_
          refine g_iload (n := 140) rfl rfl rfl ?_
          refine g_cV4 (n := 143) rfl rfl rfl rfl mt_X5_noteBreak rfl rfl (r_k z_11) (sd_noteBreak) ?_
          rintro M4 rfl
          refine g_iinc (n := 146) rfl rfl rfl (jn_1 _) ?_
          refine g_goto rfl ?_
          refine go_only 4 ?_
          refine ih g9 (by omega) _ ⟨ntB_fr ((k3.1.up rfl).up rfl) rfl rfl rfl, ?_, ?_⟩ ?_ nxa ?_
          · exact k3.2.1.cg (fun j => by rw [ntB_q (by omega), mup_q (by omega), mup_q (by omega)]) (fun j => by rw [ntB_q (by omega), mup_q (by omega), mup_q (by omega)]) (fun j => by rw [ntB_q (by omega), mup_q (by omega), mup_q (by omega)])
          · exact k3.2.2.lw (fun q j hq => by rw [ntB_q (by omega), mup_q (by omega), mup_q (by omega)])
          · exact r3.lw (fun q j hq => by rw [ntB_q (by omega), mup_q (by omega), mup_q (by omega)])
          · rw [epi]
            refine (sk.sm s3).yes (by omega) hx ?_
            unfold P2
            rw [bk_sw, ala, ax, h66, h111]
            rfl
      · skip
        refine g_goto rfl ?_
        refine g_iinc (n := 146) rfl rfl rfl (jn_1 _) ?_
        refine g_goto rfl ?_
        refine go_only 4 ?_
        refine ih g9 (by omega) _ k1 r1 nxa (no ?_ M1 ⟨fun _ => rfl, rfl, rfl, rfl⟩)
        unfold P2
        rw [bk_sw, unfelt h78 he6 hX.2.2.2.2.1.2.1 hX.2.2.2.2.2.1.2, hba, Bool.and_false, Bool.and_false, Bool.and_false]
set_option maxRecDepth 20000 in
theorem lq_pairs2 {V : VW} {al : Nat → Bool} {bo : Nat → Nat → Bool} (hX : CX E T M n rs V) (hA : ALW M al) (hB : BOT M bo) (hL : LST M (wlS al 228)) (h1 : ∀ x, x < 228 → P1 V al x = false) : ∀ i, i ≤ (wlS al 228).length → ∀ M1, WS M V M1 → O2 (P2 V al bo) (pO (wlS al 228) i) 0 M1 → Go [] (d + 7) none tabX5_lookAtPairs 2 [(0, .ref 11), (1, .int (Int32.ofNat i))] [] (hp (zz E T) M1) 0 0 (QV (zz E T) (fun M1 => WS M V M1 ∧ O2 (P2 V al bo) 228 0 M1)) := by
  obtain ⟨he, he6⟩ := hX.2.2.2.1
  obtain ⟨gp1, gp2, gp3⟩ := wl_gap (al := al) 228
  have hlen : (wlS al 228).length ≤ 100 := by have := wl_len (hA.cn he he6) 228 (by omega); have := cnE_228; omega
  refine loop_up (wlS al 228).length ?_
  intro i hi ih M1 k1 o1
  have K2 : i < (wlS al 228).length → ∀ M1, WS M V M1 → O2 (P2 V al bo) ((wlS al 228).getD i 0) 228 M1 → Go [] (d + 7) none tabX5_lookAtPairs 149 [(0, .ref 11), (1, .int (Int32.ofNat i))] [] (hp (zz E T) M1) 0 0 (QV (zz E T) (fun M1 => WS M V M1 ∧ O2 (P2 V al bo) 228 0 M1)) := by
    intro g M1 k1 o1
    refine g_iinc (n := 152) rfl rfl rfl (jn_1 _) ?_
    refine g_goto rfl ?_
    exact ih g M1 k1 o1.nxt
  refine g_iload_n (n := 3) rfl rfl rfl ?_
  refine g_aload_n (n := 4) rfl rfl rfl ?_
  refine g_getI (n := 7) rfl rfl z_11 rfl ?_
  refine g_ige (n := 10) rfl rfl (fun h7 => ?_) (fun h7 => ?_)
  · skip
    rw [k1.1 11 8 rfl, hL.1] at h7
    have g9 := (jn_le (by omega) (by omega)).mp h7
    refine g_retV rfl ?_
    refine ⟨k1, o1.skA (by rw [show i = (wlS al 228).length by omega]; exact gp2) (fun y g1 g2 z => ?_)⟩
    rw [show i = (wlS al 228).length by omega] at g1
    unfold P2
    rw [gp3 y g1 g2, Bool.false_and]
  · skip
    rw [k1.1 11 8 rfl, hL.1] at h7
    have g9 := (jn_lt (by omega) (by omega)).mp h7
    have K3 := K2 g9
    obtain ⟨a1, hx, ax, a4⟩ := gp1 i g9
    obtain ⟨x, ex⟩ : ∃ x, x = (wlS al 228).getD i 0 := ⟨_, rfl⟩
    have e12 : M1 12 i = Int32.ofNat x := by rw [k1.1 12 i rfl, hL.2 i g9, ex]
    have epi : pO (wlS al 228) (i + 1) = x + 1 := by rw [ex]; rfl
    rw [← ex] at a1 hx ax a4 K3
    have hbl := hA.bl he hx ax
    have sk : O2 (P2 V al bo) x 0 M1 := o1.skA a1 (fun y g1 g2 z => by unfold P2; rw [a4 y g1 g2, Bool.false_and])
    refine g_aload_n (n := 11) rfl rfl rfl ?_
    refine g_getR (n := 14) rfl rfl z_11 rfl ?_
    refine g_iload_n (n := 15) rfl rfl rfl ?_
    refine g_iald (n := 16) rfl rfl z_12 rfl rfl (by omega) ?_
    rw [e12]
    refine g_istore_n (n := 17) rfl rfl ?_
    refine g_aload_n (n := 18) rfl rfl rfl ?_
    refine g_getR (n := 21) rfl rfl z_11 rfl ?_
    refine g_aload_n (n := 22) rfl rfl rfl ?_
    refine g_getR (n := 25) rfl rfl z_11 rfl ?_
    refine g_iload_n (n := 26) rfl rfl rfl ?_
    refine g_cV3 (n := 29) rfl rfl rfl rfl mt_X4_strikeLike rfl rfl (r_k z_21) (sd_strikeLike run21 run15 (by omega) hx hbl he6 k1.2.2) ?_
    rintro M2 ⟨f2, l2, i2⟩
    have k2 := k1.run run21 (by omega) f2 (k1.2.1.lo l2)
    refine g_aload_n (n := 30) rfl rfl rfl ?_
    refine g_getR (n := 33) rfl rfl z_11 rfl ?_
    refine g_cV1 (n := 36) rfl rfl rfl rfl mt_X4_goOn rfl rfl (r_k z_21) (sd_goOn run21 (WS.cx hX k2) k2.2.1 i2) ?_
    rintro M3 ⟨f3, m3, i3⟩
    have k3 := k2.run run21 (by omega) f3 m3
    have s3 : SM M1 M3 := (SM.of run21 f2).tr (SM.of run21 f3)
    refine g_iload_n (n := 37) rfl rfl rfl ?_
    refine g_const (n := 38) rfl rfl (s_iconst (v := 1) (by decide)) ?_
    refine g_iadd (n := 39) rfl rfl ?_
    rw [show Int32.ofNat i + 1 = Int32.ofNat (i + 1) from jn_add i 1]
    refine g_istore_n (n := 40) rfl rfl ?_
    refine lq_pairs40 hX hA hB hL h1 hx ax g9 epi K3 (i + 1) (by omega) (by omega) _ k3 i3 (by omega) ?_
    rw [epi]
    exact (sk.sm s3).skB (by omega) (fun y g1 g2 g3 => absurd g3 (by omega))
set_option maxRecDepth 20000 in
theorem sd_pairs {V : VW} {al : Nat → Bool} {bo : Nat → Nat → Bool} (hX : CX E T M n rs V) (hA : ALW M al) (hB : BOT M bo) (hL : LST M (wlS al 228)) (h1 : ∀ x, x < 228 → P1 V al x = false) (hM : Memo M (vR V)) (hI : RunI M 15 V [] 7) (ho : O2 (P2 V al bo) 0 0 M) : EvV (d + 8) miX5_lookAtPairs [.ref 11] (zz E T) M (fun M1 => WS M V M1 ∧ O2 (P2 V al bo) 228 0 M1) := by
  refine ev_of mt_X5_lookAtPairs rfl ?_
  refine g_const (n := 1) rfl rfl (s_iconst (v := 0) (by decide)) ?_
  refine g_istore_n (n := 2) rfl rfl ?_
  exact lq_pairs2 hX hA hB hL h1 0 (Nat.zero_le _) M ⟨Fr.rf, hM, hI⟩ ho
/-- what the program knows of its world and bounds -/
def LKD (V : VW) (al : Nat → Bool) (bo : Nat → Nat → Bool) (M : Mem) : Prop := LookP (bk V []) (P1 V al) (P2 V al bo) (M 11 11) (M 11 12) (M 11 13) ∧ ∀ x, x < 228 → M 13 x = Int32.ofNat (wkN (P1 V al) (P2 V al bo) (M 11 11) x)
def kK (q j : Nat) : Bool := kS q j || (Nat.beq q 12 || (Nat.beq q 11 && (Nat.beq j 8 || Nat.beq j 10)))
set_option maxRecDepth 20000 in
theorem kK_hi {q j : Nat} (h : 61 ≤ q) : kK q j = false := by
  have e : ∀ k, k < 61 → Nat.beq q k = false := fun k hk => by
    cases hb : Nat.beq q k with
    | false => rfl
    | true => have := Nat.eq_of_beq_eq_true hb; omega
  simp only [kK, kS_hi h, e 12 (by omega), e 11 (by omega), Bool.false_and, Bool.or_self]
set_option maxRecDepth 20000 in
theorem kK_S {q j : Nat} (h : kS q j = true) : kK q j = true := by unfold kK; rw [h]; rfl
set_option maxRecDepth 20000 in
theorem kK_W {q j : Nat} (h : kW q j = true) : kK q j = true := by
  unfold kW at h
  unfold kK
  simp only [Bool.or_eq_true, Bool.and_eq_true] at h ⊢
  rcases h with h | ⟨h1, h2⟩
  · exact Or.inr (Or.inl h)
  · exact Or.inr (Or.inr ⟨h1, Or.inl h2⟩)
set_option maxRecDepth 20000 in
theorem P2_sw {V : VW} {al : Nat → Bool} {bo : Nat → Nat → Bool} (hs : ∀ a b, bo a b = bo b a) (a b : Nat) : P2 V al bo a b = P2 V al bo b a := by
  unfold P2
  rw [hs a b, bk_sw]
  cases al a <;> cases al b <;> rfl
set_option maxRecDepth 20000 in
theorem prS_0 {p2 : Nat → Nat → Bool} {x : Nat} (h : ∀ a b, a < b → b < 228 → p2 a b = false) : prS p2 x 228 0 = 0 := by
  show sumN (fun a => rwS p2 x a 228) 228 + 0 = 0
  rw [Nat.add_zero]
  refine sumN_z (fun a ha => ?_)
  exact rwS_z (m := 0) (by omega) (fun y _ g2 g3 => h a y g3 g2)
set_option maxRecDepth 20000 in
theorem LKD.of1 {V : VW} {al : Nat → Bool} {bo : Nat → Nat → Bool} (h0 : bk V [] = false) (h : O1 (P1 V al) 228 M) (h9 : ¬ M 11 11 = 9) : LKD V al bo M := by
  rcases h.2 with ⟨-, h2⟩ | ⟨a, h1, h2, h3, h4⟩
  · exact absurd h2.1 h9
  · refine ⟨Or.inr (Or.inl ⟨h0, a, h1, h2, h3, h4⟩), fun x hx => ?_⟩
    rw [h.1 x hx, h4.1, decide_eq_true hx, Bool.true_and]
    unfold wkN
    rw [if_pos rfl]
    cases P1 V al x <;> rfl
set_option maxRecDepth 20000 in
theorem LKD.of2 {V : VW} {al : Nat → Bool} {bo : Nat → Nat → Bool} (hs : ∀ a b, bo a b = bo b a) (h0 : bk V [] = false) (h1 : ∀ x, x < 228 → P1 V al x = false) (h : O2 (P2 V al bo) 228 0 M) : LKD V al bo M := by
  rcases h.2 with ⟨g1, -, g3⟩ | ⟨a', b', g1, g2, g3, g4, g5, g6⟩
  · have all : ∀ a b, a < b → b < 228 → P2 V al bo a b = false := fun a b q1 q2 => g1 a b (by omega) q1 q2
    refine ⟨Or.inr (Or.inr (Or.inr ⟨h0, h1, all, g3⟩)), fun x hx => ?_⟩
    rw [h.1 x hx, g3.1, prS_0 all]
    unfold wkN
    rw [if_neg (by decide), if_neg (by decide)]
  · refine ⟨Or.inr (Or.inr (Or.inl ⟨h0, h1, a', b', g1, g2, g3, g4, g5, g6⟩)), fun x hx => ?_⟩
    rw [h.1 x hx, g6.1, prS_all hx (P2_sw hs)]
    unfold wkN
    rw [if_neg (by decide), if_pos rfl]
set_option maxRecDepth 20000 in
theorem sd_look {V : VW} {al : Nat → Bool} {bo : Nat → Nat → Bool} (hX : CX E T M n rs V) (hA : ALW M al) (hB : BOT M bo) (hs : ∀ a b, bo a b = bo b a) (hM : Memo M (vR V)) (hK : ¬ M 11 10 = 0 → LKD V al bo M) : EvV (d + 9) miX5_look [.ref 11] (zz E T) M (fun M' => Fr kK M M' ∧ Memo M' (vR V) ∧ LKD V al bo M') := by
  obtain ⟨he, he6⟩ := hX.2.2.2.1
  refine ev_of mt_X5_look rfl ?_
  refine g_aload_n (n := 1) rfl rfl rfl ?_
  refine g_getI (n := 4) rfl rfl z_11 rfl ?_
  refine g_zeq (n := 7) rfl rfl (fun h4 => ?_) (fun h4 => ?_)
  · skip
    refine g_aload_n (n := 9) rfl rfl rfl ?_
    refine g_const (n := 10) rfl rfl (s_iconst (v := 1) (by decide)) ?_
    refine g_putI (n := 13) rfl rfl z_11 rfl rfl ?_
    refine g_aload_n (n := 14) rfl rfl rfl ?_
    refine g_const (n := 16) rfl rfl (s_bipush (v := 9) (by decide)) ?_
    refine g_putI (n := 19) rfl rfl z_11 rfl rfl ?_
    refine g_aload_n (n := 20) rfl rfl rfl ?_
    refine g_const (n := 21) rfl rfl (s_iconst (v := (-1)) (by decide)) ?_
    refine g_putI (n := 24) rfl rfl z_11 rfl rfl ?_
    refine g_aload_n (n := 25) rfl rfl rfl ?_
    refine g_const (n := 26) rfl rfl (s_iconst (v := (-1)) (by decide)) ?_
    refine g_putI (n := 29) rfl rfl z_11 rfl rfl ?_
    refine g_aload_n (n := 30) rfl rfl rfl ?_
    refine g_getR (n := 33) rfl rfl z_11 rfl ?_
    refine g_const (n := 34) rfl rfl (s_iconst (v := 0) (by decide)) ?_
    refine g_cV2 (n := 37) rfl rfl rfl rfl mt_J7_fill_53178 rfl rfl rfl (sp_fill z_13 rfl) ?_
    rintro M34 rfl
    obtain ⟨A, hA0⟩ : ∃ A, A = mfl (mup (mup (mup (mup M 11 10 1) 11 11 9) 11 12 (-1)) 11 13 (-1)) 13 0 := ⟨_, rfl⟩
    rw [← hA0]
    have fA : Fr kK M A := by rw [hA0]; exact ((((Fr.rf.up rfl).up rfl).up rfl).up rfl).fl (fun j => rfl)
    have a13 : ∀ j, A 13 j = 0 := fun j => by rw [hA0, mfl_same]
    have aF : FC A 9 (-1) (-1) := by rw [hA0]; exact ⟨rfl, rfl, rfl⟩
    have mA : Memo A (vR V) := hM.cg (fun j => by rw [hA0]; rfl) (fun j => by rw [hA0]; rfl) (fun j => by rw [hA0]; rfl)
    refine g_aload_n (n := 38) rfl rfl rfl ?_
    refine g_cV1 (n := 41) rfl rfl rfl rfl mt_X5_listWithin rfl rfl (r_k z_11) (sd_listWithin (hA.cg (fA 1 2 rfl) (fun j => fA 10 j rfl)) ((fA 1 2 rfl).trans he) he6) ?_
    rintro M1 ⟨f1, w1⟩
    have f1' : Fr kK M M1 := fA.tr (f1.mono (fun _ _ => kK_W))
    have hX1 : CX E T M1 n rs V := hX.fr f1' rfl (fun _ => rfl) rfl (fun q j hq => kK_hi hq) (fun _ => rfl)
    have m1 : Memo M1 (vR V) := mA.cg (fun j => f1 7 j rfl) (fun j => f1 8 j rfl) (fun j => f1 9 j rfl)
    have s1 : SM A M1 := ⟨fun j => f1 13 j rfl, f1 11 11 rfl, f1 11 12 rfl, f1 11 13 rfl⟩
    have hA1 : ALW M1 al := hA.cg (f1' 1 2 rfl) (fun j => f1' 10 j rfl)
    have hB1 : BOT M1 bo := hB.cg (fun j => f1' 10 j rfl)
    refine g_aload_n (n := 42) rfl rfl rfl ?_
    refine g_getR (n := 45) rfl rfl z_11 rfl ?_
    refine g_cV1 (n := 48) rfl rfl rfl rfl mt_X4_strikeNone rfl rfl (r_k z_15) (sd_strikeNone (V := V) run15) ?_
    rintro M2 ⟨f2, l2, i2⟩
    have hX2 : CX E T M2 n rs V := hX1.keep (f2.sc run15)
    refine g_aload_n (n := 49) rfl rfl rfl ?_
    refine g_getR (n := 52) rfl rfl z_11 rfl ?_
    refine g_cV1 (n := 55) rfl rfl rfl rfl mt_X4_goOn rfl rfl (r_k z_15) (sd_goOn run15 hX2 (m1.lo l2) i2) ?_
    rintro M3 ⟨f3, m3, i3⟩
    have c3 : cKeep M1 M3 := (f2.sc run15).tr (f3.sc run15)
    have f3' : Fr kK M M3 := f1'.tr (Fr.mono (S := cSc) c3 (fun _ _ h => kK_S (kS_of h)))
    have hX3 : CX E T M3 n rs V := hX1.keep c3
    have s3 : SM A M3 := s1.tr ((SM.of run15 f2).tr (SM.of run15 f3))
    have hA3 : ALW M3 al := hA1.cg (c3 1 2 rfl) (fun j => c3 10 j rfl)
    have hB3 : BOT M3 bo := hB1.cg (fun j => c3 10 j rfl)
    have w3 : LST M3 (wlS al 228) := ⟨(c3 11 8 rfl).trans w1.1, fun k hk => (c3 12 k rfl).trans (w1.2 k hk)⟩
    have F3 := aF.sm s3
    refine g_aload_n (n := 56) rfl rfl rfl ?_
    refine g_getR (n := 59) rfl rfl z_11 rfl ?_
    refine g_cP1 (n := 62) rfl rfl rfl rfl mt_X4_breaks rfl rfl (r_k z_15) (sd_breaks run15 hX3 i3) ?_
    refine g_bz (n := 65) rfl rfl (fun h62 => ?_) (fun h62 => ?_)
    · skip
      have o3 : O1 (P1 V al) 0 M3 := ⟨fun x hx => by rw [s3.1, a13]; rfl, Or.inl ⟨fun x hx => absurd hx (by omega), F3⟩⟩
      refine g_aload_n (n := 72) rfl rfl rfl ?_
      refine g_cV1 (n := 75) rfl rfl rfl rfl mt_X5_lookAtOnes rfl rfl (r_k z_11) (sd_ones hX3 hA3 w3 h62 m3 i3 o3) ?_
      rintro M4 ⟨k4, o4⟩
      have f4' : Fr kK M M4 := f3'.tr (k4.1.mono (fun _ _ => kK_S))
      refine g_aload_n (n := 76) rfl rfl rfl ?_
      refine g_getI (n := 79) rfl rfl z_11 rfl ?_
      refine g_const (n := 81) rfl rfl (s_bipush (v := 9) (by decide)) ?_
      refine g_ine (n := 84) rfl rfl (fun h81 => ?_) (fun h81 => ?_)
      · skip
        refine g_retV rfl ?_
        first
          | exact ⟨f4'.tr (k5.1.mono (fun _ _ => kK_S)), k5.2.1, LKD.of2 hs h62 h1 o6⟩
          | exact ⟨f4', k4.2.1, LKD.of1 h62 o4 h81⟩
      · skip
        have h1 : ∀ x, x < 228 → P1 V al x = false := by
          rcases o4.2 with ⟨q1, -⟩ | ⟨a, q1, q2, q3, q4⟩
          · exact q1
          · rw [q4.1] at h81
            exact absurd h81 (by decide)
        have F4 : FC M4 9 (-1) (-1) := by
          rcases o4.2 with ⟨-, q2⟩ | ⟨a, q1, q2, q3, q4⟩
          · exact q2
          · rw [q4.1] at h81
            exact absurd h81 (by decide)
        have o5 : O2 (P2 V al bo) 0 0 M4 := ⟨fun x hx => by rw [o4.1 x hx, h1 x hx, Bool.and_false]; rfl, Or.inl ⟨fun x y q => absurd q (by omega), fun y _ q => absurd q (by omega), F4⟩⟩
        refine g_aload_n (n := 85) rfl rfl rfl ?_
        refine g_cV1 (n := 88) rfl rfl rfl rfl mt_X5_lookAtPairs rfl rfl (r_k z_11) (sd_pairs (WS.cx hX3 k4) (hA3.cg (k4.1 1 2 rfl) (fun j => k4.1 10 j rfl)) (hB3.cg (fun j => k4.1 10 j rfl)) ⟨(k4.1 11 8 rfl).trans w3.1, fun k hk => (k4.1 12 k rfl).trans (w3.2 k hk)⟩ h1 k4.2.1 k4.2.2 o5) ?_
        rintro M5 ⟨k5, o6⟩
        refine g_retV rfl ?_
        first
          | exact ⟨f4'.tr (k5.1.mono (fun _ _ => kK_S)), k5.2.1, LKD.of2 hs h62 h1 o6⟩
          | exact ⟨f4', k4.2.1, LKD.of1 h62 o4 h81⟩
    · skip
      refine g_aload_n (n := 66) rfl rfl rfl ?_
      refine g_const (n := 67) rfl rfl (s_iconst (v := 0) (by decide)) ?_
      refine g_putI (n := 70) rfl rfl z_11 rfl rfl ?_
      refine g_retV rfl ?_
      refine ⟨f3'.up rfl, m3.cg (fun j => rfl) (fun j => rfl) (fun j => rfl), Or.inl ⟨h62, rfl, F3.2.1, F3.2.2⟩, fun x hx => ?_⟩
      show M3 13 x = Int32.ofNat (wkN (P1 V al) (P2 V al bo) 0 x)
      unfold wkN
      rw [if_neg (by decide), if_neg (by decide), s3.1, a13]
      rfl
  · skip
    refine g_retV rfl ?_
    exact ⟨Fr.rf, hM, hK h4⟩
set_option maxRecDepth 20000 in
theorem sd_seek {V : VW} {al : Nat → Bool} {bo : Nat → Nat → Bool} (hX : CX E T M n rs V) (hA : ALW M al) (hB : BOT M bo) (hs : ∀ a b, bo a b = bo b a) (hM : Memo M (vR V)) (hK : ¬ M 11 10 = 0 → LKD V al bo M) : EvI (d + 10) miX8_seek [.ref 0] (zz E T) M (fun x M' => ∃ M1, Fr kK M M1 ∧ Memo M1 (vR V) ∧ LKD V al bo M1 ∧ x = M1 11 11 ∧ M' = mup (mup (mup M1 0 7 (if M1 11 11 = 9 then 0 else M1 11 11)) 40 0 (M1 11 12)) 40 1 (M1 11 13)) := by
  refine ev_of mt_X8_seek rfl ?_
  refine g_aload_n (n := 1) rfl rfl rfl ?_
  refine g_getR (n := 4) rfl rfl z_0 rfl ?_
  refine g_cV1 (n := 7) rfl rfl rfl rfl mt_X5_look rfl rfl (r_k z_11) (sd_look hX hA hB hs hM hK) ?_
  rintro M1 ⟨f1, m1, l1⟩
  refine g_aload_n (n := 8) rfl rfl rfl ?_
  refine g_aload_n (n := 9) rfl rfl rfl ?_
  refine g_getR (n := 12) rfl rfl z_0 rfl ?_
  refine g_getI (n := 15) rfl rfl z_11 rfl ?_
  refine g_const (n := 17) rfl rfl (s_bipush (v := 9) (by decide)) ?_
  refine g_ine (n := 20) rfl rfl (fun h17 => ?_) (fun h17 => ?_)
  · skip
    refine g_aload_n (n := 25) rfl rfl rfl ?_
    refine g_getR (n := 28) rfl rfl z_0 rfl ?_
    refine g_getI (n := 31) rfl rfl z_11 rfl ?_
    refine g_putI (n := 34) rfl rfl z_0 rfl rfl ?_
    refine g_aload_n (n := 35) rfl rfl rfl ?_
    refine g_getR (n := 38) rfl rfl z_0 rfl ?_
    refine g_const (n := 39) rfl rfl (s_iconst (v := 0) (by decide)) ?_
    refine g_aload_n (n := 40) rfl rfl rfl ?_
    refine g_getR (n := 43) rfl rfl z_0 rfl ?_
    refine g_getI (n := 46) rfl rfl z_11 rfl ?_
    refine g_iast (n := 47) rfl rfl z_40 rfl (j := 0) rfl (by omega) ?_
    refine g_aload_n (n := 48) rfl rfl rfl ?_
    refine g_getR (n := 51) rfl rfl z_0 rfl ?_
    refine g_const (n := 52) rfl rfl (s_iconst (v := 1) (by decide)) ?_
    refine g_aload_n (n := 53) rfl rfl rfl ?_
    refine g_getR (n := 56) rfl rfl z_0 rfl ?_
    refine g_getI (n := 59) rfl rfl z_11 rfl ?_
    refine g_iast (n := 60) rfl rfl z_40 rfl (j := 1) rfl (by omega) ?_
    refine g_aload_n (n := 61) rfl rfl rfl ?_
    refine g_getR (n := 64) rfl rfl z_0 rfl ?_
    refine g_getI (n := 67) rfl rfl z_11 rfl ?_
    refine g_retI rfl ?_
    first
      | exact ⟨M1, f1, m1, l1, rfl, by rw [if_neg h17]; rfl⟩
      | exact ⟨M1, f1, m1, l1, rfl, by rw [if_pos h17]; rfl⟩
  · skip
    refine g_const (n := 21) rfl rfl (s_iconst (v := 0) (by decide)) ?_
    refine g_goto rfl ?_
    refine g_putI (n := 34) rfl rfl z_0 rfl rfl ?_
    refine g_aload_n (n := 35) rfl rfl rfl ?_
    refine g_getR (n := 38) rfl rfl z_0 rfl ?_
    refine g_const (n := 39) rfl rfl (s_iconst (v := 0) (by decide)) ?_
    refine g_aload_n (n := 40) rfl rfl rfl ?_
    refine g_getR (n := 43) rfl rfl z_0 rfl ?_
    refine g_getI (n := 46) rfl rfl z_11 rfl ?_
    refine g_iast (n := 47) rfl rfl z_40 rfl (j := 0) rfl (by omega) ?_
    refine g_aload_n (n := 48) rfl rfl rfl ?_
    refine g_getR (n := 51) rfl rfl z_0 rfl ?_
    refine g_const (n := 52) rfl rfl (s_iconst (v := 1) (by decide)) ?_
    refine g_aload_n (n := 53) rfl rfl rfl ?_
    refine g_getR (n := 56) rfl rfl z_0 rfl ?_
    refine g_getI (n := 59) rfl rfl z_11 rfl ?_
    refine g_iast (n := 60) rfl rfl z_40 rfl (j := 1) rfl (by omega) ?_
    refine g_aload_n (n := 61) rfl rfl rfl ?_
    refine g_getR (n := 64) rfl rfl z_0 rfl ?_
    refine g_getI (n := 67) rfl rfl z_11 rfl ?_
    refine g_retI rfl ?_
    first
      | exact ⟨M1, f1, m1, l1, rfl, by rw [if_neg h17]; rfl⟩
      | exact ⟨M1, f1, m1, l1, rfl, by rw [if_pos h17]; rfl⟩
set_option maxRecDepth 20000 in
theorem sd_found {i : Int32} (h2 : jU 2 (M 0 7)) : EvI (d + 1) miX8_found [.ref 0, .int i] (zz E T) M (fun y M' => M' = M ∧ ((∃ k s, k < s ∧ s ≤ 2 ∧ M 0 7 = Int32.ofNat s ∧ i = Int32.ofNat k ∧ y = M 40 k) ∨ ((∀ k s, k < s → s ≤ 2 → M 0 7 = Int32.ofNat s → i = Int32.ofNat k → False) ∧ y = -1))) := by
  obtain ⟨k, hk, ek⟩ := h2
  refine ev_of mt_X8_found rfl ?_
  refine g_iload_n (n := 1) rfl rfl rfl ?_
  refine g_zlt (n := 4) rfl rfl (fun h1 => ?_) (fun h1 => ?_)
  · skip
    refine g_const (n := 22) rfl rfl (s_iconst (v := (-1)) (by decide)) ?_
    refine g_retI rfl ?_
    refine ⟨rfl, Or.inr ⟨fun j s g1 g2 g3 g4 => ?_, rfl⟩⟩
    rw [g4] at h1
    exact absurd ((jn_lt (b := 0) (by omega) (by omega)).mp h1) (by omega)
  · skip
    refine g_iload_n (n := 5) rfl rfl rfl ?_
    refine g_aload_n (n := 6) rfl rfl rfl ?_
    refine g_getI (n := 9) rfl rfl z_0 rfl ?_
    refine g_ige (n := 12) rfl rfl (fun h9 => ?_) (fun h9 => ?_)
    · skip
      rw [ek] at h9
      refine g_const (n := 22) rfl rfl (s_iconst (v := (-1)) (by decide)) ?_
      refine g_retI rfl ?_
      refine ⟨rfl, Or.inr ⟨fun j s g1 g2 g3 g4 => ?_, rfl⟩⟩
      rw [g4] at h9
      have q1 := (jn_le (by omega) (by omega)).mp h9
      have q2 := jn_inj (by omega) (by omega) (ek.symm.trans g3)
      omega
    · skip
      rw [ek] at h9
      obtain ⟨j, hj, ej⟩ := jn_of_lt (by omega) h1 h9
      refine g_aload_n (n := 13) rfl rfl rfl ?_
      refine g_getR (n := 16) rfl rfl z_0 rfl ?_
      refine g_iload_n (n := 17) rfl rfl rfl ?_
      refine g_iald (n := 18) rfl rfl z_40 rfl ej (by omega) ?_
      refine g_goto rfl ?_
      refine g_retI rfl ?_
      exact ⟨rfl, Or.inl ⟨j, k, hj, hk, ek, ej, rfl⟩⟩
set_option maxRecDepth 20000 in
theorem sd_standsIn {x : Nat} (hx : x < 228) : EvI (d + 1) miX5_standsIn [.ref 11, .int (Int32.ofNat x)] (zz E T) M (fun y M' => M' = M ∧ y = M 13 x) := by
  refine ev_of mt_X5_standsIn rfl ?_
  refine g_iload_n (n := 1) rfl rfl rfl ?_
  refine g_zlt (n := 4) rfl rfl (fun h1 => ?_) (fun h1 => ?_)
  · skip
    exact absurd ((jn_lt (b := 0) (by omega) (by omega)).mp h1) (by omega)
  · skip
    refine g_iload_n (n := 5) rfl rfl rfl ?_
    refine g_const (n := 8) rfl rfl (s_sipush (v := 228) (by decide)) ?_
    refine g_ige (n := 11) rfl rfl (fun h8 => ?_) (fun h8 => ?_)
    · skip
      exact absurd ((jn_le (a := 228) (by omega) (by omega)).mp h8) (by omega)
    · skip
      refine g_aload_n (n := 12) rfl rfl rfl ?_
      refine g_getR (n := 15) rfl rfl z_11 rfl ?_
      refine g_iload_n (n := 16) rfl rfl rfl ?_
      refine g_iald (n := 17) rfl rfl z_13 rfl rfl hx ?_
      refine g_goto rfl ?_
      refine g_retI rfl ?_
      exact ⟨rfl, rfl⟩
set_option maxRecDepth 20000 in
theorem sd_weak {x : Int32} {V : VW} {al : Nat → Bool} {bo : Nat → Nat → Bool} (hX : CX E T M n rs V) (hA : ALW M al) (hB : BOT M bo) (hs : ∀ a b, bo a b = bo b a) (hM : Memo M (vR V)) (hK : ¬ M 11 10 = 0 → LKD V al bo M) : EvI (d + 10) miX8_weak [.ref 0, .int x] (zz E T) M (fun y M' => (cBlow (M 1 2) x = false ∧ y = -1 ∧ M' = M) ∨ (cBlow (M 1 2) x = true ∧ ∃ k, k < 228 ∧ x = Int32.ofNat k ∧ Fr kK M M' ∧ Memo M' (vR V) ∧ LKD V al bo M' ∧ y = M' 13 k)) := by
  obtain ⟨he, he6⟩ := hX.2.2.2.1
  refine ev_of mt_X8_weak rfl ?_
  refine g_iload_n (n := 1) rfl rfl rfl ?_
  refine g_aload_n (n := 2) rfl rfl rfl ?_
  refine g_getR (n := 5) rfl rfl z_0 rfl ?_
  refine g_getI (n := 8) rfl rfl z_1 rfl ?_
  refine g_cP2 (n := 11) rfl rfl rfl rfl mt_X0_exists rfl rfl rfl (sc_exists) ?_
  refine g_bnz (n := 14) rfl rfl (fun h11 => ?_) (fun h11 => ?_)
  · skip
    have hb := h11
    rw [he] at hb
    obtain ⟨k, -, -, hk, ek, -⟩ := blow_ok he6 hb
    subst ek
    refine g_aload_n (n := 17) rfl rfl rfl ?_
    refine g_getR (n := 20) rfl rfl z_0 rfl ?_
    refine g_cV1 (n := 23) rfl rfl rfl rfl mt_X5_look rfl rfl (r_k z_11) (sd_look hX hA hB hs hM hK) ?_
    rintro M1 ⟨f1, m1, l1⟩
    refine g_aload_n (n := 24) rfl rfl rfl ?_
    refine g_getR (n := 27) rfl rfl z_0 rfl ?_
    refine g_iload_n (n := 28) rfl rfl rfl ?_
    refine g_cI2 (n := 31) rfl rfl rfl rfl mt_X5_standsIn rfl rfl (r_k z_11) (sd_standsIn hk) ?_
    rintro x28 M28 ⟨rfl, rfl⟩
    refine g_retI rfl ?_
    exact Or.inr ⟨h11, k, hk, rfl, f1, m1, l1, rfl⟩
  · skip
    refine g_const (n := 15) rfl rfl (s_iconst (v := (-1)) (by decide)) ?_
    refine g_retI rfl ?_
    exact Or.inl ⟨h11, rfl, rfl⟩
end SeekG
