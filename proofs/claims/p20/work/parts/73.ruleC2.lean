/-! The program: rule, whole -/
section RW
variable {E : Value} {T : List SH} {M : Mem} {d n : Nat} {rs : Nat → Nat}
def cB2 (a b : Int32) : Int32 := if b = -1 then a else b
def cDen (nt : Int32) : Int32 := if nt = -1 then 0 else 1 <<< (nt &&& 31)
/-- a new rule's cell -/
def InitQ (M : Mem) (q : Nat) (host kind head a b nt to : Int32) (M' : Mem) : Prop := (∀ p j, p ≠ q → M' p j = M p j) ∧ M' q 0 = host ∧ M' q 1 = kind ∧ M' q 2 = head ∧ M' q 3 = a ∧ M' q 4 = cB2 a b ∧ M' q 5 = nt ∧ M' q 6 = to ∧ M' q 7 = 1 <<< (a &&& 31) ||| 1 <<< (cB2 a b &&& 31) ∧ M' q 8 = cDen nt ∧ M' q 9 = -1
set_option maxRecDepth 20000 in
theorem sc_init {q : Nat} {host kind head a b nt to : Int32} (hq : a_at (zz E T) q = some ruleSh) : EvV (d + 1) miX2_init [.ref q, .int host, .int kind, .int head, .int a, .int b, .int nt, .int to] (zz E T) M (InitQ M q host kind head a b nt to) := by
  refine ev_of mt_X2_init rfl ?_
  refine g_aload_n (n := 1) rfl rfl rfl ?_
  refine g_objI (n := 4) rfl rfl (by simp) ?_
  refine g_aload_n (n := 5) rfl rfl rfl ?_
  refine g_const (n := 6) rfl rfl (s_iconst (v := (-1)) (by decide)) ?_
  refine g_putI (n := 9) rfl rfl hq rfl rfl ?_
  refine g_aload_n (n := 10) rfl rfl rfl ?_
  refine g_iload_n (n := 11) rfl rfl rfl ?_
  refine g_putI (n := 14) rfl rfl hq rfl rfl ?_
  refine g_aload_n (n := 15) rfl rfl rfl ?_
  refine g_iload_n (n := 16) rfl rfl rfl ?_
  refine g_putI (n := 19) rfl rfl hq rfl rfl ?_
  refine g_aload_n (n := 20) rfl rfl rfl ?_
  refine g_iload_n (n := 21) rfl rfl rfl ?_
  refine g_putI (n := 24) rfl rfl hq rfl rfl ?_
  refine g_aload_n (n := 25) rfl rfl rfl ?_
  refine g_iload (n := 27) rfl rfl rfl ?_
  refine g_putI (n := 30) rfl rfl hq rfl rfl ?_
  refine g_aload_n (n := 31) rfl rfl rfl ?_
  refine g_iload (n := 33) rfl rfl rfl ?_
  refine g_const (n := 34) rfl rfl (s_iconst (v := (-1)) (by decide)) ?_
  refine g_ine (n := 37) rfl rfl (fun h34 => ?_) (fun h34 => ?_)
  · skip
    refine g_iload (n := 44) rfl rfl rfl ?_
    refine g_putI (n := 47) rfl rfl hq rfl rfl ?_
    refine g_aload_n (n := 48) rfl rfl rfl ?_
    refine g_iload (n := 50) rfl rfl rfl ?_
    refine g_putI (n := 53) rfl rfl hq rfl rfl ?_
    refine g_aload_n (n := 54) rfl rfl rfl ?_
    refine g_iload (n := 56) rfl rfl rfl ?_
    refine g_putI (n := 59) rfl rfl hq rfl rfl ?_
    refine g_aload_n (n := 60) rfl rfl rfl ?_
    refine g_const (n := 61) rfl rfl (s_iconst (v := 1) (by decide)) ?_
    refine g_aload_n (n := 62) rfl rfl rfl ?_
    refine g_getI (n := 65) rfl rfl hq rfl ?_
    refine g_ishl (n := 66) rfl rfl ?_
    refine g_const (n := 67) rfl rfl (s_iconst (v := 1) (by decide)) ?_
    refine g_aload_n (n := 68) rfl rfl rfl ?_
    refine g_getI (n := 71) rfl rfl hq rfl ?_
    refine g_ishl (n := 72) rfl rfl ?_
    refine g_ior (n := 73) rfl rfl ?_
    refine g_putI (n := 76) rfl rfl hq rfl rfl ?_
    refine g_aload_n (n := 77) rfl rfl rfl ?_
    refine g_iload (n := 79) rfl rfl rfl ?_
    refine g_const (n := 80) rfl rfl (s_iconst (v := (-1)) (by decide)) ?_
    refine g_ine (n := 83) rfl rfl (fun h80 => ?_) (fun h80 => ?_)
    · skip
      refine g_const (n := 88) rfl rfl (s_iconst (v := 1) (by decide)) ?_
      refine g_iload (n := 90) rfl rfl rfl ?_
      refine g_ishl (n := 91) rfl rfl ?_
      refine g_putI (n := 94) rfl rfl hq rfl rfl ?_
      refine g_retV rfl ?_
      refine ⟨fun p j hp => by simp only [mup_q hp], ?_, ?_, ?_, ?_, ?_, ?_, ?_, ?_, ?_, ?_⟩
      all_goals simp [mup_if, cB2, cDen, h34, h80]
    · skip
      refine g_const (n := 84) rfl rfl (s_iconst (v := 0) (by decide)) ?_
      refine g_goto rfl ?_
      refine g_putI (n := 94) rfl rfl hq rfl rfl ?_
      refine g_retV rfl ?_
      refine ⟨fun p j hp => by simp only [mup_q hp], ?_, ?_, ?_, ?_, ?_, ?_, ?_, ?_, ?_, ?_⟩
      all_goals simp [mup_if, cB2, cDen, h34, h80]
  · skip
    refine g_iload (n := 39) rfl rfl rfl ?_
    refine g_goto rfl ?_
    refine g_putI (n := 47) rfl rfl hq rfl rfl ?_
    refine g_aload_n (n := 48) rfl rfl rfl ?_
    refine g_iload (n := 50) rfl rfl rfl ?_
    refine g_putI (n := 53) rfl rfl hq rfl rfl ?_
    refine g_aload_n (n := 54) rfl rfl rfl ?_
    refine g_iload (n := 56) rfl rfl rfl ?_
    refine g_putI (n := 59) rfl rfl hq rfl rfl ?_
    refine g_aload_n (n := 60) rfl rfl rfl ?_
    refine g_const (n := 61) rfl rfl (s_iconst (v := 1) (by decide)) ?_
    refine g_aload_n (n := 62) rfl rfl rfl ?_
    refine g_getI (n := 65) rfl rfl hq rfl ?_
    refine g_ishl (n := 66) rfl rfl ?_
    refine g_const (n := 67) rfl rfl (s_iconst (v := 1) (by decide)) ?_
    refine g_aload_n (n := 68) rfl rfl rfl ?_
    refine g_getI (n := 71) rfl rfl hq rfl ?_
    refine g_ishl (n := 72) rfl rfl ?_
    refine g_ior (n := 73) rfl rfl ?_
    refine g_putI (n := 76) rfl rfl hq rfl rfl ?_
    refine g_aload_n (n := 77) rfl rfl rfl ?_
    refine g_iload (n := 79) rfl rfl rfl ?_
    refine g_const (n := 80) rfl rfl (s_iconst (v := (-1)) (by decide)) ?_
    refine g_ine (n := 83) rfl rfl (fun h80 => ?_) (fun h80 => ?_)
    · skip
      refine g_const (n := 88) rfl rfl (s_iconst (v := 1) (by decide)) ?_
      refine g_iload (n := 90) rfl rfl rfl ?_
      refine g_ishl (n := 91) rfl rfl ?_
      refine g_putI (n := 94) rfl rfl hq rfl rfl ?_
      refine g_retV rfl ?_
      refine ⟨fun p j hp => by simp only [mup_q hp], ?_, ?_, ?_, ?_, ?_, ?_, ?_, ?_, ?_, ?_⟩
      all_goals simp [mup_if, cB2, cDen, h34, h80]
    · skip
      refine g_const (n := 84) rfl rfl (s_iconst (v := 0) (by decide)) ?_
      refine g_goto rfl ?_
      refine g_putI (n := 94) rfl rfl hq rfl rfl ?_
      refine g_retV rfl ?_
      refine ⟨fun p j hp => by simp only [mup_q hp], ?_, ?_, ?_, ?_, ?_, ?_, ?_, ?_, ?_, ?_⟩
      all_goals simp [mup_if, cB2, cDen, h34, h80]
def rsN (n r : Nat) (rs : Nat → Nat) : Nat → Nat := fun i => if i = n then r else rs i
def TakeQ (T : List SH) (M : Mem) (n r : Nat) (rs : Nat → Nat) : QT := fun v h' c s => v = none ∧ c ≤ 1 ∧ s ≤ 15 ∧ ∃ E' T', h' = hp (zz E' T') (mcp (mup (mup M 3 0 (M 3 0 + 1)) 3 2 (Int32.ofNat (n + 1))) 5 4 8) ∧ AddT T T' ∧ LQ E' T' (n + 1) (rsN n r rs)
set_option maxRecDepth 20000 in
theorem sc_take {r : Nat} (hm : M 3 2 = Int32.ofNat n) (hn12 : n < 12) (hL : LR E T n rs) (hQ : LQ E T n rs) (hr61 : 61 ≤ r) (hr : a_at (zz E T) r = some ruleSh) : EvG (d + 7) miX3_take [.ref 2, .ref r] (hp (zz E T) M) (TakeQ T M n r rs) := by
  refine ev_of mt_X3_take rfl ?_
  refine g_aload_n (n := 1) rfl rfl rfl ?_
  refine g_getR (n := 4) rfl rfl z_2 rfl ?_
  refine g_aload_n (n := 5) rfl rfl rfl ?_
  refine g_cG2 (n := 8) rfl rfl rfl rfl mt_Jx4a65c_add_9ea2d rfl rfl (r_k z_3) (sc_add hm hn12 hL hQ hr61 hr) ?_
  rintro v h' c1 s1 ⟨rfl, -, hc, hs, E', T', rfl, hA, hLQ⟩
  refine g_pop (n := 9) rfl rfl ?_
  refine g_aload_n (n := 10) rfl rfl rfl ?_
  refine g_getR (n := 13) rfl rfl z_2 rfl ?_
  refine g_const (n := 14) rfl rfl (s_iconst (v := 0) (by decide)) ?_
  refine g_aload_n (n := 15) rfl rfl rfl ?_
  refine g_getR (n := 18) rfl rfl z_2 rfl ?_
  refine g_const (n := 19) rfl rfl (s_iconst (v := 0) (by decide)) ?_
  refine g_const (n := 21) rfl rfl (s_bipush (v := 8) (by decide)) ?_
  refine g_copy (n := 24) (j := 8) rfl rfl rfl z_5 z_4 rfl (by omega) (by omega) rfl ?_
  refine go_ret rfl rfl rfl rfl ⟨rfl, by omega, by omega, E', T', rfl, hA, hLQ⟩
def cValid (host kind head a b nt to : Int32) : Bool := (decide (host = -1) || cIs 4 host) && (decide (0 ≤ kind) && (decide (kind ≤ 2) && (cIs 8 head && ((cIs 8 a && (decide (b = -1) || cIs 8 b)) && ((decide (nt = -1) || cIs 8 nt) && (!(decide (kind = 2)) || cIs 4 to))))))
/-- what rule leaves: shapes, cells and answer -/
def RuleP (E : Value) (T : List SH) (M : Mem) (n : Nat) (rs : Nat → Nat) (host kind head a b nt to : Int32) (x : Int32) (E' : Value) (T' : List SH) (M' : Mem) : Prop :=
  (cValid host kind head a b nt to = false ∧ x = -1 ∧ E' = E ∧ T' = T ∧ M' = M) ∨ (cValid host kind head a b nt to = true ∧ ¬ kind = 2 ∧ ¬ to = 0 ∧ x = -2 ∧ E' = E ∧ T' = T ∧ M' = M) ∨
  (cValid host kind head a b nt to = true ∧ (kind = 2 ∨ to = 0) ∧ ∃ M1, InitQ (mfl M (61 + T.length) 0) (61 + T.length) host kind head a b nt to M1 ∧
    ((x = -3 ∧ E' = E ∧ T' = T ++ [ruleSh] ∧ Fr cT M1 M' ∧ ∀ L, ¬ CSol M1 (wR (61 + T.length) rs) (n + 1) L) ∨
     (x = -4 ∧ 12 ≤ n ∧ E' = E ∧ T' = T ++ [ruleSh] ∧ Fr cT M1 M' ∧ ∃ L, Least M1 (wR (61 + T.length) rs) (n + 1) L) ∨
     (x = Int32.ofNat n ∧ n < 12 ∧ AddT (T ++ [ruleSh]) T' ∧ LQ E' T' (n + 1) (rsN n (61 + T.length) rs) ∧ ∃ M2 t, Fr cT M1 M2 ∧ TriedAt M2 t ∧ Least M1 (wR (61 + T.length) rs) (n + 1) t ∧ Fr cB (mcp (mup (mup M2 3 0 (M2 3 0 + 1)) 3 2 (Int32.ofNat (n + 1))) 5 4 8) M' ∧ FGX (mcp (mup (mup M2 3 0 (M2 3 0 + 1)) 3 2 (Int32.ofNat (n + 1))) 5 4 8) (n + 1) (rsN n (61 + T.length) rs) M')))
def RuleCQ (E : Value) (T : List SH) (M : Mem) (n : Nat) (rs : Nat → Nat) (host kind head a b nt to : Int32) : QT := fun v h' c s => c ≤ 2 ∧ s ≤ 25 ∧ ∃ x E' T' M', v = some (.int x) ∧ h' = hp (zz E' T') M' ∧ RuleP E T M n rs host kind head a b nt to x E' T' M'
end RW
