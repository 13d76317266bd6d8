/-! The law over fresh objects: its rows, a call each -/
section LW
variable {xs : List Int32} {d pc len a b : Nat} {al : AL} {st : List Value} {h : AH}
theorem s_alenS {v : Int32} (hd : Nat.blt 11 d = true) (hv : Int32.ofNat xs.length = v) : a_step d xs (pc, .arraylength, len, a, b) al (.long 1 :: st) h = some (pc + len, al, .int v :: st, h, 0, 0) := by
  have h0 : decide ((1 : Int64) = 0) = false := by decide
  simp only [a_step, h0, hd, decide_true, Bool.and_self, cond_true, cond_false, fN_eq, hv]
theorem s_ialdS {i x : Int32} {j : Nat} (hd : Nat.blt 11 d = true) (hj : a_idx i = some j) (hx : a_at xs j = some x) : a_step d xs (pc, .iaload, len, a, b) al (.int i :: .long 1 :: st) h = some (pc + len, al, .int x :: st, h, 0, 0) := by
  simp only [a_step, hj, hx, hd, decide_true, Bool.and_self, cond_true]
theorem s_tswI {df lo hi o : Int} {offs : Array Int} {x : Int32} {t : Nat} (h1 : ¬ x.toInt < lo) (h2 : ¬ hi < x.toInt) (ho : offs[(x.toInt - lo).toNat]? = some o) (ht : (pc : Int) + o = (t : Int)) : a_step d xs (pc, .tableswitch df lo hi offs, len, a, b) al (.int x :: st) h = some (t, al, st, h, 0, 0) := by
  have e1 : (decide (x.toInt < lo) || decide (hi < x.toInt)) = false := by rw [decide_eq_false h1, decide_eq_false h2]; rfl
  have e2 : decide (0 ≤ (t : Int)) = true := decide_eq_true (by omega)
  simp only [a_step, e1, ho, ht, e2, cond_true, cond_false, fN_eq, Int.toNat_natCast]
end LW
abbrev alL : AL := [(3, .int 0), (2, .ref 41), (1, .ref 0), (0, .long 1)]
set_option maxRecDepth 100000 in
theorem law_end {x0 x1 x2 x3 x4 x5 x6 x7 : Int32} {cf : AFun} {M : Nat} {h : AH} {c s : Nat} : a_run MT [x0, x1, x2, x3, x4, x5, x6, x7] cf 12 (some .boolean) tabL_law (M + 20) 749 alL [] h c s = some (some (.int 1), h, c, s) := by
  refine rr rfl (s_iinc (v := 8) rfl (by decide) rfl) ?_
  refine rr rfl s_goto ?_
  refine rr rfl (s_iload_n rfl) ?_
  refine rr rfl (s_aloadL rfl) ?_
  refine rr rfl (s_alenS (v := 8) rfl rfl) ?_
  refine rr rfl (s_bipush (v := 8) (by decide)) ?_
  refine rr rfl (s_isub (v := 0) (by decide)) ?_
  refine rr rfl (s_icT (by decide)) ?_
  refine rr rfl (s_iconst (v := 1) (by decide)) ?_
  exact rrt rfl rfl rfl rfl
def LawK (pc : Nat) : Prop := ∀ x0 x1 x2 x3 x4 x5 x6 x7 : Int32, ∃ (h' : AH) (c s : Nat), a_run MT [x0, x1, x2, x3, x4, x5, x6, x7] (a_m MT [] 100000 11) 12 (some .boolean) tabL_law 99900 pc alL [] hF 61 4137 = some (some (.int 1), h', c, s) ∧ c ≤ 600000 ∧ s ≤ 7302249

theorem g_X8_broken : a_at MT miX8_broken = some amX8_broken := rfl
theorem g_X8_clear : a_at MT miX8_clear = some amX8_clear := rfl
theorem g_X8_init : a_at MT miX8_init = some amX8_init := rfl
theorem g_X8_mend : a_at MT miX8_mend = some amX8_mend := rfl
theorem g_X8_seek : a_at MT miX8_seek = some amX8_seek := rfl
theorem g_X8_sets : a_at MT miX8_sets = some amX8_sets := rfl
theorem g_X8_shrink : a_at MT miX8_shrink = some amX8_shrink := rfl
theorem g_X9_broken : a_at MT miX9_broken = some amX9_broken := rfl
theorem g_X9_clear : a_at MT miX9_clear = some amX9_clear := rfl
theorem g_X9_init : a_at MT miX9_init = some amX9_init := rfl
theorem g_X9_mend : a_at MT miX9_mend = some amX9_mend := rfl
theorem g_X9_seek : a_at MT miX9_seek = some amX9_seek := rfl
theorem g_X9_sets_ : a_at MT miX9_sets_ = some amX9_sets_ := rfl
theorem g_X9_shrink : a_at MT miX9_shrink = some amX9_shrink := rfl
theorem al_clear : Agree miX8_clear miX9_clear [] := agr_ok ag_clear
theorem al_broken : Agree miX8_broken miX9_broken [] := agr_ok ag_broken
theorem al_seek : Agree miX8_seek miX9_seek [] := agr_ok ag_seek
theorem al_sets : Agree miX8_sets miX9_sets_ [] := agr_ok ag_sets
theorem al_shrink : Agree miX8_shrink miX9_shrink [] := agr_ok ag_shrink
theorem al_mend : Agree miX8_mend miX9_mend [] := agr_ok ag_mend
set_option maxRecDepth 100000 in
theorem lk_end : LawK 132 := by
  intro x0 x1 x2 x3 x4 x5 x6 x7
  obtain ⟨r, h1, h2, c1, s1, c2, s2, e1, e2, hc, hs, hr⟩ : Agree miX8_end miX9_end [.int x1] := al_end x1
  have hk : (Nat.ble ([Value.int r] : List Value).length 8 && (Nat.beq ([Value.ref 41, Value.int x1] : List Value).length (bif true then 1 + 1 else 1) && (!true || a_rok h1 [Value.ref 41, Value.int x1] 9))) = true := by
    show (true && (true && (false || a_recv h1 41 9))) = true
    rw [hr]
    rfl
  refine ⟨h2, 61 + c1 + c2, 4137 + s1 + s2, ?_, by omega, by omega⟩
  refine rr rfl (s_aload_n rfl) ?_
  refine rr rfl (s_aloadL rfl) ?_
  refine rr rfl (s_iload_n rfl) ?_
  refine rr rfl (s_iconst (v := 1) (by decide)) ?_
  refine rr rfl (s_iadd (v := 1) (by decide)) ?_
  refine rr rfl (s_ialdS (j := 1) rfl rfl rfl) ?_
  refine rrc rfl rfl rfl (do_of g_X8_end rfl rfl e1) ?_
  refine rr rfl (s_aload_n rfl) ?_
  refine rr rfl (s_aloadL rfl) ?_
  refine rr rfl (s_iload_n rfl) ?_
  refine rr rfl (s_iconst (v := 1) (by decide)) ?_
  refine rr rfl (s_iadd (v := 1) (by decide)) ?_
  refine rr rfl (s_ialdS (j := 1) rfl rfl rfl) ?_
  refine rrc rfl rfl rfl (do_of g_X9_end rfl hk e2) ?_
  refine rr rfl (s_icT (ic_eq rfl)) ?_
  exact law_end
set_option maxRecDepth 100000 in
theorem lk_rule : LawK 155 := by
  intro x0 x1 x2 x3 x4 x5 x6 x7
  obtain ⟨r, h1, h2, c1, s1, c2, s2, e1, e2, hc, hs, hr⟩ : Agree miX8_rule miX9_rule [.int x1, .int x2, .int x3, .int x4, .int x5, .int x6, .int x7] := al_rule x1 x2 x3 x4 x5 x6 x7
  have hk : (Nat.ble ([Value.int r] : List Value).length 8 && (Nat.beq ([Value.ref 41, Value.int x1, Value.int x2, Value.int x3, Value.int x4, Value.int x5, Value.int x6, Value.int x7] : List Value).length (bif true then 7 + 1 else 7) && (!true || a_rok h1 [Value.ref 41, Value.int x1, Value.int x2, Value.int x3, Value.int x4, Value.int x5, Value.int x6, Value.int x7] 9))) = true := by
    show (true && (true && (false || a_recv h1 41 9))) = true
    rw [hr]
    rfl
  refine ⟨h2, 61 + c1 + c2, 4137 + s1 + s2, ?_, by omega, by omega⟩
  refine rr rfl (s_aload_n rfl) ?_
  refine rr rfl (s_aloadL rfl) ?_
  refine rr rfl (s_iload_n rfl) ?_
  refine rr rfl (s_iconst (v := 1) (by decide)) ?_
  refine rr rfl (s_iadd (v := 1) (by decide)) ?_
  refine rr rfl (s_ialdS (j := 1) rfl rfl rfl) ?_
  refine rr rfl (s_aloadL rfl) ?_
  refine rr rfl (s_iload_n rfl) ?_
  refine rr rfl (s_iconst (v := 2) (by decide)) ?_
  refine rr rfl (s_iadd (v := 2) (by decide)) ?_
  refine rr rfl (s_ialdS (j := 2) rfl rfl rfl) ?_
  refine rr rfl (s_aloadL rfl) ?_
  refine rr rfl (s_iload_n rfl) ?_
  refine rr rfl (s_iconst (v := 3) (by decide)) ?_
  refine rr rfl (s_iadd (v := 3) (by decide)) ?_
  refine rr rfl (s_ialdS (j := 3) rfl rfl rfl) ?_
  refine rr rfl (s_aloadL rfl) ?_
  refine rr rfl (s_iload_n rfl) ?_
  refine rr rfl (s_iconst (v := 4) (by decide)) ?_
  refine rr rfl (s_iadd (v := 4) (by decide)) ?_
  refine rr rfl (s_ialdS (j := 4) rfl rfl rfl) ?_
  refine rr rfl (s_aloadL rfl) ?_
  refine rr rfl (s_iload_n rfl) ?_
  refine rr rfl (s_iconst (v := 5) (by decide)) ?_
  refine rr rfl (s_iadd (v := 5) (by decide)) ?_
  refine rr rfl (s_ialdS (j := 5) rfl rfl rfl) ?_
  refine rr rfl (s_aloadL rfl) ?_
  refine rr rfl (s_iload_n rfl) ?_
  refine rr rfl (s_bipush (v := 6) (by decide)) ?_
  refine rr rfl (s_iadd (v := 6) (by decide)) ?_
  refine rr rfl (s_ialdS (j := 6) rfl rfl rfl) ?_
  refine rr rfl (s_aloadL rfl) ?_
  refine rr rfl (s_iload_n rfl) ?_
  refine rr rfl (s_bipush (v := 7) (by decide)) ?_
  refine rr rfl (s_iadd (v := 7) (by decide)) ?_
  refine rr rfl (s_ialdS (j := 7) rfl rfl rfl) ?_
  refine rrc rfl rfl rfl (do_of g_X8_rule rfl rfl e1) ?_
  refine rr rfl (s_aload_n rfl) ?_
  refine rr rfl (s_aloadL rfl) ?_
  refine rr rfl (s_iload_n rfl) ?_
  refine rr rfl (s_iconst (v := 1) (by decide)) ?_
  refine rr rfl (s_iadd (v := 1) (by decide)) ?_
  refine rr rfl (s_ialdS (j := 1) rfl rfl rfl) ?_
  refine rr rfl (s_aloadL rfl) ?_
  refine rr rfl (s_iload_n rfl) ?_
  refine rr rfl (s_iconst (v := 2) (by decide)) ?_
  refine rr rfl (s_iadd (v := 2) (by decide)) ?_
  refine rr rfl (s_ialdS (j := 2) rfl rfl rfl) ?_
  refine rr rfl (s_aloadL rfl) ?_
  refine rr rfl (s_iload_n rfl) ?_
  refine rr rfl (s_iconst (v := 3) (by decide)) ?_
  refine rr rfl (s_iadd (v := 3) (by decide)) ?_
  refine rr rfl (s_ialdS (j := 3) rfl rfl rfl) ?_
  refine rr rfl (s_aloadL rfl) ?_
  refine rr rfl (s_iload_n rfl) ?_
  refine rr rfl (s_iconst (v := 4) (by decide)) ?_
  refine rr rfl (s_iadd (v := 4) (by decide)) ?_
  refine rr rfl (s_ialdS (j := 4) rfl rfl rfl) ?_
  refine rr rfl (s_aloadL rfl) ?_
  refine rr rfl (s_iload_n rfl) ?_
  refine rr rfl (s_iconst (v := 5) (by decide)) ?_
  refine rr rfl (s_iadd (v := 5) (by decide)) ?_
  refine rr rfl (s_ialdS (j := 5) rfl rfl rfl) ?_
  refine rr rfl (s_aloadL rfl) ?_
  refine rr rfl (s_iload_n rfl) ?_
  refine rr rfl (s_bipush (v := 6) (by decide)) ?_
  refine rr rfl (s_iadd (v := 6) (by decide)) ?_
  refine rr rfl (s_ialdS (j := 6) rfl rfl rfl) ?_
  refine rr rfl (s_aloadL rfl) ?_
  refine rr rfl (s_iload_n rfl) ?_
  refine rr rfl (s_bipush (v := 7) (by decide)) ?_
  refine rr rfl (s_iadd (v := 7) (by decide)) ?_
  refine rr rfl (s_ialdS (j := 7) rfl rfl rfl) ?_
  refine rrc rfl rfl rfl (do_of g_X9_rule rfl hk e2) ?_
  refine rr rfl (s_icT (ic_eq rfl)) ?_
  exact law_end
set_option maxRecDepth 100000 in
theorem lk_spare : LawK 242 := by
  intro x0 x1 x2 x3 x4 x5 x6 x7
  obtain ⟨r, h1, h2, c1, s1, c2, s2, e1, e2, hc, hs, hr⟩ : Agree miX8_spare miX9_spare [.int x1, .int x2] := al_spare x1 x2
  have hk : (Nat.ble ([Value.int r] : List Value).length 8 && (Nat.beq ([Value.ref 41, Value.int x1, Value.int x2] : List Value).length (bif true then 2 + 1 else 2) && (!true || a_rok h1 [Value.ref 41, Value.int x1, Value.int x2] 9))) = true := by
    show (true && (true && (false || a_recv h1 41 9))) = true
    rw [hr]
    rfl
  refine ⟨h2, 61 + c1 + c2, 4137 + s1 + s2, ?_, by omega, by omega⟩
  refine rr rfl (s_aload_n rfl) ?_
  refine rr rfl (s_aloadL rfl) ?_
  refine rr rfl (s_iload_n rfl) ?_
  refine rr rfl (s_iconst (v := 1) (by decide)) ?_
  refine rr rfl (s_iadd (v := 1) (by decide)) ?_
  refine rr rfl (s_ialdS (j := 1) rfl rfl rfl) ?_
  refine rr rfl (s_aloadL rfl) ?_
  refine rr rfl (s_iload_n rfl) ?_
  refine rr rfl (s_iconst (v := 2) (by decide)) ?_
  refine rr rfl (s_iadd (v := 2) (by decide)) ?_
  refine rr rfl (s_ialdS (j := 2) rfl rfl rfl) ?_
  refine rrc rfl rfl rfl (do_of g_X8_spare rfl rfl e1) ?_
  refine rr rfl (s_aload_n rfl) ?_
  refine rr rfl (s_aloadL rfl) ?_
  refine rr rfl (s_iload_n rfl) ?_
  refine rr rfl (s_iconst (v := 1) (by decide)) ?_
  refine rr rfl (s_iadd (v := 1) (by decide)) ?_
  refine rr rfl (s_ialdS (j := 1) rfl rfl rfl) ?_
  refine rr rfl (s_aloadL rfl) ?_
  refine rr rfl (s_iload_n rfl) ?_
  refine rr rfl (s_iconst (v := 2) (by decide)) ?_
  refine rr rfl (s_iadd (v := 2) (by decide)) ?_
  refine rr rfl (s_ialdS (j := 2) rfl rfl rfl) ?_
  refine rrc rfl rfl rfl (do_of g_X9_spare rfl hk e2) ?_
  refine rr rfl (s_icT (ic_eq rfl)) ?_
  exact law_end
set_option maxRecDepth 100000 in
theorem lk_first : LawK 275 := by
  intro x0 x1 x2 x3 x4 x5 x6 x7
  obtain ⟨r, h1, h2, c1, s1, c2, s2, e1, e2, hc, hs, hr⟩ : Agree miX8_first miX9_first [.int x1, .int x2, .int x3] := al_first x1 x2 x3
  have hk : (Nat.ble ([Value.int r] : List Value).length 8 && (Nat.beq ([Value.ref 41, Value.int x1, Value.int x2, Value.int x3] : List Value).length (bif true then 3 + 1 else 3) && (!true || a_rok h1 [Value.ref 41, Value.int x1, Value.int x2, Value.int x3] 9))) = true := by
    show (true && (true && (false || a_recv h1 41 9))) = true
    rw [hr]
    rfl
  refine ⟨h2, 61 + c1 + c2, 4137 + s1 + s2, ?_, by omega, by omega⟩
  refine rr rfl (s_aload_n rfl) ?_
  refine rr rfl (s_aloadL rfl) ?_
  refine rr rfl (s_iload_n rfl) ?_
  refine rr rfl (s_iconst (v := 1) (by decide)) ?_
  refine rr rfl (s_iadd (v := 1) (by decide)) ?_
  refine rr rfl (s_ialdS (j := 1) rfl rfl rfl) ?_
  refine rr rfl (s_aloadL rfl) ?_
  refine rr rfl (s_iload_n rfl) ?_
  refine rr rfl (s_iconst (v := 2) (by decide)) ?_
  refine rr rfl (s_iadd (v := 2) (by decide)) ?_
  refine rr rfl (s_ialdS (j := 2) rfl rfl rfl) ?_
  refine rr rfl (s_aloadL rfl) ?_
  refine rr rfl (s_iload_n rfl) ?_
  refine rr rfl (s_iconst (v := 3) (by decide)) ?_
  refine rr rfl (s_iadd (v := 3) (by decide)) ?_
  refine rr rfl (s_ialdS (j := 3) rfl rfl rfl) ?_
  refine rrc rfl rfl rfl (do_of g_X8_first rfl rfl e1) ?_
  refine rr rfl (s_aload_n rfl) ?_
  refine rr rfl (s_aloadL rfl) ?_
  refine rr rfl (s_iload_n rfl) ?_
  refine rr rfl (s_iconst (v := 1) (by decide)) ?_
  refine rr rfl (s_iadd (v := 1) (by decide)) ?_
  refine rr rfl (s_ialdS (j := 1) rfl rfl rfl) ?_
  refine rr rfl (s_aloadL rfl) ?_
  refine rr rfl (s_iload_n rfl) ?_
  refine rr rfl (s_iconst (v := 2) (by decide)) ?_
  refine rr rfl (s_iadd (v := 2) (by decide)) ?_
  refine rr rfl (s_ialdS (j := 2) rfl rfl rfl) ?_
  refine rr rfl (s_aloadL rfl) ?_
  refine rr rfl (s_iload_n rfl) ?_
  refine rr rfl (s_iconst (v := 3) (by decide)) ?_
  refine rr rfl (s_iadd (v := 3) (by decide)) ?_
  refine rr rfl (s_ialdS (j := 3) rfl rfl rfl) ?_
  refine rrc rfl rfl rfl (do_of g_X9_first rfl hk e2) ?_
  refine rr rfl (s_icT (ic_eq rfl)) ?_
  exact law_end
set_option maxRecDepth 100000 in
theorem lk_promise : LawK 318 := by
  intro x0 x1 x2 x3 x4 x5 x6 x7
  obtain ⟨r, h1, h2, c1, s1, c2, s2, e1, e2, hc, hs, hr⟩ : Agree miX8_promise miX9_promise [.int x1, .int x2, .int x3, .int x4] := al_promise x1 x2 x3 x4
  have hk : (Nat.ble ([Value.int r] : List Value).length 8 && (Nat.beq ([Value.ref 41, Value.int x1, Value.int x2, Value.int x3, Value.int x4] : List Value).length (bif true then 4 + 1 else 4) && (!true || a_rok h1 [Value.ref 41, Value.int x1, Value.int x2, Value.int x3, Value.int x4] 9))) = true := by
    show (true && (true && (false || a_recv h1 41 9))) = true
    rw [hr]
    rfl
  refine ⟨h2, 61 + c1 + c2, 4137 + s1 + s2, ?_, by omega, by omega⟩
  refine rr rfl (s_aload_n rfl) ?_
  refine rr rfl (s_aloadL rfl) ?_
  refine rr rfl (s_iload_n rfl) ?_
  refine rr rfl (s_iconst (v := 1) (by decide)) ?_
  refine rr rfl (s_iadd (v := 1) (by decide)) ?_
  refine rr rfl (s_ialdS (j := 1) rfl rfl rfl) ?_
  refine rr rfl (s_aloadL rfl) ?_
  refine rr rfl (s_iload_n rfl) ?_
  refine rr rfl (s_iconst (v := 2) (by decide)) ?_
  refine rr rfl (s_iadd (v := 2) (by decide)) ?_
  refine rr rfl (s_ialdS (j := 2) rfl rfl rfl) ?_
  refine rr rfl (s_aloadL rfl) ?_
  refine rr rfl (s_iload_n rfl) ?_
  refine rr rfl (s_iconst (v := 3) (by decide)) ?_
  refine rr rfl (s_iadd (v := 3) (by decide)) ?_
  refine rr rfl (s_ialdS (j := 3) rfl rfl rfl) ?_
  refine rr rfl (s_aloadL rfl) ?_
  refine rr rfl (s_iload_n rfl) ?_
  refine rr rfl (s_iconst (v := 4) (by decide)) ?_
  refine rr rfl (s_iadd (v := 4) (by decide)) ?_
  refine rr rfl (s_ialdS (j := 4) rfl rfl rfl) ?_
  refine rrc rfl rfl rfl (do_of g_X8_promise rfl rfl e1) ?_
  refine rr rfl (s_aload_n rfl) ?_
  refine rr rfl (s_aloadL rfl) ?_
  refine rr rfl (s_iload_n rfl) ?_
  refine rr rfl (s_iconst (v := 1) (by decide)) ?_
  refine rr rfl (s_iadd (v := 1) (by decide)) ?_
  refine rr rfl (s_ialdS (j := 1) rfl rfl rfl) ?_
  refine rr rfl (s_aloadL rfl) ?_
  refine rr rfl (s_iload_n rfl) ?_
  refine rr rfl (s_iconst (v := 2) (by decide)) ?_
  refine rr rfl (s_iadd (v := 2) (by decide)) ?_
  refine rr rfl (s_ialdS (j := 2) rfl rfl rfl) ?_
  refine rr rfl (s_aloadL rfl) ?_
  refine rr rfl (s_iload_n rfl) ?_
  refine rr rfl (s_iconst (v := 3) (by decide)) ?_
  refine rr rfl (s_iadd (v := 3) (by decide)) ?_
  refine rr rfl (s_ialdS (j := 3) rfl rfl rfl) ?_
  refine rr rfl (s_aloadL rfl) ?_
  refine rr rfl (s_iload_n rfl) ?_
  refine rr rfl (s_iconst (v := 4) (by decide)) ?_
  refine rr rfl (s_iadd (v := 4) (by decide)) ?_
  refine rr rfl (s_ialdS (j := 4) rfl rfl rfl) ?_
  refine rrc rfl rfl rfl (do_of g_X9_promise rfl hk e2) ?_
  refine rr rfl (s_icT (ic_eq rfl)) ?_
  exact law_end
set_option maxRecDepth 100000 in
theorem lk_bounds : LawK 371 := by
  intro x0 x1 x2 x3 x4 x5 x6 x7
  obtain ⟨r, h1, h2, c1, s1, c2, s2, e1, e2, hc, hs, hr⟩ : Agree miX8_bounds miX9_bounds [.int x1, .int x2, .int x3] := al_bounds x1 x2 x3
  have hk : (Nat.ble ([Value.int r] : List Value).length 8 && (Nat.beq ([Value.ref 41, Value.int x1, Value.int x2, Value.int x3] : List Value).length (bif true then 3 + 1 else 3) && (!true || a_rok h1 [Value.ref 41, Value.int x1, Value.int x2, Value.int x3] 9))) = true := by
    show (true && (true && (false || a_recv h1 41 9))) = true
    rw [hr]
    rfl
  refine ⟨h2, 61 + c1 + c2, 4137 + s1 + s2, ?_, by omega, by omega⟩
  refine rr rfl (s_aload_n rfl) ?_
  refine rr rfl (s_aloadL rfl) ?_
  refine rr rfl (s_iload_n rfl) ?_
  refine rr rfl (s_iconst (v := 1) (by decide)) ?_
  refine rr rfl (s_iadd (v := 1) (by decide)) ?_
  refine rr rfl (s_ialdS (j := 1) rfl rfl rfl) ?_
  refine rr rfl (s_aloadL rfl) ?_
  refine rr rfl (s_iload_n rfl) ?_
  refine rr rfl (s_iconst (v := 2) (by decide)) ?_
  refine rr rfl (s_iadd (v := 2) (by decide)) ?_
  refine rr rfl (s_ialdS (j := 2) rfl rfl rfl) ?_
  refine rr rfl (s_aloadL rfl) ?_
  refine rr rfl (s_iload_n rfl) ?_
  refine rr rfl (s_iconst (v := 3) (by decide)) ?_
  refine rr rfl (s_iadd (v := 3) (by decide)) ?_
  refine rr rfl (s_ialdS (j := 3) rfl rfl rfl) ?_
  refine rrc rfl rfl rfl (do_of g_X8_bounds rfl rfl e1) ?_
  refine rr rfl (s_aload_n rfl) ?_
  refine rr rfl (s_aloadL rfl) ?_
  refine rr rfl (s_iload_n rfl) ?_
  refine rr rfl (s_iconst (v := 1) (by decide)) ?_
  refine rr rfl (s_iadd (v := 1) (by decide)) ?_
  refine rr rfl (s_ialdS (j := 1) rfl rfl rfl) ?_
  refine rr rfl (s_aloadL rfl) ?_
  refine rr rfl (s_iload_n rfl) ?_
  refine rr rfl (s_iconst (v := 2) (by decide)) ?_
  refine rr rfl (s_iadd (v := 2) (by decide)) ?_
  refine rr rfl (s_ialdS (j := 2) rfl rfl rfl) ?_
  refine rr rfl (s_aloadL rfl) ?_
  refine rr rfl (s_iload_n rfl) ?_
  refine rr rfl (s_iconst (v := 3) (by decide)) ?_
  refine rr rfl (s_iadd (v := 3) (by decide)) ?_
  refine rr rfl (s_ialdS (j := 3) rfl rfl rfl) ?_
  refine rrc rfl rfl rfl (do_of g_X9_bounds rfl hk e2) ?_
  refine rr rfl (s_icT (ic_eq rfl)) ?_
  exact law_end
set_option maxRecDepth 100000 in
theorem lk_blow : LawK 414 := by
  intro x0 x1 x2 x3 x4 x5 x6 x7
  obtain ⟨r, h1, h2, c1, s1, c2, s2, e1, e2, hc, hs, hr⟩ : Agree miX8_blow miX9_blow [.int x1] := al_blow x1
  have hk : (Nat.ble ([Value.int r] : List Value).length 8 && (Nat.beq ([Value.ref 41, Value.int x1] : List Value).length (bif true then 1 + 1 else 1) && (!true || a_rok h1 [Value.ref 41, Value.int x1] 9))) = true := by
    show (true && (true && (false || a_recv h1 41 9))) = true
    rw [hr]
    rfl
  refine ⟨h2, 61 + c1 + c2, 4137 + s1 + s2, ?_, by omega, by omega⟩
  refine rr rfl (s_aload_n rfl) ?_
  refine rr rfl (s_aloadL rfl) ?_
  refine rr rfl (s_iload_n rfl) ?_
  refine rr rfl (s_iconst (v := 1) (by decide)) ?_
  refine rr rfl (s_iadd (v := 1) (by decide)) ?_
  refine rr rfl (s_ialdS (j := 1) rfl rfl rfl) ?_
  refine rrc rfl rfl rfl (do_of g_X8_blow rfl rfl e1) ?_
  refine rr rfl (s_aload_n rfl) ?_
  refine rr rfl (s_aloadL rfl) ?_
  refine rr rfl (s_iload_n rfl) ?_
  refine rr rfl (s_iconst (v := 1) (by decide)) ?_
  refine rr rfl (s_iadd (v := 1) (by decide)) ?_
  refine rr rfl (s_ialdS (j := 1) rfl rfl rfl) ?_
  refine rrc rfl rfl rfl (do_of g_X9_blow rfl hk e2) ?_
  refine rr rfl (s_icT (ic_eq rfl)) ?_
  exact law_end
set_option maxRecDepth 100000 in
theorem lk_clear : LawK 437 := by
  intro x0 x1 x2 x3 x4 x5 x6 x7
  obtain ⟨r, h1, h2, c1, s1, c2, s2, e1, e2, hc, hs, hr⟩ : Agree miX8_clear miX9_clear [] := al_clear
  have hk : (Nat.ble ([Value.int r] : List Value).length 8 && (Nat.beq ([Value.ref 41] : List Value).length (bif true then 0 + 1 else 0) && (!true || a_rok h1 [Value.ref 41] 9))) = true := by
    show (true && (true && (false || a_recv h1 41 9))) = true
    rw [hr]
    rfl
  refine ⟨h2, 61 + c1 + c2, 4137 + s1 + s2, ?_, by omega, by omega⟩
  refine rr rfl (s_aload_n rfl) ?_
  refine rrc rfl rfl rfl (do_of g_X8_clear rfl rfl e1) ?_
  refine rr rfl (s_aload_n rfl) ?_
  refine rrc rfl rfl rfl (do_of g_X9_clear rfl hk e2) ?_
  refine rr rfl (s_icT (ic_eq rfl)) ?_
  exact law_end
set_option maxRecDepth 100000 in
theorem lk_facts : LawK 450 := by
  intro x0 x1 x2 x3 x4 x5 x6 x7
  obtain ⟨r, h1, h2, c1, s1, c2, s2, e1, e2, hc, hs, hr⟩ : Agree miX8_facts miX9_facts [.int x1, .int x2] := al_facts x1 x2
  have hk : (Nat.ble ([Value.int r] : List Value).length 8 && (Nat.beq ([Value.ref 41, Value.int x1, Value.int x2] : List Value).length (bif true then 2 + 1 else 2) && (!true || a_rok h1 [Value.ref 41, Value.int x1, Value.int x2] 9))) = true := by
    show (true && (true && (false || a_recv h1 41 9))) = true
    rw [hr]
    rfl
  refine ⟨h2, 61 + c1 + c2, 4137 + s1 + s2, ?_, by omega, by omega⟩
  refine rr rfl (s_aload_n rfl) ?_
  refine rr rfl (s_aloadL rfl) ?_
  refine rr rfl (s_iload_n rfl) ?_
  refine rr rfl (s_iconst (v := 1) (by decide)) ?_
  refine rr rfl (s_iadd (v := 1) (by decide)) ?_
  refine rr rfl (s_ialdS (j := 1) rfl rfl rfl) ?_
  refine rr rfl (s_aloadL rfl) ?_
  refine rr rfl (s_iload_n rfl) ?_
  refine rr rfl (s_iconst (v := 2) (by decide)) ?_
  refine rr rfl (s_iadd (v := 2) (by decide)) ?_
  refine rr rfl (s_ialdS (j := 2) rfl rfl rfl) ?_
  refine rrc rfl rfl rfl (do_of g_X8_facts rfl rfl e1) ?_
  refine rr rfl (s_aload_n rfl) ?_
  refine rr rfl (s_aloadL rfl) ?_
  refine rr rfl (s_iload_n rfl) ?_
  refine rr rfl (s_iconst (v := 1) (by decide)) ?_
  refine rr rfl (s_iadd (v := 1) (by decide)) ?_
  refine rr rfl (s_ialdS (j := 1) rfl rfl rfl) ?_
  refine rr rfl (s_aloadL rfl) ?_
  refine rr rfl (s_iload_n rfl) ?_
  refine rr rfl (s_iconst (v := 2) (by decide)) ?_
  refine rr rfl (s_iadd (v := 2) (by decide)) ?_
  refine rr rfl (s_ialdS (j := 2) rfl rfl rfl) ?_
  refine rrc rfl rfl rfl (do_of g_X9_facts rfl hk e2) ?_
  refine rr rfl (s_icT (ic_eq rfl)) ?_
  exact law_end
set_option maxRecDepth 100000 in
theorem lk_letters : LawK 483 := by
  intro x0 x1 x2 x3 x4 x5 x6 x7
  obtain ⟨r, h1, h2, c1, s1, c2, s2, e1, e2, hc, hs, hr⟩ : Agree miX8_letters miX9_letters [.int x1, .int x2, .int x3] := al_letters x1 x2 x3
  have hk : (Nat.ble ([Value.int r] : List Value).length 8 && (Nat.beq ([Value.ref 41, Value.int x1, Value.int x2, Value.int x3] : List Value).length (bif true then 3 + 1 else 3) && (!true || a_rok h1 [Value.ref 41, Value.int x1, Value.int x2, Value.int x3] 9))) = true := by
    show (true && (true && (false || a_recv h1 41 9))) = true
    rw [hr]
    rfl
  refine ⟨h2, 61 + c1 + c2, 4137 + s1 + s2, ?_, by omega, by omega⟩
  refine rr rfl (s_aload_n rfl) ?_
  refine rr rfl (s_aloadL rfl) ?_
  refine rr rfl (s_iload_n rfl) ?_
  refine rr rfl (s_iconst (v := 1) (by decide)) ?_
  refine rr rfl (s_iadd (v := 1) (by decide)) ?_
  refine rr rfl (s_ialdS (j := 1) rfl rfl rfl) ?_
  refine rr rfl (s_aloadL rfl) ?_
  refine rr rfl (s_iload_n rfl) ?_
  refine rr rfl (s_iconst (v := 2) (by decide)) ?_
  refine rr rfl (s_iadd (v := 2) (by decide)) ?_
  refine rr rfl (s_ialdS (j := 2) rfl rfl rfl) ?_
  refine rr rfl (s_aloadL rfl) ?_
  refine rr rfl (s_iload_n rfl) ?_
  refine rr rfl (s_iconst (v := 3) (by decide)) ?_
  refine rr rfl (s_iadd (v := 3) (by decide)) ?_
  refine rr rfl (s_ialdS (j := 3) rfl rfl rfl) ?_
  refine rrc rfl rfl rfl (do_of g_X8_letters rfl rfl e1) ?_
  refine rr rfl (s_aload_n rfl) ?_
  refine rr rfl (s_aloadL rfl) ?_
  refine rr rfl (s_iload_n rfl) ?_
  refine rr rfl (s_iconst (v := 1) (by decide)) ?_
  refine rr rfl (s_iadd (v := 1) (by decide)) ?_
  refine rr rfl (s_ialdS (j := 1) rfl rfl rfl) ?_
  refine rr rfl (s_aloadL rfl) ?_
  refine rr rfl (s_iload_n rfl) ?_
  refine rr rfl (s_iconst (v := 2) (by decide)) ?_
  refine rr rfl (s_iadd (v := 2) (by decide)) ?_
  refine rr rfl (s_ialdS (j := 2) rfl rfl rfl) ?_
  refine rr rfl (s_aloadL rfl) ?_
  refine rr rfl (s_iload_n rfl) ?_
  refine rr rfl (s_iconst (v := 3) (by decide)) ?_
  refine rr rfl (s_iadd (v := 3) (by decide)) ?_
  refine rr rfl (s_ialdS (j := 3) rfl rfl rfl) ?_
  refine rrc rfl rfl rfl (do_of g_X9_letters rfl hk e2) ?_
  refine rr rfl (s_icT (ic_eq rfl)) ?_
  exact law_end
set_option maxRecDepth 100000 in
theorem lk_broken : LawK 526 := by
  intro x0 x1 x2 x3 x4 x5 x6 x7
  obtain ⟨r, h1, h2, c1, s1, c2, s2, e1, e2, hc, hs, hr⟩ : Agree miX8_broken miX9_broken [] := al_broken
  have hk : (Nat.ble ([Value.int r] : List Value).length 8 && (Nat.beq ([Value.ref 41] : List Value).length (bif true then 0 + 1 else 0) && (!true || a_rok h1 [Value.ref 41] 9))) = true := by
    show (true && (true && (false || a_recv h1 41 9))) = true
    rw [hr]
    rfl
  refine ⟨h2, 61 + c1 + c2, 4137 + s1 + s2, ?_, by omega, by omega⟩
  refine rr rfl (s_aload_n rfl) ?_
  refine rrc rfl rfl rfl (do_of g_X8_broken rfl rfl e1) ?_
  refine rr rfl (s_aload_n rfl) ?_
  refine rrc rfl rfl rfl (do_of g_X9_broken rfl hk e2) ?_
  refine rr rfl (s_icT (ic_eq rfl)) ?_
  exact law_end
set_option maxRecDepth 100000 in
theorem lk_why : LawK 539 := by
  intro x0 x1 x2 x3 x4 x5 x6 x7
  obtain ⟨r, h1, h2, c1, s1, c2, s2, e1, e2, hc, hs, hr⟩ : Agree miX8_why miX9_why [.int x1, .int x2, .int x3] := al_why x1 x2 x3
  have hk : (Nat.ble ([Value.int r] : List Value).length 8 && (Nat.beq ([Value.ref 41, Value.int x1, Value.int x2, Value.int x3] : List Value).length (bif true then 3 + 1 else 3) && (!true || a_rok h1 [Value.ref 41, Value.int x1, Value.int x2, Value.int x3] 9))) = true := by
    show (true && (true && (false || a_recv h1 41 9))) = true
    rw [hr]
    rfl
  refine ⟨h2, 61 + c1 + c2, 4137 + s1 + s2, ?_, by omega, by omega⟩
  refine rr rfl (s_aload_n rfl) ?_
  refine rr rfl (s_aloadL rfl) ?_
  refine rr rfl (s_iload_n rfl) ?_
  refine rr rfl (s_iconst (v := 1) (by decide)) ?_
  refine rr rfl (s_iadd (v := 1) (by decide)) ?_
  refine rr rfl (s_ialdS (j := 1) rfl rfl rfl) ?_
  refine rr rfl (s_aloadL rfl) ?_
  refine rr rfl (s_iload_n rfl) ?_
  refine rr rfl (s_iconst (v := 2) (by decide)) ?_
  refine rr rfl (s_iadd (v := 2) (by decide)) ?_
  refine rr rfl (s_ialdS (j := 2) rfl rfl rfl) ?_
  refine rr rfl (s_aloadL rfl) ?_
  refine rr rfl (s_iload_n rfl) ?_
  refine rr rfl (s_iconst (v := 3) (by decide)) ?_
  refine rr rfl (s_iadd (v := 3) (by decide)) ?_
  refine rr rfl (s_ialdS (j := 3) rfl rfl rfl) ?_
  refine rrc rfl rfl rfl (do_of g_X8_why rfl rfl e1) ?_
  refine rr rfl (s_aload_n rfl) ?_
  refine rr rfl (s_aloadL rfl) ?_
  refine rr rfl (s_iload_n rfl) ?_
  refine rr rfl (s_iconst (v := 1) (by decide)) ?_
  refine rr rfl (s_iadd (v := 1) (by decide)) ?_
  refine rr rfl (s_ialdS (j := 1) rfl rfl rfl) ?_
  refine rr rfl (s_aloadL rfl) ?_
  refine rr rfl (s_iload_n rfl) ?_
  refine rr rfl (s_iconst (v := 2) (by decide)) ?_
  refine rr rfl (s_iadd (v := 2) (by decide)) ?_
  refine rr rfl (s_ialdS (j := 2) rfl rfl rfl) ?_
  refine rr rfl (s_aloadL rfl) ?_
  refine rr rfl (s_iload_n rfl) ?_
  refine rr rfl (s_iconst (v := 3) (by decide)) ?_
  refine rr rfl (s_iadd (v := 3) (by decide)) ?_
  refine rr rfl (s_ialdS (j := 3) rfl rfl rfl) ?_
  refine rrc rfl rfl rfl (do_of g_X9_why rfl hk e2) ?_
  refine rr rfl (s_icT (ic_eq rfl)) ?_
  exact law_end
set_option maxRecDepth 100000 in
theorem lk_layer : LawK 582 := by
  intro x0 x1 x2 x3 x4 x5 x6 x7
  obtain ⟨r, h1, h2, c1, s1, c2, s2, e1, e2, hc, hs, hr⟩ : Agree miX8_layer miX9_layer [.int x1] := al_layer x1
  have hk : (Nat.ble ([Value.int r] : List Value).length 8 && (Nat.beq ([Value.ref 41, Value.int x1] : List Value).length (bif true then 1 + 1 else 1) && (!true || a_rok h1 [Value.ref 41, Value.int x1] 9))) = true := by
    show (true && (true && (false || a_recv h1 41 9))) = true
    rw [hr]
    rfl
  refine ⟨h2, 61 + c1 + c2, 4137 + s1 + s2, ?_, by omega, by omega⟩
  refine rr rfl (s_aload_n rfl) ?_
  refine rr rfl (s_aloadL rfl) ?_
  refine rr rfl (s_iload_n rfl) ?_
  refine rr rfl (s_iconst (v := 1) (by decide)) ?_
  refine rr rfl (s_iadd (v := 1) (by decide)) ?_
  refine rr rfl (s_ialdS (j := 1) rfl rfl rfl) ?_
  refine rrc rfl rfl rfl (do_of g_X8_layer rfl rfl e1) ?_
  refine rr rfl (s_aload_n rfl) ?_
  refine rr rfl (s_aloadL rfl) ?_
  refine rr rfl (s_iload_n rfl) ?_
  refine rr rfl (s_iconst (v := 1) (by decide)) ?_
  refine rr rfl (s_iadd (v := 1) (by decide)) ?_
  refine rr rfl (s_ialdS (j := 1) rfl rfl rfl) ?_
  refine rrc rfl rfl rfl (do_of g_X9_layer rfl hk e2) ?_
  refine rr rfl (s_icT (ic_eq rfl)) ?_
  exact law_end
set_option maxRecDepth 100000 in
theorem lk_seek : LawK 605 := by
  intro x0 x1 x2 x3 x4 x5 x6 x7
  obtain ⟨r, h1, h2, c1, s1, c2, s2, e1, e2, hc, hs, hr⟩ : Agree miX8_seek miX9_seek [] := al_seek
  have hk : (Nat.ble ([Value.int r] : List Value).length 8 && (Nat.beq ([Value.ref 41] : List Value).length (bif true then 0 + 1 else 0) && (!true || a_rok h1 [Value.ref 41] 9))) = true := by
    show (true && (true && (false || a_recv h1 41 9))) = true
    rw [hr]
    rfl
  refine ⟨h2, 61 + c1 + c2, 4137 + s1 + s2, ?_, by omega, by omega⟩
  refine rr rfl (s_aload_n rfl) ?_
  refine rrc rfl rfl rfl (do_of g_X8_seek rfl rfl e1) ?_
  refine rr rfl (s_aload_n rfl) ?_
  refine rrc rfl rfl rfl (do_of g_X9_seek rfl hk e2) ?_
  refine rr rfl (s_icT (ic_eq rfl)) ?_
  exact law_end
set_option maxRecDepth 100000 in
theorem lk_found : LawK 618 := by
  intro x0 x1 x2 x3 x4 x5 x6 x7
  obtain ⟨r, h1, h2, c1, s1, c2, s2, e1, e2, hc, hs, hr⟩ : Agree miX8_found miX9_found [.int x1] := al_found x1
  have hk : (Nat.ble ([Value.int r] : List Value).length 8 && (Nat.beq ([Value.ref 41, Value.int x1] : List Value).length (bif true then 1 + 1 else 1) && (!true || a_rok h1 [Value.ref 41, Value.int x1] 9))) = true := by
    show (true && (true && (false || a_recv h1 41 9))) = true
    rw [hr]
    rfl
  refine ⟨h2, 61 + c1 + c2, 4137 + s1 + s2, ?_, by omega, by omega⟩
  refine rr rfl (s_aload_n rfl) ?_
  refine rr rfl (s_aloadL rfl) ?_
  refine rr rfl (s_iload_n rfl) ?_
  refine rr rfl (s_iconst (v := 1) (by decide)) ?_
  refine rr rfl (s_iadd (v := 1) (by decide)) ?_
  refine rr rfl (s_ialdS (j := 1) rfl rfl rfl) ?_
  refine rrc rfl rfl rfl (do_of g_X8_found rfl rfl e1) ?_
  refine rr rfl (s_aload_n rfl) ?_
  refine rr rfl (s_aloadL rfl) ?_
  refine rr rfl (s_iload_n rfl) ?_
  refine rr rfl (s_iconst (v := 1) (by decide)) ?_
  refine rr rfl (s_iadd (v := 1) (by decide)) ?_
  refine rr rfl (s_ialdS (j := 1) rfl rfl rfl) ?_
  refine rrc rfl rfl rfl (do_of g_X9_found rfl hk e2) ?_
  refine rr rfl (s_icT (ic_eq rfl)) ?_
  exact law_end
set_option maxRecDepth 100000 in
theorem lk_sets : LawK 641 := by
  intro x0 x1 x2 x3 x4 x5 x6 x7
  obtain ⟨r, h1, h2, c1, s1, c2, s2, e1, e2, hc, hs, hr⟩ : Agree miX8_sets miX9_sets_ [] := al_sets
  have hk : (Nat.ble ([Value.int r] : List Value).length 8 && (Nat.beq ([Value.ref 41] : List Value).length (bif true then 0 + 1 else 0) && (!true || a_rok h1 [Value.ref 41] 9))) = true := by
    show (true && (true && (false || a_recv h1 41 9))) = true
    rw [hr]
    rfl
  refine ⟨h2, 61 + c1 + c2, 4137 + s1 + s2, ?_, by omega, by omega⟩
  refine rr rfl (s_aload_n rfl) ?_
  refine rrc rfl rfl rfl (do_of g_X8_sets rfl rfl e1) ?_
  refine rr rfl (s_aload_n rfl) ?_
  refine rrc rfl rfl rfl (do_of g_X9_sets_ rfl hk e2) ?_
  refine rr rfl (s_icT (ic_eq rfl)) ?_
  exact law_end
set_option maxRecDepth 100000 in
theorem lk_weak : LawK 654 := by
  intro x0 x1 x2 x3 x4 x5 x6 x7
  obtain ⟨r, h1, h2, c1, s1, c2, s2, e1, e2, hc, hs, hr⟩ : Agree miX8_weak miX9_weak [.int x1] := al_weak x1
  have hk : (Nat.ble ([Value.int r] : List Value).length 8 && (Nat.beq ([Value.ref 41, Value.int x1] : List Value).length (bif true then 1 + 1 else 1) && (!true || a_rok h1 [Value.ref 41, Value.int x1] 9))) = true := by
    show (true && (true && (false || a_recv h1 41 9))) = true
    rw [hr]
    rfl
  refine ⟨h2, 61 + c1 + c2, 4137 + s1 + s2, ?_, by omega, by omega⟩
  refine rr rfl (s_aload_n rfl) ?_
  refine rr rfl (s_aloadL rfl) ?_
  refine rr rfl (s_iload_n rfl) ?_
  refine rr rfl (s_iconst (v := 1) (by decide)) ?_
  refine rr rfl (s_iadd (v := 1) (by decide)) ?_
  refine rr rfl (s_ialdS (j := 1) rfl rfl rfl) ?_
  refine rrc rfl rfl rfl (do_of g_X8_weak rfl rfl e1) ?_
  refine rr rfl (s_aload_n rfl) ?_
  refine rr rfl (s_aloadL rfl) ?_
  refine rr rfl (s_iload_n rfl) ?_
  refine rr rfl (s_iconst (v := 1) (by decide)) ?_
  refine rr rfl (s_iadd (v := 1) (by decide)) ?_
  refine rr rfl (s_ialdS (j := 1) rfl rfl rfl) ?_
  refine rrc rfl rfl rfl (do_of g_X9_weak rfl hk e2) ?_
  refine rr rfl (s_icT (ic_eq rfl)) ?_
  exact law_end
set_option maxRecDepth 100000 in
theorem lk_shrink : LawK 677 := by
  intro x0 x1 x2 x3 x4 x5 x6 x7
  obtain ⟨r, h1, h2, c1, s1, c2, s2, e1, e2, hc, hs, hr⟩ : Agree miX8_shrink miX9_shrink [] := al_shrink
  have hk : (Nat.ble ([Value.int r] : List Value).length 8 && (Nat.beq ([Value.ref 41] : List Value).length (bif true then 0 + 1 else 0) && (!true || a_rok h1 [Value.ref 41] 9))) = true := by
    show (true && (true && (false || a_recv h1 41 9))) = true
    rw [hr]
    rfl
  refine ⟨h2, 61 + c1 + c2, 4137 + s1 + s2, ?_, by omega, by omega⟩
  refine rr rfl (s_aload_n rfl) ?_
  refine rrc rfl rfl rfl (do_of g_X8_shrink rfl rfl e1) ?_
  refine rr rfl (s_aload_n rfl) ?_
  refine rrc rfl rfl rfl (do_of g_X9_shrink rfl hk e2) ?_
  refine rr rfl (s_icT (ic_eq rfl)) ?_
  exact law_end
set_option maxRecDepth 100000 in
theorem lk_mend : LawK 690 := by
  intro x0 x1 x2 x3 x4 x5 x6 x7
  obtain ⟨r, h1, h2, c1, s1, c2, s2, e1, e2, hc, hs, hr⟩ : Agree miX8_mend miX9_mend [] := al_mend
  have hk : (Nat.ble ([Value.int r] : List Value).length 8 && (Nat.beq ([Value.ref 41] : List Value).length (bif true then 0 + 1 else 0) && (!true || a_rok h1 [Value.ref 41] 9))) = true := by
    show (true && (true && (false || a_recv h1 41 9))) = true
    rw [hr]
    rfl
  refine ⟨h2, 61 + c1 + c2, 4137 + s1 + s2, ?_, by omega, by omega⟩
  refine rr rfl (s_aload_n rfl) ?_
  refine rrc rfl rfl rfl (do_of g_X8_mend rfl rfl e1) ?_
  refine rr rfl (s_aload_n rfl) ?_
  refine rrc rfl rfl rfl (do_of g_X9_mend rfl hk e2) ?_
  refine rr rfl (s_icT (ic_eq rfl)) ?_
  exact law_end
set_option maxRecDepth 100000 in
theorem lk_count : LawK 703 := by
  intro x0 x1 x2 x3 x4 x5 x6 x7
  obtain ⟨r, h1, h2, c1, s1, c2, s2, e1, e2, hc, hs, hr⟩ : Agree miX8_count miX9_count [.int x1] := al_count x1
  have hk : (Nat.ble ([Value.int r] : List Value).length 8 && (Nat.beq ([Value.ref 41, Value.int x1] : List Value).length (bif true then 1 + 1 else 1) && (!true || a_rok h1 [Value.ref 41, Value.int x1] 9))) = true := by
    show (true && (true && (false || a_recv h1 41 9))) = true
    rw [hr]
    rfl
  refine ⟨h2, 61 + c1 + c2, 4137 + s1 + s2, ?_, by omega, by omega⟩
  refine rr rfl (s_aload_n rfl) ?_
  refine rr rfl (s_aloadL rfl) ?_
  refine rr rfl (s_iload_n rfl) ?_
  refine rr rfl (s_iconst (v := 1) (by decide)) ?_
  refine rr rfl (s_iadd (v := 1) (by decide)) ?_
  refine rr rfl (s_ialdS (j := 1) rfl rfl rfl) ?_
  refine rrc rfl rfl rfl (do_of g_X8_count rfl rfl e1) ?_
  refine rr rfl (s_aload_n rfl) ?_
  refine rr rfl (s_aloadL rfl) ?_
  refine rr rfl (s_iload_n rfl) ?_
  refine rr rfl (s_iconst (v := 1) (by decide)) ?_
  refine rr rfl (s_iadd (v := 1) (by decide)) ?_
  refine rr rfl (s_ialdS (j := 1) rfl rfl rfl) ?_
  refine rrc rfl rfl rfl (do_of g_X9_count rfl hk e2) ?_
  refine rr rfl (s_icT (ic_eq rfl)) ?_
  exact law_end
set_option maxRecDepth 100000 in
theorem lk_hand : LawK 726 := by
  intro x0 x1 x2 x3 x4 x5 x6 x7
  obtain ⟨r, h1, h2, c1, s1, c2, s2, e1, e2, hc, hs, hr⟩ : Agree miX8_hand miX9_hand [.int x1] := al_hand x1
  have hk : (Nat.ble ([Value.int r] : List Value).length 8 && (Nat.beq ([Value.ref 41, Value.int x1] : List Value).length (bif true then 1 + 1 else 1) && (!true || a_rok h1 [Value.ref 41, Value.int x1] 9))) = true := by
    show (true && (true && (false || a_recv h1 41 9))) = true
    rw [hr]
    rfl
  refine ⟨h2, 61 + c1 + c2, 4137 + s1 + s2, ?_, by omega, by omega⟩
  refine rr rfl (s_aload_n rfl) ?_
  refine rr rfl (s_aloadL rfl) ?_
  refine rr rfl (s_iload_n rfl) ?_
  refine rr rfl (s_iconst (v := 1) (by decide)) ?_
  refine rr rfl (s_iadd (v := 1) (by decide)) ?_
  refine rr rfl (s_ialdS (j := 1) rfl rfl rfl) ?_
  refine rrc rfl rfl rfl (do_of g_X8_hand rfl rfl e1) ?_
  refine rr rfl (s_aload_n rfl) ?_
  refine rr rfl (s_aloadL rfl) ?_
  refine rr rfl (s_iload_n rfl) ?_
  refine rr rfl (s_iconst (v := 1) (by decide)) ?_
  refine rr rfl (s_iadd (v := 1) (by decide)) ?_
  refine rr rfl (s_ialdS (j := 1) rfl rfl rfl) ?_
  refine rrc rfl rfl rfl (do_of g_X9_hand rfl hk e2) ?_
  refine rr rfl (s_icT (ic_eq rfl)) ?_
  exact law_end
set_option maxRecDepth 100000 in
theorem lk_rest {x0 x1 x2 x3 x4 x5 x6 x7 : Int32} : ∃ (h' : AH) (c s : Nat), a_run MT [x0, x1, x2, x3, x4, x5, x6, x7] (a_m MT [] 100000 11) 12 (some .boolean) tabL_law 99900 749 alL [] hF 61 4137 = some (some (.int 1), h', c, s) ∧ c ≤ 600000 ∧ s ≤ 7302249 := ⟨hF, 61, 4137, law_end, by decide, by decide⟩

set_option maxRecDepth 100000 in
theorem law_head {xs : List Int32} {res : ARes} (k : a_run MT xs (a_m MT [] 100000 11) 12 (some .boolean) tabL_law 99990 18 alL [] hF 61 4137 = some res) : a_run MT xs (a_m MT [] 100000 11) 12 (some .boolean) tabL_law 100000 0 [(0, .long 1)] [] [] 0 0 = some res := by
  have e1 : a_m MT [] 100000 11 miX8_init [.ref 0] [aN] = some (none, hC, 40, 3790) := f_ok (by decide) _ _ _ _ _ ev_new
  have e2 : a_m MT [] 100000 11 miX9_init [.ref 41] (hC ++ [aO]) = some (none, hF, 19, 305) := f_ok (by decide) _ _ _ _ _ ev_newM
  refine rr rfl (s_new (q := 0) rfl rfl) ?_
  refine rr rfl s_dup ?_
  refine rrc rfl rfl rfl (do_of (vs := [.ref 0]) (st' := [.ref 0]) g_X8_init rfl rfl e1) ?_
  refine rr rfl (s_astore_n rfl) ?_
  refine rr rfl (s_new (q := 41) (h' := hC ++ [aO]) rfl rfl) ?_
  refine rr rfl s_dup ?_
  refine rrc rfl rfl rfl (do_of (vs := [.ref 41]) (st' := [.ref 41]) g_X9_init rfl rfl e2) ?_
  refine rr rfl (s_astore_n rfl) ?_
  refine rr rfl (s_iconst (v := 0) (by decide)) ?_
  refine rr rfl (s_istore_n rfl) ?_
  exact k
set_option maxRecDepth 100000 in
theorem law_switch {x0 x1 x2 x3 x4 x5 x6 x7 : Int32} {res : ARes} {j t : Nat} {v : Int32} (hv : x0 &&& 31 = v) (hsw : a_step 12 [x0, x1, x2, x3, x4, x5, x6, x7] (33, .tableswitch 716 0 20 #[99, 122, 209, 242, 285, 338, 381, 404, 417, 450, 493, 506, 549, 572, 585, 608, 621, 644, 657, 670, 693], 99, 0, 0) alL [.int v] hF = some (t, alL, [], hF, 0, 0)) (k : a_run MT [x0, x1, x2, x3, x4, x5, x6, x7] (a_m MT [] 100000 11) 12 (some .boolean) tabL_law 99978 t alL [] hF 61 4137 = some res) : a_run MT [x0, x1, x2, x3, x4, x5, x6, x7] (a_m MT [] 100000 11) 12 (some .boolean) tabL_law 99990 18 alL [] hF 61 4137 = some res := by
  refine rr rfl (s_iload_n rfl) ?_
  refine rr rfl (s_aloadL rfl) ?_
  refine rr rfl (s_alenS (v := 8) rfl rfl) ?_
  refine rr rfl (s_bipush (v := 8) (by decide)) ?_
  refine rr rfl (s_isub (v := 0) (by decide)) ?_
  refine rr rfl (s_icF (by decide)) ?_
  refine rr rfl (s_aloadL rfl) ?_
  refine rr rfl (s_iload_n rfl) ?_
  refine rr rfl (s_ialdS (j := 0) rfl rfl rfl) ?_
  refine rr rfl (s_bipush (v := 31) (by decide)) ?_
  refine rr rfl (s_iand hv) ?_
  refine rr rfl hsw ?_
  exact k
set_option maxRecDepth 100000 in
theorem law_short {xs : List Int32} (hx : xs.length < 8) : a_run MT xs (a_m MT [] 100000 11) 12 (some .boolean) tabL_law 99990 18 alL [] hF 61 4137 = some (some (.int 1), hF, 61, 4137) := by
  have hlt : (Int32.ofNat xs.length - 8 : Int32) < 0 := pk_sneg (a := xs.length) (b := 8) (by decide) hx
  refine rr rfl (s_iload_n rfl) ?_
  refine rr rfl (s_aloadL rfl) ?_
  refine rr rfl (s_alenS rfl rfl) ?_
  refine rr rfl (s_bipush (v := 8) (by decide)) ?_
  refine rr rfl (s_isub rfl) ?_
  refine rr rfl (s_icT (ic_gt hlt)) ?_
  refine rr rfl (s_iconst (v := 1) (by decide)) ?_
  exact rrt rfl rfl rfl rfl
set_option maxRecDepth 100000 in
theorem law_ok : lawOK := by
  intro xs hxs
  refine ⟨100000, ?_⟩
  rw [m_xs xs 100000 11 (Nat.le_refl 11)]
  rcases Nat.lt_or_ge xs.length 8 with hl | hl
  · exact ⟨hF, 61, 4137, law_head (law_short hl), by decide, by decide⟩
  · have h8 : xs.length = 8 := by omega
    obtain ⟨x0, x1, x2, x3, x4, x5, x6, x7, rfl⟩ : ∃ x0 x1 x2 x3 x4 x5 x6 x7 : Int32, xs = [x0, x1, x2, x3, x4, x5, x6, x7] := by
      match xs, h8 with
      | [x0, x1, x2, x3, x4, x5, x6, x7], _ => exact ⟨x0, x1, x2, x3, x4, x5, x6, x7, rfl⟩
    obtain ⟨j, hj, hv⟩ := pk_andE x0 (m := 31) 5 (by decide)
    have sw : ∀ {t i : Nat}, j = i → a_step 12 [x0, x1, x2, x3, x4, x5, x6, x7] (33, .tableswitch 716 0 20 #[99, 122, 209, 242, 285, 338, 381, 404, 417, 450, 493, 506, 549, 572, 585, 608, 621, 644, 657, 670, 693], 99, 0, 0) alL [.int (nI i)] hF = some (t, alL, [], hF, 0, 0) → (∃ (h' : AH) (c s : Nat), a_run MT [x0, x1, x2, x3, x4, x5, x6, x7] (a_m MT [] 100000 11) 12 (some .boolean) tabL_law 99900 t alL [] hF 61 4137 = some (some (.int 1), h', c, s) ∧ c ≤ 600000 ∧ s ≤ 7302249) → ∃ (h' : AH) (c s : Nat), a_run MT [x0, x1, x2, x3, x4, x5, x6, x7] (a_m MT [] 100000 11) 12 (some .boolean) tabL_law 100000 0 [(0, .long 1)] [] [] 0 0 = some (some (.int 1), h', c, s) ∧ c ≤ 600000 ∧ s ≤ 7302249 := by
      intro t i hi hst hk
      subst hi
      obtain ⟨h', c, s, e, e1, e2⟩ := hk
      exact ⟨h', c, s, law_head (law_switch (j := j) hv hst (fuel_up _ _ _ _ _ _ _ _ (by decide) e)), e1, e2⟩
    match j, hj with
    | 0, _ => exact sw (t := 132) rfl (s_tswI (o := 99) (by decide) (by decide) rfl rfl) (lk_end x0 x1 x2 x3 x4 x5 x6 x7)
    | 1, _ => exact sw (t := 155) rfl (s_tswI (o := 122) (by decide) (by decide) rfl rfl) (lk_rule x0 x1 x2 x3 x4 x5 x6 x7)
    | 2, _ => exact sw (t := 242) rfl (s_tswI (o := 209) (by decide) (by decide) rfl rfl) (lk_spare x0 x1 x2 x3 x4 x5 x6 x7)
    | 3, _ => exact sw (t := 275) rfl (s_tswI (o := 242) (by decide) (by decide) rfl rfl) (lk_first x0 x1 x2 x3 x4 x5 x6 x7)
    | 4, _ => exact sw (t := 318) rfl (s_tswI (o := 285) (by decide) (by decide) rfl rfl) (lk_promise x0 x1 x2 x3 x4 x5 x6 x7)
    | 5, _ => exact sw (t := 371) rfl (s_tswI (o := 338) (by decide) (by decide) rfl rfl) (lk_bounds x0 x1 x2 x3 x4 x5 x6 x7)
    | 6, _ => exact sw (t := 414) rfl (s_tswI (o := 381) (by decide) (by decide) rfl rfl) (lk_blow x0 x1 x2 x3 x4 x5 x6 x7)
    | 7, _ => exact sw (t := 437) rfl (s_tswI (o := 404) (by decide) (by decide) rfl rfl) (lk_clear x0 x1 x2 x3 x4 x5 x6 x7)
    | 8, _ => exact sw (t := 450) rfl (s_tswI (o := 417) (by decide) (by decide) rfl rfl) (lk_facts x0 x1 x2 x3 x4 x5 x6 x7)
    | 9, _ => exact sw (t := 483) rfl (s_tswI (o := 450) (by decide) (by decide) rfl rfl) (lk_letters x0 x1 x2 x3 x4 x5 x6 x7)
    | 10, _ => exact sw (t := 526) rfl (s_tswI (o := 493) (by decide) (by decide) rfl rfl) (lk_broken x0 x1 x2 x3 x4 x5 x6 x7)
    | 11, _ => exact sw (t := 539) rfl (s_tswI (o := 506) (by decide) (by decide) rfl rfl) (lk_why x0 x1 x2 x3 x4 x5 x6 x7)
    | 12, _ => exact sw (t := 582) rfl (s_tswI (o := 549) (by decide) (by decide) rfl rfl) (lk_layer x0 x1 x2 x3 x4 x5 x6 x7)
    | 13, _ => exact sw (t := 605) rfl (s_tswI (o := 572) (by decide) (by decide) rfl rfl) (lk_seek x0 x1 x2 x3 x4 x5 x6 x7)
    | 14, _ => exact sw (t := 618) rfl (s_tswI (o := 585) (by decide) (by decide) rfl rfl) (lk_found x0 x1 x2 x3 x4 x5 x6 x7)
    | 15, _ => exact sw (t := 641) rfl (s_tswI (o := 608) (by decide) (by decide) rfl rfl) (lk_sets x0 x1 x2 x3 x4 x5 x6 x7)
    | 16, _ => exact sw (t := 654) rfl (s_tswI (o := 621) (by decide) (by decide) rfl rfl) (lk_weak x0 x1 x2 x3 x4 x5 x6 x7)
    | 17, _ => exact sw (t := 677) rfl (s_tswI (o := 644) (by decide) (by decide) rfl rfl) (lk_shrink x0 x1 x2 x3 x4 x5 x6 x7)
    | 18, _ => exact sw (t := 690) rfl (s_tswI (o := 657) (by decide) (by decide) rfl rfl) (lk_mend x0 x1 x2 x3 x4 x5 x6 x7)
    | 19, _ => exact sw (t := 703) rfl (s_tswI (o := 670) (by decide) (by decide) rfl rfl) (lk_count x0 x1 x2 x3 x4 x5 x6 x7)
    | 20, _ => exact sw (t := 726) rfl (s_tswI (o := 693) (by decide) (by decide) rfl rfl) (lk_hand x0 x1 x2 x3 x4 x5 x6 x7)
    | 21, _ => exact sw (t := 749) rfl (s_tswO (t := 749) (by decide) rfl) lk_rest
    | 22, _ => exact sw (t := 749) rfl (s_tswO (t := 749) (by decide) rfl) lk_rest
    | 23, _ => exact sw (t := 749) rfl (s_tswO (t := 749) (by decide) rfl) lk_rest
    | 24, _ => exact sw (t := 749) rfl (s_tswO (t := 749) (by decide) rfl) lk_rest
    | 25, _ => exact sw (t := 749) rfl (s_tswO (t := 749) (by decide) rfl) lk_rest
    | 26, _ => exact sw (t := 749) rfl (s_tswO (t := 749) (by decide) rfl) lk_rest
    | 27, _ => exact sw (t := 749) rfl (s_tswO (t := 749) (by decide) rfl) lk_rest
    | 28, _ => exact sw (t := 749) rfl (s_tswO (t := 749) (by decide) rfl) lk_rest
    | 29, _ => exact sw (t := 749) rfl (s_tswO (t := 749) (by decide) rfl) lk_rest
    | 30, _ => exact sw (t := 749) rfl (s_tswO (t := 749) (by decide) rfl) lk_rest
    | 31, _ => exact sw (t := 749) rfl (s_tswO (t := 749) (by decide) rfl) lk_rest
    | n + 32, q => exact absurd q (by omega)

