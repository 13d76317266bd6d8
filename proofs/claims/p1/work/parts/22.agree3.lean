theorem g_X0_exists : a_at MT miX0_exists = some amX0_exists := rfl
theorem g_X0_hostOf : a_at MT miX0_hostOf = some amX0_hostOf := rfl
theorem g_X0_isLoss : a_at MT miX0_isLoss = some amX0_isLoss := rfl
theorem g_X0_targetOf : a_at MT miX0_targetOf = some amX0_targetOf := rfl
theorem g_X0_tickOf : a_at MT miX0_tickOf = some amX0_tickOf := rfl
theorem g_X5_look : a_at MT miX5_look = some amX5_look := rfl
theorem g_X5_standsIn : a_at MT miX5_standsIn = some amX5_standsIn := rfl
theorem g_X8_blow : a_at MT miX8_blow = some amX8_blow := rfl
theorem g_X8_weak : a_at MT miX8_weak = some amX8_weak := rfl
theorem g_X9_blow : a_at MT miX9_blow = some amX9_blow := rfl
theorem g_X9_isBlow : a_at MT miX9_isBlow = some amX9_isBlow := rfl
theorem g_X9_isLoss : a_at MT miX9_isLoss = some amX9_isLoss := rfl
theorem g_X9_seeks : a_at MT miX9_seeks = some amX9_seeks := rfl
theorem g_X9_tickOf : a_at MT miX9_tickOf = some amX9_tickOf := rfl
theorem g_X9_weak : a_at MT miX9_weak = some amX9_weak := rfl
theorem kk_200 : (200 : Int32).toInt = 200 := by decide
theorem kk_227 : (227 : Int32).toInt = 227 := by decide
theorem tx_blow_xneg {x : Int32} (g1 : ¬ 0 ≤ x) : a_m MT [] 100000 11 miX8_blow [.ref 0, .int x] hF = some (some (.int (-1)), hF, 0, 0) := by
  refine me (d := 10) g_X8_blow (Nat.le_of_ble_eq_true rfl) ?_
  refine rr rfl (s_iload_n rfl) ?_
  refine rr rfl (s_aload_n rfl) ?_
  refine rr rfl (s_getf rfl rfl) ?_
  refine rr rfl (s_getf rfl rfl) ?_
  have e1 : a_m MT [] 100000 10 miX0_exists [.int x, .int 4] hF = some ((some (.int 0)), hF, 0, 0) := by
    refine me (d := 9) g_X0_exists (Nat.le_of_ble_eq_true rfl) ?_
    refine rr rfl (s_iload_n rfl) ?_
    refine rr rfl (s_ifF (ic_nge g1)) ?_
    refine rr rfl (s_iconst (v := 0) (by decide)) ?_
    exact rrt rfl rfl rfl rfl
  refine rrc rfl rfl rfl (do_of g_X0_exists rfl rfl e1) ?_
  refine rr rfl (s_ifF (by decide)) ?_
  refine rr rfl (s_iconst (v := (-1)) (by decide)) ?_
  exact rrt rfl rfl rfl rfl
theorem tm_blow_xneg {x : Int32} (g1 : ¬ 0 ≤ x) : a_m MT [] 100000 11 miX9_blow [.ref 41, .int x] hF = some (some (.int (-1)), hF, 0, 0) := by
  refine me (d := 10) g_X9_blow (Nat.le_of_ble_eq_true rfl) ?_
  refine rr rfl (s_aload_n rfl) ?_
  refine rr rfl (s_iload_n rfl) ?_
  have e1 : a_m MT [] 100000 10 miX9_isBlow [.ref 41, .int x] hF = some ((some (.int 0)), hF, 0, 0) := by
    refine me (d := 9) g_X9_isBlow (Nat.le_of_ble_eq_true rfl) ?_
    refine rr rfl (s_iload_n rfl) ?_
    refine rr rfl (s_ifF (ic_nge g1)) ?_
    refine rr rfl (s_iconst (v := 0) (by decide)) ?_
    exact rrt rfl rfl rfl rfl
  refine rrc rfl rfl rfl (do_of g_X9_isBlow rfl rfl e1) ?_
  refine rr rfl (s_ifF (by decide)) ?_
  refine rr rfl (s_iconst (v := (-1)) (by decide)) ?_
  exact rrt rfl rfl rfl rfl
theorem ag_blow_xneg {x : Int32} (nx : x < 0) : Agree miX8_blow miX9_blow [.int x] := ⟨(-1), hF, hF, 0, 0, 0, 0, tx_blow_xneg (by simp only [Int32.lt_iff_toInt_lt, Int32.le_iff_toInt_le, kk_0, kk_1, kk_2, kk_3, kk_4, kk_5, kk_6, kk_7, kk_8, kk_200, kk_227] at nx ⊢; omega), tm_blow_xneg (by simp only [Int32.lt_iff_toInt_lt, Int32.le_iff_toInt_le, kk_0, kk_1, kk_2, kk_3, kk_4, kk_5, kk_6, kk_7, kk_8, kk_200, kk_227] at nx ⊢; omega), by decide, by decide, rfl⟩
theorem tx_blow_xbig {x : Int32} (g1 : 0 ≤ x) (g2 : 200 ≤ x) (g3 : (4 : Int32) < ((x - 200) >>> (2 &&& 31) : Int32)) : a_m MT [] 100000 11 miX8_blow [.ref 0, .int x] hF = some (some (.int (-1)), hF, 0, 0) := by
  refine me (d := 10) g_X8_blow (Nat.le_of_ble_eq_true rfl) ?_
  refine rr rfl (s_iload_n rfl) ?_
  refine rr rfl (s_aload_n rfl) ?_
  refine rr rfl (s_getf rfl rfl) ?_
  refine rr rfl (s_getf rfl rfl) ?_
  have e1 : a_m MT [] 100000 10 miX0_exists [.int x, .int 4] hF = some ((some (.int 0)), hF, 0, 0) := by
    refine me (d := 9) g_X0_exists (Nat.le_of_ble_eq_true rfl) ?_
    refine rr rfl (s_iload_n rfl) ?_
    refine rr rfl (s_ifT (ic_ge g1)) ?_
    refine rr rfl (s_iload_n rfl) ?_
    have e2 : a_m MT [] 100000 9 miX0_isLoss [.int x] hF = some ((some (.int 0)), hF, 0, 0) := by
      refine me (d := 8) g_X0_isLoss (Nat.le_of_ble_eq_true rfl) ?_
      refine rr rfl (s_iload_n rfl) ?_
      refine rr rfl (s_sipush (v := 200) (by decide)) ?_
      refine rr rfl (s_icT (ic_ge g2)) ?_
      refine rr rfl (s_iconst (v := 0) (by decide)) ?_
      exact rrt rfl rfl rfl rfl
    refine rrc rfl rfl rfl (do_of g_X0_isLoss rfl rfl e2) ?_
    refine rr rfl (s_ifT (by decide)) ?_
    refine rr rfl (s_iload_n rfl) ?_
    have e3 : a_m MT [] 100000 9 miX0_tickOf [.int x] hF = some ((some (.int ((x - 200) >>> (2 &&& 31) : Int32))), hF, 0, 0) := by
      refine me (d := 8) g_X0_tickOf (Nat.le_of_ble_eq_true rfl) ?_
      refine rr rfl (s_iload_n rfl) ?_
      have e4 : a_m MT [] 100000 8 miX0_isLoss [.int x] hF = some ((some (.int 0)), hF, 0, 0) := by
        refine me (d := 7) g_X0_isLoss (Nat.le_of_ble_eq_true rfl) ?_
        refine rr rfl (s_iload_n rfl) ?_
        refine rr rfl (s_sipush (v := 200) (by decide)) ?_
        refine rr rfl (s_icT (ic_ge g2)) ?_
        refine rr rfl (s_iconst (v := 0) (by decide)) ?_
        exact rrt rfl rfl rfl rfl
      refine rrc rfl rfl rfl (do_of g_X0_isLoss rfl rfl e4) ?_
      refine rr rfl (s_ifT (by decide)) ?_
      refine rr rfl (s_iload_n rfl) ?_
      refine rr rfl (s_sipush (v := 200) (by decide)) ?_
      refine rr rfl (s_isub rfl) ?_
      refine rr rfl (s_iconst (v := 2) (by decide)) ?_
      refine rr rfl (s_ishr rfl) ?_
      exact rrt rfl rfl rfl rfl
    refine rrc rfl rfl rfl (do_of g_X0_tickOf rfl rfl e3) ?_
    refine rr rfl (s_iload_n rfl) ?_
    refine rr rfl (s_icT (ic_gt g3)) ?_
    refine rr rfl (s_iconst (v := 0) (by decide)) ?_
    exact rrt rfl rfl rfl rfl
  refine rrc rfl rfl rfl (do_of g_X0_exists rfl rfl e1) ?_
  refine rr rfl (s_ifF (by decide)) ?_
  refine rr rfl (s_iconst (v := (-1)) (by decide)) ?_
  exact rrt rfl rfl rfl rfl
theorem tm_blow_xbig {x : Int32} (g1 : 0 ≤ x) (g2 : 200 ≤ x) (g3 : 4 < ((x - 200) / 4)) : a_m MT [] 100000 11 miX9_blow [.ref 41, .int x] hF = some (some (.int (-1)), hF, 0, 0) := by
  refine me (d := 10) g_X9_blow (Nat.le_of_ble_eq_true rfl) ?_
  refine rr rfl (s_aload_n rfl) ?_
  refine rr rfl (s_iload_n rfl) ?_
  have e1 : a_m MT [] 100000 10 miX9_isBlow [.ref 41, .int x] hF = some ((some (.int 0)), hF, 0, 0) := by
    refine me (d := 9) g_X9_isBlow (Nat.le_of_ble_eq_true rfl) ?_
    refine rr rfl (s_iload_n rfl) ?_
    refine rr rfl (s_ifT (ic_ge g1)) ?_
    refine rr rfl (s_iload_n rfl) ?_
    have e2 : a_m MT [] 100000 9 miX9_isLoss [.int x] hF = some ((some (.int 0)), hF, 0, 0) := by
      refine me (d := 8) g_X9_isLoss (Nat.le_of_ble_eq_true rfl) ?_
      refine rr rfl (s_iload_n rfl) ?_
      refine rr rfl (s_sipush (v := 200) (by decide)) ?_
      refine rr rfl (s_icT (ic_ge g2)) ?_
      refine rr rfl (s_iconst (v := 0) (by decide)) ?_
      exact rrt rfl rfl rfl rfl
    refine rrc rfl rfl rfl (do_of g_X9_isLoss rfl rfl e2) ?_
    refine rr rfl (s_ifT (by decide)) ?_
    refine rr rfl (s_iload_n rfl) ?_
    have e3 : a_m MT [] 100000 9 miX9_tickOf [.int x] hF = some ((some (.int ((x - 200) / 4))), hF, 0, 0) := by
      refine me (d := 8) g_X9_tickOf (Nat.le_of_ble_eq_true rfl) ?_
      refine rr rfl (s_iload_n rfl) ?_
      have e4 : a_m MT [] 100000 8 miX9_isLoss [.int x] hF = some ((some (.int 0)), hF, 0, 0) := by
        refine me (d := 7) g_X9_isLoss (Nat.le_of_ble_eq_true rfl) ?_
        refine rr rfl (s_iload_n rfl) ?_
        refine rr rfl (s_sipush (v := 200) (by decide)) ?_
        refine rr rfl (s_icT (ic_ge g2)) ?_
        refine rr rfl (s_iconst (v := 0) (by decide)) ?_
        exact rrt rfl rfl rfl rfl
      refine rrc rfl rfl rfl (do_of g_X9_isLoss rfl rfl e4) ?_
      refine rr rfl (s_ifT (by decide)) ?_
      refine rr rfl (s_iload_n rfl) ?_
      refine rr rfl (s_sipush (v := 200) (by decide)) ?_
      refine rr rfl (s_isub rfl) ?_
      refine rr rfl (s_iconst (v := 4) (by decide)) ?_
      refine rr rfl (s_idiv (by decide) rfl) ?_
      exact rrt rfl rfl rfl rfl
    refine rrc rfl rfl rfl (do_of g_X9_tickOf rfl rfl e3) ?_
    refine rr rfl (s_aload_n rfl) ?_
    refine rr rfl (s_getf rfl rfl) ?_
    refine rr rfl (s_icT (ic_gt g3)) ?_
    refine rr rfl (s_iconst (v := 0) (by decide)) ?_
    exact rrt rfl rfl rfl rfl
  refine rrc rfl rfl rfl (do_of g_X9_isBlow rfl rfl e1) ?_
  refine rr rfl (s_ifF (by decide)) ?_
  refine rr rfl (s_iconst (v := (-1)) (by decide)) ?_
  exact rrt rfl rfl rfl rfl
theorem ag_blow_xbig {x : Int32} (px : ¬ x < 0) (ox : 227 < x) : Agree miX8_blow miX9_blow [.int x] := ⟨(-1), hF, hF, 0, 0, 0, 0, tx_blow_xbig (by simp only [Int32.lt_iff_toInt_lt, Int32.le_iff_toInt_le, kk_0, kk_1, kk_2, kk_3, kk_4, kk_5, kk_6, kk_7, kk_8, kk_200, kk_227] at px ox ⊢; omega) (by simp only [Int32.lt_iff_toInt_lt, Int32.le_iff_toInt_le, kk_0, kk_1, kk_2, kk_3, kk_4, kk_5, kk_6, kk_7, kk_8, kk_200, kk_227] at px ox ⊢; omega) (big_shr ox), tm_blow_xbig (by simp only [Int32.lt_iff_toInt_lt, Int32.le_iff_toInt_le, kk_0, kk_1, kk_2, kk_3, kk_4, kk_5, kk_6, kk_7, kk_8, kk_200, kk_227] at px ox ⊢; omega) (by simp only [Int32.lt_iff_toInt_lt, Int32.le_iff_toInt_le, kk_0, kk_1, kk_2, kk_3, kk_4, kk_5, kk_6, kk_7, kk_8, kk_200, kk_227] at px ox ⊢; omega) (big_div ox), by decide, by decide, rfl⟩
theorem al_blow (x : Int32) : Agree miX8_blow miX9_blow [.int x] := by
  by_cases nx : x < 0
  · exact ag_blow_xneg  nx
  by_cases qx : x ≤ 227
  rotate_left
  · exact ag_blow_xbig  nx (Int32.not_le.mp qx)
  have px := nx
  obtain ⟨jx, lx, rfl⟩ := nI_of2 (M := 227) (n := 227) rfl px qx
  exact agr_ok (fn_blow jx lx)
theorem tx_weak_A {x : Int32} (g1 : 0 ≤ x) (g2 : ¬ 200 ≤ x) (g3 : ¬ (4 : Int32) ≤ (x >>> (4 &&& 31) : Int32)) (g4 : ¬ ((x >>> (2 &&& 31) : Int32) &&& 3) = (x &&& 3)) (g5 : ¬ x < 0) (g6 : ¬ 228 ≤ x) (g7 : x < 228) : a_m MT [] 100000 11 miX8_weak [.ref 0, .int x] hF = some (some (.int 0), hL, 0, 0) := by
  refine me (d := 10) g_X8_weak (Nat.le_of_ble_eq_true rfl) ?_
  refine rr rfl (s_iload_n rfl) ?_
  refine rr rfl (s_aload_n rfl) ?_
  refine rr rfl (s_getf rfl rfl) ?_
  refine rr rfl (s_getf rfl rfl) ?_
  have e1 : a_m MT [] 100000 10 miX0_exists [.int x, .int 4] hF = some ((some (.int 1)), hF, 0, 0) := by
    refine me (d := 9) g_X0_exists (Nat.le_of_ble_eq_true rfl) ?_
    refine rr rfl (s_iload_n rfl) ?_
    refine rr rfl (s_ifT (ic_ge g1)) ?_
    refine rr rfl (s_iload_n rfl) ?_
    have e2 : a_m MT [] 100000 9 miX0_isLoss [.int x] hF = some ((some (.int 1)), hF, 0, 0) := by
      refine me (d := 8) g_X0_isLoss (Nat.le_of_ble_eq_true rfl) ?_
      refine rr rfl (s_iload_n rfl) ?_
      refine rr rfl (s_sipush (v := 200) (by decide)) ?_
      refine rr rfl (s_icF (ic_nge g2)) ?_
      refine rr rfl (s_iconst (v := 1) (by decide)) ?_
      refine rr rfl s_goto ?_
      exact rrt rfl rfl rfl rfl
    refine rrc rfl rfl rfl (do_of g_X0_isLoss rfl rfl e2) ?_
    refine rr rfl (s_ifF (by decide)) ?_
    refine rr rfl (s_iload_n rfl) ?_
    have e3 : a_m MT [] 100000 9 miX0_tickOf [.int x] hF = some ((some (.int (x >>> (4 &&& 31) : Int32))), hF, 0, 0) := by
      refine me (d := 8) g_X0_tickOf (Nat.le_of_ble_eq_true rfl) ?_
      refine rr rfl (s_iload_n rfl) ?_
      have e4 : a_m MT [] 100000 8 miX0_isLoss [.int x] hF = some ((some (.int 1)), hF, 0, 0) := by
        refine me (d := 7) g_X0_isLoss (Nat.le_of_ble_eq_true rfl) ?_
        refine rr rfl (s_iload_n rfl) ?_
        refine rr rfl (s_sipush (v := 200) (by decide)) ?_
        refine rr rfl (s_icF (ic_nge g2)) ?_
        refine rr rfl (s_iconst (v := 1) (by decide)) ?_
        refine rr rfl s_goto ?_
        exact rrt rfl rfl rfl rfl
      refine rrc rfl rfl rfl (do_of g_X0_isLoss rfl rfl e4) ?_
      refine rr rfl (s_ifF (by decide)) ?_
      refine rr rfl (s_iload_n rfl) ?_
      refine rr rfl (s_iconst (v := 4) (by decide)) ?_
      refine rr rfl (s_ishr rfl) ?_
      refine rr rfl s_goto ?_
      exact rrt rfl rfl rfl rfl
    refine rrc rfl rfl rfl (do_of g_X0_tickOf rfl rfl e3) ?_
    refine rr rfl (s_iload_n rfl) ?_
    refine rr rfl (s_icF (ic_nge g3)) ?_
    refine rr rfl (s_iload_n rfl) ?_
    have e5 : a_m MT [] 100000 9 miX0_hostOf [.int x] hF = some ((some (.int ((x >>> (2 &&& 31) : Int32) &&& 3))), hF, 0, 0) := by
      refine me (d := 8) g_X0_hostOf (Nat.le_of_ble_eq_true rfl) ?_
      refine rr rfl (s_iload_n rfl) ?_
      have e6 : a_m MT [] 100000 8 miX0_isLoss [.int x] hF = some ((some (.int 1)), hF, 0, 0) := by
        refine me (d := 7) g_X0_isLoss (Nat.le_of_ble_eq_true rfl) ?_
        refine rr rfl (s_iload_n rfl) ?_
        refine rr rfl (s_sipush (v := 200) (by decide)) ?_
        refine rr rfl (s_icF (ic_nge g2)) ?_
        refine rr rfl (s_iconst (v := 1) (by decide)) ?_
        refine rr rfl s_goto ?_
        exact rrt rfl rfl rfl rfl
      refine rrc rfl rfl rfl (do_of g_X0_isLoss rfl rfl e6) ?_
      refine rr rfl (s_ifF (by decide)) ?_
      refine rr rfl (s_iload_n rfl) ?_
      refine rr rfl (s_iconst (v := 2) (by decide)) ?_
      refine rr rfl (s_ishr rfl) ?_
      refine rr rfl (s_iconst (v := 3) (by decide)) ?_
      refine rr rfl (s_iand rfl) ?_
      refine rr rfl s_goto ?_
      exact rrt rfl rfl rfl rfl
    refine rrc rfl rfl rfl (do_of g_X0_hostOf rfl rfl e5) ?_
    refine rr rfl (s_iload_n rfl) ?_
    have e7 : a_m MT [] 100000 9 miX0_targetOf [.int x] hF = some ((some (.int (x &&& 3))), hF, 0, 0) := by
      refine me (d := 8) g_X0_targetOf (Nat.le_of_ble_eq_true rfl) ?_
      refine rr rfl (s_iload_n rfl) ?_
      refine rr rfl (s_iconst (v := 3) (by decide)) ?_
      refine rr rfl (s_iand rfl) ?_
      exact rrt rfl rfl rfl rfl
    refine rrc rfl rfl rfl (do_of g_X0_targetOf rfl rfl e7) ?_
    refine rr rfl (s_icF (ic_neq g4)) ?_
    refine rr rfl (s_iconst (v := 1) (by decide)) ?_
    refine rr rfl s_goto ?_
    exact rrt rfl rfl rfl rfl
  refine rrc rfl rfl rfl (do_of g_X0_exists rfl rfl e1) ?_
  refine rr rfl (s_ifT (by decide)) ?_
  refine rr rfl (s_aload_n rfl) ?_
  refine rr rfl (s_getf rfl rfl) ?_
  have e8 := ev_look
  refine rrc rfl rfl rfl (do_of g_X5_look rfl rfl e8) ?_
  refine rr rfl (s_aload_n rfl) ?_
  refine rr rfl (s_getf rfl rfl) ?_
  refine rr rfl (s_iload_n rfl) ?_
  have e9 : a_m MT [] 100000 10 miX5_standsIn [.ref 11, .int x] hL = some ((some (.int 0)), hL, 0, 0) := by
    refine me (d := 9) g_X5_standsIn (Nat.le_of_ble_eq_true rfl) ?_
    refine rr rfl (s_iload_n rfl) ?_
    refine rr rfl (s_ifF (ic_nlt g5)) ?_
    refine rr rfl (s_iload_n rfl) ?_
    refine rr rfl (s_sipush (v := 228) (by decide)) ?_
    refine rr rfl (s_icF (ic_nge g6)) ?_
    refine rr rfl (s_aload_n rfl) ?_
    refine rr rfl (s_getf rfl rfl) ?_
    refine rr rfl (s_iload_n rfl) ?_
    refine rr rfl (s_ialdR (n := 228) (x := 0) rfl g5 (nI_lt_of g7)) ?_
    refine rr rfl s_goto ?_
    exact rrt rfl rfl rfl rfl
  refine rrc rfl rfl rfl (do_of g_X5_standsIn rfl rfl e9) ?_
  exact rrt rfl rfl rfl rfl
theorem tm_weak_A {x : Int32} (g1 : 0 ≤ x) (g2 : ¬ 200 ≤ x) (g3 : ¬ 4 ≤ (x / 16)) (g4 : ¬ ((x / 4) - (x / 4) / 4 * 4) = (x - x / 4 * 4)) : a_m MT [] 100000 11 miX9_weak [.ref 41, .int x] hL = some (some (.int 0), hS, 0, 0) := by
  refine me (d := 10) g_X9_weak (Nat.le_of_ble_eq_true rfl) ?_
  refine rr rfl (s_aload_n rfl) ?_
  refine rr rfl (s_iload_n rfl) ?_
  have e1 : a_m MT [] 100000 10 miX9_isBlow [.ref 41, .int x] hL = some ((some (.int 1)), hL, 0, 0) := by
    refine me (d := 9) g_X9_isBlow (Nat.le_of_ble_eq_true rfl) ?_
    refine rr rfl (s_iload_n rfl) ?_
    refine rr rfl (s_ifT (ic_ge g1)) ?_
    refine rr rfl (s_iload_n rfl) ?_
    have e2 : a_m MT [] 100000 9 miX9_isLoss [.int x] hL = some ((some (.int 1)), hL, 0, 0) := by
      refine me (d := 8) g_X9_isLoss (Nat.le_of_ble_eq_true rfl) ?_
      refine rr rfl (s_iload_n rfl) ?_
      refine rr rfl (s_sipush (v := 200) (by decide)) ?_
      refine rr rfl (s_icF (ic_nge g2)) ?_
      refine rr rfl (s_iconst (v := 1) (by decide)) ?_
      refine rr rfl s_goto ?_
      exact rrt rfl rfl rfl rfl
    refine rrc rfl rfl rfl (do_of g_X9_isLoss rfl rfl e2) ?_
    refine rr rfl (s_ifF (by decide)) ?_
    refine rr rfl (s_iload_n rfl) ?_
    refine rr rfl (s_bipush (v := 16) (by decide)) ?_
    refine rr rfl (s_idiv (by decide) rfl) ?_
    refine rr rfl (s_aload_n rfl) ?_
    refine rr rfl (s_getf rfl rfl) ?_
    refine rr rfl (s_icF (ic_nge g3)) ?_
    refine rr rfl (s_iload_n rfl) ?_
    refine rr rfl (s_iconst (v := 4) (by decide)) ?_
    refine rr rfl (s_idiv (by decide) rfl) ?_
    refine rr rfl (s_iconst (v := 4) (by decide)) ?_
    refine rr rfl (s_irem (by decide) rfl) ?_
    refine rr rfl (s_iload_n rfl) ?_
    refine rr rfl (s_iconst (v := 4) (by decide)) ?_
    refine rr rfl (s_irem (by decide) rfl) ?_
    refine rr rfl (s_icF (ic_neq g4)) ?_
    refine rr rfl (s_iconst (v := 1) (by decide)) ?_
    refine rr rfl s_goto ?_
    exact rrt rfl rfl rfl rfl
  refine rrc rfl rfl rfl (do_of g_X9_isBlow rfl rfl e1) ?_
  refine rr rfl (s_ifT (by decide)) ?_
  refine rr rfl (s_aload_n rfl) ?_
  have e3 := ev_seeks
  refine rrc rfl rfl rfl (do_of g_X9_seeks rfl rfl e3) ?_
  refine rr rfl (s_istore_n rfl) ?_
  refine rr rfl (s_iload_n rfl) ?_
  refine rr rfl (s_iconst (v := 1) (by decide)) ?_
  refine rr rfl (s_icT (by decide)) ?_
  refine rr rfl (s_iconst (v := 0) (by decide)) ?_
  refine rr rfl (s_istore_n rfl) ?_
  refine rr rfl (s_iconst (v := 0) (by decide)) ?_
  refine rr rfl (s_istore rfl) ?_
  refine rr rfl (s_iload rfl) ?_
  refine rr rfl (s_sipush (v := 228) (by decide)) ?_
  refine rr rfl (s_icF (by decide)) ?_
  refine rr rfl (s_iload_n rfl) ?_
  refine rr rfl (s_iconst (v := 2) (by decide)) ?_
  refine rr rfl (s_icT (by decide)) ?_
  refine rr rfl (s_iload_n rfl) ?_
  exact rrt rfl rfl rfl rfl
theorem tx_weak_B {x : Int32} (g1 : 0 ≤ x) (g2 : ¬ 200 ≤ x) (g3 : ¬ (4 : Int32) ≤ (x >>> (4 &&& 31) : Int32)) (g4 : ((x >>> (2 &&& 31) : Int32) &&& 3) = (x &&& 3)) : a_m MT [] 100000 11 miX8_weak [.ref 0, .int x] hF = some (some (.int (-1)), hF, 0, 0) := by
  refine me (d := 10) g_X8_weak (Nat.le_of_ble_eq_true rfl) ?_
  refine rr rfl (s_iload_n rfl) ?_
  refine rr rfl (s_aload_n rfl) ?_
  refine rr rfl (s_getf rfl rfl) ?_
  refine rr rfl (s_getf rfl rfl) ?_
  have e1 : a_m MT [] 100000 10 miX0_exists [.int x, .int 4] hF = some ((some (.int 0)), hF, 0, 0) := by
    refine me (d := 9) g_X0_exists (Nat.le_of_ble_eq_true rfl) ?_
    refine rr rfl (s_iload_n rfl) ?_
    refine rr rfl (s_ifT (ic_ge g1)) ?_
    refine rr rfl (s_iload_n rfl) ?_
    have e2 : a_m MT [] 100000 9 miX0_isLoss [.int x] hF = some ((some (.int 1)), hF, 0, 0) := by
      refine me (d := 8) g_X0_isLoss (Nat.le_of_ble_eq_true rfl) ?_
      refine rr rfl (s_iload_n rfl) ?_
      refine rr rfl (s_sipush (v := 200) (by decide)) ?_
      refine rr rfl (s_icF (ic_nge g2)) ?_
      refine rr rfl (s_iconst (v := 1) (by decide)) ?_
      refine rr rfl s_goto ?_
      exact rrt rfl rfl rfl rfl
    refine rrc rfl rfl rfl (do_of g_X0_isLoss rfl rfl e2) ?_
    refine rr rfl (s_ifF (by decide)) ?_
    refine rr rfl (s_iload_n rfl) ?_
    have e3 : a_m MT [] 100000 9 miX0_tickOf [.int x] hF = some ((some (.int (x >>> (4 &&& 31) : Int32))), hF, 0, 0) := by
      refine me (d := 8) g_X0_tickOf (Nat.le_of_ble_eq_true rfl) ?_
      refine rr rfl (s_iload_n rfl) ?_
      have e4 : a_m MT [] 100000 8 miX0_isLoss [.int x] hF = some ((some (.int 1)), hF, 0, 0) := by
        refine me (d := 7) g_X0_isLoss (Nat.le_of_ble_eq_true rfl) ?_
        refine rr rfl (s_iload_n rfl) ?_
        refine rr rfl (s_sipush (v := 200) (by decide)) ?_
        refine rr rfl (s_icF (ic_nge g2)) ?_
        refine rr rfl (s_iconst (v := 1) (by decide)) ?_
        refine rr rfl s_goto ?_
        exact rrt rfl rfl rfl rfl
      refine rrc rfl rfl rfl (do_of g_X0_isLoss rfl rfl e4) ?_
      refine rr rfl (s_ifF (by decide)) ?_
      refine rr rfl (s_iload_n rfl) ?_
      refine rr rfl (s_iconst (v := 4) (by decide)) ?_
      refine rr rfl (s_ishr rfl) ?_
      refine rr rfl s_goto ?_
      exact rrt rfl rfl rfl rfl
    refine rrc rfl rfl rfl (do_of g_X0_tickOf rfl rfl e3) ?_
    refine rr rfl (s_iload_n rfl) ?_
    refine rr rfl (s_icF (ic_nge g3)) ?_
    refine rr rfl (s_iload_n rfl) ?_
    have e5 : a_m MT [] 100000 9 miX0_hostOf [.int x] hF = some ((some (.int ((x >>> (2 &&& 31) : Int32) &&& 3))), hF, 0, 0) := by
      refine me (d := 8) g_X0_hostOf (Nat.le_of_ble_eq_true rfl) ?_
      refine rr rfl (s_iload_n rfl) ?_
      have e6 : a_m MT [] 100000 8 miX0_isLoss [.int x] hF = some ((some (.int 1)), hF, 0, 0) := by
        refine me (d := 7) g_X0_isLoss (Nat.le_of_ble_eq_true rfl) ?_
        refine rr rfl (s_iload_n rfl) ?_
        refine rr rfl (s_sipush (v := 200) (by decide)) ?_
        refine rr rfl (s_icF (ic_nge g2)) ?_
        refine rr rfl (s_iconst (v := 1) (by decide)) ?_
        refine rr rfl s_goto ?_
        exact rrt rfl rfl rfl rfl
      refine rrc rfl rfl rfl (do_of g_X0_isLoss rfl rfl e6) ?_
      refine rr rfl (s_ifF (by decide)) ?_
      refine rr rfl (s_iload_n rfl) ?_
      refine rr rfl (s_iconst (v := 2) (by decide)) ?_
      refine rr rfl (s_ishr rfl) ?_
      refine rr rfl (s_iconst (v := 3) (by decide)) ?_
      refine rr rfl (s_iand rfl) ?_
      refine rr rfl s_goto ?_
      exact rrt rfl rfl rfl rfl
    refine rrc rfl rfl rfl (do_of g_X0_hostOf rfl rfl e5) ?_
    refine rr rfl (s_iload_n rfl) ?_
    have e7 : a_m MT [] 100000 9 miX0_targetOf [.int x] hF = some ((some (.int (x &&& 3))), hF, 0, 0) := by
      refine me (d := 8) g_X0_targetOf (Nat.le_of_ble_eq_true rfl) ?_
      refine rr rfl (s_iload_n rfl) ?_
      refine rr rfl (s_iconst (v := 3) (by decide)) ?_
      refine rr rfl (s_iand rfl) ?_
      exact rrt rfl rfl rfl rfl
    refine rrc rfl rfl rfl (do_of g_X0_targetOf rfl rfl e7) ?_
    refine rr rfl (s_icT (ic_eq g4)) ?_
    refine rr rfl (s_iconst (v := 0) (by decide)) ?_
    exact rrt rfl rfl rfl rfl
  refine rrc rfl rfl rfl (do_of g_X0_exists rfl rfl e1) ?_
  refine rr rfl (s_ifF (by decide)) ?_
  refine rr rfl (s_iconst (v := (-1)) (by decide)) ?_
  exact rrt rfl rfl rfl rfl
theorem tm_weak_B {x : Int32} (g1 : 0 ≤ x) (g2 : ¬ 200 ≤ x) (g3 : ¬ 4 ≤ (x / 16)) (g4 : ((x / 4) - (x / 4) / 4 * 4) = (x - x / 4 * 4)) : a_m MT [] 100000 11 miX9_weak [.ref 41, .int x] hF = some (some (.int (-1)), hF, 0, 0) := by
  refine me (d := 10) g_X9_weak (Nat.le_of_ble_eq_true rfl) ?_
  refine rr rfl (s_aload_n rfl) ?_
  refine rr rfl (s_iload_n rfl) ?_
  have e1 : a_m MT [] 100000 10 miX9_isBlow [.ref 41, .int x] hF = some ((some (.int 0)), hF, 0, 0) := by
    refine me (d := 9) g_X9_isBlow (Nat.le_of_ble_eq_true rfl) ?_
    refine rr rfl (s_iload_n rfl) ?_
    refine rr rfl (s_ifT (ic_ge g1)) ?_
    refine rr rfl (s_iload_n rfl) ?_
    have e2 : a_m MT [] 100000 9 miX9_isLoss [.int x] hF = some ((some (.int 1)), hF, 0, 0) := by
      refine me (d := 8) g_X9_isLoss (Nat.le_of_ble_eq_true rfl) ?_
      refine rr rfl (s_iload_n rfl) ?_
      refine rr rfl (s_sipush (v := 200) (by decide)) ?_
      refine rr rfl (s_icF (ic_nge g2)) ?_
      refine rr rfl (s_iconst (v := 1) (by decide)) ?_
      refine rr rfl s_goto ?_
      exact rrt rfl rfl rfl rfl
    refine rrc rfl rfl rfl (do_of g_X9_isLoss rfl rfl e2) ?_
    refine rr rfl (s_ifF (by decide)) ?_
    refine rr rfl (s_iload_n rfl) ?_
    refine rr rfl (s_bipush (v := 16) (by decide)) ?_
    refine rr rfl (s_idiv (by decide) rfl) ?_
    refine rr rfl (s_aload_n rfl) ?_
    refine rr rfl (s_getf rfl rfl) ?_
    refine rr rfl (s_icF (ic_nge g3)) ?_
    refine rr rfl (s_iload_n rfl) ?_
    refine rr rfl (s_iconst (v := 4) (by decide)) ?_
    refine rr rfl (s_idiv (by decide) rfl) ?_
    refine rr rfl (s_iconst (v := 4) (by decide)) ?_
    refine rr rfl (s_irem (by decide) rfl) ?_
    refine rr rfl (s_iload_n rfl) ?_
    refine rr rfl (s_iconst (v := 4) (by decide)) ?_
    refine rr rfl (s_irem (by decide) rfl) ?_
    refine rr rfl (s_icT (ic_eq g4)) ?_
    refine rr rfl (s_iconst (v := 0) (by decide)) ?_
    refine rr rfl s_goto ?_
    exact rrt rfl rfl rfl rfl
  refine rrc rfl rfl rfl (do_of g_X9_isBlow rfl rfl e1) ?_
  refine rr rfl (s_ifF (by decide)) ?_
  refine rr rfl (s_iconst (v := (-1)) (by decide)) ?_
  exact rrt rfl rfl rfl rfl
theorem tx_weak_C {x : Int32} (g1 : 0 ≤ x) (g2 : ¬ 200 ≤ x) (g3 : (4 : Int32) ≤ (x >>> (4 &&& 31) : Int32)) : a_m MT [] 100000 11 miX8_weak [.ref 0, .int x] hF = some (some (.int (-1)), hF, 0, 0) := by
  refine me (d := 10) g_X8_weak (Nat.le_of_ble_eq_true rfl) ?_
  refine rr rfl (s_iload_n rfl) ?_
  refine rr rfl (s_aload_n rfl) ?_
  refine rr rfl (s_getf rfl rfl) ?_
  refine rr rfl (s_getf rfl rfl) ?_
  have e1 : a_m MT [] 100000 10 miX0_exists [.int x, .int 4] hF = some ((some (.int 0)), hF, 0, 0) := by
    refine me (d := 9) g_X0_exists (Nat.le_of_ble_eq_true rfl) ?_
    refine rr rfl (s_iload_n rfl) ?_
    refine rr rfl (s_ifT (ic_ge g1)) ?_
    refine rr rfl (s_iload_n rfl) ?_
    have e2 : a_m MT [] 100000 9 miX0_isLoss [.int x] hF = some ((some (.int 1)), hF, 0, 0) := by
      refine me (d := 8) g_X0_isLoss (Nat.le_of_ble_eq_true rfl) ?_
      refine rr rfl (s_iload_n rfl) ?_
      refine rr rfl (s_sipush (v := 200) (by decide)) ?_
      refine rr rfl (s_icF (ic_nge g2)) ?_
      refine rr rfl (s_iconst (v := 1) (by decide)) ?_
      refine rr rfl s_goto ?_
      exact rrt rfl rfl rfl rfl
    refine rrc rfl rfl rfl (do_of g_X0_isLoss rfl rfl e2) ?_
    refine rr rfl (s_ifF (by decide)) ?_
    refine rr rfl (s_iload_n rfl) ?_
    have e3 : a_m MT [] 100000 9 miX0_tickOf [.int x] hF = some ((some (.int (x >>> (4 &&& 31) : Int32))), hF, 0, 0) := by
      refine me (d := 8) g_X0_tickOf (Nat.le_of_ble_eq_true rfl) ?_
      refine rr rfl (s_iload_n rfl) ?_
      have e4 : a_m MT [] 100000 8 miX0_isLoss [.int x] hF = some ((some (.int 1)), hF, 0, 0) := by
        refine me (d := 7) g_X0_isLoss (Nat.le_of_ble_eq_true rfl) ?_
        refine rr rfl (s_iload_n rfl) ?_
        refine rr rfl (s_sipush (v := 200) (by decide)) ?_
        refine rr rfl (s_icF (ic_nge g2)) ?_
        refine rr rfl (s_iconst (v := 1) (by decide)) ?_
        refine rr rfl s_goto ?_
        exact rrt rfl rfl rfl rfl
      refine rrc rfl rfl rfl (do_of g_X0_isLoss rfl rfl e4) ?_
      refine rr rfl (s_ifF (by decide)) ?_
      refine rr rfl (s_iload_n rfl) ?_
      refine rr rfl (s_iconst (v := 4) (by decide)) ?_
      refine rr rfl (s_ishr rfl) ?_
      refine rr rfl s_goto ?_
      exact rrt rfl rfl rfl rfl
    refine rrc rfl rfl rfl (do_of g_X0_tickOf rfl rfl e3) ?_
    refine rr rfl (s_iload_n rfl) ?_
    refine rr rfl (s_icT (ic_ge g3)) ?_
    refine rr rfl (s_iconst (v := 0) (by decide)) ?_
    exact rrt rfl rfl rfl rfl
  refine rrc rfl rfl rfl (do_of g_X0_exists rfl rfl e1) ?_
  refine rr rfl (s_ifF (by decide)) ?_
  refine rr rfl (s_iconst (v := (-1)) (by decide)) ?_
  exact rrt rfl rfl rfl rfl
theorem tm_weak_C {x : Int32} (g1 : 0 ≤ x) (g2 : ¬ 200 ≤ x) (g3 : 4 ≤ (x / 16)) : a_m MT [] 100000 11 miX9_weak [.ref 41, .int x] hF = some (some (.int (-1)), hF, 0, 0) := by
  refine me (d := 10) g_X9_weak (Nat.le_of_ble_eq_true rfl) ?_
  refine rr rfl (s_aload_n rfl) ?_
  refine rr rfl (s_iload_n rfl) ?_
  have e1 : a_m MT [] 100000 10 miX9_isBlow [.ref 41, .int x] hF = some ((some (.int 0)), hF, 0, 0) := by
    refine me (d := 9) g_X9_isBlow (Nat.le_of_ble_eq_true rfl) ?_
    refine rr rfl (s_iload_n rfl) ?_
    refine rr rfl (s_ifT (ic_ge g1)) ?_
    refine rr rfl (s_iload_n rfl) ?_
    have e2 : a_m MT [] 100000 9 miX9_isLoss [.int x] hF = some ((some (.int 1)), hF, 0, 0) := by
      refine me (d := 8) g_X9_isLoss (Nat.le_of_ble_eq_true rfl) ?_
      refine rr rfl (s_iload_n rfl) ?_
      refine rr rfl (s_sipush (v := 200) (by decide)) ?_
      refine rr rfl (s_icF (ic_nge g2)) ?_
      refine rr rfl (s_iconst (v := 1) (by decide)) ?_
      refine rr rfl s_goto ?_
      exact rrt rfl rfl rfl rfl
    refine rrc rfl rfl rfl (do_of g_X9_isLoss rfl rfl e2) ?_
    refine rr rfl (s_ifF (by decide)) ?_
    refine rr rfl (s_iload_n rfl) ?_
    refine rr rfl (s_bipush (v := 16) (by decide)) ?_
    refine rr rfl (s_idiv (by decide) rfl) ?_
    refine rr rfl (s_aload_n rfl) ?_
    refine rr rfl (s_getf rfl rfl) ?_
    refine rr rfl (s_icT (ic_ge g3)) ?_
    refine rr rfl (s_iconst (v := 0) (by decide)) ?_
    refine rr rfl s_goto ?_
    exact rrt rfl rfl rfl rfl
  refine rrc rfl rfl rfl (do_of g_X9_isBlow rfl rfl e1) ?_
  refine rr rfl (s_ifF (by decide)) ?_
  refine rr rfl (s_iconst (v := (-1)) (by decide)) ?_
  exact rrt rfl rfl rfl rfl
theorem tx_weak_D {x : Int32} (g1 : 0 ≤ x) (g2 : 200 ≤ x) (g3 : ¬ (4 : Int32) < ((x - 200) >>> (2 &&& 31) : Int32)) (g4 : ¬ x < 0) (g5 : ¬ 228 ≤ x) (g6 : x < 228) : a_m MT [] 100000 11 miX8_weak [.ref 0, .int x] hF = some (some (.int 0), hL, 0, 0) := by
  refine me (d := 10) g_X8_weak (Nat.le_of_ble_eq_true rfl) ?_
  refine rr rfl (s_iload_n rfl) ?_
  refine rr rfl (s_aload_n rfl) ?_
  refine rr rfl (s_getf rfl rfl) ?_
  refine rr rfl (s_getf rfl rfl) ?_
  have e1 : a_m MT [] 100000 10 miX0_exists [.int x, .int 4] hF = some ((some (.int 1)), hF, 0, 0) := by
    refine me (d := 9) g_X0_exists (Nat.le_of_ble_eq_true rfl) ?_
    refine rr rfl (s_iload_n rfl) ?_
    refine rr rfl (s_ifT (ic_ge g1)) ?_
    refine rr rfl (s_iload_n rfl) ?_
    have e2 : a_m MT [] 100000 9 miX0_isLoss [.int x] hF = some ((some (.int 0)), hF, 0, 0) := by
      refine me (d := 8) g_X0_isLoss (Nat.le_of_ble_eq_true rfl) ?_
      refine rr rfl (s_iload_n rfl) ?_
      refine rr rfl (s_sipush (v := 200) (by decide)) ?_
      refine rr rfl (s_icT (ic_ge g2)) ?_
      refine rr rfl (s_iconst (v := 0) (by decide)) ?_
      exact rrt rfl rfl rfl rfl
    refine rrc rfl rfl rfl (do_of g_X0_isLoss rfl rfl e2) ?_
    refine rr rfl (s_ifT (by decide)) ?_
    refine rr rfl (s_iload_n rfl) ?_
    have e3 : a_m MT [] 100000 9 miX0_tickOf [.int x] hF = some ((some (.int ((x - 200) >>> (2 &&& 31) : Int32))), hF, 0, 0) := by
      refine me (d := 8) g_X0_tickOf (Nat.le_of_ble_eq_true rfl) ?_
      refine rr rfl (s_iload_n rfl) ?_
      have e4 : a_m MT [] 100000 8 miX0_isLoss [.int x] hF = some ((some (.int 0)), hF, 0, 0) := by
        refine me (d := 7) g_X0_isLoss (Nat.le_of_ble_eq_true rfl) ?_
        refine rr rfl (s_iload_n rfl) ?_
        refine rr rfl (s_sipush (v := 200) (by decide)) ?_
        refine rr rfl (s_icT (ic_ge g2)) ?_
        refine rr rfl (s_iconst (v := 0) (by decide)) ?_
        exact rrt rfl rfl rfl rfl
      refine rrc rfl rfl rfl (do_of g_X0_isLoss rfl rfl e4) ?_
      refine rr rfl (s_ifT (by decide)) ?_
      refine rr rfl (s_iload_n rfl) ?_
      refine rr rfl (s_sipush (v := 200) (by decide)) ?_
      refine rr rfl (s_isub rfl) ?_
      refine rr rfl (s_iconst (v := 2) (by decide)) ?_
      refine rr rfl (s_ishr rfl) ?_
      exact rrt rfl rfl rfl rfl
    refine rrc rfl rfl rfl (do_of g_X0_tickOf rfl rfl e3) ?_
    refine rr rfl (s_iload_n rfl) ?_
    refine rr rfl (s_icF (ic_ngt g3)) ?_
    refine rr rfl (s_iconst (v := 1) (by decide)) ?_
    refine rr rfl s_goto ?_
    exact rrt rfl rfl rfl rfl
  refine rrc rfl rfl rfl (do_of g_X0_exists rfl rfl e1) ?_
  refine rr rfl (s_ifT (by decide)) ?_
  refine rr rfl (s_aload_n rfl) ?_
  refine rr rfl (s_getf rfl rfl) ?_
  have e5 := ev_look
  refine rrc rfl rfl rfl (do_of g_X5_look rfl rfl e5) ?_
  refine rr rfl (s_aload_n rfl) ?_
  refine rr rfl (s_getf rfl rfl) ?_
  refine rr rfl (s_iload_n rfl) ?_
  have e6 : a_m MT [] 100000 10 miX5_standsIn [.ref 11, .int x] hL = some ((some (.int 0)), hL, 0, 0) := by
    refine me (d := 9) g_X5_standsIn (Nat.le_of_ble_eq_true rfl) ?_
    refine rr rfl (s_iload_n rfl) ?_
    refine rr rfl (s_ifF (ic_nlt g4)) ?_
    refine rr rfl (s_iload_n rfl) ?_
    refine rr rfl (s_sipush (v := 228) (by decide)) ?_
    refine rr rfl (s_icF (ic_nge g5)) ?_
    refine rr rfl (s_aload_n rfl) ?_
    refine rr rfl (s_getf rfl rfl) ?_
    refine rr rfl (s_iload_n rfl) ?_
    refine rr rfl (s_ialdR (n := 228) (x := 0) rfl g4 (nI_lt_of g6)) ?_
    refine rr rfl s_goto ?_
    exact rrt rfl rfl rfl rfl
  refine rrc rfl rfl rfl (do_of g_X5_standsIn rfl rfl e6) ?_
  exact rrt rfl rfl rfl rfl
theorem tm_weak_D {x : Int32} (g1 : 0 ≤ x) (g2 : 200 ≤ x) (g3 : ¬ 4 < ((x - 200) / 4)) : a_m MT [] 100000 11 miX9_weak [.ref 41, .int x] hL = some (some (.int 0), hS, 0, 0) := by
  refine me (d := 10) g_X9_weak (Nat.le_of_ble_eq_true rfl) ?_
  refine rr rfl (s_aload_n rfl) ?_
  refine rr rfl (s_iload_n rfl) ?_
  have e1 : a_m MT [] 100000 10 miX9_isBlow [.ref 41, .int x] hL = some ((some (.int 1)), hL, 0, 0) := by
    refine me (d := 9) g_X9_isBlow (Nat.le_of_ble_eq_true rfl) ?_
    refine rr rfl (s_iload_n rfl) ?_
    refine rr rfl (s_ifT (ic_ge g1)) ?_
    refine rr rfl (s_iload_n rfl) ?_
    have e2 : a_m MT [] 100000 9 miX9_isLoss [.int x] hL = some ((some (.int 0)), hL, 0, 0) := by
      refine me (d := 8) g_X9_isLoss (Nat.le_of_ble_eq_true rfl) ?_
      refine rr rfl (s_iload_n rfl) ?_
      refine rr rfl (s_sipush (v := 200) (by decide)) ?_
      refine rr rfl (s_icT (ic_ge g2)) ?_
      refine rr rfl (s_iconst (v := 0) (by decide)) ?_
      exact rrt rfl rfl rfl rfl
    refine rrc rfl rfl rfl (do_of g_X9_isLoss rfl rfl e2) ?_
    refine rr rfl (s_ifT (by decide)) ?_
    refine rr rfl (s_iload_n rfl) ?_
    have e3 : a_m MT [] 100000 9 miX9_tickOf [.int x] hL = some ((some (.int ((x - 200) / 4))), hL, 0, 0) := by
      refine me (d := 8) g_X9_tickOf (Nat.le_of_ble_eq_true rfl) ?_
      refine rr rfl (s_iload_n rfl) ?_
      have e4 : a_m MT [] 100000 8 miX9_isLoss [.int x] hL = some ((some (.int 0)), hL, 0, 0) := by
        refine me (d := 7) g_X9_isLoss (Nat.le_of_ble_eq_true rfl) ?_
        refine rr rfl (s_iload_n rfl) ?_
        refine rr rfl (s_sipush (v := 200) (by decide)) ?_
        refine rr rfl (s_icT (ic_ge g2)) ?_
        refine rr rfl (s_iconst (v := 0) (by decide)) ?_
        exact rrt rfl rfl rfl rfl
      refine rrc rfl rfl rfl (do_of g_X9_isLoss rfl rfl e4) ?_
      refine rr rfl (s_ifT (by decide)) ?_
      refine rr rfl (s_iload_n rfl) ?_
      refine rr rfl (s_sipush (v := 200) (by decide)) ?_
      refine rr rfl (s_isub rfl) ?_
      refine rr rfl (s_iconst (v := 4) (by decide)) ?_
      refine rr rfl (s_idiv (by decide) rfl) ?_
      exact rrt rfl rfl rfl rfl
    refine rrc rfl rfl rfl (do_of g_X9_tickOf rfl rfl e3) ?_
    refine rr rfl (s_aload_n rfl) ?_
    refine rr rfl (s_getf rfl rfl) ?_
    refine rr rfl (s_icF (ic_ngt g3)) ?_
    refine rr rfl (s_iconst (v := 1) (by decide)) ?_
    refine rr rfl s_goto ?_
    exact rrt rfl rfl rfl rfl
  refine rrc rfl rfl rfl (do_of g_X9_isBlow rfl rfl e1) ?_
  refine rr rfl (s_ifT (by decide)) ?_
  refine rr rfl (s_aload_n rfl) ?_
  have e5 := ev_seeks
  refine rrc rfl rfl rfl (do_of g_X9_seeks rfl rfl e5) ?_
  refine rr rfl (s_istore_n rfl) ?_
  refine rr rfl (s_iload_n rfl) ?_
  refine rr rfl (s_iconst (v := 1) (by decide)) ?_
  refine rr rfl (s_icT (by decide)) ?_
  refine rr rfl (s_iconst (v := 0) (by decide)) ?_
  refine rr rfl (s_istore_n rfl) ?_
  refine rr rfl (s_iconst (v := 0) (by decide)) ?_
  refine rr rfl (s_istore rfl) ?_
  refine rr rfl (s_iload rfl) ?_
  refine rr rfl (s_sipush (v := 228) (by decide)) ?_
  refine rr rfl (s_icF (by decide)) ?_
  refine rr rfl (s_iload_n rfl) ?_
  refine rr rfl (s_iconst (v := 2) (by decide)) ?_
  refine rr rfl (s_icT (by decide)) ?_
  refine rr rfl (s_iload_n rfl) ?_
  exact rrt rfl rfl rfl rfl
theorem tx_weak_E {x : Int32} (g1 : 0 ≤ x) (g2 : 200 ≤ x) (g3 : (4 : Int32) < ((x - 200) >>> (2 &&& 31) : Int32)) : a_m MT [] 100000 11 miX8_weak [.ref 0, .int x] hF = some (some (.int (-1)), hF, 0, 0) := by
  refine me (d := 10) g_X8_weak (Nat.le_of_ble_eq_true rfl) ?_
  refine rr rfl (s_iload_n rfl) ?_
  refine rr rfl (s_aload_n rfl) ?_
  refine rr rfl (s_getf rfl rfl) ?_
  refine rr rfl (s_getf rfl rfl) ?_
  have e1 : a_m MT [] 100000 10 miX0_exists [.int x, .int 4] hF = some ((some (.int 0)), hF, 0, 0) := by
    refine me (d := 9) g_X0_exists (Nat.le_of_ble_eq_true rfl) ?_
    refine rr rfl (s_iload_n rfl) ?_
    refine rr rfl (s_ifT (ic_ge g1)) ?_
    refine rr rfl (s_iload_n rfl) ?_
    have e2 : a_m MT [] 100000 9 miX0_isLoss [.int x] hF = some ((some (.int 0)), hF, 0, 0) := by
      refine me (d := 8) g_X0_isLoss (Nat.le_of_ble_eq_true rfl) ?_
      refine rr rfl (s_iload_n rfl) ?_
      refine rr rfl (s_sipush (v := 200) (by decide)) ?_
      refine rr rfl (s_icT (ic_ge g2)) ?_
      refine rr rfl (s_iconst (v := 0) (by decide)) ?_
      exact rrt rfl rfl rfl rfl
    refine rrc rfl rfl rfl (do_of g_X0_isLoss rfl rfl e2) ?_
    refine rr rfl (s_ifT (by decide)) ?_
    refine rr rfl (s_iload_n rfl) ?_
    have e3 : a_m MT [] 100000 9 miX0_tickOf [.int x] hF = some ((some (.int ((x - 200) >>> (2 &&& 31) : Int32))), hF, 0, 0) := by
      refine me (d := 8) g_X0_tickOf (Nat.le_of_ble_eq_true rfl) ?_
      refine rr rfl (s_iload_n rfl) ?_
      have e4 : a_m MT [] 100000 8 miX0_isLoss [.int x] hF = some ((some (.int 0)), hF, 0, 0) := by
        refine me (d := 7) g_X0_isLoss (Nat.le_of_ble_eq_true rfl) ?_
        refine rr rfl (s_iload_n rfl) ?_
        refine rr rfl (s_sipush (v := 200) (by decide)) ?_
        refine rr rfl (s_icT (ic_ge g2)) ?_
        refine rr rfl (s_iconst (v := 0) (by decide)) ?_
        exact rrt rfl rfl rfl rfl
      refine rrc rfl rfl rfl (do_of g_X0_isLoss rfl rfl e4) ?_
      refine rr rfl (s_ifT (by decide)) ?_
      refine rr rfl (s_iload_n rfl) ?_
      refine rr rfl (s_sipush (v := 200) (by decide)) ?_
      refine rr rfl (s_isub rfl) ?_
      refine rr rfl (s_iconst (v := 2) (by decide)) ?_
      refine rr rfl (s_ishr rfl) ?_
      exact rrt rfl rfl rfl rfl
    refine rrc rfl rfl rfl (do_of g_X0_tickOf rfl rfl e3) ?_
    refine rr rfl (s_iload_n rfl) ?_
    refine rr rfl (s_icT (ic_gt g3)) ?_
    refine rr rfl (s_iconst (v := 0) (by decide)) ?_
    exact rrt rfl rfl rfl rfl
  refine rrc rfl rfl rfl (do_of g_X0_exists rfl rfl e1) ?_
  refine rr rfl (s_ifF (by decide)) ?_
  refine rr rfl (s_iconst (v := (-1)) (by decide)) ?_
  exact rrt rfl rfl rfl rfl
theorem tm_weak_E {x : Int32} (g1 : 0 ≤ x) (g2 : 200 ≤ x) (g3 : 4 < ((x - 200) / 4)) : a_m MT [] 100000 11 miX9_weak [.ref 41, .int x] hF = some (some (.int (-1)), hF, 0, 0) := by
  refine me (d := 10) g_X9_weak (Nat.le_of_ble_eq_true rfl) ?_
  refine rr rfl (s_aload_n rfl) ?_
  refine rr rfl (s_iload_n rfl) ?_
  have e1 : a_m MT [] 100000 10 miX9_isBlow [.ref 41, .int x] hF = some ((some (.int 0)), hF, 0, 0) := by
    refine me (d := 9) g_X9_isBlow (Nat.le_of_ble_eq_true rfl) ?_
    refine rr rfl (s_iload_n rfl) ?_
    refine rr rfl (s_ifT (ic_ge g1)) ?_
    refine rr rfl (s_iload_n rfl) ?_
    have e2 : a_m MT [] 100000 9 miX9_isLoss [.int x] hF = some ((some (.int 0)), hF, 0, 0) := by
      refine me (d := 8) g_X9_isLoss (Nat.le_of_ble_eq_true rfl) ?_
      refine rr rfl (s_iload_n rfl) ?_
      refine rr rfl (s_sipush (v := 200) (by decide)) ?_
      refine rr rfl (s_icT (ic_ge g2)) ?_
      refine rr rfl (s_iconst (v := 0) (by decide)) ?_
      exact rrt rfl rfl rfl rfl
    refine rrc rfl rfl rfl (do_of g_X9_isLoss rfl rfl e2) ?_
    refine rr rfl (s_ifT (by decide)) ?_
    refine rr rfl (s_iload_n rfl) ?_
    have e3 : a_m MT [] 100000 9 miX9_tickOf [.int x] hF = some ((some (.int ((x - 200) / 4))), hF, 0, 0) := by
      refine me (d := 8) g_X9_tickOf (Nat.le_of_ble_eq_true rfl) ?_
      refine rr rfl (s_iload_n rfl) ?_
      have e4 : a_m MT [] 100000 8 miX9_isLoss [.int x] hF = some ((some (.int 0)), hF, 0, 0) := by
        refine me (d := 7) g_X9_isLoss (Nat.le_of_ble_eq_true rfl) ?_
        refine rr rfl (s_iload_n rfl) ?_
        refine rr rfl (s_sipush (v := 200) (by decide)) ?_
        refine rr rfl (s_icT (ic_ge g2)) ?_
        refine rr rfl (s_iconst (v := 0) (by decide)) ?_
        exact rrt rfl rfl rfl rfl
      refine rrc rfl rfl rfl (do_of g_X9_isLoss rfl rfl e4) ?_
      refine rr rfl (s_ifT (by decide)) ?_
      refine rr rfl (s_iload_n rfl) ?_
      refine rr rfl (s_sipush (v := 200) (by decide)) ?_
      refine rr rfl (s_isub rfl) ?_
      refine rr rfl (s_iconst (v := 4) (by decide)) ?_
      refine rr rfl (s_idiv (by decide) rfl) ?_
      exact rrt rfl rfl rfl rfl
    refine rrc rfl rfl rfl (do_of g_X9_tickOf rfl rfl e3) ?_
    refine rr rfl (s_aload_n rfl) ?_
    refine rr rfl (s_getf rfl rfl) ?_
    refine rr rfl (s_icT (ic_gt g3)) ?_
    refine rr rfl (s_iconst (v := 0) (by decide)) ?_
    exact rrt rfl rfl rfl rfl
  refine rrc rfl rfl rfl (do_of g_X9_isBlow rfl rfl e1) ?_
  refine rr rfl (s_ifF (by decide)) ?_
  refine rr rfl (s_iconst (v := (-1)) (by decide)) ?_
  exact rrt rfl rfl rfl rfl
theorem tx_weak_xneg {x : Int32} (g1 : ¬ 0 ≤ x) : a_m MT [] 100000 11 miX8_weak [.ref 0, .int x] hF = some (some (.int (-1)), hF, 0, 0) := by
  refine me (d := 10) g_X8_weak (Nat.le_of_ble_eq_true rfl) ?_
  refine rr rfl (s_iload_n rfl) ?_
  refine rr rfl (s_aload_n rfl) ?_
  refine rr rfl (s_getf rfl rfl) ?_
  refine rr rfl (s_getf rfl rfl) ?_
  have e1 : a_m MT [] 100000 10 miX0_exists [.int x, .int 4] hF = some ((some (.int 0)), hF, 0, 0) := by
    refine me (d := 9) g_X0_exists (Nat.le_of_ble_eq_true rfl) ?_
    refine rr rfl (s_iload_n rfl) ?_
    refine rr rfl (s_ifF (ic_nge g1)) ?_
    refine rr rfl (s_iconst (v := 0) (by decide)) ?_
    exact rrt rfl rfl rfl rfl
  refine rrc rfl rfl rfl (do_of g_X0_exists rfl rfl e1) ?_
  refine rr rfl (s_ifF (by decide)) ?_
  refine rr rfl (s_iconst (v := (-1)) (by decide)) ?_
  exact rrt rfl rfl rfl rfl
theorem tm_weak_xneg {x : Int32} (g1 : ¬ 0 ≤ x) : a_m MT [] 100000 11 miX9_weak [.ref 41, .int x] hF = some (some (.int (-1)), hF, 0, 0) := by
  refine me (d := 10) g_X9_weak (Nat.le_of_ble_eq_true rfl) ?_
  refine rr rfl (s_aload_n rfl) ?_
  refine rr rfl (s_iload_n rfl) ?_
  have e1 : a_m MT [] 100000 10 miX9_isBlow [.ref 41, .int x] hF = some ((some (.int 0)), hF, 0, 0) := by
    refine me (d := 9) g_X9_isBlow (Nat.le_of_ble_eq_true rfl) ?_
    refine rr rfl (s_iload_n rfl) ?_
    refine rr rfl (s_ifF (ic_nge g1)) ?_
    refine rr rfl (s_iconst (v := 0) (by decide)) ?_
    exact rrt rfl rfl rfl rfl
  refine rrc rfl rfl rfl (do_of g_X9_isBlow rfl rfl e1) ?_
  refine rr rfl (s_ifF (by decide)) ?_
  refine rr rfl (s_iconst (v := (-1)) (by decide)) ?_
  exact rrt rfl rfl rfl rfl
theorem ag_weak_xneg {x : Int32} (nx : x < 0) : Agree miX8_weak miX9_weak [.int x] := ⟨(-1), hF, hF, 0, 0, 0, 0, tx_weak_xneg (by simp only [Int32.lt_iff_toInt_lt, Int32.le_iff_toInt_le, kk_0, kk_1, kk_2, kk_3, kk_4, kk_5, kk_6, kk_7, kk_8, kk_200, kk_227] at nx ⊢; omega), tm_weak_xneg (by simp only [Int32.lt_iff_toInt_lt, Int32.le_iff_toInt_le, kk_0, kk_1, kk_2, kk_3, kk_4, kk_5, kk_6, kk_7, kk_8, kk_200, kk_227] at nx ⊢; omega), by decide, by decide, rfl⟩
theorem tx_weak_xbig {x : Int32} (g1 : 0 ≤ x) (g2 : 200 ≤ x) (g3 : (4 : Int32) < ((x - 200) >>> (2 &&& 31) : Int32)) : a_m MT [] 100000 11 miX8_weak [.ref 0, .int x] hF = some (some (.int (-1)), hF, 0, 0) := by
  refine me (d := 10) g_X8_weak (Nat.le_of_ble_eq_true rfl) ?_
  refine rr rfl (s_iload_n rfl) ?_
  refine rr rfl (s_aload_n rfl) ?_
  refine rr rfl (s_getf rfl rfl) ?_
  refine rr rfl (s_getf rfl rfl) ?_
  have e1 : a_m MT [] 100000 10 miX0_exists [.int x, .int 4] hF = some ((some (.int 0)), hF, 0, 0) := by
    refine me (d := 9) g_X0_exists (Nat.le_of_ble_eq_true rfl) ?_
    refine rr rfl (s_iload_n rfl) ?_
    refine rr rfl (s_ifT (ic_ge g1)) ?_
    refine rr rfl (s_iload_n rfl) ?_
    have e2 : a_m MT [] 100000 9 miX0_isLoss [.int x] hF = some ((some (.int 0)), hF, 0, 0) := by
      refine me (d := 8) g_X0_isLoss (Nat.le_of_ble_eq_true rfl) ?_
      refine rr rfl (s_iload_n rfl) ?_
      refine rr rfl (s_sipush (v := 200) (by decide)) ?_
      refine rr rfl (s_icT (ic_ge g2)) ?_
      refine rr rfl (s_iconst (v := 0) (by decide)) ?_
      exact rrt rfl rfl rfl rfl
    refine rrc rfl rfl rfl (do_of g_X0_isLoss rfl rfl e2) ?_
    refine rr rfl (s_ifT (by decide)) ?_
    refine rr rfl (s_iload_n rfl) ?_
    have e3 : a_m MT [] 100000 9 miX0_tickOf [.int x] hF = some ((some (.int ((x - 200) >>> (2 &&& 31) : Int32))), hF, 0, 0) := by
      refine me (d := 8) g_X0_tickOf (Nat.le_of_ble_eq_true rfl) ?_
      refine rr rfl (s_iload_n rfl) ?_
      have e4 : a_m MT [] 100000 8 miX0_isLoss [.int x] hF = some ((some (.int 0)), hF, 0, 0) := by
        refine me (d := 7) g_X0_isLoss (Nat.le_of_ble_eq_true rfl) ?_
        refine rr rfl (s_iload_n rfl) ?_
        refine rr rfl (s_sipush (v := 200) (by decide)) ?_
        refine rr rfl (s_icT (ic_ge g2)) ?_
        refine rr rfl (s_iconst (v := 0) (by decide)) ?_
        exact rrt rfl rfl rfl rfl
      refine rrc rfl rfl rfl (do_of g_X0_isLoss rfl rfl e4) ?_
      refine rr rfl (s_ifT (by decide)) ?_
      refine rr rfl (s_iload_n rfl) ?_
      refine rr rfl (s_sipush (v := 200) (by decide)) ?_
      refine rr rfl (s_isub rfl) ?_
      refine rr rfl (s_iconst (v := 2) (by decide)) ?_
      refine rr rfl (s_ishr rfl) ?_
      exact rrt rfl rfl rfl rfl
    refine rrc rfl rfl rfl (do_of g_X0_tickOf rfl rfl e3) ?_
    refine rr rfl (s_iload_n rfl) ?_
    refine rr rfl (s_icT (ic_gt g3)) ?_
    refine rr rfl (s_iconst (v := 0) (by decide)) ?_
    exact rrt rfl rfl rfl rfl
  refine rrc rfl rfl rfl (do_of g_X0_exists rfl rfl e1) ?_
  refine rr rfl (s_ifF (by decide)) ?_
  refine rr rfl (s_iconst (v := (-1)) (by decide)) ?_
  exact rrt rfl rfl rfl rfl
theorem tm_weak_xbig {x : Int32} (g1 : 0 ≤ x) (g2 : 200 ≤ x) (g3 : 4 < ((x - 200) / 4)) : a_m MT [] 100000 11 miX9_weak [.ref 41, .int x] hF = some (some (.int (-1)), hF, 0, 0) := by
  refine me (d := 10) g_X9_weak (Nat.le_of_ble_eq_true rfl) ?_
  refine rr rfl (s_aload_n rfl) ?_
  refine rr rfl (s_iload_n rfl) ?_
  have e1 : a_m MT [] 100000 10 miX9_isBlow [.ref 41, .int x] hF = some ((some (.int 0)), hF, 0, 0) := by
    refine me (d := 9) g_X9_isBlow (Nat.le_of_ble_eq_true rfl) ?_
    refine rr rfl (s_iload_n rfl) ?_
    refine rr rfl (s_ifT (ic_ge g1)) ?_
    refine rr rfl (s_iload_n rfl) ?_
    have e2 : a_m MT [] 100000 9 miX9_isLoss [.int x] hF = some ((some (.int 0)), hF, 0, 0) := by
      refine me (d := 8) g_X9_isLoss (Nat.le_of_ble_eq_true rfl) ?_
      refine rr rfl (s_iload_n rfl) ?_
      refine rr rfl (s_sipush (v := 200) (by decide)) ?_
      refine rr rfl (s_icT (ic_ge g2)) ?_
      refine rr rfl (s_iconst (v := 0) (by decide)) ?_
      exact rrt rfl rfl rfl rfl
    refine rrc rfl rfl rfl (do_of g_X9_isLoss rfl rfl e2) ?_
    refine rr rfl (s_ifT (by decide)) ?_
    refine rr rfl (s_iload_n rfl) ?_
    have e3 : a_m MT [] 100000 9 miX9_tickOf [.int x] hF = some ((some (.int ((x - 200) / 4))), hF, 0, 0) := by
      refine me (d := 8) g_X9_tickOf (Nat.le_of_ble_eq_true rfl) ?_
      refine rr rfl (s_iload_n rfl) ?_
      have e4 : a_m MT [] 100000 8 miX9_isLoss [.int x] hF = some ((some (.int 0)), hF, 0, 0) := by
        refine me (d := 7) g_X9_isLoss (Nat.le_of_ble_eq_true rfl) ?_
        refine rr rfl (s_iload_n rfl) ?_
        refine rr rfl (s_sipush (v := 200) (by decide)) ?_
        refine rr rfl (s_icT (ic_ge g2)) ?_
        refine rr rfl (s_iconst (v := 0) (by decide)) ?_
        exact rrt rfl rfl rfl rfl
      refine rrc rfl rfl rfl (do_of g_X9_isLoss rfl rfl e4) ?_
      refine rr rfl (s_ifT (by decide)) ?_
      refine rr rfl (s_iload_n rfl) ?_
      refine rr rfl (s_sipush (v := 200) (by decide)) ?_
      refine rr rfl (s_isub rfl) ?_
      refine rr rfl (s_iconst (v := 4) (by decide)) ?_
      refine rr rfl (s_idiv (by decide) rfl) ?_
      exact rrt rfl rfl rfl rfl
    refine rrc rfl rfl rfl (do_of g_X9_tickOf rfl rfl e3) ?_
    refine rr rfl (s_aload_n rfl) ?_
    refine rr rfl (s_getf rfl rfl) ?_
    refine rr rfl (s_icT (ic_gt g3)) ?_
    refine rr rfl (s_iconst (v := 0) (by decide)) ?_
    exact rrt rfl rfl rfl rfl
  refine rrc rfl rfl rfl (do_of g_X9_isBlow rfl rfl e1) ?_
  refine rr rfl (s_ifF (by decide)) ?_
  refine rr rfl (s_iconst (v := (-1)) (by decide)) ?_
  exact rrt rfl rfl rfl rfl
theorem ag_weak_xbig {x : Int32} (px : ¬ x < 0) (ox : 227 < x) : Agree miX8_weak miX9_weak [.int x] := ⟨(-1), hF, hF, 0, 0, 0, 0, tx_weak_xbig (by simp only [Int32.lt_iff_toInt_lt, Int32.le_iff_toInt_le, kk_0, kk_1, kk_2, kk_3, kk_4, kk_5, kk_6, kk_7, kk_8, kk_200, kk_227] at px ox ⊢; omega) (by simp only [Int32.lt_iff_toInt_lt, Int32.le_iff_toInt_le, kk_0, kk_1, kk_2, kk_3, kk_4, kk_5, kk_6, kk_7, kk_8, kk_200, kk_227] at px ox ⊢; omega) (big_shr ox), tm_weak_xbig (by simp only [Int32.lt_iff_toInt_lt, Int32.le_iff_toInt_le, kk_0, kk_1, kk_2, kk_3, kk_4, kk_5, kk_6, kk_7, kk_8, kk_200, kk_227] at px ox ⊢; omega) (by simp only [Int32.lt_iff_toInt_lt, Int32.le_iff_toInt_le, kk_0, kk_1, kk_2, kk_3, kk_4, kk_5, kk_6, kk_7, kk_8, kk_200, kk_227] at px ox ⊢; omega) (big_div ox), by decide, by decide, rfl⟩
theorem al_weak (x : Int32) : Agree miX8_weak miX9_weak [.int x] := by
  by_cases nx : x < 0
  · exact ag_weak_xneg  nx
  by_cases qx : x ≤ 227
  rotate_left
  · exact ag_weak_xbig  nx (Int32.not_le.mp qx)
  have px := nx
  obtain ⟨j, lj, rfl⟩ := nI_of2 (M := 227) (n := 227) rfl px qx
  have z0 : (0 : Int32) ≤ nI j := nI_pos' (by omega)
  by_cases c1 : (200 : Int32) ≤ nI j
  · have j200 : 200 ≤ j := by
      rcases Nat.lt_or_ge j 200 with g | g
      · exact absurd c1 (nI_ge (b := 200) g (by decide))
      · exact g
    have w2 := (fw_s2 j lj).resolve_left (by omega)
    by_cases c2 : (4 : Int32) < (((nI j) - 200) >>> (2 &&& 31) : Int32)
    · exact ⟨_, _, _, 0, 0, 0, 0, tx_weak_E z0 c1 c2, tm_weak_E z0 c1 (w2.mp c2), by decide, by decide, rfl⟩
    · exact ⟨_, _, _, 0, 0, 0, 0, tx_weak_D z0 c1 c2 px (nI_ge (a := j) (b := 228) (by omega) (by decide)) (nI_lt (a := j) (b := 228) (by omega) (by decide)), tm_weak_D z0 c1 (fun q => c2 (w2.mpr q)), by decide, by decide, rfl⟩
  · have j200 : j < 200 := by
      rcases Nat.lt_or_ge j 200 with g | g
      · exact g
      · exact absurd (nI_le (a := 200) g (by omega)) c1
    have w4 := (fw_s4 j lj).resolve_left (by omega)
    have we := (fw_eq j lj).resolve_left (by omega)
    by_cases c2 : (4 : Int32) ≤ ((nI j) >>> (4 &&& 31) : Int32)
    · exact ⟨_, _, _, 0, 0, 0, 0, tx_weak_C z0 c1 c2, tm_weak_C z0 c1 (w4.mp c2), by decide, by decide, rfl⟩
    · by_cases c3 : (((nI j) >>> (2 &&& 31) : Int32) &&& 3) = ((nI j) &&& 3)
      · exact ⟨_, _, _, 0, 0, 0, 0, tx_weak_B z0 c1 c2 c3, tm_weak_B z0 c1 (fun q => c2 (w4.mpr q)) (we.mp c3), by decide, by decide, rfl⟩
      · exact ⟨_, _, _, 0, 0, 0, 0, tx_weak_A z0 c1 c2 c3 px (nI_ge (a := j) (b := 228) (by omega) (by decide)) (nI_lt (a := j) (b := 228) (by omega) (by decide)), tm_weak_A z0 c1 (fun q => c2 (w4.mpr q)) (fun q => c3 (we.mpr q)), by decide, by decide, rfl⟩
