theorem g_Jx4a65c_size_8abf5 : a_at MT miJx4a65c_size_8abf5 = some amJx4a65c_size_8abf5 := rfl
theorem g_X8_bounds : a_at MT miX8_bounds = some amX8_bounds := rfl
theorem g_X8_count : a_at MT miX8_count = some amX8_count := rfl
theorem g_X8_end : a_at MT miX8_end = some amX8_end := rfl
theorem g_X8_first : a_at MT miX8_first = some amX8_first := rfl
theorem g_X8_found : a_at MT miX8_found = some amX8_found := rfl
theorem g_X8_hand : a_at MT miX8_hand = some amX8_hand := rfl
theorem g_X8_isFact : a_at MT miX8_isFact = some amX8_isFact := rfl
theorem g_X8_isHost : a_at MT miX8_isHost = some amX8_isHost := rfl
theorem g_X8_layer : a_at MT miX8_layer = some amX8_layer := rfl
theorem g_X8_spare : a_at MT miX8_spare = some amX8_spare := rfl
theorem g_X9_bounds : a_at MT miX9_bounds = some amX9_bounds := rfl
theorem g_X9_count : a_at MT miX9_count = some amX9_count := rfl
theorem g_X9_end : a_at MT miX9_end = some amX9_end := rfl
theorem g_X9_first : a_at MT miX9_first = some amX9_first := rfl
theorem g_X9_found : a_at MT miX9_found = some amX9_found := rfl
theorem g_X9_hand : a_at MT miX9_hand = some amX9_hand := rfl
theorem g_X9_in : a_at MT miX9_in = some amX9_in := rfl
theorem g_X9_isFact : a_at MT miX9_isFact = some amX9_isFact := rfl
theorem g_X9_isHost : a_at MT miX9_isHost = some amX9_isHost := rfl
theorem g_X9_isRule : a_at MT miX9_isRule = some amX9_isRule := rfl
theorem g_X9_layer : a_at MT miX9_layer = some amX9_layer := rfl
theorem g_X9_spare : a_at MT miX9_spare = some amX9_spare := rfl
theorem kk_m1 : ((-1) : Int32).toInt = -1 := by decide
theorem kk_0 : (0 : Int32).toInt = 0 := by decide
theorem kk_1 : (1 : Int32).toInt = 1 := by decide
theorem kk_2 : (2 : Int32).toInt = 2 := by decide
theorem kk_3 : (3 : Int32).toInt = 3 := by decide
theorem kk_4 : (4 : Int32).toInt = 4 := by decide
theorem kk_5 : (5 : Int32).toInt = 5 := by decide
theorem kk_6 : (6 : Int32).toInt = 6 := by decide
theorem kk_7 : (7 : Int32).toInt = 7 := by decide
theorem kk_8 : (8 : Int32).toInt = 8 := by decide
theorem tx_end_xneg {x : Int32} (g1 : x < 1) : a_m MT [] 100000 11 miX8_end [.ref 0, .int x] hF = some (some (.int (-2)), hF, 0, 0) := by
  refine me (d := 10) g_X8_end (Nat.le_of_ble_eq_true rfl) ?_
  refine rr rfl (s_iload_n rfl) ?_
  refine rr rfl (s_iconst (v := 1) (by decide)) ?_
  refine rr rfl (s_icT (ic_lt g1)) ?_
  refine rr rfl (s_bipush (v := (-2)) (by decide)) ?_
  exact rrt rfl rfl rfl rfl
theorem tm_end_xneg {x : Int32} (g1 : x < 1) : a_m MT [] 100000 11 miX9_end [.ref 41, .int x] hF = some (some (.int (-2)), hF, 0, 0) := by
  refine me (d := 10) g_X9_end (Nat.le_of_ble_eq_true rfl) ?_
  refine rr rfl (s_iload_n rfl) ?_
  refine rr rfl (s_iconst (v := 1) (by decide)) ?_
  refine rr rfl (s_bipush (v := 6) (by decide)) ?_
  have e1 : a_m MT [] 100000 10 miX9_in [.int x, .int 1, .int 6] hF = some ((some (.int 0)), hF, 0, 0) := by
    refine me (d := 9) g_X9_in (Nat.le_of_ble_eq_true rfl) ?_
    refine rr rfl (s_iload_n rfl) ?_
    refine rr rfl (s_iload_n rfl) ?_
    refine rr rfl (s_icT (ic_lt g1)) ?_
    refine rr rfl (s_iconst (v := 0) (by decide)) ?_
    exact rrt rfl rfl rfl rfl
  refine rrc rfl rfl rfl (do_of g_X9_in rfl rfl e1) ?_
  refine rr rfl (s_ifF (by decide)) ?_
  refine rr rfl (s_bipush (v := (-2)) (by decide)) ?_
  exact rrt rfl rfl rfl rfl
theorem ag_end_xneg {x : Int32} (nx : x < 0) : Agree miX8_end miX9_end [.int x] := ⟨(-2), hF, hF, 0, 0, 0, 0, tx_end_xneg (by simp only [Int32.lt_iff_toInt_lt, Int32.le_iff_toInt_le, kk_m1, kk_0, kk_1, kk_2, kk_3, kk_4, kk_5, kk_6, kk_7, kk_8] at nx ⊢; omega), tm_end_xneg (by simp only [Int32.lt_iff_toInt_lt, Int32.le_iff_toInt_le, kk_m1, kk_0, kk_1, kk_2, kk_3, kk_4, kk_5, kk_6, kk_7, kk_8] at nx ⊢; omega), by decide, by decide, rfl⟩
theorem tx_end_xbig {x : Int32} (g1 : ¬ x < 1) (g2 : ¬ x ≤ 6) : a_m MT [] 100000 11 miX8_end [.ref 0, .int x] hF = some (some (.int (-2)), hF, 0, 0) := by
  refine me (d := 10) g_X8_end (Nat.le_of_ble_eq_true rfl) ?_
  refine rr rfl (s_iload_n rfl) ?_
  refine rr rfl (s_iconst (v := 1) (by decide)) ?_
  refine rr rfl (s_icF (ic_nlt g1)) ?_
  refine rr rfl (s_iload_n rfl) ?_
  refine rr rfl (s_bipush (v := 6) (by decide)) ?_
  refine rr rfl (s_icF (ic_nle g2)) ?_
  refine rr rfl (s_bipush (v := (-2)) (by decide)) ?_
  exact rrt rfl rfl rfl rfl
theorem tm_end_xbig {x : Int32} (g1 : ¬ x < 1) (g2 : 6 < x) : a_m MT [] 100000 11 miX9_end [.ref 41, .int x] hF = some (some (.int (-2)), hF, 0, 0) := by
  refine me (d := 10) g_X9_end (Nat.le_of_ble_eq_true rfl) ?_
  refine rr rfl (s_iload_n rfl) ?_
  refine rr rfl (s_iconst (v := 1) (by decide)) ?_
  refine rr rfl (s_bipush (v := 6) (by decide)) ?_
  have e1 : a_m MT [] 100000 10 miX9_in [.int x, .int 1, .int 6] hF = some ((some (.int 0)), hF, 0, 0) := by
    refine me (d := 9) g_X9_in (Nat.le_of_ble_eq_true rfl) ?_
    refine rr rfl (s_iload_n rfl) ?_
    refine rr rfl (s_iload_n rfl) ?_
    refine rr rfl (s_icF (ic_nlt g1)) ?_
    refine rr rfl (s_iload_n rfl) ?_
    refine rr rfl (s_iload_n rfl) ?_
    refine rr rfl (s_icT (ic_gt g2)) ?_
    refine rr rfl (s_iconst (v := 0) (by decide)) ?_
    exact rrt rfl rfl rfl rfl
  refine rrc rfl rfl rfl (do_of g_X9_in rfl rfl e1) ?_
  refine rr rfl (s_ifF (by decide)) ?_
  refine rr rfl (s_bipush (v := (-2)) (by decide)) ?_
  exact rrt rfl rfl rfl rfl
theorem ag_end_xbig {x : Int32} (px : ¬ x < 0) (ox : 6 < x) : Agree miX8_end miX9_end [.int x] := ⟨(-2), hF, hF, 0, 0, 0, 0, tx_end_xbig (by simp only [Int32.lt_iff_toInt_lt, Int32.le_iff_toInt_le, kk_m1, kk_0, kk_1, kk_2, kk_3, kk_4, kk_5, kk_6, kk_7, kk_8] at px ox ⊢; omega) (by simp only [Int32.lt_iff_toInt_lt, Int32.le_iff_toInt_le, kk_m1, kk_0, kk_1, kk_2, kk_3, kk_4, kk_5, kk_6, kk_7, kk_8] at px ox ⊢; omega), tm_end_xbig (by simp only [Int32.lt_iff_toInt_lt, Int32.le_iff_toInt_le, kk_m1, kk_0, kk_1, kk_2, kk_3, kk_4, kk_5, kk_6, kk_7, kk_8] at px ox ⊢; omega) ox, by decide, by decide, rfl⟩
theorem al_end (x : Int32) : Agree miX8_end miX9_end [.int x] := by
  by_cases nx : x < 0
  · exact ag_end_xneg  nx
  by_cases qx : x ≤ 6
  rotate_left
  · exact ag_end_xbig  nx (Int32.not_le.mp qx)
  have px := nx
  obtain ⟨jx, lx, rfl⟩ := nI_of2 (M := 6) (n := 6) rfl px qx
  exact agr_ok (fn_end jx lx)
theorem tx_layer_xneg {x : Int32} (g1 : x < 0) : a_m MT [] 100000 11 miX8_layer [.ref 0, .int x] hF = some (some (.int (-1)), hF, 0, 0) := by
  refine me (d := 10) g_X8_layer (Nat.le_of_ble_eq_true rfl) ?_
  refine rr rfl (s_iload_n rfl) ?_
  have e1 : a_m MT [] 100000 10 miX8_isFact [.int x] hF = some ((some (.int 0)), hF, 0, 0) := by
    refine me (d := 9) g_X8_isFact (Nat.le_of_ble_eq_true rfl) ?_
    refine rr rfl (s_iload_n rfl) ?_
    refine rr rfl (s_ifT (ic_lt g1)) ?_
    refine rr rfl (s_iconst (v := 0) (by decide)) ?_
    exact rrt rfl rfl rfl rfl
  refine rrc rfl rfl rfl (do_of g_X8_isFact rfl rfl e1) ?_
  refine rr rfl (s_ifT (by decide)) ?_
  refine rr rfl (s_iconst (v := (-1)) (by decide)) ?_
  exact rrt rfl rfl rfl rfl
theorem tm_layer_xneg {x : Int32} (g1 : x < 0) : a_m MT [] 100000 11 miX9_layer [.ref 41, .int x] hF = some (some (.int (-1)), hF, 0, 0) := by
  refine me (d := 10) g_X9_layer (Nat.le_of_ble_eq_true rfl) ?_
  refine rr rfl (s_iload_n rfl) ?_
  have e1 : a_m MT [] 100000 10 miX9_isFact [.int x] hF = some ((some (.int 0)), hF, 0, 0) := by
    refine me (d := 9) g_X9_isFact (Nat.le_of_ble_eq_true rfl) ?_
    refine rr rfl (s_iload_n rfl) ?_
    refine rr rfl (s_iconst (v := 0) (by decide)) ?_
    refine rr rfl (s_bipush (v := 7) (by decide)) ?_
    have e2 : a_m MT [] 100000 9 miX9_in [.int x, .int 0, .int 7] hF = some ((some (.int 0)), hF, 0, 0) := by
      refine me (d := 8) g_X9_in (Nat.le_of_ble_eq_true rfl) ?_
      refine rr rfl (s_iload_n rfl) ?_
      refine rr rfl (s_iload_n rfl) ?_
      refine rr rfl (s_icT (ic_lt g1)) ?_
      refine rr rfl (s_iconst (v := 0) (by decide)) ?_
      exact rrt rfl rfl rfl rfl
    refine rrc rfl rfl rfl (do_of g_X9_in rfl rfl e2) ?_
    exact rrt rfl rfl rfl rfl
  refine rrc rfl rfl rfl (do_of g_X9_isFact rfl rfl e1) ?_
  refine rr rfl (s_ifT (by decide)) ?_
  refine rr rfl (s_iconst (v := (-1)) (by decide)) ?_
  exact rrt rfl rfl rfl rfl
theorem ag_layer_xneg {x : Int32} (nx : x < 0) : Agree miX8_layer miX9_layer [.int x] := ⟨(-1), hF, hF, 0, 0, 0, 0, tx_layer_xneg nx, tm_layer_xneg nx, by decide, by decide, rfl⟩
theorem tx_layer_xbig {x : Int32} (g1 : ¬ x < 0) (g2 : 8 ≤ x) : a_m MT [] 100000 11 miX8_layer [.ref 0, .int x] hF = some (some (.int (-1)), hF, 0, 0) := by
  refine me (d := 10) g_X8_layer (Nat.le_of_ble_eq_true rfl) ?_
  refine rr rfl (s_iload_n rfl) ?_
  have e1 : a_m MT [] 100000 10 miX8_isFact [.int x] hF = some ((some (.int 0)), hF, 0, 0) := by
    refine me (d := 9) g_X8_isFact (Nat.le_of_ble_eq_true rfl) ?_
    refine rr rfl (s_iload_n rfl) ?_
    refine rr rfl (s_ifF (ic_nlt g1)) ?_
    refine rr rfl (s_iload_n rfl) ?_
    refine rr rfl (s_bipush (v := 8) (by decide)) ?_
    refine rr rfl (s_icT (ic_ge g2)) ?_
    refine rr rfl (s_iconst (v := 0) (by decide)) ?_
    exact rrt rfl rfl rfl rfl
  refine rrc rfl rfl rfl (do_of g_X8_isFact rfl rfl e1) ?_
  refine rr rfl (s_ifT (by decide)) ?_
  refine rr rfl (s_iconst (v := (-1)) (by decide)) ?_
  exact rrt rfl rfl rfl rfl
theorem tm_layer_xbig {x : Int32} (g1 : ¬ x < 0) (g2 : 7 < x) : a_m MT [] 100000 11 miX9_layer [.ref 41, .int x] hF = some (some (.int (-1)), hF, 0, 0) := by
  refine me (d := 10) g_X9_layer (Nat.le_of_ble_eq_true rfl) ?_
  refine rr rfl (s_iload_n rfl) ?_
  have e1 : a_m MT [] 100000 10 miX9_isFact [.int x] hF = some ((some (.int 0)), hF, 0, 0) := by
    refine me (d := 9) g_X9_isFact (Nat.le_of_ble_eq_true rfl) ?_
    refine rr rfl (s_iload_n rfl) ?_
    refine rr rfl (s_iconst (v := 0) (by decide)) ?_
    refine rr rfl (s_bipush (v := 7) (by decide)) ?_
    have e2 : a_m MT [] 100000 9 miX9_in [.int x, .int 0, .int 7] hF = some ((some (.int 0)), hF, 0, 0) := by
      refine me (d := 8) g_X9_in (Nat.le_of_ble_eq_true rfl) ?_
      refine rr rfl (s_iload_n rfl) ?_
      refine rr rfl (s_iload_n rfl) ?_
      refine rr rfl (s_icF (ic_nlt g1)) ?_
      refine rr rfl (s_iload_n rfl) ?_
      refine rr rfl (s_iload_n rfl) ?_
      refine rr rfl (s_icT (ic_gt g2)) ?_
      refine rr rfl (s_iconst (v := 0) (by decide)) ?_
      exact rrt rfl rfl rfl rfl
    refine rrc rfl rfl rfl (do_of g_X9_in rfl rfl e2) ?_
    exact rrt rfl rfl rfl rfl
  refine rrc rfl rfl rfl (do_of g_X9_isFact rfl rfl e1) ?_
  refine rr rfl (s_ifT (by decide)) ?_
  refine rr rfl (s_iconst (v := (-1)) (by decide)) ?_
  exact rrt rfl rfl rfl rfl
theorem ag_layer_xbig {x : Int32} (px : ¬ x < 0) (ox : 7 < x) : Agree miX8_layer miX9_layer [.int x] := ⟨(-1), hF, hF, 0, 0, 0, 0, tx_layer_xbig px (by simp only [Int32.lt_iff_toInt_lt, Int32.le_iff_toInt_le, kk_m1, kk_0, kk_1, kk_2, kk_3, kk_4, kk_5, kk_6, kk_7, kk_8] at px ox ⊢; omega), tm_layer_xbig px ox, by decide, by decide, rfl⟩
theorem al_layer (x : Int32) : Agree miX8_layer miX9_layer [.int x] := by
  by_cases nx : x < 0
  · exact ag_layer_xneg  nx
  by_cases qx : x ≤ 7
  rotate_left
  · exact ag_layer_xbig  nx (Int32.not_le.mp qx)
  have px := nx
  obtain ⟨jx, lx, rfl⟩ := nI_of2 (M := 7) (n := 7) rfl px qx
  exact agr_ok (fn_layer jx lx)
theorem tx_first_xneg {x y z : Int32} (g1 : x < 0) : a_m MT [] 100000 11 miX8_first [.ref 0, .int x, .int y, .int z] hF = some (some (.int (-1)), hF, 0, 0) := by
  refine me (d := 10) g_X8_first (Nat.le_of_ble_eq_true rfl) ?_
  refine rr rfl (s_iload_n rfl) ?_
  have e1 : a_m MT [] 100000 10 miX8_isHost [.int x] hF = some ((some (.int 0)), hF, 0, 0) := by
    refine me (d := 9) g_X8_isHost (Nat.le_of_ble_eq_true rfl) ?_
    refine rr rfl (s_iload_n rfl) ?_
    refine rr rfl (s_ifT (ic_lt g1)) ?_
    refine rr rfl (s_iconst (v := 0) (by decide)) ?_
    exact rrt rfl rfl rfl rfl
  refine rrc rfl rfl rfl (do_of g_X8_isHost rfl rfl e1) ?_
  refine rr rfl (s_ifT (by decide)) ?_
  refine rr rfl (s_iconst (v := (-1)) (by decide)) ?_
  exact rrt rfl rfl rfl rfl
theorem tm_first_xneg {x y z : Int32} (g1 : x < 0) : a_m MT [] 100000 11 miX9_first [.ref 41, .int x, .int y, .int z] hF = some (some (.int (-1)), hF, 0, 0) := by
  refine me (d := 10) g_X9_first (Nat.le_of_ble_eq_true rfl) ?_
  refine rr rfl (s_iload_n rfl) ?_
  have e1 : a_m MT [] 100000 10 miX9_isHost [.int x] hF = some ((some (.int 0)), hF, 0, 0) := by
    refine me (d := 9) g_X9_isHost (Nat.le_of_ble_eq_true rfl) ?_
    refine rr rfl (s_iload_n rfl) ?_
    refine rr rfl (s_iconst (v := 0) (by decide)) ?_
    refine rr rfl (s_iconst (v := 3) (by decide)) ?_
    have e2 : a_m MT [] 100000 9 miX9_in [.int x, .int 0, .int 3] hF = some ((some (.int 0)), hF, 0, 0) := by
      refine me (d := 8) g_X9_in (Nat.le_of_ble_eq_true rfl) ?_
      refine rr rfl (s_iload_n rfl) ?_
      refine rr rfl (s_iload_n rfl) ?_
      refine rr rfl (s_icT (ic_lt g1)) ?_
      refine rr rfl (s_iconst (v := 0) (by decide)) ?_
      exact rrt rfl rfl rfl rfl
    refine rrc rfl rfl rfl (do_of g_X9_in rfl rfl e2) ?_
    exact rrt rfl rfl rfl rfl
  refine rrc rfl rfl rfl (do_of g_X9_isHost rfl rfl e1) ?_
  refine rr rfl (s_ifT (by decide)) ?_
  refine rr rfl (s_iconst (v := (-1)) (by decide)) ?_
  exact rrt rfl rfl rfl rfl
theorem ag_first_xneg {x y z : Int32} (nx : x < 0) : Agree miX8_first miX9_first [.int x, .int y, .int z] := ⟨(-1), hF, hF, 0, 0, 0, 0, tx_first_xneg nx, tm_first_xneg nx, by decide, by decide, rfl⟩
theorem tx_first_xbig {x y z : Int32} (g1 : ¬ x < 0) (g2 : 4 ≤ x) : a_m MT [] 100000 11 miX8_first [.ref 0, .int x, .int y, .int z] hF = some (some (.int (-1)), hF, 0, 0) := by
  refine me (d := 10) g_X8_first (Nat.le_of_ble_eq_true rfl) ?_
  refine rr rfl (s_iload_n rfl) ?_
  have e1 : a_m MT [] 100000 10 miX8_isHost [.int x] hF = some ((some (.int 0)), hF, 0, 0) := by
    refine me (d := 9) g_X8_isHost (Nat.le_of_ble_eq_true rfl) ?_
    refine rr rfl (s_iload_n rfl) ?_
    refine rr rfl (s_ifF (ic_nlt g1)) ?_
    refine rr rfl (s_iload_n rfl) ?_
    refine rr rfl (s_iconst (v := 4) (by decide)) ?_
    refine rr rfl (s_icT (ic_ge g2)) ?_
    refine rr rfl (s_iconst (v := 0) (by decide)) ?_
    exact rrt rfl rfl rfl rfl
  refine rrc rfl rfl rfl (do_of g_X8_isHost rfl rfl e1) ?_
  refine rr rfl (s_ifT (by decide)) ?_
  refine rr rfl (s_iconst (v := (-1)) (by decide)) ?_
  exact rrt rfl rfl rfl rfl
theorem tm_first_xbig {x y z : Int32} (g1 : ¬ x < 0) (g2 : 3 < x) : a_m MT [] 100000 11 miX9_first [.ref 41, .int x, .int y, .int z] hF = some (some (.int (-1)), hF, 0, 0) := by
  refine me (d := 10) g_X9_first (Nat.le_of_ble_eq_true rfl) ?_
  refine rr rfl (s_iload_n rfl) ?_
  have e1 : a_m MT [] 100000 10 miX9_isHost [.int x] hF = some ((some (.int 0)), hF, 0, 0) := by
    refine me (d := 9) g_X9_isHost (Nat.le_of_ble_eq_true rfl) ?_
    refine rr rfl (s_iload_n rfl) ?_
    refine rr rfl (s_iconst (v := 0) (by decide)) ?_
    refine rr rfl (s_iconst (v := 3) (by decide)) ?_
    have e2 : a_m MT [] 100000 9 miX9_in [.int x, .int 0, .int 3] hF = some ((some (.int 0)), hF, 0, 0) := by
      refine me (d := 8) g_X9_in (Nat.le_of_ble_eq_true rfl) ?_
      refine rr rfl (s_iload_n rfl) ?_
      refine rr rfl (s_iload_n rfl) ?_
      refine rr rfl (s_icF (ic_nlt g1)) ?_
      refine rr rfl (s_iload_n rfl) ?_
      refine rr rfl (s_iload_n rfl) ?_
      refine rr rfl (s_icT (ic_gt g2)) ?_
      refine rr rfl (s_iconst (v := 0) (by decide)) ?_
      exact rrt rfl rfl rfl rfl
    refine rrc rfl rfl rfl (do_of g_X9_in rfl rfl e2) ?_
    exact rrt rfl rfl rfl rfl
  refine rrc rfl rfl rfl (do_of g_X9_isHost rfl rfl e1) ?_
  refine rr rfl (s_ifT (by decide)) ?_
  refine rr rfl (s_iconst (v := (-1)) (by decide)) ?_
  exact rrt rfl rfl rfl rfl
theorem ag_first_xbig {x y z : Int32} (px : ¬ x < 0) (ox : 3 < x) : Agree miX8_first miX9_first [.int x, .int y, .int z] := ⟨(-1), hF, hF, 0, 0, 0, 0, tx_first_xbig px (by simp only [Int32.lt_iff_toInt_lt, Int32.le_iff_toInt_le, kk_m1, kk_0, kk_1, kk_2, kk_3, kk_4, kk_5, kk_6, kk_7, kk_8] at px ox ⊢; omega), tm_first_xbig px ox, by decide, by decide, rfl⟩
theorem tx_first_yneg {x y z : Int32} (g1 : ¬ x < 0) (g2 : ¬ 4 ≤ x) (g3 : y < 0) : a_m MT [] 100000 11 miX8_first [.ref 0, .int x, .int y, .int z] hF = some (some (.int (-1)), hF, 0, 0) := by
  refine me (d := 10) g_X8_first (Nat.le_of_ble_eq_true rfl) ?_
  refine rr rfl (s_iload_n rfl) ?_
  have e1 : a_m MT [] 100000 10 miX8_isHost [.int x] hF = some ((some (.int 1)), hF, 0, 0) := by
    refine me (d := 9) g_X8_isHost (Nat.le_of_ble_eq_true rfl) ?_
    refine rr rfl (s_iload_n rfl) ?_
    refine rr rfl (s_ifF (ic_nlt g1)) ?_
    refine rr rfl (s_iload_n rfl) ?_
    refine rr rfl (s_iconst (v := 4) (by decide)) ?_
    refine rr rfl (s_icF (ic_nge g2)) ?_
    refine rr rfl (s_iconst (v := 1) (by decide)) ?_
    refine rr rfl s_goto ?_
    exact rrt rfl rfl rfl rfl
  refine rrc rfl rfl rfl (do_of g_X8_isHost rfl rfl e1) ?_
  refine rr rfl (s_ifF (by decide)) ?_
  refine rr rfl (s_iload_n rfl) ?_
  have e2 : a_m MT [] 100000 10 miX8_isFact [.int y] hF = some ((some (.int 0)), hF, 0, 0) := by
    refine me (d := 9) g_X8_isFact (Nat.le_of_ble_eq_true rfl) ?_
    refine rr rfl (s_iload_n rfl) ?_
    refine rr rfl (s_ifT (ic_lt g3)) ?_
    refine rr rfl (s_iconst (v := 0) (by decide)) ?_
    exact rrt rfl rfl rfl rfl
  refine rrc rfl rfl rfl (do_of g_X8_isFact rfl rfl e2) ?_
  refine rr rfl (s_ifF (by decide)) ?_
  refine rr rfl (s_iconst (v := (-1)) (by decide)) ?_
  exact rrt rfl rfl rfl rfl
theorem tm_first_yneg {x y z : Int32} (g1 : ¬ x < 0) (g2 : ¬ 3 < x) (g3 : y < 0) : a_m MT [] 100000 11 miX9_first [.ref 41, .int x, .int y, .int z] hF = some (some (.int (-1)), hF, 0, 0) := by
  refine me (d := 10) g_X9_first (Nat.le_of_ble_eq_true rfl) ?_
  refine rr rfl (s_iload_n rfl) ?_
  have e1 : a_m MT [] 100000 10 miX9_isHost [.int x] hF = some ((some (.int 1)), hF, 0, 0) := by
    refine me (d := 9) g_X9_isHost (Nat.le_of_ble_eq_true rfl) ?_
    refine rr rfl (s_iload_n rfl) ?_
    refine rr rfl (s_iconst (v := 0) (by decide)) ?_
    refine rr rfl (s_iconst (v := 3) (by decide)) ?_
    have e2 : a_m MT [] 100000 9 miX9_in [.int x, .int 0, .int 3] hF = some ((some (.int 1)), hF, 0, 0) := by
      refine me (d := 8) g_X9_in (Nat.le_of_ble_eq_true rfl) ?_
      refine rr rfl (s_iload_n rfl) ?_
      refine rr rfl (s_iload_n rfl) ?_
      refine rr rfl (s_icF (ic_nlt g1)) ?_
      refine rr rfl (s_iload_n rfl) ?_
      refine rr rfl (s_iload_n rfl) ?_
      refine rr rfl (s_icF (ic_ngt g2)) ?_
      refine rr rfl (s_iconst (v := 1) (by decide)) ?_
      refine rr rfl s_goto ?_
      exact rrt rfl rfl rfl rfl
    refine rrc rfl rfl rfl (do_of g_X9_in rfl rfl e2) ?_
    exact rrt rfl rfl rfl rfl
  refine rrc rfl rfl rfl (do_of g_X9_isHost rfl rfl e1) ?_
  refine rr rfl (s_ifF (by decide)) ?_
  refine rr rfl (s_iload_n rfl) ?_
  have e3 : a_m MT [] 100000 10 miX9_isFact [.int y] hF = some ((some (.int 0)), hF, 0, 0) := by
    refine me (d := 9) g_X9_isFact (Nat.le_of_ble_eq_true rfl) ?_
    refine rr rfl (s_iload_n rfl) ?_
    refine rr rfl (s_iconst (v := 0) (by decide)) ?_
    refine rr rfl (s_bipush (v := 7) (by decide)) ?_
    have e4 : a_m MT [] 100000 9 miX9_in [.int y, .int 0, .int 7] hF = some ((some (.int 0)), hF, 0, 0) := by
      refine me (d := 8) g_X9_in (Nat.le_of_ble_eq_true rfl) ?_
      refine rr rfl (s_iload_n rfl) ?_
      refine rr rfl (s_iload_n rfl) ?_
      refine rr rfl (s_icT (ic_lt g3)) ?_
      refine rr rfl (s_iconst (v := 0) (by decide)) ?_
      exact rrt rfl rfl rfl rfl
    refine rrc rfl rfl rfl (do_of g_X9_in rfl rfl e4) ?_
    exact rrt rfl rfl rfl rfl
  refine rrc rfl rfl rfl (do_of g_X9_isFact rfl rfl e3) ?_
  refine rr rfl (s_ifF (by decide)) ?_
  refine rr rfl (s_iconst (v := (-1)) (by decide)) ?_
  exact rrt rfl rfl rfl rfl
theorem ag_first_yneg {x y z : Int32} (px : ¬ x < 0) (qx : x ≤ 3) (ny : y < 0) : Agree miX8_first miX9_first [.int x, .int y, .int z] := ⟨(-1), hF, hF, 0, 0, 0, 0, tx_first_yneg px (by simp only [Int32.lt_iff_toInt_lt, Int32.le_iff_toInt_le, kk_m1, kk_0, kk_1, kk_2, kk_3, kk_4, kk_5, kk_6, kk_7, kk_8] at px qx ⊢; omega) ny, tm_first_yneg px (by simp only [Int32.lt_iff_toInt_lt, Int32.le_iff_toInt_le, kk_m1, kk_0, kk_1, kk_2, kk_3, kk_4, kk_5, kk_6, kk_7, kk_8] at px qx ⊢; omega) ny, by decide, by decide, rfl⟩
theorem tx_first_ybig {x y z : Int32} (g1 : ¬ x < 0) (g2 : ¬ 4 ≤ x) (g3 : ¬ y < 0) (g4 : 8 ≤ y) : a_m MT [] 100000 11 miX8_first [.ref 0, .int x, .int y, .int z] hF = some (some (.int (-1)), hF, 0, 0) := by
  refine me (d := 10) g_X8_first (Nat.le_of_ble_eq_true rfl) ?_
  refine rr rfl (s_iload_n rfl) ?_
  have e1 : a_m MT [] 100000 10 miX8_isHost [.int x] hF = some ((some (.int 1)), hF, 0, 0) := by
    refine me (d := 9) g_X8_isHost (Nat.le_of_ble_eq_true rfl) ?_
    refine rr rfl (s_iload_n rfl) ?_
    refine rr rfl (s_ifF (ic_nlt g1)) ?_
    refine rr rfl (s_iload_n rfl) ?_
    refine rr rfl (s_iconst (v := 4) (by decide)) ?_
    refine rr rfl (s_icF (ic_nge g2)) ?_
    refine rr rfl (s_iconst (v := 1) (by decide)) ?_
    refine rr rfl s_goto ?_
    exact rrt rfl rfl rfl rfl
  refine rrc rfl rfl rfl (do_of g_X8_isHost rfl rfl e1) ?_
  refine rr rfl (s_ifF (by decide)) ?_
  refine rr rfl (s_iload_n rfl) ?_
  have e2 : a_m MT [] 100000 10 miX8_isFact [.int y] hF = some ((some (.int 0)), hF, 0, 0) := by
    refine me (d := 9) g_X8_isFact (Nat.le_of_ble_eq_true rfl) ?_
    refine rr rfl (s_iload_n rfl) ?_
    refine rr rfl (s_ifF (ic_nlt g3)) ?_
    refine rr rfl (s_iload_n rfl) ?_
    refine rr rfl (s_bipush (v := 8) (by decide)) ?_
    refine rr rfl (s_icT (ic_ge g4)) ?_
    refine rr rfl (s_iconst (v := 0) (by decide)) ?_
    exact rrt rfl rfl rfl rfl
  refine rrc rfl rfl rfl (do_of g_X8_isFact rfl rfl e2) ?_
  refine rr rfl (s_ifF (by decide)) ?_
  refine rr rfl (s_iconst (v := (-1)) (by decide)) ?_
  exact rrt rfl rfl rfl rfl
theorem tm_first_ybig {x y z : Int32} (g1 : ¬ x < 0) (g2 : ¬ 3 < x) (g3 : ¬ y < 0) (g4 : 7 < y) : a_m MT [] 100000 11 miX9_first [.ref 41, .int x, .int y, .int z] hF = some (some (.int (-1)), hF, 0, 0) := by
  refine me (d := 10) g_X9_first (Nat.le_of_ble_eq_true rfl) ?_
  refine rr rfl (s_iload_n rfl) ?_
  have e1 : a_m MT [] 100000 10 miX9_isHost [.int x] hF = some ((some (.int 1)), hF, 0, 0) := by
    refine me (d := 9) g_X9_isHost (Nat.le_of_ble_eq_true rfl) ?_
    refine rr rfl (s_iload_n rfl) ?_
    refine rr rfl (s_iconst (v := 0) (by decide)) ?_
    refine rr rfl (s_iconst (v := 3) (by decide)) ?_
    have e2 : a_m MT [] 100000 9 miX9_in [.int x, .int 0, .int 3] hF = some ((some (.int 1)), hF, 0, 0) := by
      refine me (d := 8) g_X9_in (Nat.le_of_ble_eq_true rfl) ?_
      refine rr rfl (s_iload_n rfl) ?_
      refine rr rfl (s_iload_n rfl) ?_
      refine rr rfl (s_icF (ic_nlt g1)) ?_
      refine rr rfl (s_iload_n rfl) ?_
      refine rr rfl (s_iload_n rfl) ?_
      refine rr rfl (s_icF (ic_ngt g2)) ?_
      refine rr rfl (s_iconst (v := 1) (by decide)) ?_
      refine rr rfl s_goto ?_
      exact rrt rfl rfl rfl rfl
    refine rrc rfl rfl rfl (do_of g_X9_in rfl rfl e2) ?_
    exact rrt rfl rfl rfl rfl
  refine rrc rfl rfl rfl (do_of g_X9_isHost rfl rfl e1) ?_
  refine rr rfl (s_ifF (by decide)) ?_
  refine rr rfl (s_iload_n rfl) ?_
  have e3 : a_m MT [] 100000 10 miX9_isFact [.int y] hF = some ((some (.int 0)), hF, 0, 0) := by
    refine me (d := 9) g_X9_isFact (Nat.le_of_ble_eq_true rfl) ?_
    refine rr rfl (s_iload_n rfl) ?_
    refine rr rfl (s_iconst (v := 0) (by decide)) ?_
    refine rr rfl (s_bipush (v := 7) (by decide)) ?_
    have e4 : a_m MT [] 100000 9 miX9_in [.int y, .int 0, .int 7] hF = some ((some (.int 0)), hF, 0, 0) := by
      refine me (d := 8) g_X9_in (Nat.le_of_ble_eq_true rfl) ?_
      refine rr rfl (s_iload_n rfl) ?_
      refine rr rfl (s_iload_n rfl) ?_
      refine rr rfl (s_icF (ic_nlt g3)) ?_
      refine rr rfl (s_iload_n rfl) ?_
      refine rr rfl (s_iload_n rfl) ?_
      refine rr rfl (s_icT (ic_gt g4)) ?_
      refine rr rfl (s_iconst (v := 0) (by decide)) ?_
      exact rrt rfl rfl rfl rfl
    refine rrc rfl rfl rfl (do_of g_X9_in rfl rfl e4) ?_
    exact rrt rfl rfl rfl rfl
  refine rrc rfl rfl rfl (do_of g_X9_isFact rfl rfl e3) ?_
  refine rr rfl (s_ifF (by decide)) ?_
  refine rr rfl (s_iconst (v := (-1)) (by decide)) ?_
  exact rrt rfl rfl rfl rfl
theorem ag_first_ybig {x y z : Int32} (px : ¬ x < 0) (qx : x ≤ 3) (py : ¬ y < 0) (oy : 7 < y) : Agree miX8_first miX9_first [.int x, .int y, .int z] := ⟨(-1), hF, hF, 0, 0, 0, 0, tx_first_ybig px (by simp only [Int32.lt_iff_toInt_lt, Int32.le_iff_toInt_le, kk_m1, kk_0, kk_1, kk_2, kk_3, kk_4, kk_5, kk_6, kk_7, kk_8] at px qx ⊢; omega) py (by simp only [Int32.lt_iff_toInt_lt, Int32.le_iff_toInt_le, kk_m1, kk_0, kk_1, kk_2, kk_3, kk_4, kk_5, kk_6, kk_7, kk_8] at py oy ⊢; omega), tm_first_ybig px (by simp only [Int32.lt_iff_toInt_lt, Int32.le_iff_toInt_le, kk_m1, kk_0, kk_1, kk_2, kk_3, kk_4, kk_5, kk_6, kk_7, kk_8] at px qx ⊢; omega) py oy, by decide, by decide, rfl⟩
theorem tx_first_zneg {x y z : Int32} (g1 : ¬ x < 0) (g2 : ¬ 4 ≤ x) (g3 : ¬ y < 0) (g4 : ¬ 8 ≤ y) (g5 : z < 0) : a_m MT [] 100000 11 miX8_first [.ref 0, .int x, .int y, .int z] hF = some (some (.int (-2)), hF, 0, 0) := by
  refine me (d := 10) g_X8_first (Nat.le_of_ble_eq_true rfl) ?_
  refine rr rfl (s_iload_n rfl) ?_
  have e1 : a_m MT [] 100000 10 miX8_isHost [.int x] hF = some ((some (.int 1)), hF, 0, 0) := by
    refine me (d := 9) g_X8_isHost (Nat.le_of_ble_eq_true rfl) ?_
    refine rr rfl (s_iload_n rfl) ?_
    refine rr rfl (s_ifF (ic_nlt g1)) ?_
    refine rr rfl (s_iload_n rfl) ?_
    refine rr rfl (s_iconst (v := 4) (by decide)) ?_
    refine rr rfl (s_icF (ic_nge g2)) ?_
    refine rr rfl (s_iconst (v := 1) (by decide)) ?_
    refine rr rfl s_goto ?_
    exact rrt rfl rfl rfl rfl
  refine rrc rfl rfl rfl (do_of g_X8_isHost rfl rfl e1) ?_
  refine rr rfl (s_ifF (by decide)) ?_
  refine rr rfl (s_iload_n rfl) ?_
  have e2 : a_m MT [] 100000 10 miX8_isFact [.int y] hF = some ((some (.int 1)), hF, 0, 0) := by
    refine me (d := 9) g_X8_isFact (Nat.le_of_ble_eq_true rfl) ?_
    refine rr rfl (s_iload_n rfl) ?_
    refine rr rfl (s_ifF (ic_nlt g3)) ?_
    refine rr rfl (s_iload_n rfl) ?_
    refine rr rfl (s_bipush (v := 8) (by decide)) ?_
    refine rr rfl (s_icF (ic_nge g4)) ?_
    refine rr rfl (s_iconst (v := 1) (by decide)) ?_
    refine rr rfl s_goto ?_
    exact rrt rfl rfl rfl rfl
  refine rrc rfl rfl rfl (do_of g_X8_isFact rfl rfl e2) ?_
  refine rr rfl (s_ifT (by decide)) ?_
  refine rr rfl (s_iload_n rfl) ?_
  refine rr rfl (s_ifT (ic_lt g5)) ?_
  refine rr rfl (s_bipush (v := (-2)) (by decide)) ?_
  exact rrt rfl rfl rfl rfl
theorem tm_first_zneg {x y z : Int32} (g1 : ¬ x < 0) (g2 : ¬ 3 < x) (g3 : ¬ y < 0) (g4 : ¬ 7 < y) (g5 : z < 0) : a_m MT [] 100000 11 miX9_first [.ref 41, .int x, .int y, .int z] hF = some (some (.int (-2)), hF, 0, 0) := by
  refine me (d := 10) g_X9_first (Nat.le_of_ble_eq_true rfl) ?_
  refine rr rfl (s_iload_n rfl) ?_
  have e1 : a_m MT [] 100000 10 miX9_isHost [.int x] hF = some ((some (.int 1)), hF, 0, 0) := by
    refine me (d := 9) g_X9_isHost (Nat.le_of_ble_eq_true rfl) ?_
    refine rr rfl (s_iload_n rfl) ?_
    refine rr rfl (s_iconst (v := 0) (by decide)) ?_
    refine rr rfl (s_iconst (v := 3) (by decide)) ?_
    have e2 : a_m MT [] 100000 9 miX9_in [.int x, .int 0, .int 3] hF = some ((some (.int 1)), hF, 0, 0) := by
      refine me (d := 8) g_X9_in (Nat.le_of_ble_eq_true rfl) ?_
      refine rr rfl (s_iload_n rfl) ?_
      refine rr rfl (s_iload_n rfl) ?_
      refine rr rfl (s_icF (ic_nlt g1)) ?_
      refine rr rfl (s_iload_n rfl) ?_
      refine rr rfl (s_iload_n rfl) ?_
      refine rr rfl (s_icF (ic_ngt g2)) ?_
      refine rr rfl (s_iconst (v := 1) (by decide)) ?_
      refine rr rfl s_goto ?_
      exact rrt rfl rfl rfl rfl
    refine rrc rfl rfl rfl (do_of g_X9_in rfl rfl e2) ?_
    exact rrt rfl rfl rfl rfl
  refine rrc rfl rfl rfl (do_of g_X9_isHost rfl rfl e1) ?_
  refine rr rfl (s_ifF (by decide)) ?_
  refine rr rfl (s_iload_n rfl) ?_
  have e3 : a_m MT [] 100000 10 miX9_isFact [.int y] hF = some ((some (.int 1)), hF, 0, 0) := by
    refine me (d := 9) g_X9_isFact (Nat.le_of_ble_eq_true rfl) ?_
    refine rr rfl (s_iload_n rfl) ?_
    refine rr rfl (s_iconst (v := 0) (by decide)) ?_
    refine rr rfl (s_bipush (v := 7) (by decide)) ?_
    have e4 : a_m MT [] 100000 9 miX9_in [.int y, .int 0, .int 7] hF = some ((some (.int 1)), hF, 0, 0) := by
      refine me (d := 8) g_X9_in (Nat.le_of_ble_eq_true rfl) ?_
      refine rr rfl (s_iload_n rfl) ?_
      refine rr rfl (s_iload_n rfl) ?_
      refine rr rfl (s_icF (ic_nlt g3)) ?_
      refine rr rfl (s_iload_n rfl) ?_
      refine rr rfl (s_iload_n rfl) ?_
      refine rr rfl (s_icF (ic_ngt g4)) ?_
      refine rr rfl (s_iconst (v := 1) (by decide)) ?_
      refine rr rfl s_goto ?_
      exact rrt rfl rfl rfl rfl
    refine rrc rfl rfl rfl (do_of g_X9_in rfl rfl e4) ?_
    exact rrt rfl rfl rfl rfl
  refine rrc rfl rfl rfl (do_of g_X9_isFact rfl rfl e3) ?_
  refine rr rfl (s_ifT (by decide)) ?_
  refine rr rfl (s_iload_n rfl) ?_
  refine rr rfl (s_iconst (v := 0) (by decide)) ?_
  refine rr rfl (s_iconst (v := 1) (by decide)) ?_
  have e5 : a_m MT [] 100000 10 miX9_in [.int z, .int 0, .int 1] hF = some ((some (.int 0)), hF, 0, 0) := by
    refine me (d := 9) g_X9_in (Nat.le_of_ble_eq_true rfl) ?_
    refine rr rfl (s_iload_n rfl) ?_
    refine rr rfl (s_iload_n rfl) ?_
    refine rr rfl (s_icT (ic_lt g5)) ?_
    refine rr rfl (s_iconst (v := 0) (by decide)) ?_
    exact rrt rfl rfl rfl rfl
  refine rrc rfl rfl rfl (do_of g_X9_in rfl rfl e5) ?_
  refine rr rfl (s_ifF (by decide)) ?_
  refine rr rfl (s_bipush (v := (-2)) (by decide)) ?_
  exact rrt rfl rfl rfl rfl
theorem ag_first_zneg {x y z : Int32} (px : ¬ x < 0) (qx : x ≤ 3) (py : ¬ y < 0) (qy : y ≤ 7) (nz : z < 0) : Agree miX8_first miX9_first [.int x, .int y, .int z] := ⟨(-2), hF, hF, 0, 0, 0, 0, tx_first_zneg px (by simp only [Int32.lt_iff_toInt_lt, Int32.le_iff_toInt_le, kk_m1, kk_0, kk_1, kk_2, kk_3, kk_4, kk_5, kk_6, kk_7, kk_8] at px qx ⊢; omega) py (by simp only [Int32.lt_iff_toInt_lt, Int32.le_iff_toInt_le, kk_m1, kk_0, kk_1, kk_2, kk_3, kk_4, kk_5, kk_6, kk_7, kk_8] at py qy ⊢; omega) nz, tm_first_zneg px (by simp only [Int32.lt_iff_toInt_lt, Int32.le_iff_toInt_le, kk_m1, kk_0, kk_1, kk_2, kk_3, kk_4, kk_5, kk_6, kk_7, kk_8] at px qx ⊢; omega) py (by simp only [Int32.lt_iff_toInt_lt, Int32.le_iff_toInt_le, kk_m1, kk_0, kk_1, kk_2, kk_3, kk_4, kk_5, kk_6, kk_7, kk_8] at py qy ⊢; omega) nz, by decide, by decide, rfl⟩
theorem tx_first_zbig {x y z : Int32} (g1 : ¬ x < 0) (g2 : ¬ 4 ≤ x) (g3 : ¬ y < 0) (g4 : ¬ 8 ≤ y) (g5 : ¬ z < 0) (g6 : ¬ z ≤ 1) : a_m MT [] 100000 11 miX8_first [.ref 0, .int x, .int y, .int z] hF = some (some (.int (-2)), hF, 0, 0) := by
  refine me (d := 10) g_X8_first (Nat.le_of_ble_eq_true rfl) ?_
  refine rr rfl (s_iload_n rfl) ?_
  have e1 : a_m MT [] 100000 10 miX8_isHost [.int x] hF = some ((some (.int 1)), hF, 0, 0) := by
    refine me (d := 9) g_X8_isHost (Nat.le_of_ble_eq_true rfl) ?_
    refine rr rfl (s_iload_n rfl) ?_
    refine rr rfl (s_ifF (ic_nlt g1)) ?_
    refine rr rfl (s_iload_n rfl) ?_
    refine rr rfl (s_iconst (v := 4) (by decide)) ?_
    refine rr rfl (s_icF (ic_nge g2)) ?_
    refine rr rfl (s_iconst (v := 1) (by decide)) ?_
    refine rr rfl s_goto ?_
    exact rrt rfl rfl rfl rfl
  refine rrc rfl rfl rfl (do_of g_X8_isHost rfl rfl e1) ?_
  refine rr rfl (s_ifF (by decide)) ?_
  refine rr rfl (s_iload_n rfl) ?_
  have e2 : a_m MT [] 100000 10 miX8_isFact [.int y] hF = some ((some (.int 1)), hF, 0, 0) := by
    refine me (d := 9) g_X8_isFact (Nat.le_of_ble_eq_true rfl) ?_
    refine rr rfl (s_iload_n rfl) ?_
    refine rr rfl (s_ifF (ic_nlt g3)) ?_
    refine rr rfl (s_iload_n rfl) ?_
    refine rr rfl (s_bipush (v := 8) (by decide)) ?_
    refine rr rfl (s_icF (ic_nge g4)) ?_
    refine rr rfl (s_iconst (v := 1) (by decide)) ?_
    refine rr rfl s_goto ?_
    exact rrt rfl rfl rfl rfl
  refine rrc rfl rfl rfl (do_of g_X8_isFact rfl rfl e2) ?_
  refine rr rfl (s_ifT (by decide)) ?_
  refine rr rfl (s_iload_n rfl) ?_
  refine rr rfl (s_ifF (ic_nlt g5)) ?_
  refine rr rfl (s_iload_n rfl) ?_
  refine rr rfl (s_iconst (v := 1) (by decide)) ?_
  refine rr rfl (s_icF (ic_nle g6)) ?_
  refine rr rfl (s_bipush (v := (-2)) (by decide)) ?_
  exact rrt rfl rfl rfl rfl
theorem tm_first_zbig {x y z : Int32} (g1 : ¬ x < 0) (g2 : ¬ 3 < x) (g3 : ¬ y < 0) (g4 : ¬ 7 < y) (g5 : ¬ z < 0) (g6 : 1 < z) : a_m MT [] 100000 11 miX9_first [.ref 41, .int x, .int y, .int z] hF = some (some (.int (-2)), hF, 0, 0) := by
  refine me (d := 10) g_X9_first (Nat.le_of_ble_eq_true rfl) ?_
  refine rr rfl (s_iload_n rfl) ?_
  have e1 : a_m MT [] 100000 10 miX9_isHost [.int x] hF = some ((some (.int 1)), hF, 0, 0) := by
    refine me (d := 9) g_X9_isHost (Nat.le_of_ble_eq_true rfl) ?_
    refine rr rfl (s_iload_n rfl) ?_
    refine rr rfl (s_iconst (v := 0) (by decide)) ?_
    refine rr rfl (s_iconst (v := 3) (by decide)) ?_
    have e2 : a_m MT [] 100000 9 miX9_in [.int x, .int 0, .int 3] hF = some ((some (.int 1)), hF, 0, 0) := by
      refine me (d := 8) g_X9_in (Nat.le_of_ble_eq_true rfl) ?_
      refine rr rfl (s_iload_n rfl) ?_
      refine rr rfl (s_iload_n rfl) ?_
      refine rr rfl (s_icF (ic_nlt g1)) ?_
      refine rr rfl (s_iload_n rfl) ?_
      refine rr rfl (s_iload_n rfl) ?_
      refine rr rfl (s_icF (ic_ngt g2)) ?_
      refine rr rfl (s_iconst (v := 1) (by decide)) ?_
      refine rr rfl s_goto ?_
      exact rrt rfl rfl rfl rfl
    refine rrc rfl rfl rfl (do_of g_X9_in rfl rfl e2) ?_
    exact rrt rfl rfl rfl rfl
  refine rrc rfl rfl rfl (do_of g_X9_isHost rfl rfl e1) ?_
  refine rr rfl (s_ifF (by decide)) ?_
  refine rr rfl (s_iload_n rfl) ?_
  have e3 : a_m MT [] 100000 10 miX9_isFact [.int y] hF = some ((some (.int 1)), hF, 0, 0) := by
    refine me (d := 9) g_X9_isFact (Nat.le_of_ble_eq_true rfl) ?_
    refine rr rfl (s_iload_n rfl) ?_
    refine rr rfl (s_iconst (v := 0) (by decide)) ?_
    refine rr rfl (s_bipush (v := 7) (by decide)) ?_
    have e4 : a_m MT [] 100000 9 miX9_in [.int y, .int 0, .int 7] hF = some ((some (.int 1)), hF, 0, 0) := by
      refine me (d := 8) g_X9_in (Nat.le_of_ble_eq_true rfl) ?_
      refine rr rfl (s_iload_n rfl) ?_
      refine rr rfl (s_iload_n rfl) ?_
      refine rr rfl (s_icF (ic_nlt g3)) ?_
      refine rr rfl (s_iload_n rfl) ?_
      refine rr rfl (s_iload_n rfl) ?_
      refine rr rfl (s_icF (ic_ngt g4)) ?_
      refine rr rfl (s_iconst (v := 1) (by decide)) ?_
      refine rr rfl s_goto ?_
      exact rrt rfl rfl rfl rfl
    refine rrc rfl rfl rfl (do_of g_X9_in rfl rfl e4) ?_
    exact rrt rfl rfl rfl rfl
  refine rrc rfl rfl rfl (do_of g_X9_isFact rfl rfl e3) ?_
  refine rr rfl (s_ifT (by decide)) ?_
  refine rr rfl (s_iload_n rfl) ?_
  refine rr rfl (s_iconst (v := 0) (by decide)) ?_
  refine rr rfl (s_iconst (v := 1) (by decide)) ?_
  have e5 : a_m MT [] 100000 10 miX9_in [.int z, .int 0, .int 1] hF = some ((some (.int 0)), hF, 0, 0) := by
    refine me (d := 9) g_X9_in (Nat.le_of_ble_eq_true rfl) ?_
    refine rr rfl (s_iload_n rfl) ?_
    refine rr rfl (s_iload_n rfl) ?_
    refine rr rfl (s_icF (ic_nlt g5)) ?_
    refine rr rfl (s_iload_n rfl) ?_
    refine rr rfl (s_iload_n rfl) ?_
    refine rr rfl (s_icT (ic_gt g6)) ?_
    refine rr rfl (s_iconst (v := 0) (by decide)) ?_
    exact rrt rfl rfl rfl rfl
  refine rrc rfl rfl rfl (do_of g_X9_in rfl rfl e5) ?_
  refine rr rfl (s_ifF (by decide)) ?_
  refine rr rfl (s_bipush (v := (-2)) (by decide)) ?_
  exact rrt rfl rfl rfl rfl
theorem ag_first_zbig {x y z : Int32} (px : ¬ x < 0) (qx : x ≤ 3) (py : ¬ y < 0) (qy : y ≤ 7) (pz : ¬ z < 0) (oz : 1 < z) : Agree miX8_first miX9_first [.int x, .int y, .int z] := ⟨(-2), hF, hF, 0, 0, 0, 0, tx_first_zbig px (by simp only [Int32.lt_iff_toInt_lt, Int32.le_iff_toInt_le, kk_m1, kk_0, kk_1, kk_2, kk_3, kk_4, kk_5, kk_6, kk_7, kk_8] at px qx ⊢; omega) py (by simp only [Int32.lt_iff_toInt_lt, Int32.le_iff_toInt_le, kk_m1, kk_0, kk_1, kk_2, kk_3, kk_4, kk_5, kk_6, kk_7, kk_8] at py qy ⊢; omega) pz (by simp only [Int32.lt_iff_toInt_lt, Int32.le_iff_toInt_le, kk_m1, kk_0, kk_1, kk_2, kk_3, kk_4, kk_5, kk_6, kk_7, kk_8] at pz oz ⊢; omega), tm_first_zbig px (by simp only [Int32.lt_iff_toInt_lt, Int32.le_iff_toInt_le, kk_m1, kk_0, kk_1, kk_2, kk_3, kk_4, kk_5, kk_6, kk_7, kk_8] at px qx ⊢; omega) py (by simp only [Int32.lt_iff_toInt_lt, Int32.le_iff_toInt_le, kk_m1, kk_0, kk_1, kk_2, kk_3, kk_4, kk_5, kk_6, kk_7, kk_8] at py qy ⊢; omega) pz oz, by decide, by decide, rfl⟩
theorem al_first (x y z : Int32) : Agree miX8_first miX9_first [.int x, .int y, .int z] := by
  by_cases nx : x < 0
  · exact ag_first_xneg  nx
  by_cases qx : x ≤ 3
  rotate_left
  · exact ag_first_xbig  nx (Int32.not_le.mp qx)
  have px := nx
  by_cases ny : y < 0
  · exact ag_first_yneg px qx ny
  by_cases qy : y ≤ 7
  rotate_left
  · exact ag_first_ybig px qx ny (Int32.not_le.mp qy)
  have py := ny
  by_cases nz : z < 0
  · exact ag_first_zneg px qx py qy nz
  by_cases qz : z ≤ 1
  rotate_left
  · exact ag_first_zbig px qx py qy nz (Int32.not_le.mp qz)
  have pz := nz
  obtain ⟨jx, lx, rfl⟩ := nI_of2 (M := 3) (n := 3) rfl px qx
  obtain ⟨jy, ly, rfl⟩ := nI_of2 (M := 7) (n := 7) rfl py qy
  obtain ⟨jz, lz, rfl⟩ := nI_of2 (M := 1) (n := 1) rfl pz qz
  exact agr_ok (fn_first jx lx jy ly jz lz)
theorem tx_bounds_xneg {x y z : Int32} (g1 : x < 0) : a_m MT [] 100000 11 miX8_bounds [.ref 0, .int x, .int y, .int z] hF = some (some (.int (-2)), hF, 0, 0) := by
  refine me (d := 10) g_X8_bounds (Nat.le_of_ble_eq_true rfl) ?_
  refine rr rfl (s_iload_n rfl) ?_
  refine rr rfl (s_ifT (ic_lt g1)) ?_
  refine rr rfl (s_bipush (v := (-2)) (by decide)) ?_
  exact rrt rfl rfl rfl rfl
theorem tm_bounds_xneg {x y z : Int32} (g1 : x < 0) : a_m MT [] 100000 11 miX9_bounds [.ref 41, .int x, .int y, .int z] hF = some (some (.int (-2)), hF, 0, 0) := by
  refine me (d := 10) g_X9_bounds (Nat.le_of_ble_eq_true rfl) ?_
  refine rr rfl (s_iload_n rfl) ?_
  refine rr rfl (s_iconst (v := 0) (by decide)) ?_
  refine rr rfl (s_iconst (v := 2) (by decide)) ?_
  have e1 : a_m MT [] 100000 10 miX9_in [.int x, .int 0, .int 2] hF = some ((some (.int 0)), hF, 0, 0) := by
    refine me (d := 9) g_X9_in (Nat.le_of_ble_eq_true rfl) ?_
    refine rr rfl (s_iload_n rfl) ?_
    refine rr rfl (s_iload_n rfl) ?_
    refine rr rfl (s_icT (ic_lt g1)) ?_
    refine rr rfl (s_iconst (v := 0) (by decide)) ?_
    exact rrt rfl rfl rfl rfl
  refine rrc rfl rfl rfl (do_of g_X9_in rfl rfl e1) ?_
  refine rr rfl (s_ifT (by decide)) ?_
  refine rr rfl (s_bipush (v := (-2)) (by decide)) ?_
  exact rrt rfl rfl rfl rfl
theorem ag_bounds_xneg {x y z : Int32} (nx : x < 0) : Agree miX8_bounds miX9_bounds [.int x, .int y, .int z] := ⟨(-2), hF, hF, 0, 0, 0, 0, tx_bounds_xneg nx, tm_bounds_xneg nx, by decide, by decide, rfl⟩
theorem tx_bounds_xbig {x y z : Int32} (g1 : ¬ x < 0) (g2 : 2 < x) : a_m MT [] 100000 11 miX8_bounds [.ref 0, .int x, .int y, .int z] hF = some (some (.int (-2)), hF, 0, 0) := by
  refine me (d := 10) g_X8_bounds (Nat.le_of_ble_eq_true rfl) ?_
  refine rr rfl (s_iload_n rfl) ?_
  refine rr rfl (s_ifF (ic_nlt g1)) ?_
  refine rr rfl (s_iload_n rfl) ?_
  refine rr rfl (s_iconst (v := 2) (by decide)) ?_
  refine rr rfl (s_icT (ic_gt g2)) ?_
  refine rr rfl (s_bipush (v := (-2)) (by decide)) ?_
  exact rrt rfl rfl rfl rfl
theorem tm_bounds_xbig {x y z : Int32} (g1 : ¬ x < 0) (g2 : 2 < x) : a_m MT [] 100000 11 miX9_bounds [.ref 41, .int x, .int y, .int z] hF = some (some (.int (-2)), hF, 0, 0) := by
  refine me (d := 10) g_X9_bounds (Nat.le_of_ble_eq_true rfl) ?_
  refine rr rfl (s_iload_n rfl) ?_
  refine rr rfl (s_iconst (v := 0) (by decide)) ?_
  refine rr rfl (s_iconst (v := 2) (by decide)) ?_
  have e1 : a_m MT [] 100000 10 miX9_in [.int x, .int 0, .int 2] hF = some ((some (.int 0)), hF, 0, 0) := by
    refine me (d := 9) g_X9_in (Nat.le_of_ble_eq_true rfl) ?_
    refine rr rfl (s_iload_n rfl) ?_
    refine rr rfl (s_iload_n rfl) ?_
    refine rr rfl (s_icF (ic_nlt g1)) ?_
    refine rr rfl (s_iload_n rfl) ?_
    refine rr rfl (s_iload_n rfl) ?_
    refine rr rfl (s_icT (ic_gt g2)) ?_
    refine rr rfl (s_iconst (v := 0) (by decide)) ?_
    exact rrt rfl rfl rfl rfl
  refine rrc rfl rfl rfl (do_of g_X9_in rfl rfl e1) ?_
  refine rr rfl (s_ifT (by decide)) ?_
  refine rr rfl (s_bipush (v := (-2)) (by decide)) ?_
  exact rrt rfl rfl rfl rfl
theorem ag_bounds_xbig {x y z : Int32} (px : ¬ x < 0) (ox : 2 < x) : Agree miX8_bounds miX9_bounds [.int x, .int y, .int z] := ⟨(-2), hF, hF, 0, 0, 0, 0, tx_bounds_xbig px ox, tm_bounds_xbig px ox, by decide, by decide, rfl⟩
theorem tx_bounds_yneg {x y z : Int32} (g1 : ¬ x < 0) (g2 : ¬ 2 < x) (g3 : y < 0) : a_m MT [] 100000 11 miX8_bounds [.ref 0, .int x, .int y, .int z] hF = some (some (.int (-2)), hF, 0, 0) := by
  refine me (d := 10) g_X8_bounds (Nat.le_of_ble_eq_true rfl) ?_
  refine rr rfl (s_iload_n rfl) ?_
  refine rr rfl (s_ifF (ic_nlt g1)) ?_
  refine rr rfl (s_iload_n rfl) ?_
  refine rr rfl (s_iconst (v := 2) (by decide)) ?_
  refine rr rfl (s_icF (ic_ngt g2)) ?_
  refine rr rfl (s_iload_n rfl) ?_
  refine rr rfl (s_ifT (ic_lt g3)) ?_
  refine rr rfl (s_bipush (v := (-2)) (by decide)) ?_
  exact rrt rfl rfl rfl rfl
theorem tm_bounds_yneg {x y z : Int32} (g1 : ¬ x < 0) (g2 : ¬ 2 < x) (g3 : y < 0) : a_m MT [] 100000 11 miX9_bounds [.ref 41, .int x, .int y, .int z] hF = some (some (.int (-2)), hF, 0, 0) := by
  refine me (d := 10) g_X9_bounds (Nat.le_of_ble_eq_true rfl) ?_
  refine rr rfl (s_iload_n rfl) ?_
  refine rr rfl (s_iconst (v := 0) (by decide)) ?_
  refine rr rfl (s_iconst (v := 2) (by decide)) ?_
  have e1 : a_m MT [] 100000 10 miX9_in [.int x, .int 0, .int 2] hF = some ((some (.int 1)), hF, 0, 0) := by
    refine me (d := 9) g_X9_in (Nat.le_of_ble_eq_true rfl) ?_
    refine rr rfl (s_iload_n rfl) ?_
    refine rr rfl (s_iload_n rfl) ?_
    refine rr rfl (s_icF (ic_nlt g1)) ?_
    refine rr rfl (s_iload_n rfl) ?_
    refine rr rfl (s_iload_n rfl) ?_
    refine rr rfl (s_icF (ic_ngt g2)) ?_
    refine rr rfl (s_iconst (v := 1) (by decide)) ?_
    refine rr rfl s_goto ?_
    exact rrt rfl rfl rfl rfl
  refine rrc rfl rfl rfl (do_of g_X9_in rfl rfl e1) ?_
  refine rr rfl (s_ifF (by decide)) ?_
  refine rr rfl (s_iload_n rfl) ?_
  refine rr rfl (s_iconst (v := 0) (by decide)) ?_
  refine rr rfl (s_iconst (v := 2) (by decide)) ?_
  have e2 : a_m MT [] 100000 10 miX9_in [.int y, .int 0, .int 2] hF = some ((some (.int 0)), hF, 0, 0) := by
    refine me (d := 9) g_X9_in (Nat.le_of_ble_eq_true rfl) ?_
    refine rr rfl (s_iload_n rfl) ?_
    refine rr rfl (s_iload_n rfl) ?_
    refine rr rfl (s_icT (ic_lt g3)) ?_
    refine rr rfl (s_iconst (v := 0) (by decide)) ?_
    exact rrt rfl rfl rfl rfl
  refine rrc rfl rfl rfl (do_of g_X9_in rfl rfl e2) ?_
  refine rr rfl (s_ifF (by decide)) ?_
  refine rr rfl (s_bipush (v := (-2)) (by decide)) ?_
  exact rrt rfl rfl rfl rfl
theorem ag_bounds_yneg {x y z : Int32} (px : ¬ x < 0) (qx : x ≤ 2) (ny : y < 0) : Agree miX8_bounds miX9_bounds [.int x, .int y, .int z] := ⟨(-2), hF, hF, 0, 0, 0, 0, tx_bounds_yneg px (by simp only [Int32.lt_iff_toInt_lt, Int32.le_iff_toInt_le, kk_m1, kk_0, kk_1, kk_2, kk_3, kk_4, kk_5, kk_6, kk_7, kk_8] at px qx ⊢; omega) ny, tm_bounds_yneg px (by simp only [Int32.lt_iff_toInt_lt, Int32.le_iff_toInt_le, kk_m1, kk_0, kk_1, kk_2, kk_3, kk_4, kk_5, kk_6, kk_7, kk_8] at px qx ⊢; omega) ny, by decide, by decide, rfl⟩
theorem tx_bounds_ybig {x y z : Int32} (g1 : ¬ x < 0) (g2 : ¬ 2 < x) (g3 : ¬ y < 0) (g4 : ¬ y ≤ 2) : a_m MT [] 100000 11 miX8_bounds [.ref 0, .int x, .int y, .int z] hF = some (some (.int (-2)), hF, 0, 0) := by
  refine me (d := 10) g_X8_bounds (Nat.le_of_ble_eq_true rfl) ?_
  refine rr rfl (s_iload_n rfl) ?_
  refine rr rfl (s_ifF (ic_nlt g1)) ?_
  refine rr rfl (s_iload_n rfl) ?_
  refine rr rfl (s_iconst (v := 2) (by decide)) ?_
  refine rr rfl (s_icF (ic_ngt g2)) ?_
  refine rr rfl (s_iload_n rfl) ?_
  refine rr rfl (s_ifF (ic_nlt g3)) ?_
  refine rr rfl (s_iload_n rfl) ?_
  refine rr rfl (s_iconst (v := 2) (by decide)) ?_
  refine rr rfl (s_icF (ic_nle g4)) ?_
  refine rr rfl (s_bipush (v := (-2)) (by decide)) ?_
  exact rrt rfl rfl rfl rfl
theorem tm_bounds_ybig {x y z : Int32} (g1 : ¬ x < 0) (g2 : ¬ 2 < x) (g3 : ¬ y < 0) (g4 : 2 < y) : a_m MT [] 100000 11 miX9_bounds [.ref 41, .int x, .int y, .int z] hF = some (some (.int (-2)), hF, 0, 0) := by
  refine me (d := 10) g_X9_bounds (Nat.le_of_ble_eq_true rfl) ?_
  refine rr rfl (s_iload_n rfl) ?_
  refine rr rfl (s_iconst (v := 0) (by decide)) ?_
  refine rr rfl (s_iconst (v := 2) (by decide)) ?_
  have e1 : a_m MT [] 100000 10 miX9_in [.int x, .int 0, .int 2] hF = some ((some (.int 1)), hF, 0, 0) := by
    refine me (d := 9) g_X9_in (Nat.le_of_ble_eq_true rfl) ?_
    refine rr rfl (s_iload_n rfl) ?_
    refine rr rfl (s_iload_n rfl) ?_
    refine rr rfl (s_icF (ic_nlt g1)) ?_
    refine rr rfl (s_iload_n rfl) ?_
    refine rr rfl (s_iload_n rfl) ?_
    refine rr rfl (s_icF (ic_ngt g2)) ?_
    refine rr rfl (s_iconst (v := 1) (by decide)) ?_
    refine rr rfl s_goto ?_
    exact rrt rfl rfl rfl rfl
  refine rrc rfl rfl rfl (do_of g_X9_in rfl rfl e1) ?_
  refine rr rfl (s_ifF (by decide)) ?_
  refine rr rfl (s_iload_n rfl) ?_
  refine rr rfl (s_iconst (v := 0) (by decide)) ?_
  refine rr rfl (s_iconst (v := 2) (by decide)) ?_
  have e2 : a_m MT [] 100000 10 miX9_in [.int y, .int 0, .int 2] hF = some ((some (.int 0)), hF, 0, 0) := by
    refine me (d := 9) g_X9_in (Nat.le_of_ble_eq_true rfl) ?_
    refine rr rfl (s_iload_n rfl) ?_
    refine rr rfl (s_iload_n rfl) ?_
    refine rr rfl (s_icF (ic_nlt g3)) ?_
    refine rr rfl (s_iload_n rfl) ?_
    refine rr rfl (s_iload_n rfl) ?_
    refine rr rfl (s_icT (ic_gt g4)) ?_
    refine rr rfl (s_iconst (v := 0) (by decide)) ?_
    exact rrt rfl rfl rfl rfl
  refine rrc rfl rfl rfl (do_of g_X9_in rfl rfl e2) ?_
  refine rr rfl (s_ifF (by decide)) ?_
  refine rr rfl (s_bipush (v := (-2)) (by decide)) ?_
  exact rrt rfl rfl rfl rfl
theorem ag_bounds_ybig {x y z : Int32} (px : ¬ x < 0) (qx : x ≤ 2) (py : ¬ y < 0) (oy : 2 < y) : Agree miX8_bounds miX9_bounds [.int x, .int y, .int z] := ⟨(-2), hF, hF, 0, 0, 0, 0, tx_bounds_ybig px (by simp only [Int32.lt_iff_toInt_lt, Int32.le_iff_toInt_le, kk_m1, kk_0, kk_1, kk_2, kk_3, kk_4, kk_5, kk_6, kk_7, kk_8] at px qx ⊢; omega) py (by simp only [Int32.lt_iff_toInt_lt, Int32.le_iff_toInt_le, kk_m1, kk_0, kk_1, kk_2, kk_3, kk_4, kk_5, kk_6, kk_7, kk_8] at py oy ⊢; omega), tm_bounds_ybig px (by simp only [Int32.lt_iff_toInt_lt, Int32.le_iff_toInt_le, kk_m1, kk_0, kk_1, kk_2, kk_3, kk_4, kk_5, kk_6, kk_7, kk_8] at px qx ⊢; omega) py oy, by decide, by decide, rfl⟩
theorem tx_bounds_zneg {x y z : Int32} (g1 : ¬ x < 0) (g2 : ¬ 2 < x) (g3 : ¬ y < 0) (g4 : y ≤ 2) (g5 : z < 0) : a_m MT [] 100000 11 miX8_bounds [.ref 0, .int x, .int y, .int z] hF = some (some (.int (-1)), hF, 0, 0) := by
  refine me (d := 10) g_X8_bounds (Nat.le_of_ble_eq_true rfl) ?_
  refine rr rfl (s_iload_n rfl) ?_
  refine rr rfl (s_ifF (ic_nlt g1)) ?_
  refine rr rfl (s_iload_n rfl) ?_
  refine rr rfl (s_iconst (v := 2) (by decide)) ?_
  refine rr rfl (s_icF (ic_ngt g2)) ?_
  refine rr rfl (s_iload_n rfl) ?_
  refine rr rfl (s_ifF (ic_nlt g3)) ?_
  refine rr rfl (s_iload_n rfl) ?_
  refine rr rfl (s_iconst (v := 2) (by decide)) ?_
  refine rr rfl (s_icT (ic_le g4)) ?_
  refine rr rfl (s_iload_n rfl) ?_
  refine rr rfl (s_ifT (ic_lt g5)) ?_
  refine rr rfl (s_iconst (v := (-1)) (by decide)) ?_
  exact rrt rfl rfl rfl rfl
theorem tm_bounds_zneg {x y z : Int32} (g1 : ¬ x < 0) (g2 : ¬ 2 < x) (g3 : ¬ y < 0) (g4 : ¬ 2 < y) (g5 : z < 0) : a_m MT [] 100000 11 miX9_bounds [.ref 41, .int x, .int y, .int z] hF = some (some (.int (-1)), hF, 0, 0) := by
  refine me (d := 10) g_X9_bounds (Nat.le_of_ble_eq_true rfl) ?_
  refine rr rfl (s_iload_n rfl) ?_
  refine rr rfl (s_iconst (v := 0) (by decide)) ?_
  refine rr rfl (s_iconst (v := 2) (by decide)) ?_
  have e1 : a_m MT [] 100000 10 miX9_in [.int x, .int 0, .int 2] hF = some ((some (.int 1)), hF, 0, 0) := by
    refine me (d := 9) g_X9_in (Nat.le_of_ble_eq_true rfl) ?_
    refine rr rfl (s_iload_n rfl) ?_
    refine rr rfl (s_iload_n rfl) ?_
    refine rr rfl (s_icF (ic_nlt g1)) ?_
    refine rr rfl (s_iload_n rfl) ?_
    refine rr rfl (s_iload_n rfl) ?_
    refine rr rfl (s_icF (ic_ngt g2)) ?_
    refine rr rfl (s_iconst (v := 1) (by decide)) ?_
    refine rr rfl s_goto ?_
    exact rrt rfl rfl rfl rfl
  refine rrc rfl rfl rfl (do_of g_X9_in rfl rfl e1) ?_
  refine rr rfl (s_ifF (by decide)) ?_
  refine rr rfl (s_iload_n rfl) ?_
  refine rr rfl (s_iconst (v := 0) (by decide)) ?_
  refine rr rfl (s_iconst (v := 2) (by decide)) ?_
  have e2 : a_m MT [] 100000 10 miX9_in [.int y, .int 0, .int 2] hF = some ((some (.int 1)), hF, 0, 0) := by
    refine me (d := 9) g_X9_in (Nat.le_of_ble_eq_true rfl) ?_
    refine rr rfl (s_iload_n rfl) ?_
    refine rr rfl (s_iload_n rfl) ?_
    refine rr rfl (s_icF (ic_nlt g3)) ?_
    refine rr rfl (s_iload_n rfl) ?_
    refine rr rfl (s_iload_n rfl) ?_
    refine rr rfl (s_icF (ic_ngt g4)) ?_
    refine rr rfl (s_iconst (v := 1) (by decide)) ?_
    refine rr rfl s_goto ?_
    exact rrt rfl rfl rfl rfl
  refine rrc rfl rfl rfl (do_of g_X9_in rfl rfl e2) ?_
  refine rr rfl (s_ifT (by decide)) ?_
  refine rr rfl (s_iload_n rfl) ?_
  refine rr rfl (s_iconst (v := 0) (by decide)) ?_
  refine rr rfl (s_bipush (v := 6) (by decide)) ?_
  have e3 : a_m MT [] 100000 10 miX9_in [.int z, .int 0, .int 6] hF = some ((some (.int 0)), hF, 0, 0) := by
    refine me (d := 9) g_X9_in (Nat.le_of_ble_eq_true rfl) ?_
    refine rr rfl (s_iload_n rfl) ?_
    refine rr rfl (s_iload_n rfl) ?_
    refine rr rfl (s_icT (ic_lt g5)) ?_
    refine rr rfl (s_iconst (v := 0) (by decide)) ?_
    exact rrt rfl rfl rfl rfl
  refine rrc rfl rfl rfl (do_of g_X9_in rfl rfl e3) ?_
  refine rr rfl (s_ifF (by decide)) ?_
  refine rr rfl (s_iconst (v := (-1)) (by decide)) ?_
  exact rrt rfl rfl rfl rfl
theorem ag_bounds_zneg {x y z : Int32} (px : ¬ x < 0) (qx : x ≤ 2) (py : ¬ y < 0) (qy : y ≤ 2) (nz : z < 0) : Agree miX8_bounds miX9_bounds [.int x, .int y, .int z] := ⟨(-1), hF, hF, 0, 0, 0, 0, tx_bounds_zneg px (by simp only [Int32.lt_iff_toInt_lt, Int32.le_iff_toInt_le, kk_m1, kk_0, kk_1, kk_2, kk_3, kk_4, kk_5, kk_6, kk_7, kk_8] at px qx ⊢; omega) py qy nz, tm_bounds_zneg px (by simp only [Int32.lt_iff_toInt_lt, Int32.le_iff_toInt_le, kk_m1, kk_0, kk_1, kk_2, kk_3, kk_4, kk_5, kk_6, kk_7, kk_8] at px qx ⊢; omega) py (by simp only [Int32.lt_iff_toInt_lt, Int32.le_iff_toInt_le, kk_m1, kk_0, kk_1, kk_2, kk_3, kk_4, kk_5, kk_6, kk_7, kk_8] at py qy ⊢; omega) nz, by decide, by decide, rfl⟩
theorem tx_bounds_zbig {x y z : Int32} (g1 : ¬ x < 0) (g2 : ¬ 2 < x) (g3 : ¬ y < 0) (g4 : y ≤ 2) (g5 : ¬ z < 0) (g6 : ¬ z ≤ 6) : a_m MT [] 100000 11 miX8_bounds [.ref 0, .int x, .int y, .int z] hF = some (some (.int (-1)), hF, 0, 0) := by
  refine me (d := 10) g_X8_bounds (Nat.le_of_ble_eq_true rfl) ?_
  refine rr rfl (s_iload_n rfl) ?_
  refine rr rfl (s_ifF (ic_nlt g1)) ?_
  refine rr rfl (s_iload_n rfl) ?_
  refine rr rfl (s_iconst (v := 2) (by decide)) ?_
  refine rr rfl (s_icF (ic_ngt g2)) ?_
  refine rr rfl (s_iload_n rfl) ?_
  refine rr rfl (s_ifF (ic_nlt g3)) ?_
  refine rr rfl (s_iload_n rfl) ?_
  refine rr rfl (s_iconst (v := 2) (by decide)) ?_
  refine rr rfl (s_icT (ic_le g4)) ?_
  refine rr rfl (s_iload_n rfl) ?_
  refine rr rfl (s_ifF (ic_nlt g5)) ?_
  refine rr rfl (s_iload_n rfl) ?_
  refine rr rfl (s_bipush (v := 6) (by decide)) ?_
  refine rr rfl (s_icF (ic_nle g6)) ?_
  refine rr rfl (s_iconst (v := (-1)) (by decide)) ?_
  exact rrt rfl rfl rfl rfl
theorem tm_bounds_zbig {x y z : Int32} (g1 : ¬ x < 0) (g2 : ¬ 2 < x) (g3 : ¬ y < 0) (g4 : ¬ 2 < y) (g5 : ¬ z < 0) (g6 : 6 < z) : a_m MT [] 100000 11 miX9_bounds [.ref 41, .int x, .int y, .int z] hF = some (some (.int (-1)), hF, 0, 0) := by
  refine me (d := 10) g_X9_bounds (Nat.le_of_ble_eq_true rfl) ?_
  refine rr rfl (s_iload_n rfl) ?_
  refine rr rfl (s_iconst (v := 0) (by decide)) ?_
  refine rr rfl (s_iconst (v := 2) (by decide)) ?_
  have e1 : a_m MT [] 100000 10 miX9_in [.int x, .int 0, .int 2] hF = some ((some (.int 1)), hF, 0, 0) := by
    refine me (d := 9) g_X9_in (Nat.le_of_ble_eq_true rfl) ?_
    refine rr rfl (s_iload_n rfl) ?_
    refine rr rfl (s_iload_n rfl) ?_
    refine rr rfl (s_icF (ic_nlt g1)) ?_
    refine rr rfl (s_iload_n rfl) ?_
    refine rr rfl (s_iload_n rfl) ?_
    refine rr rfl (s_icF (ic_ngt g2)) ?_
    refine rr rfl (s_iconst (v := 1) (by decide)) ?_
    refine rr rfl s_goto ?_
    exact rrt rfl rfl rfl rfl
  refine rrc rfl rfl rfl (do_of g_X9_in rfl rfl e1) ?_
  refine rr rfl (s_ifF (by decide)) ?_
  refine rr rfl (s_iload_n rfl) ?_
  refine rr rfl (s_iconst (v := 0) (by decide)) ?_
  refine rr rfl (s_iconst (v := 2) (by decide)) ?_
  have e2 : a_m MT [] 100000 10 miX9_in [.int y, .int 0, .int 2] hF = some ((some (.int 1)), hF, 0, 0) := by
    refine me (d := 9) g_X9_in (Nat.le_of_ble_eq_true rfl) ?_
    refine rr rfl (s_iload_n rfl) ?_
    refine rr rfl (s_iload_n rfl) ?_
    refine rr rfl (s_icF (ic_nlt g3)) ?_
    refine rr rfl (s_iload_n rfl) ?_
    refine rr rfl (s_iload_n rfl) ?_
    refine rr rfl (s_icF (ic_ngt g4)) ?_
    refine rr rfl (s_iconst (v := 1) (by decide)) ?_
    refine rr rfl s_goto ?_
    exact rrt rfl rfl rfl rfl
  refine rrc rfl rfl rfl (do_of g_X9_in rfl rfl e2) ?_
  refine rr rfl (s_ifT (by decide)) ?_
  refine rr rfl (s_iload_n rfl) ?_
  refine rr rfl (s_iconst (v := 0) (by decide)) ?_
  refine rr rfl (s_bipush (v := 6) (by decide)) ?_
  have e3 : a_m MT [] 100000 10 miX9_in [.int z, .int 0, .int 6] hF = some ((some (.int 0)), hF, 0, 0) := by
    refine me (d := 9) g_X9_in (Nat.le_of_ble_eq_true rfl) ?_
    refine rr rfl (s_iload_n rfl) ?_
    refine rr rfl (s_iload_n rfl) ?_
    refine rr rfl (s_icF (ic_nlt g5)) ?_
    refine rr rfl (s_iload_n rfl) ?_
    refine rr rfl (s_iload_n rfl) ?_
    refine rr rfl (s_icT (ic_gt g6)) ?_
    refine rr rfl (s_iconst (v := 0) (by decide)) ?_
    exact rrt rfl rfl rfl rfl
  refine rrc rfl rfl rfl (do_of g_X9_in rfl rfl e3) ?_
  refine rr rfl (s_ifF (by decide)) ?_
  refine rr rfl (s_iconst (v := (-1)) (by decide)) ?_
  exact rrt rfl rfl rfl rfl
theorem ag_bounds_zbig {x y z : Int32} (px : ¬ x < 0) (qx : x ≤ 2) (py : ¬ y < 0) (qy : y ≤ 2) (pz : ¬ z < 0) (oz : 6 < z) : Agree miX8_bounds miX9_bounds [.int x, .int y, .int z] := ⟨(-1), hF, hF, 0, 0, 0, 0, tx_bounds_zbig px (by simp only [Int32.lt_iff_toInt_lt, Int32.le_iff_toInt_le, kk_m1, kk_0, kk_1, kk_2, kk_3, kk_4, kk_5, kk_6, kk_7, kk_8] at px qx ⊢; omega) py qy pz (by simp only [Int32.lt_iff_toInt_lt, Int32.le_iff_toInt_le, kk_m1, kk_0, kk_1, kk_2, kk_3, kk_4, kk_5, kk_6, kk_7, kk_8] at pz oz ⊢; omega), tm_bounds_zbig px (by simp only [Int32.lt_iff_toInt_lt, Int32.le_iff_toInt_le, kk_m1, kk_0, kk_1, kk_2, kk_3, kk_4, kk_5, kk_6, kk_7, kk_8] at px qx ⊢; omega) py (by simp only [Int32.lt_iff_toInt_lt, Int32.le_iff_toInt_le, kk_m1, kk_0, kk_1, kk_2, kk_3, kk_4, kk_5, kk_6, kk_7, kk_8] at py qy ⊢; omega) pz oz, by decide, by decide, rfl⟩
theorem al_bounds (x y z : Int32) : Agree miX8_bounds miX9_bounds [.int x, .int y, .int z] := by
  by_cases nx : x < 0
  · exact ag_bounds_xneg  nx
  by_cases qx : x ≤ 2
  rotate_left
  · exact ag_bounds_xbig  nx (Int32.not_le.mp qx)
  have px := nx
  by_cases ny : y < 0
  · exact ag_bounds_yneg px qx ny
  by_cases qy : y ≤ 2
  rotate_left
  · exact ag_bounds_ybig px qx ny (Int32.not_le.mp qy)
  have py := ny
  by_cases nz : z < 0
  · exact ag_bounds_zneg px qx py qy nz
  by_cases qz : z ≤ 6
  rotate_left
  · exact ag_bounds_zbig px qx py qy nz (Int32.not_le.mp qz)
  have pz := nz
  obtain ⟨jx, lx, rfl⟩ := nI_of2 (M := 2) (n := 2) rfl px qx
  obtain ⟨jy, ly, rfl⟩ := nI_of2 (M := 2) (n := 2) rfl py qy
  obtain ⟨jz, lz, rfl⟩ := nI_of2 (M := 6) (n := 6) rfl pz qz
  exact agr_ok (fn_bounds jx lx jy ly jz lz)
theorem tx_spare_xneg {x y : Int32} (g1 : x < 0) : a_m MT [] 100000 11 miX8_spare [.ref 0, .int x, .int y] hF = some (some (.int (-1)), hF, 0, 0) := by
  refine me (d := 10) g_X8_spare (Nat.le_of_ble_eq_true rfl) ?_
  refine rr rfl (s_iload_n rfl) ?_
  refine rr rfl (s_ifT (ic_lt g1)) ?_
  refine rr rfl (s_iconst (v := (-1)) (by decide)) ?_
  exact rrt rfl rfl rfl rfl
theorem tm_spare_xneg {x y : Int32} (g1 : x < 0) : a_m MT [] 100000 11 miX9_spare [.ref 41, .int x, .int y] hF = some (some (.int (-1)), hF, 0, 0) := by
  refine me (d := 10) g_X9_spare (Nat.le_of_ble_eq_true rfl) ?_
  refine rr rfl (s_aload_n rfl) ?_
  refine rr rfl (s_iload_n rfl) ?_
  have e1 : a_m MT [] 100000 10 miX9_isRule [.ref 41, .int x] hF = some ((some (.int 0)), hF, 0, 0) := by
    refine me (d := 9) g_X9_isRule (Nat.le_of_ble_eq_true rfl) ?_
    refine rr rfl (s_iload_n rfl) ?_
    refine rr rfl (s_iconst (v := 0) (by decide)) ?_
    refine rr rfl (s_aload_n rfl) ?_
    refine rr rfl (s_getf rfl rfl) ?_
    refine rr rfl (s_iconst (v := 1) (by decide)) ?_
    refine rr rfl (s_isub (v := (-1)) (by decide)) ?_
    have e2 : a_m MT [] 100000 9 miX9_in [.int x, .int 0, .int (-1)] hF = some ((some (.int 0)), hF, 0, 0) := by
      refine me (d := 8) g_X9_in (Nat.le_of_ble_eq_true rfl) ?_
      refine rr rfl (s_iload_n rfl) ?_
      refine rr rfl (s_iload_n rfl) ?_
      refine rr rfl (s_icT (ic_lt g1)) ?_
      refine rr rfl (s_iconst (v := 0) (by decide)) ?_
      exact rrt rfl rfl rfl rfl
    refine rrc rfl rfl rfl (do_of g_X9_in rfl rfl e2) ?_
    exact rrt rfl rfl rfl rfl
  refine rrc rfl rfl rfl (do_of g_X9_isRule rfl rfl e1) ?_
  refine rr rfl (s_ifF (by decide)) ?_
  refine rr rfl (s_iconst (v := (-1)) (by decide)) ?_
  exact rrt rfl rfl rfl rfl
theorem ag_spare_xneg {x y : Int32} (nx : x < 0) : Agree miX8_spare miX9_spare [.int x, .int y] := ⟨(-1), hF, hF, 0, 0, 0, 0, tx_spare_xneg nx, tm_spare_xneg nx, by decide, by decide, rfl⟩
theorem tx_spare_xbig {x y : Int32} (g1 : ¬ x < 0) : a_m MT [] 100000 11 miX8_spare [.ref 0, .int x, .int y] hF = some (some (.int (-1)), hF, 0, 0) := by
  refine me (d := 10) g_X8_spare (Nat.le_of_ble_eq_true rfl) ?_
  refine rr rfl (s_iload_n rfl) ?_
  refine rr rfl (s_ifF (ic_nlt g1)) ?_
  refine rr rfl (s_iload_n rfl) ?_
  refine rr rfl (s_aload_n rfl) ?_
  refine rr rfl (s_getf rfl rfl) ?_
  refine rr rfl (s_getf rfl rfl) ?_
  refine rr rfl (s_getf rfl rfl) ?_
  have e1 : a_m MT [] 100000 10 miJx4a65c_size_8abf5 [.ref 3] hF = some ((some (.int 0)), hF, 0, 0) := by
    refine me (d := 9) g_Jx4a65c_size_8abf5 (Nat.le_of_ble_eq_true rfl) ?_
    refine rr rfl (s_aload_n rfl) ?_
    refine rr rfl (s_getf rfl rfl) ?_
    exact rrt rfl rfl rfl rfl
  refine rrc rfl rfl rfl (do_of g_Jx4a65c_size_8abf5 rfl rfl e1) ?_
  refine rr rfl (s_icF (ic_nlt g1)) ?_
  refine rr rfl (s_iconst (v := (-1)) (by decide)) ?_
  exact rrt rfl rfl rfl rfl
theorem tm_spare_xbig {x y : Int32} (g1 : ¬ x < 0) (g2 : (-1) < x) : a_m MT [] 100000 11 miX9_spare [.ref 41, .int x, .int y] hF = some (some (.int (-1)), hF, 0, 0) := by
  refine me (d := 10) g_X9_spare (Nat.le_of_ble_eq_true rfl) ?_
  refine rr rfl (s_aload_n rfl) ?_
  refine rr rfl (s_iload_n rfl) ?_
  have e1 : a_m MT [] 100000 10 miX9_isRule [.ref 41, .int x] hF = some ((some (.int 0)), hF, 0, 0) := by
    refine me (d := 9) g_X9_isRule (Nat.le_of_ble_eq_true rfl) ?_
    refine rr rfl (s_iload_n rfl) ?_
    refine rr rfl (s_iconst (v := 0) (by decide)) ?_
    refine rr rfl (s_aload_n rfl) ?_
    refine rr rfl (s_getf rfl rfl) ?_
    refine rr rfl (s_iconst (v := 1) (by decide)) ?_
    refine rr rfl (s_isub (v := (-1)) (by decide)) ?_
    have e2 : a_m MT [] 100000 9 miX9_in [.int x, .int 0, .int (-1)] hF = some ((some (.int 0)), hF, 0, 0) := by
      refine me (d := 8) g_X9_in (Nat.le_of_ble_eq_true rfl) ?_
      refine rr rfl (s_iload_n rfl) ?_
      refine rr rfl (s_iload_n rfl) ?_
      refine rr rfl (s_icF (ic_nlt g1)) ?_
      refine rr rfl (s_iload_n rfl) ?_
      refine rr rfl (s_iload_n rfl) ?_
      refine rr rfl (s_icT (ic_gt g2)) ?_
      refine rr rfl (s_iconst (v := 0) (by decide)) ?_
      exact rrt rfl rfl rfl rfl
    refine rrc rfl rfl rfl (do_of g_X9_in rfl rfl e2) ?_
    exact rrt rfl rfl rfl rfl
  refine rrc rfl rfl rfl (do_of g_X9_isRule rfl rfl e1) ?_
  refine rr rfl (s_ifF (by decide)) ?_
  refine rr rfl (s_iconst (v := (-1)) (by decide)) ?_
  exact rrt rfl rfl rfl rfl
theorem ag_spare_xbig {x y : Int32} (px : ¬ x < 0) (ox : (-1) < x) : Agree miX8_spare miX9_spare [.int x, .int y] := ⟨(-1), hF, hF, 0, 0, 0, 0, tx_spare_xbig px, tm_spare_xbig px ox, by decide, by decide, rfl⟩
theorem al_spare (x y : Int32) : Agree miX8_spare miX9_spare [.int x, .int y] := by
  by_cases nx : x < 0
  · exact ag_spare_xneg  nx
  by_cases qx : x ≤ (-1)
  rotate_left
  · exact ag_spare_xbig  nx (Int32.not_le.mp qx)
  have px := nx
  exact absurd (show x < 0 by simp only [Int32.lt_iff_toInt_lt, Int32.le_iff_toInt_le, kk_m1, kk_0, kk_1, kk_2, kk_3, kk_4, kk_5, kk_6, kk_7, kk_8] at qx ⊢; omega) px
theorem tx_found_xneg {x : Int32} (g1 : x < 0) : a_m MT [] 100000 11 miX8_found [.ref 0, .int x] hF = some (some (.int (-1)), hF, 0, 0) := by
  refine me (d := 10) g_X8_found (Nat.le_of_ble_eq_true rfl) ?_
  refine rr rfl (s_iload_n rfl) ?_
  refine rr rfl (s_ifT (ic_lt g1)) ?_
  refine rr rfl (s_iconst (v := (-1)) (by decide)) ?_
  exact rrt rfl rfl rfl rfl
theorem tm_found_xneg {x : Int32} (g1 : x < 0) : a_m MT [] 100000 11 miX9_found [.ref 41, .int x] hF = some (some (.int (-1)), hF, 0, 0) := by
  refine me (d := 10) g_X9_found (Nat.le_of_ble_eq_true rfl) ?_
  refine rr rfl (s_aload_n rfl) ?_
  refine rr rfl (s_getf rfl rfl) ?_
  refine rr rfl (s_iconst (v := 2) (by decide)) ?_
  refine rr rfl (s_icF (by decide)) ?_
  refine rr rfl (s_iload_n rfl) ?_
  refine rr rfl (s_iconst (v := 0) (by decide)) ?_
  refine rr rfl (s_aload_n rfl) ?_
  refine rr rfl (s_getf rfl rfl) ?_
  refine rr rfl (s_iconst (v := 1) (by decide)) ?_
  refine rr rfl (s_isub (v := (-1)) (by decide)) ?_
  have e1 : a_m MT [] 100000 10 miX9_in [.int x, .int 0, .int (-1)] hF = some ((some (.int 0)), hF, 0, 0) := by
    refine me (d := 9) g_X9_in (Nat.le_of_ble_eq_true rfl) ?_
    refine rr rfl (s_iload_n rfl) ?_
    refine rr rfl (s_iload_n rfl) ?_
    refine rr rfl (s_icT (ic_lt g1)) ?_
    refine rr rfl (s_iconst (v := 0) (by decide)) ?_
    exact rrt rfl rfl rfl rfl
  refine rrc rfl rfl rfl (do_of g_X9_in rfl rfl e1) ?_
  refine rr rfl (s_ifT (by decide)) ?_
  refine rr rfl (s_iconst (v := (-1)) (by decide)) ?_
  exact rrt rfl rfl rfl rfl
theorem ag_found_xneg {x : Int32} (nx : x < 0) : Agree miX8_found miX9_found [.int x] := ⟨(-1), hF, hF, 0, 0, 0, 0, tx_found_xneg nx, tm_found_xneg nx, by decide, by decide, rfl⟩
theorem tx_found_xbig {x : Int32} (g1 : ¬ x < 0) (g2 : 0 ≤ x) : a_m MT [] 100000 11 miX8_found [.ref 0, .int x] hF = some (some (.int (-1)), hF, 0, 0) := by
  refine me (d := 10) g_X8_found (Nat.le_of_ble_eq_true rfl) ?_
  refine rr rfl (s_iload_n rfl) ?_
  refine rr rfl (s_ifF (ic_nlt g1)) ?_
  refine rr rfl (s_iload_n rfl) ?_
  refine rr rfl (s_aload_n rfl) ?_
  refine rr rfl (s_getf rfl rfl) ?_
  refine rr rfl (s_icT (ic_ge g2)) ?_
  refine rr rfl (s_iconst (v := (-1)) (by decide)) ?_
  exact rrt rfl rfl rfl rfl
theorem tm_found_xbig {x : Int32} (g1 : ¬ x < 0) (g2 : (-1) < x) : a_m MT [] 100000 11 miX9_found [.ref 41, .int x] hF = some (some (.int (-1)), hF, 0, 0) := by
  refine me (d := 10) g_X9_found (Nat.le_of_ble_eq_true rfl) ?_
  refine rr rfl (s_aload_n rfl) ?_
  refine rr rfl (s_getf rfl rfl) ?_
  refine rr rfl (s_iconst (v := 2) (by decide)) ?_
  refine rr rfl (s_icF (by decide)) ?_
  refine rr rfl (s_iload_n rfl) ?_
  refine rr rfl (s_iconst (v := 0) (by decide)) ?_
  refine rr rfl (s_aload_n rfl) ?_
  refine rr rfl (s_getf rfl rfl) ?_
  refine rr rfl (s_iconst (v := 1) (by decide)) ?_
  refine rr rfl (s_isub (v := (-1)) (by decide)) ?_
  have e1 : a_m MT [] 100000 10 miX9_in [.int x, .int 0, .int (-1)] hF = some ((some (.int 0)), hF, 0, 0) := by
    refine me (d := 9) g_X9_in (Nat.le_of_ble_eq_true rfl) ?_
    refine rr rfl (s_iload_n rfl) ?_
    refine rr rfl (s_iload_n rfl) ?_
    refine rr rfl (s_icF (ic_nlt g1)) ?_
    refine rr rfl (s_iload_n rfl) ?_
    refine rr rfl (s_iload_n rfl) ?_
    refine rr rfl (s_icT (ic_gt g2)) ?_
    refine rr rfl (s_iconst (v := 0) (by decide)) ?_
    exact rrt rfl rfl rfl rfl
  refine rrc rfl rfl rfl (do_of g_X9_in rfl rfl e1) ?_
  refine rr rfl (s_ifT (by decide)) ?_
  refine rr rfl (s_iconst (v := (-1)) (by decide)) ?_
  exact rrt rfl rfl rfl rfl
theorem ag_found_xbig {x : Int32} (px : ¬ x < 0) (ox : (-1) < x) : Agree miX8_found miX9_found [.int x] := ⟨(-1), hF, hF, 0, 0, 0, 0, tx_found_xbig px (by simp only [Int32.lt_iff_toInt_lt, Int32.le_iff_toInt_le, kk_m1, kk_0, kk_1, kk_2, kk_3, kk_4, kk_5, kk_6, kk_7, kk_8] at px ox ⊢; omega), tm_found_xbig px ox, by decide, by decide, rfl⟩
theorem al_found (x : Int32) : Agree miX8_found miX9_found [.int x] := by
  by_cases nx : x < 0
  · exact ag_found_xneg  nx
  by_cases qx : x ≤ (-1)
  rotate_left
  · exact ag_found_xbig  nx (Int32.not_le.mp qx)
  have px := nx
  exact absurd (show x < 0 by simp only [Int32.lt_iff_toInt_lt, Int32.le_iff_toInt_le, kk_m1, kk_0, kk_1, kk_2, kk_3, kk_4, kk_5, kk_6, kk_7, kk_8] at qx ⊢; omega) px
theorem tx_hand_xneg {x : Int32} (g1 : x < 0) : a_m MT [] 100000 11 miX8_hand [.ref 0, .int x] hF = some (some (.int (-1)), hF, 0, 0) := by
  refine me (d := 10) g_X8_hand (Nat.le_of_ble_eq_true rfl) ?_
  refine rr rfl (s_iload_n rfl) ?_
  refine rr rfl (s_ifT (ic_lt g1)) ?_
  refine rr rfl (s_iconst (v := (-1)) (by decide)) ?_
  exact rrt rfl rfl rfl rfl
theorem tm_hand_xneg {x : Int32} (g1 : x < 0) : a_m MT [] 100000 11 miX9_hand [.ref 41, .int x] hF = some (some (.int (-1)), hF, 0, 0) := by
  refine me (d := 10) g_X9_hand (Nat.le_of_ble_eq_true rfl) ?_
  refine rr rfl (s_iload_n rfl) ?_
  refine rr rfl (s_iconst (v := 0) (by decide)) ?_
  refine rr rfl (s_aload_n rfl) ?_
  refine rr rfl (s_getf rfl rfl) ?_
  refine rr rfl (s_iconst (v := 1) (by decide)) ?_
  refine rr rfl (s_isub (v := (-1)) (by decide)) ?_
  have e1 : a_m MT [] 100000 10 miX9_in [.int x, .int 0, .int (-1)] hF = some ((some (.int 0)), hF, 0, 0) := by
    refine me (d := 9) g_X9_in (Nat.le_of_ble_eq_true rfl) ?_
    refine rr rfl (s_iload_n rfl) ?_
    refine rr rfl (s_iload_n rfl) ?_
    refine rr rfl (s_icT (ic_lt g1)) ?_
    refine rr rfl (s_iconst (v := 0) (by decide)) ?_
    exact rrt rfl rfl rfl rfl
  refine rrc rfl rfl rfl (do_of g_X9_in rfl rfl e1) ?_
  refine rr rfl (s_ifT (by decide)) ?_
  refine rr rfl (s_iconst (v := (-1)) (by decide)) ?_
  exact rrt rfl rfl rfl rfl
theorem ag_hand_xneg {x : Int32} (nx : x < 0) : Agree miX8_hand miX9_hand [.int x] := ⟨(-1), hF, hF, 0, 0, 0, 0, tx_hand_xneg nx, tm_hand_xneg nx, by decide, by decide, rfl⟩
theorem tx_hand_xbig {x : Int32} (g1 : ¬ x < 0) (g2 : 0 ≤ x) : a_m MT [] 100000 11 miX8_hand [.ref 0, .int x] hF = some (some (.int (-1)), hF, 0, 0) := by
  refine me (d := 10) g_X8_hand (Nat.le_of_ble_eq_true rfl) ?_
  refine rr rfl (s_iload_n rfl) ?_
  refine rr rfl (s_ifF (ic_nlt g1)) ?_
  refine rr rfl (s_iload_n rfl) ?_
  refine rr rfl (s_aload_n rfl) ?_
  refine rr rfl (s_getf rfl rfl) ?_
  refine rr rfl (s_icT (ic_ge g2)) ?_
  refine rr rfl (s_iconst (v := (-1)) (by decide)) ?_
  exact rrt rfl rfl rfl rfl
theorem tm_hand_xbig {x : Int32} (g1 : ¬ x < 0) (g2 : (-1) < x) : a_m MT [] 100000 11 miX9_hand [.ref 41, .int x] hF = some (some (.int (-1)), hF, 0, 0) := by
  refine me (d := 10) g_X9_hand (Nat.le_of_ble_eq_true rfl) ?_
  refine rr rfl (s_iload_n rfl) ?_
  refine rr rfl (s_iconst (v := 0) (by decide)) ?_
  refine rr rfl (s_aload_n rfl) ?_
  refine rr rfl (s_getf rfl rfl) ?_
  refine rr rfl (s_iconst (v := 1) (by decide)) ?_
  refine rr rfl (s_isub (v := (-1)) (by decide)) ?_
  have e1 : a_m MT [] 100000 10 miX9_in [.int x, .int 0, .int (-1)] hF = some ((some (.int 0)), hF, 0, 0) := by
    refine me (d := 9) g_X9_in (Nat.le_of_ble_eq_true rfl) ?_
    refine rr rfl (s_iload_n rfl) ?_
    refine rr rfl (s_iload_n rfl) ?_
    refine rr rfl (s_icF (ic_nlt g1)) ?_
    refine rr rfl (s_iload_n rfl) ?_
    refine rr rfl (s_iload_n rfl) ?_
    refine rr rfl (s_icT (ic_gt g2)) ?_
    refine rr rfl (s_iconst (v := 0) (by decide)) ?_
    exact rrt rfl rfl rfl rfl
  refine rrc rfl rfl rfl (do_of g_X9_in rfl rfl e1) ?_
  refine rr rfl (s_ifT (by decide)) ?_
  refine rr rfl (s_iconst (v := (-1)) (by decide)) ?_
  exact rrt rfl rfl rfl rfl
theorem ag_hand_xbig {x : Int32} (px : ¬ x < 0) (ox : (-1) < x) : Agree miX8_hand miX9_hand [.int x] := ⟨(-1), hF, hF, 0, 0, 0, 0, tx_hand_xbig px (by simp only [Int32.lt_iff_toInt_lt, Int32.le_iff_toInt_le, kk_m1, kk_0, kk_1, kk_2, kk_3, kk_4, kk_5, kk_6, kk_7, kk_8] at px ox ⊢; omega), tm_hand_xbig px ox, by decide, by decide, rfl⟩
theorem al_hand (x : Int32) : Agree miX8_hand miX9_hand [.int x] := by
  by_cases nx : x < 0
  · exact ag_hand_xneg  nx
  by_cases qx : x ≤ (-1)
  rotate_left
  · exact ag_hand_xbig  nx (Int32.not_le.mp qx)
  have px := nx
  exact absurd (show x < 0 by simp only [Int32.lt_iff_toInt_lt, Int32.le_iff_toInt_le, kk_m1, kk_0, kk_1, kk_2, kk_3, kk_4, kk_5, kk_6, kk_7, kk_8] at qx ⊢; omega) px
theorem tx_count_xneg {x : Int32} (g1 : x.toInt < 0 ∨ 4 < x.toInt) : a_m MT [] 100000 11 miX8_count [.ref 0, .int x] hF = some (some (.int (-1)), hF, 0, 0) := by
  refine me (d := 10) g_X8_count (Nat.le_of_ble_eq_true rfl) ?_
  refine rr rfl (s_iload_n rfl) ?_
  refine rr rfl (s_tswO (t := 85) g1 rfl) ?_
  refine rr rfl (s_iconst (v := (-1)) (by decide)) ?_
  exact rrt rfl rfl rfl rfl
theorem tm_count_xneg {x : Int32} (g1 : x.toInt < 0 ∨ 4 < x.toInt) : a_m MT [] 100000 11 miX9_count [.ref 41, .int x] hF = some (some (.int (-1)), hF, 0, 0) := by
  refine me (d := 10) g_X9_count (Nat.le_of_ble_eq_true rfl) ?_
  refine rr rfl (s_iconst (v := 0) (by decide)) ?_
  refine rr rfl (s_istore_n rfl) ?_
  refine rr rfl (s_iload_n rfl) ?_
  refine rr rfl (s_tswO (t := 114) g1 rfl) ?_
  refine rr rfl (s_iconst (v := (-1)) (by decide)) ?_
  exact rrt rfl rfl rfl rfl
theorem ag_count_xneg {x : Int32} (nx : x < 0) : Agree miX8_count miX9_count [.int x] := ⟨(-1), hF, hF, 0, 0, 0, 0, tx_count_xneg (by simp only [Int32.lt_iff_toInt_lt, Int32.le_iff_toInt_le, kk_m1, kk_0, kk_1, kk_2, kk_3, kk_4, kk_5, kk_6, kk_7, kk_8] at nx; omega), tm_count_xneg (by simp only [Int32.lt_iff_toInt_lt, Int32.le_iff_toInt_le, kk_m1, kk_0, kk_1, kk_2, kk_3, kk_4, kk_5, kk_6, kk_7, kk_8] at nx; omega), by decide, by decide, rfl⟩
theorem tx_count_xbig {x : Int32} (g1 : x.toInt < 0 ∨ 4 < x.toInt) : a_m MT [] 100000 11 miX8_count [.ref 0, .int x] hF = some (some (.int (-1)), hF, 0, 0) := by
  refine me (d := 10) g_X8_count (Nat.le_of_ble_eq_true rfl) ?_
  refine rr rfl (s_iload_n rfl) ?_
  refine rr rfl (s_tswO (t := 85) g1 rfl) ?_
  refine rr rfl (s_iconst (v := (-1)) (by decide)) ?_
  exact rrt rfl rfl rfl rfl
theorem tm_count_xbig {x : Int32} (g1 : x.toInt < 0 ∨ 4 < x.toInt) : a_m MT [] 100000 11 miX9_count [.ref 41, .int x] hF = some (some (.int (-1)), hF, 0, 0) := by
  refine me (d := 10) g_X9_count (Nat.le_of_ble_eq_true rfl) ?_
  refine rr rfl (s_iconst (v := 0) (by decide)) ?_
  refine rr rfl (s_istore_n rfl) ?_
  refine rr rfl (s_iload_n rfl) ?_
  refine rr rfl (s_tswO (t := 114) g1 rfl) ?_
  refine rr rfl (s_iconst (v := (-1)) (by decide)) ?_
  exact rrt rfl rfl rfl rfl
theorem ag_count_xbig {x : Int32} (px : ¬ x < 0) (ox : 4 < x) : Agree miX8_count miX9_count [.int x] := ⟨(-1), hF, hF, 0, 0, 0, 0, tx_count_xbig (by simp only [Int32.lt_iff_toInt_lt, Int32.le_iff_toInt_le, kk_m1, kk_0, kk_1, kk_2, kk_3, kk_4, kk_5, kk_6, kk_7, kk_8] at px ox; omega), tm_count_xbig (by simp only [Int32.lt_iff_toInt_lt, Int32.le_iff_toInt_le, kk_m1, kk_0, kk_1, kk_2, kk_3, kk_4, kk_5, kk_6, kk_7, kk_8] at px ox; omega), by decide, by decide, rfl⟩
theorem al_count (x : Int32) : Agree miX8_count miX9_count [.int x] := by
  by_cases nx : x < 0
  · exact ag_count_xneg  nx
  by_cases qx : x ≤ 4
  rotate_left
  · exact ag_count_xbig  nx (Int32.not_le.mp qx)
  have px := nx
  obtain ⟨jx, lx, rfl⟩ := nI_of2 (M := 4) (n := 4) rfl px qx
  exact agr_ok (fn_count jx lx)
