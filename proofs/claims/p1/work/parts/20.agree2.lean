theorem g_J6_bitCount_0f7a4 : a_at MT miJ6_bitCount_0f7a4 = some amJ6_bitCount_0f7a4 := rfl
theorem g_X4_factsOf : a_at MT miX4_factsOf = some amX4_factsOf := rfl
theorem g_X4_reason : a_at MT miX4_reason = some amX4_reason := rfl
theorem g_X4_sentFacts : a_at MT miX4_sentFacts = some amX4_sentFacts := rfl
theorem g_X4_share : a_at MT miX4_share = some amX4_share := rfl
theorem g_X8_bitOf : a_at MT miX8_bitOf = some amX8_bitOf := rfl
theorem g_X8_facts : a_at MT miX8_facts = some amX8_facts := rfl
theorem g_X8_isTick : a_at MT miX8_isTick = some amX8_isTick := rfl
theorem g_X8_letters : a_at MT miX8_letters = some amX8_letters := rfl
theorem g_X8_promise : a_at MT miX8_promise = some amX8_promise := rfl
theorem g_X8_runHand : a_at MT miX8_runHand = some amX8_runHand := rfl
theorem g_X8_why : a_at MT miX8_why = some amX8_why := rfl
theorem g_X9_bits : a_at MT miX9_bits = some amX9_bits := rfl
theorem g_X9_facts : a_at MT miX9_facts = some amX9_facts := rfl
theorem g_X9_isTick : a_at MT miX9_isTick = some amX9_isTick := rfl
theorem g_X9_letters : a_at MT miX9_letters = some amX9_letters := rfl
theorem g_X9_promise : a_at MT miX9_promise = some amX9_promise := rfl
theorem g_X9_runs : a_at MT miX9_runs = some amX9_runs := rfl
theorem g_X9_takesHand : a_at MT miX9_takesHand = some amX9_takesHand := rfl
theorem g_X9_why : a_at MT miX9_why = some amX9_why := rfl
theorem tx_promise_in {x y z w : Int32} (g1 : ¬ x < 0) (g2 : ¬ 4 ≤ x) (g3 : ¬ y < 0) (g4 : ¬ 8 ≤ y) (g5 : ¬ z < 0) (g6 : ¬ 4 ≤ z) (g7 : ¬ w < 0) (g8 : ¬ 8 ≤ w) : a_m MT [] 100000 11 miX8_promise [.ref 0, .int x, .int y, .int z, .int w] hF = some (some (.int 0), ((((hF.set 1 (.inr (.inr (7, [.ref 2, .ref 6, .int 4, .int 0, .int (1 <<< (((8 * x) + y) &&& 31)), .int 0, .int 1])))).set 1 (.inr (.inr (7, [.ref 2, .ref 6, .int 4, .int 0, .int (1 <<< (((8 * x) + y) &&& 31)), .int z, .int 1])))).set 1 (.inr (.inr (7, [.ref 2, .ref 6, .int 4, .int 0, .int (1 <<< (((8 * x) + y) &&& 31)), .int z, .int (1 <<< (((8 * z) + w) &&& 31))])))).set 11 (.inr (.inr (5, [.ref 1, .ref 10, .ref 15, .ref 21, .ref 27, .ref 12, .ref 13, .ref 14, .int 0, .int 0, .int 0, .int 9, .int (-1), .int (-1)])))), 0, 0) := by
  refine me (d := 10) g_X8_promise (Nat.le_of_ble_eq_true rfl) ?_
  refine rr rfl (s_iload_n rfl) ?_
  have e1 : a_m MT [] 100000 10 miX8_isHost [.int x] hF = some ((some (.int 1)), hF, 0, 0) := by
    refine me (d := 9) g_X8_isHost (Nat.le_of_ble_eq_true rfl) ?_
    refine rr rfl (s_iload_n rfl) ?_
    refine rr rfl (s_ifF (ic_nlt g1)) ?_
    refine rr rfl (s_iload_n rfl) ?_
    refine rr rfl (s_iconst (v := 4) (by decide)) ?_
    refine rr rfl (s_icF (ic_nge g2)) ?_
    refine rr rfl (s_iconst (v := 1) (by decide)) ?_
    refine rr rfl s_goto ?_
    exact rrt rfl rfl rfl rfl
  refine rrc rfl rfl rfl (do_of g_X8_isHost rfl rfl e1) ?_
  refine rr rfl (s_ifF (by decide)) ?_
  refine rr rfl (s_iload_n rfl) ?_
  have e2 : a_m MT [] 100000 10 miX8_isFact [.int y] hF = some ((some (.int 1)), hF, 0, 0) := by
    refine me (d := 9) g_X8_isFact (Nat.le_of_ble_eq_true rfl) ?_
    refine rr rfl (s_iload_n rfl) ?_
    refine rr rfl (s_ifF (ic_nlt g3)) ?_
    refine rr rfl (s_iload_n rfl) ?_
    refine rr rfl (s_bipush (v := 8) (by decide)) ?_
    refine rr rfl (s_icF (ic_nge g4)) ?_
    refine rr rfl (s_iconst (v := 1) (by decide)) ?_
    refine rr rfl s_goto ?_
    exact rrt rfl rfl rfl rfl
  refine rrc rfl rfl rfl (do_of g_X8_isFact rfl rfl e2) ?_
  refine rr rfl (s_ifF (by decide)) ?_
  refine rr rfl (s_iload_n rfl) ?_
  have e3 : a_m MT [] 100000 10 miX8_isHost [.int z] hF = some ((some (.int 1)), hF, 0, 0) := by
    refine me (d := 9) g_X8_isHost (Nat.le_of_ble_eq_true rfl) ?_
    refine rr rfl (s_iload_n rfl) ?_
    refine rr rfl (s_ifF (ic_nlt g5)) ?_
    refine rr rfl (s_iload_n rfl) ?_
    refine rr rfl (s_iconst (v := 4) (by decide)) ?_
    refine rr rfl (s_icF (ic_nge g6)) ?_
    refine rr rfl (s_iconst (v := 1) (by decide)) ?_
    refine rr rfl s_goto ?_
    exact rrt rfl rfl rfl rfl
  refine rrc rfl rfl rfl (do_of g_X8_isHost rfl rfl e3) ?_
  refine rr rfl (s_ifF (by decide)) ?_
  refine rr rfl (s_iload rfl) ?_
  have e4 : a_m MT [] 100000 10 miX8_isFact [.int w] hF = some ((some (.int 1)), hF, 0, 0) := by
    refine me (d := 9) g_X8_isFact (Nat.le_of_ble_eq_true rfl) ?_
    refine rr rfl (s_iload_n rfl) ?_
    refine rr rfl (s_ifF (ic_nlt g7)) ?_
    refine rr rfl (s_iload_n rfl) ?_
    refine rr rfl (s_bipush (v := 8) (by decide)) ?_
    refine rr rfl (s_icF (ic_nge g8)) ?_
    refine rr rfl (s_iconst (v := 1) (by decide)) ?_
    refine rr rfl s_goto ?_
    exact rrt rfl rfl rfl rfl
  refine rrc rfl rfl rfl (do_of g_X8_isFact rfl rfl e4) ?_
  refine rr rfl (s_ifT (by decide)) ?_
  refine rr rfl (s_aload_n rfl) ?_
  refine rr rfl (s_getf rfl rfl) ?_
  refine rr rfl (s_iload_n rfl) ?_
  refine rr rfl (s_iload_n rfl) ?_
  have e5 : a_m MT [] 100000 10 miX8_bitOf [.int x, .int y] hF = some ((some (.int (1 <<< (((8 * x) + y) &&& 31)))), hF, 0, 0) := by
    refine me (d := 9) g_X8_bitOf (Nat.le_of_ble_eq_true rfl) ?_
    refine rr rfl (s_iconst (v := 1) (by decide)) ?_
    refine rr rfl (s_bipush (v := 8) (by decide)) ?_
    refine rr rfl (s_iload_n rfl) ?_
    refine rr rfl (s_imul rfl) ?_
    refine rr rfl (s_iload_n rfl) ?_
    refine rr rfl (s_iadd rfl) ?_
    refine rr rfl (s_ishl rfl) ?_
    exact rrt rfl rfl rfl rfl
  refine rrc rfl rfl rfl (do_of g_X8_bitOf rfl rfl e5) ?_
  refine rr rfl (s_putf rfl rfl (Nat.le_of_ble_eq_true rfl) rfl (Nat.le_of_ble_eq_true rfl) rfl) ?_
  refine rr rfl (s_aload_n rfl) ?_
  refine rr rfl (s_getf rfl rfl) ?_
  refine rr rfl (s_iload_n rfl) ?_
  refine rr rfl (s_putf rfl rfl (Nat.le_of_ble_eq_true rfl) rfl (Nat.le_of_ble_eq_true rfl) rfl) ?_
  refine rr rfl (s_aload_n rfl) ?_
  refine rr rfl (s_getf rfl rfl) ?_
  refine rr rfl (s_iload_n rfl) ?_
  refine rr rfl (s_iload rfl) ?_
  have e6 : a_m MT [] 100000 10 miX8_bitOf [.int z, .int w] ((hF.set 1 (.inr (.inr (7, [.ref 2, .ref 6, .int 4, .int 0, .int (1 <<< (((8 * x) + y) &&& 31)), .int 0, .int 1])))).set 1 (.inr (.inr (7, [.ref 2, .ref 6, .int 4, .int 0, .int (1 <<< (((8 * x) + y) &&& 31)), .int z, .int 1])))) = some ((some (.int (1 <<< (((8 * z) + w) &&& 31)))), ((hF.set 1 (.inr (.inr (7, [.ref 2, .ref 6, .int 4, .int 0, .int (1 <<< (((8 * x) + y) &&& 31)), .int 0, .int 1])))).set 1 (.inr (.inr (7, [.ref 2, .ref 6, .int 4, .int 0, .int (1 <<< (((8 * x) + y) &&& 31)), .int z, .int 1])))), 0, 0) := by
    refine me (d := 9) g_X8_bitOf (Nat.le_of_ble_eq_true rfl) ?_
    refine rr rfl (s_iconst (v := 1) (by decide)) ?_
    refine rr rfl (s_bipush (v := 8) (by decide)) ?_
    refine rr rfl (s_iload_n rfl) ?_
    refine rr rfl (s_imul rfl) ?_
    refine rr rfl (s_iload_n rfl) ?_
    refine rr rfl (s_iadd rfl) ?_
    refine rr rfl (s_ishl rfl) ?_
    exact rrt rfl rfl rfl rfl
  refine rrc rfl rfl rfl (do_of g_X8_bitOf rfl rfl e6) ?_
  refine rr rfl (s_putf rfl rfl (Nat.le_of_ble_eq_true rfl) rfl (Nat.le_of_ble_eq_true rfl) rfl) ?_
  refine rr rfl (s_aload_n rfl) ?_
  refine rr rfl (s_getf rfl rfl) ?_
  refine rr rfl (s_iconst (v := 0) (by decide)) ?_
  refine rr rfl (s_putf rfl rfl (Nat.le_of_ble_eq_true rfl) rfl (Nat.le_of_ble_eq_true rfl) rfl) ?_
  refine rr rfl (s_iconst (v := 0) (by decide)) ?_
  exact rrt rfl rfl rfl rfl
theorem tm_promise_in {x y z w : Int32} (g1 : ¬ x < 0) (g2 : ¬ 3 < x) (g3 : ¬ y < 0) (g4 : ¬ 7 < y) (g5 : ¬ z < 0) (g6 : ¬ 3 < z) (g7 : ¬ w < 0) (g8 : ¬ 7 < w) : a_m MT [] 100000 11 miX9_promise [.ref 41, .int x, .int y, .int z, .int w] ((((hF.set 1 (.inr (.inr (7, [.ref 2, .ref 6, .int 4, .int 0, .int (1 <<< (((8 * x) + y) &&& 31)), .int 0, .int 1])))).set 1 (.inr (.inr (7, [.ref 2, .ref 6, .int 4, .int 0, .int (1 <<< (((8 * x) + y) &&& 31)), .int z, .int 1])))).set 1 (.inr (.inr (7, [.ref 2, .ref 6, .int 4, .int 0, .int (1 <<< (((8 * x) + y) &&& 31)), .int z, .int (1 <<< (((8 * z) + w) &&& 31))])))).set 11 (.inr (.inr (5, [.ref 1, .ref 10, .ref 15, .ref 21, .ref 27, .ref 12, .ref 13, .ref 14, .int 0, .int 0, .int 0, .int 9, .int (-1), .int (-1)])))) = some (some (.int 0), ((((((((hF.set 1 (.inr (.inr (7, [.ref 2, .ref 6, .int 4, .int 0, .int (1 <<< (((8 * x) + y) &&& 31)), .int 0, .int 1])))).set 1 (.inr (.inr (7, [.ref 2, .ref 6, .int 4, .int 0, .int (1 <<< (((8 * x) + y) &&& 31)), .int z, .int 1])))).set 1 (.inr (.inr (7, [.ref 2, .ref 6, .int 4, .int 0, .int (1 <<< (((8 * x) + y) &&& 31)), .int z, .int (1 <<< (((8 * z) + w) &&& 31))])))).set 11 (.inr (.inr (5, [.ref 1, .ref 10, .ref 15, .ref 21, .ref 27, .ref 12, .ref 13, .ref 14, .int 0, .int 0, .int 0, .int 9, .int (-1), .int (-1)])))).set 41 (.inr (.inr (9, [.int 4, .int 0, .ref 42, .ref 43, .ref 44, .ref 45, .ref 46, .ref 47, .ref 48, .ref 49, .ref 50, .ref 51, .int x, .int 0, .int 0, .int 0, .int 0, .int 0, .int 0, .int 0, .ref 52, .int 0, .ref 53, .int 0, .ref 54, .int 0, .ref 55, .ref 56, .ref 57, .ref 58, .int 0, .ref 59, .ref 60])))).set 41 (.inr (.inr (9, [.int 4, .int 0, .ref 42, .ref 43, .ref 44, .ref 45, .ref 46, .ref 47, .ref 48, .ref 49, .ref 50, .ref 51, .int x, .int y, .int 0, .int 0, .int 0, .int 0, .int 0, .int 0, .ref 52, .int 0, .ref 53, .int 0, .ref 54, .int 0, .ref 55, .ref 56, .ref 57, .ref 58, .int 0, .ref 59, .ref 60])))).set 41 (.inr (.inr (9, [.int 4, .int 0, .ref 42, .ref 43, .ref 44, .ref 45, .ref 46, .ref 47, .ref 48, .ref 49, .ref 50, .ref 51, .int x, .int y, .int z, .int 0, .int 0, .int 0, .int 0, .int 0, .ref 52, .int 0, .ref 53, .int 0, .ref 54, .int 0, .ref 55, .ref 56, .ref 57, .ref 58, .int 0, .ref 59, .ref 60])))).set 41 (.inr (.inr (9, [.int 4, .int 0, .ref 42, .ref 43, .ref 44, .ref 45, .ref 46, .ref 47, .ref 48, .ref 49, .ref 50, .ref 51, .int x, .int y, .int z, .int w, .int 0, .int 0, .int 0, .int 0, .ref 52, .int 0, .ref 53, .int 0, .ref 54, .int 0, .ref 55, .ref 56, .ref 57, .ref 58, .int 0, .ref 59, .ref 60])))), 0, 0) := by
  refine me (d := 10) g_X9_promise (Nat.le_of_ble_eq_true rfl) ?_
  refine rr rfl (s_iload_n rfl) ?_
  have e1 : a_m MT [] 100000 10 miX9_isHost [.int x] ((((hF.set 1 (.inr (.inr (7, [.ref 2, .ref 6, .int 4, .int 0, .int (1 <<< (((8 * x) + y) &&& 31)), .int 0, .int 1])))).set 1 (.inr (.inr (7, [.ref 2, .ref 6, .int 4, .int 0, .int (1 <<< (((8 * x) + y) &&& 31)), .int z, .int 1])))).set 1 (.inr (.inr (7, [.ref 2, .ref 6, .int 4, .int 0, .int (1 <<< (((8 * x) + y) &&& 31)), .int z, .int (1 <<< (((8 * z) + w) &&& 31))])))).set 11 (.inr (.inr (5, [.ref 1, .ref 10, .ref 15, .ref 21, .ref 27, .ref 12, .ref 13, .ref 14, .int 0, .int 0, .int 0, .int 9, .int (-1), .int (-1)])))) = some ((some (.int 1)), ((((hF.set 1 (.inr (.inr (7, [.ref 2, .ref 6, .int 4, .int 0, .int (1 <<< (((8 * x) + y) &&& 31)), .int 0, .int 1])))).set 1 (.inr (.inr (7, [.ref 2, .ref 6, .int 4, .int 0, .int (1 <<< (((8 * x) + y) &&& 31)), .int z, .int 1])))).set 1 (.inr (.inr (7, [.ref 2, .ref 6, .int 4, .int 0, .int (1 <<< (((8 * x) + y) &&& 31)), .int z, .int (1 <<< (((8 * z) + w) &&& 31))])))).set 11 (.inr (.inr (5, [.ref 1, .ref 10, .ref 15, .ref 21, .ref 27, .ref 12, .ref 13, .ref 14, .int 0, .int 0, .int 0, .int 9, .int (-1), .int (-1)])))), 0, 0) := by
    refine me (d := 9) g_X9_isHost (Nat.le_of_ble_eq_true rfl) ?_
    refine rr rfl (s_iload_n rfl) ?_
    refine rr rfl (s_iconst (v := 0) (by decide)) ?_
    refine rr rfl (s_iconst (v := 3) (by decide)) ?_
    have e2 : a_m MT [] 100000 9 miX9_in [.int x, .int 0, .int 3] ((((hF.set 1 (.inr (.inr (7, [.ref 2, .ref 6, .int 4, .int 0, .int (1 <<< (((8 * x) + y) &&& 31)), .int 0, .int 1])))).set 1 (.inr (.inr (7, [.ref 2, .ref 6, .int 4, .int 0, .int (1 <<< (((8 * x) + y) &&& 31)), .int z, .int 1])))).set 1 (.inr (.inr (7, [.ref 2, .ref 6, .int 4, .int 0, .int (1 <<< (((8 * x) + y) &&& 31)), .int z, .int (1 <<< (((8 * z) + w) &&& 31))])))).set 11 (.inr (.inr (5, [.ref 1, .ref 10, .ref 15, .ref 21, .ref 27, .ref 12, .ref 13, .ref 14, .int 0, .int 0, .int 0, .int 9, .int (-1), .int (-1)])))) = some ((some (.int 1)), ((((hF.set 1 (.inr (.inr (7, [.ref 2, .ref 6, .int 4, .int 0, .int (1 <<< (((8 * x) + y) &&& 31)), .int 0, .int 1])))).set 1 (.inr (.inr (7, [.ref 2, .ref 6, .int 4, .int 0, .int (1 <<< (((8 * x) + y) &&& 31)), .int z, .int 1])))).set 1 (.inr (.inr (7, [.ref 2, .ref 6, .int 4, .int 0, .int (1 <<< (((8 * x) + y) &&& 31)), .int z, .int (1 <<< (((8 * z) + w) &&& 31))])))).set 11 (.inr (.inr (5, [.ref 1, .ref 10, .ref 15, .ref 21, .ref 27, .ref 12, .ref 13, .ref 14, .int 0, .int 0, .int 0, .int 9, .int (-1), .int (-1)])))), 0, 0) := by
      refine me (d := 8) g_X9_in (Nat.le_of_ble_eq_true rfl) ?_
      refine rr rfl (s_iload_n rfl) ?_
      refine rr rfl (s_iload_n rfl) ?_
      refine rr rfl (s_icF (ic_nlt g1)) ?_
      refine rr rfl (s_iload_n rfl) ?_
      refine rr rfl (s_iload_n rfl) ?_
      refine rr rfl (s_icF (ic_ngt g2)) ?_
      refine rr rfl (s_iconst (v := 1) (by decide)) ?_
      refine rr rfl s_goto ?_
      exact rrt rfl rfl rfl rfl
    refine rrc rfl rfl rfl (do_of g_X9_in rfl rfl e2) ?_
    exact rrt rfl rfl rfl rfl
  refine rrc rfl rfl rfl (do_of g_X9_isHost rfl rfl e1) ?_
  refine rr rfl (s_ifF (by decide)) ?_
  refine rr rfl (s_iload_n rfl) ?_
  have e3 : a_m MT [] 100000 10 miX9_isFact [.int y] ((((hF.set 1 (.inr (.inr (7, [.ref 2, .ref 6, .int 4, .int 0, .int (1 <<< (((8 * x) + y) &&& 31)), .int 0, .int 1])))).set 1 (.inr (.inr (7, [.ref 2, .ref 6, .int 4, .int 0, .int (1 <<< (((8 * x) + y) &&& 31)), .int z, .int 1])))).set 1 (.inr (.inr (7, [.ref 2, .ref 6, .int 4, .int 0, .int (1 <<< (((8 * x) + y) &&& 31)), .int z, .int (1 <<< (((8 * z) + w) &&& 31))])))).set 11 (.inr (.inr (5, [.ref 1, .ref 10, .ref 15, .ref 21, .ref 27, .ref 12, .ref 13, .ref 14, .int 0, .int 0, .int 0, .int 9, .int (-1), .int (-1)])))) = some ((some (.int 1)), ((((hF.set 1 (.inr (.inr (7, [.ref 2, .ref 6, .int 4, .int 0, .int (1 <<< (((8 * x) + y) &&& 31)), .int 0, .int 1])))).set 1 (.inr (.inr (7, [.ref 2, .ref 6, .int 4, .int 0, .int (1 <<< (((8 * x) + y) &&& 31)), .int z, .int 1])))).set 1 (.inr (.inr (7, [.ref 2, .ref 6, .int 4, .int 0, .int (1 <<< (((8 * x) + y) &&& 31)), .int z, .int (1 <<< (((8 * z) + w) &&& 31))])))).set 11 (.inr (.inr (5, [.ref 1, .ref 10, .ref 15, .ref 21, .ref 27, .ref 12, .ref 13, .ref 14, .int 0, .int 0, .int 0, .int 9, .int (-1), .int (-1)])))), 0, 0) := by
    refine me (d := 9) g_X9_isFact (Nat.le_of_ble_eq_true rfl) ?_
    refine rr rfl (s_iload_n rfl) ?_
    refine rr rfl (s_iconst (v := 0) (by decide)) ?_
    refine rr rfl (s_bipush (v := 7) (by decide)) ?_
    have e4 : a_m MT [] 100000 9 miX9_in [.int y, .int 0, .int 7] ((((hF.set 1 (.inr (.inr (7, [.ref 2, .ref 6, .int 4, .int 0, .int (1 <<< (((8 * x) + y) &&& 31)), .int 0, .int 1])))).set 1 (.inr (.inr (7, [.ref 2, .ref 6, .int 4, .int 0, .int (1 <<< (((8 * x) + y) &&& 31)), .int z, .int 1])))).set 1 (.inr (.inr (7, [.ref 2, .ref 6, .int 4, .int 0, .int (1 <<< (((8 * x) + y) &&& 31)), .int z, .int (1 <<< (((8 * z) + w) &&& 31))])))).set 11 (.inr (.inr (5, [.ref 1, .ref 10, .ref 15, .ref 21, .ref 27, .ref 12, .ref 13, .ref 14, .int 0, .int 0, .int 0, .int 9, .int (-1), .int (-1)])))) = some ((some (.int 1)), ((((hF.set 1 (.inr (.inr (7, [.ref 2, .ref 6, .int 4, .int 0, .int (1 <<< (((8 * x) + y) &&& 31)), .int 0, .int 1])))).set 1 (.inr (.inr (7, [.ref 2, .ref 6, .int 4, .int 0, .int (1 <<< (((8 * x) + y) &&& 31)), .int z, .int 1])))).set 1 (.inr (.inr (7, [.ref 2, .ref 6, .int 4, .int 0, .int (1 <<< (((8 * x) + y) &&& 31)), .int z, .int (1 <<< (((8 * z) + w) &&& 31))])))).set 11 (.inr (.inr (5, [.ref 1, .ref 10, .ref 15, .ref 21, .ref 27, .ref 12, .ref 13, .ref 14, .int 0, .int 0, .int 0, .int 9, .int (-1), .int (-1)])))), 0, 0) := by
      refine me (d := 8) g_X9_in (Nat.le_of_ble_eq_true rfl) ?_
      refine rr rfl (s_iload_n rfl) ?_
      refine rr rfl (s_iload_n rfl) ?_
      refine rr rfl (s_icF (ic_nlt g3)) ?_
      refine rr rfl (s_iload_n rfl) ?_
      refine rr rfl (s_iload_n rfl) ?_
      refine rr rfl (s_icF (ic_ngt g4)) ?_
      refine rr rfl (s_iconst (v := 1) (by decide)) ?_
      refine rr rfl s_goto ?_
      exact rrt rfl rfl rfl rfl
    refine rrc rfl rfl rfl (do_of g_X9_in rfl rfl e4) ?_
    exact rrt rfl rfl rfl rfl
  refine rrc rfl rfl rfl (do_of g_X9_isFact rfl rfl e3) ?_
  refine rr rfl (s_ifF (by decide)) ?_
  refine rr rfl (s_iload_n rfl) ?_
  have e5 : a_m MT [] 100000 10 miX9_isHost [.int z] ((((hF.set 1 (.inr (.inr (7, [.ref 2, .ref 6, .int 4, .int 0, .int (1 <<< (((8 * x) + y) &&& 31)), .int 0, .int 1])))).set 1 (.inr (.inr (7, [.ref 2, .ref 6, .int 4, .int 0, .int (1 <<< (((8 * x) + y) &&& 31)), .int z, .int 1])))).set 1 (.inr (.inr (7, [.ref 2, .ref 6, .int 4, .int 0, .int (1 <<< (((8 * x) + y) &&& 31)), .int z, .int (1 <<< (((8 * z) + w) &&& 31))])))).set 11 (.inr (.inr (5, [.ref 1, .ref 10, .ref 15, .ref 21, .ref 27, .ref 12, .ref 13, .ref 14, .int 0, .int 0, .int 0, .int 9, .int (-1), .int (-1)])))) = some ((some (.int 1)), ((((hF.set 1 (.inr (.inr (7, [.ref 2, .ref 6, .int 4, .int 0, .int (1 <<< (((8 * x) + y) &&& 31)), .int 0, .int 1])))).set 1 (.inr (.inr (7, [.ref 2, .ref 6, .int 4, .int 0, .int (1 <<< (((8 * x) + y) &&& 31)), .int z, .int 1])))).set 1 (.inr (.inr (7, [.ref 2, .ref 6, .int 4, .int 0, .int (1 <<< (((8 * x) + y) &&& 31)), .int z, .int (1 <<< (((8 * z) + w) &&& 31))])))).set 11 (.inr (.inr (5, [.ref 1, .ref 10, .ref 15, .ref 21, .ref 27, .ref 12, .ref 13, .ref 14, .int 0, .int 0, .int 0, .int 9, .int (-1), .int (-1)])))), 0, 0) := by
    refine me (d := 9) g_X9_isHost (Nat.le_of_ble_eq_true rfl) ?_
    refine rr rfl (s_iload_n rfl) ?_
    refine rr rfl (s_iconst (v := 0) (by decide)) ?_
    refine rr rfl (s_iconst (v := 3) (by decide)) ?_
    have e6 : a_m MT [] 100000 9 miX9_in [.int z, .int 0, .int 3] ((((hF.set 1 (.inr (.inr (7, [.ref 2, .ref 6, .int 4, .int 0, .int (1 <<< (((8 * x) + y) &&& 31)), .int 0, .int 1])))).set 1 (.inr (.inr (7, [.ref 2, .ref 6, .int 4, .int 0, .int (1 <<< (((8 * x) + y) &&& 31)), .int z, .int 1])))).set 1 (.inr (.inr (7, [.ref 2, .ref 6, .int 4, .int 0, .int (1 <<< (((8 * x) + y) &&& 31)), .int z, .int (1 <<< (((8 * z) + w) &&& 31))])))).set 11 (.inr (.inr (5, [.ref 1, .ref 10, .ref 15, .ref 21, .ref 27, .ref 12, .ref 13, .ref 14, .int 0, .int 0, .int 0, .int 9, .int (-1), .int (-1)])))) = some ((some (.int 1)), ((((hF.set 1 (.inr (.inr (7, [.ref 2, .ref 6, .int 4, .int 0, .int (1 <<< (((8 * x) + y) &&& 31)), .int 0, .int 1])))).set 1 (.inr (.inr (7, [.ref 2, .ref 6, .int 4, .int 0, .int (1 <<< (((8 * x) + y) &&& 31)), .int z, .int 1])))).set 1 (.inr (.inr (7, [.ref 2, .ref 6, .int 4, .int 0, .int (1 <<< (((8 * x) + y) &&& 31)), .int z, .int (1 <<< (((8 * z) + w) &&& 31))])))).set 11 (.inr (.inr (5, [.ref 1, .ref 10, .ref 15, .ref 21, .ref 27, .ref 12, .ref 13, .ref 14, .int 0, .int 0, .int 0, .int 9, .int (-1), .int (-1)])))), 0, 0) := by
      refine me (d := 8) g_X9_in (Nat.le_of_ble_eq_true rfl) ?_
      refine rr rfl (s_iload_n rfl) ?_
      refine rr rfl (s_iload_n rfl) ?_
      refine rr rfl (s_icF (ic_nlt g5)) ?_
      refine rr rfl (s_iload_n rfl) ?_
      refine rr rfl (s_iload_n rfl) ?_
      refine rr rfl (s_icF (ic_ngt g6)) ?_
      refine rr rfl (s_iconst (v := 1) (by decide)) ?_
      refine rr rfl s_goto ?_
      exact rrt rfl rfl rfl rfl
    refine rrc rfl rfl rfl (do_of g_X9_in rfl rfl e6) ?_
    exact rrt rfl rfl rfl rfl
  refine rrc rfl rfl rfl (do_of g_X9_isHost rfl rfl e5) ?_
  refine rr rfl (s_ifF (by decide)) ?_
  refine rr rfl (s_iload rfl) ?_
  have e7 : a_m MT [] 100000 10 miX9_isFact [.int w] ((((hF.set 1 (.inr (.inr (7, [.ref 2, .ref 6, .int 4, .int 0, .int (1 <<< (((8 * x) + y) &&& 31)), .int 0, .int 1])))).set 1 (.inr (.inr (7, [.ref 2, .ref 6, .int 4, .int 0, .int (1 <<< (((8 * x) + y) &&& 31)), .int z, .int 1])))).set 1 (.inr (.inr (7, [.ref 2, .ref 6, .int 4, .int 0, .int (1 <<< (((8 * x) + y) &&& 31)), .int z, .int (1 <<< (((8 * z) + w) &&& 31))])))).set 11 (.inr (.inr (5, [.ref 1, .ref 10, .ref 15, .ref 21, .ref 27, .ref 12, .ref 13, .ref 14, .int 0, .int 0, .int 0, .int 9, .int (-1), .int (-1)])))) = some ((some (.int 1)), ((((hF.set 1 (.inr (.inr (7, [.ref 2, .ref 6, .int 4, .int 0, .int (1 <<< (((8 * x) + y) &&& 31)), .int 0, .int 1])))).set 1 (.inr (.inr (7, [.ref 2, .ref 6, .int 4, .int 0, .int (1 <<< (((8 * x) + y) &&& 31)), .int z, .int 1])))).set 1 (.inr (.inr (7, [.ref 2, .ref 6, .int 4, .int 0, .int (1 <<< (((8 * x) + y) &&& 31)), .int z, .int (1 <<< (((8 * z) + w) &&& 31))])))).set 11 (.inr (.inr (5, [.ref 1, .ref 10, .ref 15, .ref 21, .ref 27, .ref 12, .ref 13, .ref 14, .int 0, .int 0, .int 0, .int 9, .int (-1), .int (-1)])))), 0, 0) := by
    refine me (d := 9) g_X9_isFact (Nat.le_of_ble_eq_true rfl) ?_
    refine rr rfl (s_iload_n rfl) ?_
    refine rr rfl (s_iconst (v := 0) (by decide)) ?_
    refine rr rfl (s_bipush (v := 7) (by decide)) ?_
    have e8 : a_m MT [] 100000 9 miX9_in [.int w, .int 0, .int 7] ((((hF.set 1 (.inr (.inr (7, [.ref 2, .ref 6, .int 4, .int 0, .int (1 <<< (((8 * x) + y) &&& 31)), .int 0, .int 1])))).set 1 (.inr (.inr (7, [.ref 2, .ref 6, .int 4, .int 0, .int (1 <<< (((8 * x) + y) &&& 31)), .int z, .int 1])))).set 1 (.inr (.inr (7, [.ref 2, .ref 6, .int 4, .int 0, .int (1 <<< (((8 * x) + y) &&& 31)), .int z, .int (1 <<< (((8 * z) + w) &&& 31))])))).set 11 (.inr (.inr (5, [.ref 1, .ref 10, .ref 15, .ref 21, .ref 27, .ref 12, .ref 13, .ref 14, .int 0, .int 0, .int 0, .int 9, .int (-1), .int (-1)])))) = some ((some (.int 1)), ((((hF.set 1 (.inr (.inr (7, [.ref 2, .ref 6, .int 4, .int 0, .int (1 <<< (((8 * x) + y) &&& 31)), .int 0, .int 1])))).set 1 (.inr (.inr (7, [.ref 2, .ref 6, .int 4, .int 0, .int (1 <<< (((8 * x) + y) &&& 31)), .int z, .int 1])))).set 1 (.inr (.inr (7, [.ref 2, .ref 6, .int 4, .int 0, .int (1 <<< (((8 * x) + y) &&& 31)), .int z, .int (1 <<< (((8 * z) + w) &&& 31))])))).set 11 (.inr (.inr (5, [.ref 1, .ref 10, .ref 15, .ref 21, .ref 27, .ref 12, .ref 13, .ref 14, .int 0, .int 0, .int 0, .int 9, .int (-1), .int (-1)])))), 0, 0) := by
      refine me (d := 8) g_X9_in (Nat.le_of_ble_eq_true rfl) ?_
      refine rr rfl (s_iload_n rfl) ?_
      refine rr rfl (s_iload_n rfl) ?_
      refine rr rfl (s_icF (ic_nlt g7)) ?_
      refine rr rfl (s_iload_n rfl) ?_
      refine rr rfl (s_iload_n rfl) ?_
      refine rr rfl (s_icF (ic_ngt g8)) ?_
      refine rr rfl (s_iconst (v := 1) (by decide)) ?_
      refine rr rfl s_goto ?_
      exact rrt rfl rfl rfl rfl
    refine rrc rfl rfl rfl (do_of g_X9_in rfl rfl e8) ?_
    exact rrt rfl rfl rfl rfl
  refine rrc rfl rfl rfl (do_of g_X9_isFact rfl rfl e7) ?_
  refine rr rfl (s_ifT (by decide)) ?_
  refine rr rfl (s_aload_n rfl) ?_
  refine rr rfl (s_iload_n rfl) ?_
  refine rr rfl (s_putf rfl rfl (Nat.le_of_ble_eq_true rfl) rfl (Nat.le_of_ble_eq_true rfl) rfl) ?_
  refine rr rfl (s_aload_n rfl) ?_
  refine rr rfl (s_iload_n rfl) ?_
  refine rr rfl (s_putf rfl rfl (Nat.le_of_ble_eq_true rfl) rfl (Nat.le_of_ble_eq_true rfl) rfl) ?_
  refine rr rfl (s_aload_n rfl) ?_
  refine rr rfl (s_iload_n rfl) ?_
  refine rr rfl (s_putf rfl rfl (Nat.le_of_ble_eq_true rfl) rfl (Nat.le_of_ble_eq_true rfl) rfl) ?_
  refine rr rfl (s_aload_n rfl) ?_
  refine rr rfl (s_iload rfl) ?_
  refine rr rfl (s_putf rfl rfl (Nat.le_of_ble_eq_true rfl) rfl (Nat.le_of_ble_eq_true rfl) rfl) ?_
  refine rr rfl (s_iconst (v := 0) (by decide)) ?_
  exact rrt rfl rfl rfl rfl
theorem tx_promise_xneg {x y z w : Int32} (g1 : x < 0) : a_m MT [] 100000 11 miX8_promise [.ref 0, .int x, .int y, .int z, .int w] hF = some (some (.int (-1)), hF, 0, 0) := by
  refine me (d := 10) g_X8_promise (Nat.le_of_ble_eq_true rfl) ?_
  refine rr rfl (s_iload_n rfl) ?_
  have e1 : a_m MT [] 100000 10 miX8_isHost [.int x] hF = some ((some (.int 0)), hF, 0, 0) := by
    refine me (d := 9) g_X8_isHost (Nat.le_of_ble_eq_true rfl) ?_
    refine rr rfl (s_iload_n rfl) ?_
    refine rr rfl (s_ifT (ic_lt g1)) ?_
    refine rr rfl (s_iconst (v := 0) (by decide)) ?_
    exact rrt rfl rfl rfl rfl
  refine rrc rfl rfl rfl (do_of g_X8_isHost rfl rfl e1) ?_
  refine rr rfl (s_ifT (by decide)) ?_
  refine rr rfl (s_iconst (v := (-1)) (by decide)) ?_
  exact rrt rfl rfl rfl rfl
theorem tm_promise_xneg {x y z w : Int32} (g1 : x < 0) : a_m MT [] 100000 11 miX9_promise [.ref 41, .int x, .int y, .int z, .int w] hF = some (some (.int (-1)), hF, 0, 0) := by
  refine me (d := 10) g_X9_promise (Nat.le_of_ble_eq_true rfl) ?_
  refine rr rfl (s_iload_n rfl) ?_
  have e1 : a_m MT [] 100000 10 miX9_isHost [.int x] hF = some ((some (.int 0)), hF, 0, 0) := by
    refine me (d := 9) g_X9_isHost (Nat.le_of_ble_eq_true rfl) ?_
    refine rr rfl (s_iload_n rfl) ?_
    refine rr rfl (s_iconst (v := 0) (by decide)) ?_
    refine rr rfl (s_iconst (v := 3) (by decide)) ?_
    have e2 : a_m MT [] 100000 9 miX9_in [.int x, .int 0, .int 3] hF = some ((some (.int 0)), hF, 0, 0) := by
      refine me (d := 8) g_X9_in (Nat.le_of_ble_eq_true rfl) ?_
      refine rr rfl (s_iload_n rfl) ?_
      refine rr rfl (s_iload_n rfl) ?_
      refine rr rfl (s_icT (ic_lt g1)) ?_
      refine rr rfl (s_iconst (v := 0) (by decide)) ?_
      exact rrt rfl rfl rfl rfl
    refine rrc rfl rfl rfl (do_of g_X9_in rfl rfl e2) ?_
    exact rrt rfl rfl rfl rfl
  refine rrc rfl rfl rfl (do_of g_X9_isHost rfl rfl e1) ?_
  refine rr rfl (s_ifT (by decide)) ?_
  refine rr rfl (s_iconst (v := (-1)) (by decide)) ?_
  exact rrt rfl rfl rfl rfl
theorem ag_promise_xneg {x y z w : Int32} (nx : x < 0) : Agree miX8_promise miX9_promise [.int x, .int y, .int z, .int w] := ⟨(-1), hF, hF, 0, 0, 0, 0, tx_promise_xneg nx, tm_promise_xneg nx, by decide, by decide, rfl⟩
theorem tx_promise_xbig {x y z w : Int32} (g1 : ¬ x < 0) (g2 : 4 ≤ x) : a_m MT [] 100000 11 miX8_promise [.ref 0, .int x, .int y, .int z, .int w] hF = some (some (.int (-1)), hF, 0, 0) := by
  refine me (d := 10) g_X8_promise (Nat.le_of_ble_eq_true rfl) ?_
  refine rr rfl (s_iload_n rfl) ?_
  have e1 : a_m MT [] 100000 10 miX8_isHost [.int x] hF = some ((some (.int 0)), hF, 0, 0) := by
    refine me (d := 9) g_X8_isHost (Nat.le_of_ble_eq_true rfl) ?_
    refine rr rfl (s_iload_n rfl) ?_
    refine rr rfl (s_ifF (ic_nlt g1)) ?_
    refine rr rfl (s_iload_n rfl) ?_
    refine rr rfl (s_iconst (v := 4) (by decide)) ?_
    refine rr rfl (s_icT (ic_ge g2)) ?_
    refine rr rfl (s_iconst (v := 0) (by decide)) ?_
    exact rrt rfl rfl rfl rfl
  refine rrc rfl rfl rfl (do_of g_X8_isHost rfl rfl e1) ?_
  refine rr rfl (s_ifT (by decide)) ?_
  refine rr rfl (s_iconst (v := (-1)) (by decide)) ?_
  exact rrt rfl rfl rfl rfl
theorem tm_promise_xbig {x y z w : Int32} (g1 : ¬ x < 0) (g2 : 3 < x) : a_m MT [] 100000 11 miX9_promise [.ref 41, .int x, .int y, .int z, .int w] hF = some (some (.int (-1)), hF, 0, 0) := by
  refine me (d := 10) g_X9_promise (Nat.le_of_ble_eq_true rfl) ?_
  refine rr rfl (s_iload_n rfl) ?_
  have e1 : a_m MT [] 100000 10 miX9_isHost [.int x] hF = some ((some (.int 0)), hF, 0, 0) := by
    refine me (d := 9) g_X9_isHost (Nat.le_of_ble_eq_true rfl) ?_
    refine rr rfl (s_iload_n rfl) ?_
    refine rr rfl (s_iconst (v := 0) (by decide)) ?_
    refine rr rfl (s_iconst (v := 3) (by decide)) ?_
    have e2 : a_m MT [] 100000 9 miX9_in [.int x, .int 0, .int 3] hF = some ((some (.int 0)), hF, 0, 0) := by
      refine me (d := 8) g_X9_in (Nat.le_of_ble_eq_true rfl) ?_
      refine rr rfl (s_iload_n rfl) ?_
      refine rr rfl (s_iload_n rfl) ?_
      refine rr rfl (s_icF (ic_nlt g1)) ?_
      refine rr rfl (s_iload_n rfl) ?_
      refine rr rfl (s_iload_n rfl) ?_
      refine rr rfl (s_icT (ic_gt g2)) ?_
      refine rr rfl (s_iconst (v := 0) (by decide)) ?_
      exact rrt rfl rfl rfl rfl
    refine rrc rfl rfl rfl (do_of g_X9_in rfl rfl e2) ?_
    exact rrt rfl rfl rfl rfl
  refine rrc rfl rfl rfl (do_of g_X9_isHost rfl rfl e1) ?_
  refine rr rfl (s_ifT (by decide)) ?_
  refine rr rfl (s_iconst (v := (-1)) (by decide)) ?_
  exact rrt rfl rfl rfl rfl
theorem ag_promise_xbig {x y z w : Int32} (px : ¬ x < 0) (ox : 3 < x) : Agree miX8_promise miX9_promise [.int x, .int y, .int z, .int w] := ⟨(-1), hF, hF, 0, 0, 0, 0, tx_promise_xbig px (by simp only [Int32.lt_iff_toInt_lt, Int32.le_iff_toInt_le, kk_0, kk_1, kk_2, kk_3, kk_4, kk_5, kk_6, kk_7, kk_8] at px ox ⊢; omega), tm_promise_xbig px ox, by decide, by decide, rfl⟩
theorem tx_promise_yneg {x y z w : Int32} (g1 : ¬ x < 0) (g2 : ¬ 4 ≤ x) (g3 : y < 0) : a_m MT [] 100000 11 miX8_promise [.ref 0, .int x, .int y, .int z, .int w] hF = some (some (.int (-1)), hF, 0, 0) := by
  refine me (d := 10) g_X8_promise (Nat.le_of_ble_eq_true rfl) ?_
  refine rr rfl (s_iload_n rfl) ?_
  have e1 : a_m MT [] 100000 10 miX8_isHost [.int x] hF = some ((some (.int 1)), hF, 0, 0) := by
    refine me (d := 9) g_X8_isHost (Nat.le_of_ble_eq_true rfl) ?_
    refine rr rfl (s_iload_n rfl) ?_
    refine rr rfl (s_ifF (ic_nlt g1)) ?_
    refine rr rfl (s_iload_n rfl) ?_
    refine rr rfl (s_iconst (v := 4) (by decide)) ?_
    refine rr rfl (s_icF (ic_nge g2)) ?_
    refine rr rfl (s_iconst (v := 1) (by decide)) ?_
    refine rr rfl s_goto ?_
    exact rrt rfl rfl rfl rfl
  refine rrc rfl rfl rfl (do_of g_X8_isHost rfl rfl e1) ?_
  refine rr rfl (s_ifF (by decide)) ?_
  refine rr rfl (s_iload_n rfl) ?_
  have e2 : a_m MT [] 100000 10 miX8_isFact [.int y] hF = some ((some (.int 0)), hF, 0, 0) := by
    refine me (d := 9) g_X8_isFact (Nat.le_of_ble_eq_true rfl) ?_
    refine rr rfl (s_iload_n rfl) ?_
    refine rr rfl (s_ifT (ic_lt g3)) ?_
    refine rr rfl (s_iconst (v := 0) (by decide)) ?_
    exact rrt rfl rfl rfl rfl
  refine rrc rfl rfl rfl (do_of g_X8_isFact rfl rfl e2) ?_
  refine rr rfl (s_ifT (by decide)) ?_
  refine rr rfl (s_iconst (v := (-1)) (by decide)) ?_
  exact rrt rfl rfl rfl rfl
theorem tm_promise_yneg {x y z w : Int32} (g1 : ¬ x < 0) (g2 : ¬ 3 < x) (g3 : y < 0) : a_m MT [] 100000 11 miX9_promise [.ref 41, .int x, .int y, .int z, .int w] hF = some (some (.int (-1)), hF, 0, 0) := by
  refine me (d := 10) g_X9_promise (Nat.le_of_ble_eq_true rfl) ?_
  refine rr rfl (s_iload_n rfl) ?_
  have e1 : a_m MT [] 100000 10 miX9_isHost [.int x] hF = some ((some (.int 1)), hF, 0, 0) := by
    refine me (d := 9) g_X9_isHost (Nat.le_of_ble_eq_true rfl) ?_
    refine rr rfl (s_iload_n rfl) ?_
    refine rr rfl (s_iconst (v := 0) (by decide)) ?_
    refine rr rfl (s_iconst (v := 3) (by decide)) ?_
    have e2 : a_m MT [] 100000 9 miX9_in [.int x, .int 0, .int 3] hF = some ((some (.int 1)), hF, 0, 0) := by
      refine me (d := 8) g_X9_in (Nat.le_of_ble_eq_true rfl) ?_
      refine rr rfl (s_iload_n rfl) ?_
      refine rr rfl (s_iload_n rfl) ?_
      refine rr rfl (s_icF (ic_nlt g1)) ?_
      refine rr rfl (s_iload_n rfl) ?_
      refine rr rfl (s_iload_n rfl) ?_
      refine rr rfl (s_icF (ic_ngt g2)) ?_
      refine rr rfl (s_iconst (v := 1) (by decide)) ?_
      refine rr rfl s_goto ?_
      exact rrt rfl rfl rfl rfl
    refine rrc rfl rfl rfl (do_of g_X9_in rfl rfl e2) ?_
    exact rrt rfl rfl rfl rfl
  refine rrc rfl rfl rfl (do_of g_X9_isHost rfl rfl e1) ?_
  refine rr rfl (s_ifF (by decide)) ?_
  refine rr rfl (s_iload_n rfl) ?_
  have e3 : a_m MT [] 100000 10 miX9_isFact [.int y] hF = some ((some (.int 0)), hF, 0, 0) := by
    refine me (d := 9) g_X9_isFact (Nat.le_of_ble_eq_true rfl) ?_
    refine rr rfl (s_iload_n rfl) ?_
    refine rr rfl (s_iconst (v := 0) (by decide)) ?_
    refine rr rfl (s_bipush (v := 7) (by decide)) ?_
    have e4 : a_m MT [] 100000 9 miX9_in [.int y, .int 0, .int 7] hF = some ((some (.int 0)), hF, 0, 0) := by
      refine me (d := 8) g_X9_in (Nat.le_of_ble_eq_true rfl) ?_
      refine rr rfl (s_iload_n rfl) ?_
      refine rr rfl (s_iload_n rfl) ?_
      refine rr rfl (s_icT (ic_lt g3)) ?_
      refine rr rfl (s_iconst (v := 0) (by decide)) ?_
      exact rrt rfl rfl rfl rfl
    refine rrc rfl rfl rfl (do_of g_X9_in rfl rfl e4) ?_
    exact rrt rfl rfl rfl rfl
  refine rrc rfl rfl rfl (do_of g_X9_isFact rfl rfl e3) ?_
  refine rr rfl (s_ifT (by decide)) ?_
  refine rr rfl (s_iconst (v := (-1)) (by decide)) ?_
  exact rrt rfl rfl rfl rfl
theorem ag_promise_yneg {x y z w : Int32} (px : ¬ x < 0) (qx : x ≤ 3) (ny : y < 0) : Agree miX8_promise miX9_promise [.int x, .int y, .int z, .int w] := ⟨(-1), hF, hF, 0, 0, 0, 0, tx_promise_yneg px (by simp only [Int32.lt_iff_toInt_lt, Int32.le_iff_toInt_le, kk_0, kk_1, kk_2, kk_3, kk_4, kk_5, kk_6, kk_7, kk_8] at px qx ⊢; omega) ny, tm_promise_yneg px (by simp only [Int32.lt_iff_toInt_lt, Int32.le_iff_toInt_le, kk_0, kk_1, kk_2, kk_3, kk_4, kk_5, kk_6, kk_7, kk_8] at px qx ⊢; omega) ny, by decide, by decide, rfl⟩
theorem tx_promise_ybig {x y z w : Int32} (g1 : ¬ x < 0) (g2 : ¬ 4 ≤ x) (g3 : ¬ y < 0) (g4 : 8 ≤ y) : a_m MT [] 100000 11 miX8_promise [.ref 0, .int x, .int y, .int z, .int w] hF = some (some (.int (-1)), hF, 0, 0) := by
  refine me (d := 10) g_X8_promise (Nat.le_of_ble_eq_true rfl) ?_
  refine rr rfl (s_iload_n rfl) ?_
  have e1 : a_m MT [] 100000 10 miX8_isHost [.int x] hF = some ((some (.int 1)), hF, 0, 0) := by
    refine me (d := 9) g_X8_isHost (Nat.le_of_ble_eq_true rfl) ?_
    refine rr rfl (s_iload_n rfl) ?_
    refine rr rfl (s_ifF (ic_nlt g1)) ?_
    refine rr rfl (s_iload_n rfl) ?_
    refine rr rfl (s_iconst (v := 4) (by decide)) ?_
    refine rr rfl (s_icF (ic_nge g2)) ?_
    refine rr rfl (s_iconst (v := 1) (by decide)) ?_
    refine rr rfl s_goto ?_
    exact rrt rfl rfl rfl rfl
  refine rrc rfl rfl rfl (do_of g_X8_isHost rfl rfl e1) ?_
  refine rr rfl (s_ifF (by decide)) ?_
  refine rr rfl (s_iload_n rfl) ?_
  have e2 : a_m MT [] 100000 10 miX8_isFact [.int y] hF = some ((some (.int 0)), hF, 0, 0) := by
    refine me (d := 9) g_X8_isFact (Nat.le_of_ble_eq_true rfl) ?_
    refine rr rfl (s_iload_n rfl) ?_
    refine rr rfl (s_ifF (ic_nlt g3)) ?_
    refine rr rfl (s_iload_n rfl) ?_
    refine rr rfl (s_bipush (v := 8) (by decide)) ?_
    refine rr rfl (s_icT (ic_ge g4)) ?_
    refine rr rfl (s_iconst (v := 0) (by decide)) ?_
    exact rrt rfl rfl rfl rfl
  refine rrc rfl rfl rfl (do_of g_X8_isFact rfl rfl e2) ?_
  refine rr rfl (s_ifT (by decide)) ?_
  refine rr rfl (s_iconst (v := (-1)) (by decide)) ?_
  exact rrt rfl rfl rfl rfl
theorem tm_promise_ybig {x y z w : Int32} (g1 : ¬ x < 0) (g2 : ¬ 3 < x) (g3 : ¬ y < 0) (g4 : 7 < y) : a_m MT [] 100000 11 miX9_promise [.ref 41, .int x, .int y, .int z, .int w] hF = some (some (.int (-1)), hF, 0, 0) := by
  refine me (d := 10) g_X9_promise (Nat.le_of_ble_eq_true rfl) ?_
  refine rr rfl (s_iload_n rfl) ?_
  have e1 : a_m MT [] 100000 10 miX9_isHost [.int x] hF = some ((some (.int 1)), hF, 0, 0) := by
    refine me (d := 9) g_X9_isHost (Nat.le_of_ble_eq_true rfl) ?_
    refine rr rfl (s_iload_n rfl) ?_
    refine rr rfl (s_iconst (v := 0) (by decide)) ?_
    refine rr rfl (s_iconst (v := 3) (by decide)) ?_
    have e2 : a_m MT [] 100000 9 miX9_in [.int x, .int 0, .int 3] hF = some ((some (.int 1)), hF, 0, 0) := by
      refine me (d := 8) g_X9_in (Nat.le_of_ble_eq_true rfl) ?_
      refine rr rfl (s_iload_n rfl) ?_
      refine rr rfl (s_iload_n rfl) ?_
      refine rr rfl (s_icF (ic_nlt g1)) ?_
      refine rr rfl (s_iload_n rfl) ?_
      refine rr rfl (s_iload_n rfl) ?_
      refine rr rfl (s_icF (ic_ngt g2)) ?_
      refine rr rfl (s_iconst (v := 1) (by decide)) ?_
      refine rr rfl s_goto ?_
      exact rrt rfl rfl rfl rfl
    refine rrc rfl rfl rfl (do_of g_X9_in rfl rfl e2) ?_
    exact rrt rfl rfl rfl rfl
  refine rrc rfl rfl rfl (do_of g_X9_isHost rfl rfl e1) ?_
  refine rr rfl (s_ifF (by decide)) ?_
  refine rr rfl (s_iload_n rfl) ?_
  have e3 : a_m MT [] 100000 10 miX9_isFact [.int y] hF = some ((some (.int 0)), hF, 0, 0) := by
    refine me (d := 9) g_X9_isFact (Nat.le_of_ble_eq_true rfl) ?_
    refine rr rfl (s_iload_n rfl) ?_
    refine rr rfl (s_iconst (v := 0) (by decide)) ?_
    refine rr rfl (s_bipush (v := 7) (by decide)) ?_
    have e4 : a_m MT [] 100000 9 miX9_in [.int y, .int 0, .int 7] hF = some ((some (.int 0)), hF, 0, 0) := by
      refine me (d := 8) g_X9_in (Nat.le_of_ble_eq_true rfl) ?_
      refine rr rfl (s_iload_n rfl) ?_
      refine rr rfl (s_iload_n rfl) ?_
      refine rr rfl (s_icF (ic_nlt g3)) ?_
      refine rr rfl (s_iload_n rfl) ?_
      refine rr rfl (s_iload_n rfl) ?_
      refine rr rfl (s_icT (ic_gt g4)) ?_
      refine rr rfl (s_iconst (v := 0) (by decide)) ?_
      exact rrt rfl rfl rfl rfl
    refine rrc rfl rfl rfl (do_of g_X9_in rfl rfl e4) ?_
    exact rrt rfl rfl rfl rfl
  refine rrc rfl rfl rfl (do_of g_X9_isFact rfl rfl e3) ?_
  refine rr rfl (s_ifT (by decide)) ?_
  refine rr rfl (s_iconst (v := (-1)) (by decide)) ?_
  exact rrt rfl rfl rfl rfl
theorem ag_promise_ybig {x y z w : Int32} (px : ¬ x < 0) (qx : x ≤ 3) (py : ¬ y < 0) (oy : 7 < y) : Agree miX8_promise miX9_promise [.int x, .int y, .int z, .int w] := ⟨(-1), hF, hF, 0, 0, 0, 0, tx_promise_ybig px (by simp only [Int32.lt_iff_toInt_lt, Int32.le_iff_toInt_le, kk_0, kk_1, kk_2, kk_3, kk_4, kk_5, kk_6, kk_7, kk_8] at px qx ⊢; omega) py (by simp only [Int32.lt_iff_toInt_lt, Int32.le_iff_toInt_le, kk_0, kk_1, kk_2, kk_3, kk_4, kk_5, kk_6, kk_7, kk_8] at py oy ⊢; omega), tm_promise_ybig px (by simp only [Int32.lt_iff_toInt_lt, Int32.le_iff_toInt_le, kk_0, kk_1, kk_2, kk_3, kk_4, kk_5, kk_6, kk_7, kk_8] at px qx ⊢; omega) py oy, by decide, by decide, rfl⟩
theorem tx_promise_zneg {x y z w : Int32} (g1 : ¬ x < 0) (g2 : ¬ 4 ≤ x) (g3 : ¬ y < 0) (g4 : ¬ 8 ≤ y) (g5 : z < 0) : a_m MT [] 100000 11 miX8_promise [.ref 0, .int x, .int y, .int z, .int w] hF = some (some (.int (-1)), hF, 0, 0) := by
  refine me (d := 10) g_X8_promise (Nat.le_of_ble_eq_true rfl) ?_
  refine rr rfl (s_iload_n rfl) ?_
  have e1 : a_m MT [] 100000 10 miX8_isHost [.int x] hF = some ((some (.int 1)), hF, 0, 0) := by
    refine me (d := 9) g_X8_isHost (Nat.le_of_ble_eq_true rfl) ?_
    refine rr rfl (s_iload_n rfl) ?_
    refine rr rfl (s_ifF (ic_nlt g1)) ?_
    refine rr rfl (s_iload_n rfl) ?_
    refine rr rfl (s_iconst (v := 4) (by decide)) ?_
    refine rr rfl (s_icF (ic_nge g2)) ?_
    refine rr rfl (s_iconst (v := 1) (by decide)) ?_
    refine rr rfl s_goto ?_
    exact rrt rfl rfl rfl rfl
  refine rrc rfl rfl rfl (do_of g_X8_isHost rfl rfl e1) ?_
  refine rr rfl (s_ifF (by decide)) ?_
  refine rr rfl (s_iload_n rfl) ?_
  have e2 : a_m MT [] 100000 10 miX8_isFact [.int y] hF = some ((some (.int 1)), hF, 0, 0) := by
    refine me (d := 9) g_X8_isFact (Nat.le_of_ble_eq_true rfl) ?_
    refine rr rfl (s_iload_n rfl) ?_
    refine rr rfl (s_ifF (ic_nlt g3)) ?_
    refine rr rfl (s_iload_n rfl) ?_
    refine rr rfl (s_bipush (v := 8) (by decide)) ?_
    refine rr rfl (s_icF (ic_nge g4)) ?_
    refine rr rfl (s_iconst (v := 1) (by decide)) ?_
    refine rr rfl s_goto ?_
    exact rrt rfl rfl rfl rfl
  refine rrc rfl rfl rfl (do_of g_X8_isFact rfl rfl e2) ?_
  refine rr rfl (s_ifF (by decide)) ?_
  refine rr rfl (s_iload_n rfl) ?_
  have e3 : a_m MT [] 100000 10 miX8_isHost [.int z] hF = some ((some (.int 0)), hF, 0, 0) := by
    refine me (d := 9) g_X8_isHost (Nat.le_of_ble_eq_true rfl) ?_
    refine rr rfl (s_iload_n rfl) ?_
    refine rr rfl (s_ifT (ic_lt g5)) ?_
    refine rr rfl (s_iconst (v := 0) (by decide)) ?_
    exact rrt rfl rfl rfl rfl
  refine rrc rfl rfl rfl (do_of g_X8_isHost rfl rfl e3) ?_
  refine rr rfl (s_ifT (by decide)) ?_
  refine rr rfl (s_iconst (v := (-1)) (by decide)) ?_
  exact rrt rfl rfl rfl rfl
theorem tm_promise_zneg {x y z w : Int32} (g1 : ¬ x < 0) (g2 : ¬ 3 < x) (g3 : ¬ y < 0) (g4 : ¬ 7 < y) (g5 : z < 0) : a_m MT [] 100000 11 miX9_promise [.ref 41, .int x, .int y, .int z, .int w] hF = some (some (.int (-1)), hF, 0, 0) := by
  refine me (d := 10) g_X9_promise (Nat.le_of_ble_eq_true rfl) ?_
  refine rr rfl (s_iload_n rfl) ?_
  have e1 : a_m MT [] 100000 10 miX9_isHost [.int x] hF = some ((some (.int 1)), hF, 0, 0) := by
    refine me (d := 9) g_X9_isHost (Nat.le_of_ble_eq_true rfl) ?_
    refine rr rfl (s_iload_n rfl) ?_
    refine rr rfl (s_iconst (v := 0) (by decide)) ?_
    refine rr rfl (s_iconst (v := 3) (by decide)) ?_
    have e2 : a_m MT [] 100000 9 miX9_in [.int x, .int 0, .int 3] hF = some ((some (.int 1)), hF, 0, 0) := by
      refine me (d := 8) g_X9_in (Nat.le_of_ble_eq_true rfl) ?_
      refine rr rfl (s_iload_n rfl) ?_
      refine rr rfl (s_iload_n rfl) ?_
      refine rr rfl (s_icF (ic_nlt g1)) ?_
      refine rr rfl (s_iload_n rfl) ?_
      refine rr rfl (s_iload_n rfl) ?_
      refine rr rfl (s_icF (ic_ngt g2)) ?_
      refine rr rfl (s_iconst (v := 1) (by decide)) ?_
      refine rr rfl s_goto ?_
      exact rrt rfl rfl rfl rfl
    refine rrc rfl rfl rfl (do_of g_X9_in rfl rfl e2) ?_
    exact rrt rfl rfl rfl rfl
  refine rrc rfl rfl rfl (do_of g_X9_isHost rfl rfl e1) ?_
  refine rr rfl (s_ifF (by decide)) ?_
  refine rr rfl (s_iload_n rfl) ?_
  have e3 : a_m MT [] 100000 10 miX9_isFact [.int y] hF = some ((some (.int 1)), hF, 0, 0) := by
    refine me (d := 9) g_X9_isFact (Nat.le_of_ble_eq_true rfl) ?_
    refine rr rfl (s_iload_n rfl) ?_
    refine rr rfl (s_iconst (v := 0) (by decide)) ?_
    refine rr rfl (s_bipush (v := 7) (by decide)) ?_
    have e4 : a_m MT [] 100000 9 miX9_in [.int y, .int 0, .int 7] hF = some ((some (.int 1)), hF, 0, 0) := by
      refine me (d := 8) g_X9_in (Nat.le_of_ble_eq_true rfl) ?_
      refine rr rfl (s_iload_n rfl) ?_
      refine rr rfl (s_iload_n rfl) ?_
      refine rr rfl (s_icF (ic_nlt g3)) ?_
      refine rr rfl (s_iload_n rfl) ?_
      refine rr rfl (s_iload_n rfl) ?_
      refine rr rfl (s_icF (ic_ngt g4)) ?_
      refine rr rfl (s_iconst (v := 1) (by decide)) ?_
      refine rr rfl s_goto ?_
      exact rrt rfl rfl rfl rfl
    refine rrc rfl rfl rfl (do_of g_X9_in rfl rfl e4) ?_
    exact rrt rfl rfl rfl rfl
  refine rrc rfl rfl rfl (do_of g_X9_isFact rfl rfl e3) ?_
  refine rr rfl (s_ifF (by decide)) ?_
  refine rr rfl (s_iload_n rfl) ?_
  have e5 : a_m MT [] 100000 10 miX9_isHost [.int z] hF = some ((some (.int 0)), hF, 0, 0) := by
    refine me (d := 9) g_X9_isHost (Nat.le_of_ble_eq_true rfl) ?_
    refine rr rfl (s_iload_n rfl) ?_
    refine rr rfl (s_iconst (v := 0) (by decide)) ?_
    refine rr rfl (s_iconst (v := 3) (by decide)) ?_
    have e6 : a_m MT [] 100000 9 miX9_in [.int z, .int 0, .int 3] hF = some ((some (.int 0)), hF, 0, 0) := by
      refine me (d := 8) g_X9_in (Nat.le_of_ble_eq_true rfl) ?_
      refine rr rfl (s_iload_n rfl) ?_
      refine rr rfl (s_iload_n rfl) ?_
      refine rr rfl (s_icT (ic_lt g5)) ?_
      refine rr rfl (s_iconst (v := 0) (by decide)) ?_
      exact rrt rfl rfl rfl rfl
    refine rrc rfl rfl rfl (do_of g_X9_in rfl rfl e6) ?_
    exact rrt rfl rfl rfl rfl
  refine rrc rfl rfl rfl (do_of g_X9_isHost rfl rfl e5) ?_
  refine rr rfl (s_ifT (by decide)) ?_
  refine rr rfl (s_iconst (v := (-1)) (by decide)) ?_
  exact rrt rfl rfl rfl rfl
theorem ag_promise_zneg {x y z w : Int32} (px : ¬ x < 0) (qx : x ≤ 3) (py : ¬ y < 0) (qy : y ≤ 7) (nz : z < 0) : Agree miX8_promise miX9_promise [.int x, .int y, .int z, .int w] := ⟨(-1), hF, hF, 0, 0, 0, 0, tx_promise_zneg px (by simp only [Int32.lt_iff_toInt_lt, Int32.le_iff_toInt_le, kk_0, kk_1, kk_2, kk_3, kk_4, kk_5, kk_6, kk_7, kk_8] at px qx ⊢; omega) py (by simp only [Int32.lt_iff_toInt_lt, Int32.le_iff_toInt_le, kk_0, kk_1, kk_2, kk_3, kk_4, kk_5, kk_6, kk_7, kk_8] at py qy ⊢; omega) nz, tm_promise_zneg px (by simp only [Int32.lt_iff_toInt_lt, Int32.le_iff_toInt_le, kk_0, kk_1, kk_2, kk_3, kk_4, kk_5, kk_6, kk_7, kk_8] at px qx ⊢; omega) py (by simp only [Int32.lt_iff_toInt_lt, Int32.le_iff_toInt_le, kk_0, kk_1, kk_2, kk_3, kk_4, kk_5, kk_6, kk_7, kk_8] at py qy ⊢; omega) nz, by decide, by decide, rfl⟩
theorem tx_promise_zbig {x y z w : Int32} (g1 : ¬ x < 0) (g2 : ¬ 4 ≤ x) (g3 : ¬ y < 0) (g4 : ¬ 8 ≤ y) (g5 : ¬ z < 0) (g6 : 4 ≤ z) : a_m MT [] 100000 11 miX8_promise [.ref 0, .int x, .int y, .int z, .int w] hF = some (some (.int (-1)), hF, 0, 0) := by
  refine me (d := 10) g_X8_promise (Nat.le_of_ble_eq_true rfl) ?_
  refine rr rfl (s_iload_n rfl) ?_
  have e1 : a_m MT [] 100000 10 miX8_isHost [.int x] hF = some ((some (.int 1)), hF, 0, 0) := by
    refine me (d := 9) g_X8_isHost (Nat.le_of_ble_eq_true rfl) ?_
    refine rr rfl (s_iload_n rfl) ?_
    refine rr rfl (s_ifF (ic_nlt g1)) ?_
    refine rr rfl (s_iload_n rfl) ?_
    refine rr rfl (s_iconst (v := 4) (by decide)) ?_
    refine rr rfl (s_icF (ic_nge g2)) ?_
    refine rr rfl (s_iconst (v := 1) (by decide)) ?_
    refine rr rfl s_goto ?_
    exact rrt rfl rfl rfl rfl
  refine rrc rfl rfl rfl (do_of g_X8_isHost rfl rfl e1) ?_
  refine rr rfl (s_ifF (by decide)) ?_
  refine rr rfl (s_iload_n rfl) ?_
  have e2 : a_m MT [] 100000 10 miX8_isFact [.int y] hF = some ((some (.int 1)), hF, 0, 0) := by
    refine me (d := 9) g_X8_isFact (Nat.le_of_ble_eq_true rfl) ?_
    refine rr rfl (s_iload_n rfl) ?_
    refine rr rfl (s_ifF (ic_nlt g3)) ?_
    refine rr rfl (s_iload_n rfl) ?_
    refine rr rfl (s_bipush (v := 8) (by decide)) ?_
    refine rr rfl (s_icF (ic_nge g4)) ?_
    refine rr rfl (s_iconst (v := 1) (by decide)) ?_
    refine rr rfl s_goto ?_
    exact rrt rfl rfl rfl rfl
  refine rrc rfl rfl rfl (do_of g_X8_isFact rfl rfl e2) ?_
  refine rr rfl (s_ifF (by decide)) ?_
  refine rr rfl (s_iload_n rfl) ?_
  have e3 : a_m MT [] 100000 10 miX8_isHost [.int z] hF = some ((some (.int 0)), hF, 0, 0) := by
    refine me (d := 9) g_X8_isHost (Nat.le_of_ble_eq_true rfl) ?_
    refine rr rfl (s_iload_n rfl) ?_
    refine rr rfl (s_ifF (ic_nlt g5)) ?_
    refine rr rfl (s_iload_n rfl) ?_
    refine rr rfl (s_iconst (v := 4) (by decide)) ?_
    refine rr rfl (s_icT (ic_ge g6)) ?_
    refine rr rfl (s_iconst (v := 0) (by decide)) ?_
    exact rrt rfl rfl rfl rfl
  refine rrc rfl rfl rfl (do_of g_X8_isHost rfl rfl e3) ?_
  refine rr rfl (s_ifT (by decide)) ?_
  refine rr rfl (s_iconst (v := (-1)) (by decide)) ?_
  exact rrt rfl rfl rfl rfl
theorem tm_promise_zbig {x y z w : Int32} (g1 : ¬ x < 0) (g2 : ¬ 3 < x) (g3 : ¬ y < 0) (g4 : ¬ 7 < y) (g5 : ¬ z < 0) (g6 : 3 < z) : a_m MT [] 100000 11 miX9_promise [.ref 41, .int x, .int y, .int z, .int w] hF = some (some (.int (-1)), hF, 0, 0) := by
  refine me (d := 10) g_X9_promise (Nat.le_of_ble_eq_true rfl) ?_
  refine rr rfl (s_iload_n rfl) ?_
  have e1 : a_m MT [] 100000 10 miX9_isHost [.int x] hF = some ((some (.int 1)), hF, 0, 0) := by
    refine me (d := 9) g_X9_isHost (Nat.le_of_ble_eq_true rfl) ?_
    refine rr rfl (s_iload_n rfl) ?_
    refine rr rfl (s_iconst (v := 0) (by decide)) ?_
    refine rr rfl (s_iconst (v := 3) (by decide)) ?_
    have e2 : a_m MT [] 100000 9 miX9_in [.int x, .int 0, .int 3] hF = some ((some (.int 1)), hF, 0, 0) := by
      refine me (d := 8) g_X9_in (Nat.le_of_ble_eq_true rfl) ?_
      refine rr rfl (s_iload_n rfl) ?_
      refine rr rfl (s_iload_n rfl) ?_
      refine rr rfl (s_icF (ic_nlt g1)) ?_
      refine rr rfl (s_iload_n rfl) ?_
      refine rr rfl (s_iload_n rfl) ?_
      refine rr rfl (s_icF (ic_ngt g2)) ?_
      refine rr rfl (s_iconst (v := 1) (by decide)) ?_
      refine rr rfl s_goto ?_
      exact rrt rfl rfl rfl rfl
    refine rrc rfl rfl rfl (do_of g_X9_in rfl rfl e2) ?_
    exact rrt rfl rfl rfl rfl
  refine rrc rfl rfl rfl (do_of g_X9_isHost rfl rfl e1) ?_
  refine rr rfl (s_ifF (by decide)) ?_
  refine rr rfl (s_iload_n rfl) ?_
  have e3 : a_m MT [] 100000 10 miX9_isFact [.int y] hF = some ((some (.int 1)), hF, 0, 0) := by
    refine me (d := 9) g_X9_isFact (Nat.le_of_ble_eq_true rfl) ?_
    refine rr rfl (s_iload_n rfl) ?_
    refine rr rfl (s_iconst (v := 0) (by decide)) ?_
    refine rr rfl (s_bipush (v := 7) (by decide)) ?_
    have e4 : a_m MT [] 100000 9 miX9_in [.int y, .int 0, .int 7] hF = some ((some (.int 1)), hF, 0, 0) := by
      refine me (d := 8) g_X9_in (Nat.le_of_ble_eq_true rfl) ?_
      refine rr rfl (s_iload_n rfl) ?_
      refine rr rfl (s_iload_n rfl) ?_
      refine rr rfl (s_icF (ic_nlt g3)) ?_
      refine rr rfl (s_iload_n rfl) ?_
      refine rr rfl (s_iload_n rfl) ?_
      refine rr rfl (s_icF (ic_ngt g4)) ?_
      refine rr rfl (s_iconst (v := 1) (by decide)) ?_
      refine rr rfl s_goto ?_
      exact rrt rfl rfl rfl rfl
    refine rrc rfl rfl rfl (do_of g_X9_in rfl rfl e4) ?_
    exact rrt rfl rfl rfl rfl
  refine rrc rfl rfl rfl (do_of g_X9_isFact rfl rfl e3) ?_
  refine rr rfl (s_ifF (by decide)) ?_
  refine rr rfl (s_iload_n rfl) ?_
  have e5 : a_m MT [] 100000 10 miX9_isHost [.int z] hF = some ((some (.int 0)), hF, 0, 0) := by
    refine me (d := 9) g_X9_isHost (Nat.le_of_ble_eq_true rfl) ?_
    refine rr rfl (s_iload_n rfl) ?_
    refine rr rfl (s_iconst (v := 0) (by decide)) ?_
    refine rr rfl (s_iconst (v := 3) (by decide)) ?_
    have e6 : a_m MT [] 100000 9 miX9_in [.int z, .int 0, .int 3] hF = some ((some (.int 0)), hF, 0, 0) := by
      refine me (d := 8) g_X9_in (Nat.le_of_ble_eq_true rfl) ?_
      refine rr rfl (s_iload_n rfl) ?_
      refine rr rfl (s_iload_n rfl) ?_
      refine rr rfl (s_icF (ic_nlt g5)) ?_
      refine rr rfl (s_iload_n rfl) ?_
      refine rr rfl (s_iload_n rfl) ?_
      refine rr rfl (s_icT (ic_gt g6)) ?_
      refine rr rfl (s_iconst (v := 0) (by decide)) ?_
      exact rrt rfl rfl rfl rfl
    refine rrc rfl rfl rfl (do_of g_X9_in rfl rfl e6) ?_
    exact rrt rfl rfl rfl rfl
  refine rrc rfl rfl rfl (do_of g_X9_isHost rfl rfl e5) ?_
  refine rr rfl (s_ifT (by decide)) ?_
  refine rr rfl (s_iconst (v := (-1)) (by decide)) ?_
  exact rrt rfl rfl rfl rfl
theorem ag_promise_zbig {x y z w : Int32} (px : ¬ x < 0) (qx : x ≤ 3) (py : ¬ y < 0) (qy : y ≤ 7) (pz : ¬ z < 0) (oz : 3 < z) : Agree miX8_promise miX9_promise [.int x, .int y, .int z, .int w] := ⟨(-1), hF, hF, 0, 0, 0, 0, tx_promise_zbig px (by simp only [Int32.lt_iff_toInt_lt, Int32.le_iff_toInt_le, kk_0, kk_1, kk_2, kk_3, kk_4, kk_5, kk_6, kk_7, kk_8] at px qx ⊢; omega) py (by simp only [Int32.lt_iff_toInt_lt, Int32.le_iff_toInt_le, kk_0, kk_1, kk_2, kk_3, kk_4, kk_5, kk_6, kk_7, kk_8] at py qy ⊢; omega) pz (by simp only [Int32.lt_iff_toInt_lt, Int32.le_iff_toInt_le, kk_0, kk_1, kk_2, kk_3, kk_4, kk_5, kk_6, kk_7, kk_8] at pz oz ⊢; omega), tm_promise_zbig px (by simp only [Int32.lt_iff_toInt_lt, Int32.le_iff_toInt_le, kk_0, kk_1, kk_2, kk_3, kk_4, kk_5, kk_6, kk_7, kk_8] at px qx ⊢; omega) py (by simp only [Int32.lt_iff_toInt_lt, Int32.le_iff_toInt_le, kk_0, kk_1, kk_2, kk_3, kk_4, kk_5, kk_6, kk_7, kk_8] at py qy ⊢; omega) pz oz, by decide, by decide, rfl⟩
theorem tx_promise_wneg {x y z w : Int32} (g1 : ¬ x < 0) (g2 : ¬ 4 ≤ x) (g3 : ¬ y < 0) (g4 : ¬ 8 ≤ y) (g5 : ¬ z < 0) (g6 : ¬ 4 ≤ z) (g7 : w < 0) : a_m MT [] 100000 11 miX8_promise [.ref 0, .int x, .int y, .int z, .int w] hF = some (some (.int (-1)), hF, 0, 0) := by
  refine me (d := 10) g_X8_promise (Nat.le_of_ble_eq_true rfl) ?_
  refine rr rfl (s_iload_n rfl) ?_
  have e1 : a_m MT [] 100000 10 miX8_isHost [.int x] hF = some ((some (.int 1)), hF, 0, 0) := by
    refine me (d := 9) g_X8_isHost (Nat.le_of_ble_eq_true rfl) ?_
    refine rr rfl (s_iload_n rfl) ?_
    refine rr rfl (s_ifF (ic_nlt g1)) ?_
    refine rr rfl (s_iload_n rfl) ?_
    refine rr rfl (s_iconst (v := 4) (by decide)) ?_
    refine rr rfl (s_icF (ic_nge g2)) ?_
    refine rr rfl (s_iconst (v := 1) (by decide)) ?_
    refine rr rfl s_goto ?_
    exact rrt rfl rfl rfl rfl
  refine rrc rfl rfl rfl (do_of g_X8_isHost rfl rfl e1) ?_
  refine rr rfl (s_ifF (by decide)) ?_
  refine rr rfl (s_iload_n rfl) ?_
  have e2 : a_m MT [] 100000 10 miX8_isFact [.int y] hF = some ((some (.int 1)), hF, 0, 0) := by
    refine me (d := 9) g_X8_isFact (Nat.le_of_ble_eq_true rfl) ?_
    refine rr rfl (s_iload_n rfl) ?_
    refine rr rfl (s_ifF (ic_nlt g3)) ?_
    refine rr rfl (s_iload_n rfl) ?_
    refine rr rfl (s_bipush (v := 8) (by decide)) ?_
    refine rr rfl (s_icF (ic_nge g4)) ?_
    refine rr rfl (s_iconst (v := 1) (by decide)) ?_
    refine rr rfl s_goto ?_
    exact rrt rfl rfl rfl rfl
  refine rrc rfl rfl rfl (do_of g_X8_isFact rfl rfl e2) ?_
  refine rr rfl (s_ifF (by decide)) ?_
  refine rr rfl (s_iload_n rfl) ?_
  have e3 : a_m MT [] 100000 10 miX8_isHost [.int z] hF = some ((some (.int 1)), hF, 0, 0) := by
    refine me (d := 9) g_X8_isHost (Nat.le_of_ble_eq_true rfl) ?_
    refine rr rfl (s_iload_n rfl) ?_
    refine rr rfl (s_ifF (ic_nlt g5)) ?_
    refine rr rfl (s_iload_n rfl) ?_
    refine rr rfl (s_iconst (v := 4) (by decide)) ?_
    refine rr rfl (s_icF (ic_nge g6)) ?_
    refine rr rfl (s_iconst (v := 1) (by decide)) ?_
    refine rr rfl s_goto ?_
    exact rrt rfl rfl rfl rfl
  refine rrc rfl rfl rfl (do_of g_X8_isHost rfl rfl e3) ?_
  refine rr rfl (s_ifF (by decide)) ?_
  refine rr rfl (s_iload rfl) ?_
  have e4 : a_m MT [] 100000 10 miX8_isFact [.int w] hF = some ((some (.int 0)), hF, 0, 0) := by
    refine me (d := 9) g_X8_isFact (Nat.le_of_ble_eq_true rfl) ?_
    refine rr rfl (s_iload_n rfl) ?_
    refine rr rfl (s_ifT (ic_lt g7)) ?_
    refine rr rfl (s_iconst (v := 0) (by decide)) ?_
    exact rrt rfl rfl rfl rfl
  refine rrc rfl rfl rfl (do_of g_X8_isFact rfl rfl e4) ?_
  refine rr rfl (s_ifF (by decide)) ?_
  refine rr rfl (s_iconst (v := (-1)) (by decide)) ?_
  exact rrt rfl rfl rfl rfl
theorem tm_promise_wneg {x y z w : Int32} (g1 : ¬ x < 0) (g2 : ¬ 3 < x) (g3 : ¬ y < 0) (g4 : ¬ 7 < y) (g5 : ¬ z < 0) (g6 : ¬ 3 < z) (g7 : w < 0) : a_m MT [] 100000 11 miX9_promise [.ref 41, .int x, .int y, .int z, .int w] hF = some (some (.int (-1)), hF, 0, 0) := by
  refine me (d := 10) g_X9_promise (Nat.le_of_ble_eq_true rfl) ?_
  refine rr rfl (s_iload_n rfl) ?_
  have e1 : a_m MT [] 100000 10 miX9_isHost [.int x] hF = some ((some (.int 1)), hF, 0, 0) := by
    refine me (d := 9) g_X9_isHost (Nat.le_of_ble_eq_true rfl) ?_
    refine rr rfl (s_iload_n rfl) ?_
    refine rr rfl (s_iconst (v := 0) (by decide)) ?_
    refine rr rfl (s_iconst (v := 3) (by decide)) ?_
    have e2 : a_m MT [] 100000 9 miX9_in [.int x, .int 0, .int 3] hF = some ((some (.int 1)), hF, 0, 0) := by
      refine me (d := 8) g_X9_in (Nat.le_of_ble_eq_true rfl) ?_
      refine rr rfl (s_iload_n rfl) ?_
      refine rr rfl (s_iload_n rfl) ?_
      refine rr rfl (s_icF (ic_nlt g1)) ?_
      refine rr rfl (s_iload_n rfl) ?_
      refine rr rfl (s_iload_n rfl) ?_
      refine rr rfl (s_icF (ic_ngt g2)) ?_
      refine rr rfl (s_iconst (v := 1) (by decide)) ?_
      refine rr rfl s_goto ?_
      exact rrt rfl rfl rfl rfl
    refine rrc rfl rfl rfl (do_of g_X9_in rfl rfl e2) ?_
    exact rrt rfl rfl rfl rfl
  refine rrc rfl rfl rfl (do_of g_X9_isHost rfl rfl e1) ?_
  refine rr rfl (s_ifF (by decide)) ?_
  refine rr rfl (s_iload_n rfl) ?_
  have e3 : a_m MT [] 100000 10 miX9_isFact [.int y] hF = some ((some (.int 1)), hF, 0, 0) := by
    refine me (d := 9) g_X9_isFact (Nat.le_of_ble_eq_true rfl) ?_
    refine rr rfl (s_iload_n rfl) ?_
    refine rr rfl (s_iconst (v := 0) (by decide)) ?_
    refine rr rfl (s_bipush (v := 7) (by decide)) ?_
    have e4 : a_m MT [] 100000 9 miX9_in [.int y, .int 0, .int 7] hF = some ((some (.int 1)), hF, 0, 0) := by
      refine me (d := 8) g_X9_in (Nat.le_of_ble_eq_true rfl) ?_
      refine rr rfl (s_iload_n rfl) ?_
      refine rr rfl (s_iload_n rfl) ?_
      refine rr rfl (s_icF (ic_nlt g3)) ?_
      refine rr rfl (s_iload_n rfl) ?_
      refine rr rfl (s_iload_n rfl) ?_
      refine rr rfl (s_icF (ic_ngt g4)) ?_
      refine rr rfl (s_iconst (v := 1) (by decide)) ?_
      refine rr rfl s_goto ?_
      exact rrt rfl rfl rfl rfl
    refine rrc rfl rfl rfl (do_of g_X9_in rfl rfl e4) ?_
    exact rrt rfl rfl rfl rfl
  refine rrc rfl rfl rfl (do_of g_X9_isFact rfl rfl e3) ?_
  refine rr rfl (s_ifF (by decide)) ?_
  refine rr rfl (s_iload_n rfl) ?_
  have e5 : a_m MT [] 100000 10 miX9_isHost [.int z] hF = some ((some (.int 1)), hF, 0, 0) := by
    refine me (d := 9) g_X9_isHost (Nat.le_of_ble_eq_true rfl) ?_
    refine rr rfl (s_iload_n rfl) ?_
    refine rr rfl (s_iconst (v := 0) (by decide)) ?_
    refine rr rfl (s_iconst (v := 3) (by decide)) ?_
    have e6 : a_m MT [] 100000 9 miX9_in [.int z, .int 0, .int 3] hF = some ((some (.int 1)), hF, 0, 0) := by
      refine me (d := 8) g_X9_in (Nat.le_of_ble_eq_true rfl) ?_
      refine rr rfl (s_iload_n rfl) ?_
      refine rr rfl (s_iload_n rfl) ?_
      refine rr rfl (s_icF (ic_nlt g5)) ?_
      refine rr rfl (s_iload_n rfl) ?_
      refine rr rfl (s_iload_n rfl) ?_
      refine rr rfl (s_icF (ic_ngt g6)) ?_
      refine rr rfl (s_iconst (v := 1) (by decide)) ?_
      refine rr rfl s_goto ?_
      exact rrt rfl rfl rfl rfl
    refine rrc rfl rfl rfl (do_of g_X9_in rfl rfl e6) ?_
    exact rrt rfl rfl rfl rfl
  refine rrc rfl rfl rfl (do_of g_X9_isHost rfl rfl e5) ?_
  refine rr rfl (s_ifF (by decide)) ?_
  refine rr rfl (s_iload rfl) ?_
  have e7 : a_m MT [] 100000 10 miX9_isFact [.int w] hF = some ((some (.int 0)), hF, 0, 0) := by
    refine me (d := 9) g_X9_isFact (Nat.le_of_ble_eq_true rfl) ?_
    refine rr rfl (s_iload_n rfl) ?_
    refine rr rfl (s_iconst (v := 0) (by decide)) ?_
    refine rr rfl (s_bipush (v := 7) (by decide)) ?_
    have e8 : a_m MT [] 100000 9 miX9_in [.int w, .int 0, .int 7] hF = some ((some (.int 0)), hF, 0, 0) := by
      refine me (d := 8) g_X9_in (Nat.le_of_ble_eq_true rfl) ?_
      refine rr rfl (s_iload_n rfl) ?_
      refine rr rfl (s_iload_n rfl) ?_
      refine rr rfl (s_icT (ic_lt g7)) ?_
      refine rr rfl (s_iconst (v := 0) (by decide)) ?_
      exact rrt rfl rfl rfl rfl
    refine rrc rfl rfl rfl (do_of g_X9_in rfl rfl e8) ?_
    exact rrt rfl rfl rfl rfl
  refine rrc rfl rfl rfl (do_of g_X9_isFact rfl rfl e7) ?_
  refine rr rfl (s_ifF (by decide)) ?_
  refine rr rfl (s_iconst (v := (-1)) (by decide)) ?_
  exact rrt rfl rfl rfl rfl
theorem ag_promise_wneg {x y z w : Int32} (px : ¬ x < 0) (qx : x ≤ 3) (py : ¬ y < 0) (qy : y ≤ 7) (pz : ¬ z < 0) (qz : z ≤ 3) (nw : w < 0) : Agree miX8_promise miX9_promise [.int x, .int y, .int z, .int w] := ⟨(-1), hF, hF, 0, 0, 0, 0, tx_promise_wneg px (by simp only [Int32.lt_iff_toInt_lt, Int32.le_iff_toInt_le, kk_0, kk_1, kk_2, kk_3, kk_4, kk_5, kk_6, kk_7, kk_8] at px qx ⊢; omega) py (by simp only [Int32.lt_iff_toInt_lt, Int32.le_iff_toInt_le, kk_0, kk_1, kk_2, kk_3, kk_4, kk_5, kk_6, kk_7, kk_8] at py qy ⊢; omega) pz (by simp only [Int32.lt_iff_toInt_lt, Int32.le_iff_toInt_le, kk_0, kk_1, kk_2, kk_3, kk_4, kk_5, kk_6, kk_7, kk_8] at pz qz ⊢; omega) nw, tm_promise_wneg px (by simp only [Int32.lt_iff_toInt_lt, Int32.le_iff_toInt_le, kk_0, kk_1, kk_2, kk_3, kk_4, kk_5, kk_6, kk_7, kk_8] at px qx ⊢; omega) py (by simp only [Int32.lt_iff_toInt_lt, Int32.le_iff_toInt_le, kk_0, kk_1, kk_2, kk_3, kk_4, kk_5, kk_6, kk_7, kk_8] at py qy ⊢; omega) pz (by simp only [Int32.lt_iff_toInt_lt, Int32.le_iff_toInt_le, kk_0, kk_1, kk_2, kk_3, kk_4, kk_5, kk_6, kk_7, kk_8] at pz qz ⊢; omega) nw, by decide, by decide, rfl⟩
theorem tx_promise_wbig {x y z w : Int32} (g1 : ¬ x < 0) (g2 : ¬ 4 ≤ x) (g3 : ¬ y < 0) (g4 : ¬ 8 ≤ y) (g5 : ¬ z < 0) (g6 : ¬ 4 ≤ z) (g7 : ¬ w < 0) (g8 : 8 ≤ w) : a_m MT [] 100000 11 miX8_promise [.ref 0, .int x, .int y, .int z, .int w] hF = some (some (.int (-1)), hF, 0, 0) := by
  refine me (d := 10) g_X8_promise (Nat.le_of_ble_eq_true rfl) ?_
  refine rr rfl (s_iload_n rfl) ?_
  have e1 : a_m MT [] 100000 10 miX8_isHost [.int x] hF = some ((some (.int 1)), hF, 0, 0) := by
    refine me (d := 9) g_X8_isHost (Nat.le_of_ble_eq_true rfl) ?_
    refine rr rfl (s_iload_n rfl) ?_
    refine rr rfl (s_ifF (ic_nlt g1)) ?_
    refine rr rfl (s_iload_n rfl) ?_
    refine rr rfl (s_iconst (v := 4) (by decide)) ?_
    refine rr rfl (s_icF (ic_nge g2)) ?_
    refine rr rfl (s_iconst (v := 1) (by decide)) ?_
    refine rr rfl s_goto ?_
    exact rrt rfl rfl rfl rfl
  refine rrc rfl rfl rfl (do_of g_X8_isHost rfl rfl e1) ?_
  refine rr rfl (s_ifF (by decide)) ?_
  refine rr rfl (s_iload_n rfl) ?_
  have e2 : a_m MT [] 100000 10 miX8_isFact [.int y] hF = some ((some (.int 1)), hF, 0, 0) := by
    refine me (d := 9) g_X8_isFact (Nat.le_of_ble_eq_true rfl) ?_
    refine rr rfl (s_iload_n rfl) ?_
    refine rr rfl (s_ifF (ic_nlt g3)) ?_
    refine rr rfl (s_iload_n rfl) ?_
    refine rr rfl (s_bipush (v := 8) (by decide)) ?_
    refine rr rfl (s_icF (ic_nge g4)) ?_
    refine rr rfl (s_iconst (v := 1) (by decide)) ?_
    refine rr rfl s_goto ?_
    exact rrt rfl rfl rfl rfl
  refine rrc rfl rfl rfl (do_of g_X8_isFact rfl rfl e2) ?_
  refine rr rfl (s_ifF (by decide)) ?_
  refine rr rfl (s_iload_n rfl) ?_
  have e3 : a_m MT [] 100000 10 miX8_isHost [.int z] hF = some ((some (.int 1)), hF, 0, 0) := by
    refine me (d := 9) g_X8_isHost (Nat.le_of_ble_eq_true rfl) ?_
    refine rr rfl (s_iload_n rfl) ?_
    refine rr rfl (s_ifF (ic_nlt g5)) ?_
    refine rr rfl (s_iload_n rfl) ?_
    refine rr rfl (s_iconst (v := 4) (by decide)) ?_
    refine rr rfl (s_icF (ic_nge g6)) ?_
    refine rr rfl (s_iconst (v := 1) (by decide)) ?_
    refine rr rfl s_goto ?_
    exact rrt rfl rfl rfl rfl
  refine rrc rfl rfl rfl (do_of g_X8_isHost rfl rfl e3) ?_
  refine rr rfl (s_ifF (by decide)) ?_
  refine rr rfl (s_iload rfl) ?_
  have e4 : a_m MT [] 100000 10 miX8_isFact [.int w] hF = some ((some (.int 0)), hF, 0, 0) := by
    refine me (d := 9) g_X8_isFact (Nat.le_of_ble_eq_true rfl) ?_
    refine rr rfl (s_iload_n rfl) ?_
    refine rr rfl (s_ifF (ic_nlt g7)) ?_
    refine rr rfl (s_iload_n rfl) ?_
    refine rr rfl (s_bipush (v := 8) (by decide)) ?_
    refine rr rfl (s_icT (ic_ge g8)) ?_
    refine rr rfl (s_iconst (v := 0) (by decide)) ?_
    exact rrt rfl rfl rfl rfl
  refine rrc rfl rfl rfl (do_of g_X8_isFact rfl rfl e4) ?_
  refine rr rfl (s_ifF (by decide)) ?_
  refine rr rfl (s_iconst (v := (-1)) (by decide)) ?_
  exact rrt rfl rfl rfl rfl
theorem tm_promise_wbig {x y z w : Int32} (g1 : ¬ x < 0) (g2 : ¬ 3 < x) (g3 : ¬ y < 0) (g4 : ¬ 7 < y) (g5 : ¬ z < 0) (g6 : ¬ 3 < z) (g7 : ¬ w < 0) (g8 : 7 < w) : a_m MT [] 100000 11 miX9_promise [.ref 41, .int x, .int y, .int z, .int w] hF = some (some (.int (-1)), hF, 0, 0) := by
  refine me (d := 10) g_X9_promise (Nat.le_of_ble_eq_true rfl) ?_
  refine rr rfl (s_iload_n rfl) ?_
  have e1 : a_m MT [] 100000 10 miX9_isHost [.int x] hF = some ((some (.int 1)), hF, 0, 0) := by
    refine me (d := 9) g_X9_isHost (Nat.le_of_ble_eq_true rfl) ?_
    refine rr rfl (s_iload_n rfl) ?_
    refine rr rfl (s_iconst (v := 0) (by decide)) ?_
    refine rr rfl (s_iconst (v := 3) (by decide)) ?_
    have e2 : a_m MT [] 100000 9 miX9_in [.int x, .int 0, .int 3] hF = some ((some (.int 1)), hF, 0, 0) := by
      refine me (d := 8) g_X9_in (Nat.le_of_ble_eq_true rfl) ?_
      refine rr rfl (s_iload_n rfl) ?_
      refine rr rfl (s_iload_n rfl) ?_
      refine rr rfl (s_icF (ic_nlt g1)) ?_
      refine rr rfl (s_iload_n rfl) ?_
      refine rr rfl (s_iload_n rfl) ?_
      refine rr rfl (s_icF (ic_ngt g2)) ?_
      refine rr rfl (s_iconst (v := 1) (by decide)) ?_
      refine rr rfl s_goto ?_
      exact rrt rfl rfl rfl rfl
    refine rrc rfl rfl rfl (do_of g_X9_in rfl rfl e2) ?_
    exact rrt rfl rfl rfl rfl
  refine rrc rfl rfl rfl (do_of g_X9_isHost rfl rfl e1) ?_
  refine rr rfl (s_ifF (by decide)) ?_
  refine rr rfl (s_iload_n rfl) ?_
  have e3 : a_m MT [] 100000 10 miX9_isFact [.int y] hF = some ((some (.int 1)), hF, 0, 0) := by
    refine me (d := 9) g_X9_isFact (Nat.le_of_ble_eq_true rfl) ?_
    refine rr rfl (s_iload_n rfl) ?_
    refine rr rfl (s_iconst (v := 0) (by decide)) ?_
    refine rr rfl (s_bipush (v := 7) (by decide)) ?_
    have e4 : a_m MT [] 100000 9 miX9_in [.int y, .int 0, .int 7] hF = some ((some (.int 1)), hF, 0, 0) := by
      refine me (d := 8) g_X9_in (Nat.le_of_ble_eq_true rfl) ?_
      refine rr rfl (s_iload_n rfl) ?_
      refine rr rfl (s_iload_n rfl) ?_
      refine rr rfl (s_icF (ic_nlt g3)) ?_
      refine rr rfl (s_iload_n rfl) ?_
      refine rr rfl (s_iload_n rfl) ?_
      refine rr rfl (s_icF (ic_ngt g4)) ?_
      refine rr rfl (s_iconst (v := 1) (by decide)) ?_
      refine rr rfl s_goto ?_
      exact rrt rfl rfl rfl rfl
    refine rrc rfl rfl rfl (do_of g_X9_in rfl rfl e4) ?_
    exact rrt rfl rfl rfl rfl
  refine rrc rfl rfl rfl (do_of g_X9_isFact rfl rfl e3) ?_
  refine rr rfl (s_ifF (by decide)) ?_
  refine rr rfl (s_iload_n rfl) ?_
  have e5 : a_m MT [] 100000 10 miX9_isHost [.int z] hF = some ((some (.int 1)), hF, 0, 0) := by
    refine me (d := 9) g_X9_isHost (Nat.le_of_ble_eq_true rfl) ?_
    refine rr rfl (s_iload_n rfl) ?_
    refine rr rfl (s_iconst (v := 0) (by decide)) ?_
    refine rr rfl (s_iconst (v := 3) (by decide)) ?_
    have e6 : a_m MT [] 100000 9 miX9_in [.int z, .int 0, .int 3] hF = some ((some (.int 1)), hF, 0, 0) := by
      refine me (d := 8) g_X9_in (Nat.le_of_ble_eq_true rfl) ?_
      refine rr rfl (s_iload_n rfl) ?_
      refine rr rfl (s_iload_n rfl) ?_
      refine rr rfl (s_icF (ic_nlt g5)) ?_
      refine rr rfl (s_iload_n rfl) ?_
      refine rr rfl (s_iload_n rfl) ?_
      refine rr rfl (s_icF (ic_ngt g6)) ?_
      refine rr rfl (s_iconst (v := 1) (by decide)) ?_
      refine rr rfl s_goto ?_
      exact rrt rfl rfl rfl rfl
    refine rrc rfl rfl rfl (do_of g_X9_in rfl rfl e6) ?_
    exact rrt rfl rfl rfl rfl
  refine rrc rfl rfl rfl (do_of g_X9_isHost rfl rfl e5) ?_
  refine rr rfl (s_ifF (by decide)) ?_
  refine rr rfl (s_iload rfl) ?_
  have e7 : a_m MT [] 100000 10 miX9_isFact [.int w] hF = some ((some (.int 0)), hF, 0, 0) := by
    refine me (d := 9) g_X9_isFact (Nat.le_of_ble_eq_true rfl) ?_
    refine rr rfl (s_iload_n rfl) ?_
    refine rr rfl (s_iconst (v := 0) (by decide)) ?_
    refine rr rfl (s_bipush (v := 7) (by decide)) ?_
    have e8 : a_m MT [] 100000 9 miX9_in [.int w, .int 0, .int 7] hF = some ((some (.int 0)), hF, 0, 0) := by
      refine me (d := 8) g_X9_in (Nat.le_of_ble_eq_true rfl) ?_
      refine rr rfl (s_iload_n rfl) ?_
      refine rr rfl (s_iload_n rfl) ?_
      refine rr rfl (s_icF (ic_nlt g7)) ?_
      refine rr rfl (s_iload_n rfl) ?_
      refine rr rfl (s_iload_n rfl) ?_
      refine rr rfl (s_icT (ic_gt g8)) ?_
      refine rr rfl (s_iconst (v := 0) (by decide)) ?_
      exact rrt rfl rfl rfl rfl
    refine rrc rfl rfl rfl (do_of g_X9_in rfl rfl e8) ?_
    exact rrt rfl rfl rfl rfl
  refine rrc rfl rfl rfl (do_of g_X9_isFact rfl rfl e7) ?_
  refine rr rfl (s_ifF (by decide)) ?_
  refine rr rfl (s_iconst (v := (-1)) (by decide)) ?_
  exact rrt rfl rfl rfl rfl
theorem ag_promise_wbig {x y z w : Int32} (px : ¬ x < 0) (qx : x ≤ 3) (py : ¬ y < 0) (qy : y ≤ 7) (pz : ¬ z < 0) (qz : z ≤ 3) (pw : ¬ w < 0) (ow : 7 < w) : Agree miX8_promise miX9_promise [.int x, .int y, .int z, .int w] := ⟨(-1), hF, hF, 0, 0, 0, 0, tx_promise_wbig px (by simp only [Int32.lt_iff_toInt_lt, Int32.le_iff_toInt_le, kk_0, kk_1, kk_2, kk_3, kk_4, kk_5, kk_6, kk_7, kk_8] at px qx ⊢; omega) py (by simp only [Int32.lt_iff_toInt_lt, Int32.le_iff_toInt_le, kk_0, kk_1, kk_2, kk_3, kk_4, kk_5, kk_6, kk_7, kk_8] at py qy ⊢; omega) pz (by simp only [Int32.lt_iff_toInt_lt, Int32.le_iff_toInt_le, kk_0, kk_1, kk_2, kk_3, kk_4, kk_5, kk_6, kk_7, kk_8] at pz qz ⊢; omega) pw (by simp only [Int32.lt_iff_toInt_lt, Int32.le_iff_toInt_le, kk_0, kk_1, kk_2, kk_3, kk_4, kk_5, kk_6, kk_7, kk_8] at pw ow ⊢; omega), tm_promise_wbig px (by simp only [Int32.lt_iff_toInt_lt, Int32.le_iff_toInt_le, kk_0, kk_1, kk_2, kk_3, kk_4, kk_5, kk_6, kk_7, kk_8] at px qx ⊢; omega) py (by simp only [Int32.lt_iff_toInt_lt, Int32.le_iff_toInt_le, kk_0, kk_1, kk_2, kk_3, kk_4, kk_5, kk_6, kk_7, kk_8] at py qy ⊢; omega) pz (by simp only [Int32.lt_iff_toInt_lt, Int32.le_iff_toInt_le, kk_0, kk_1, kk_2, kk_3, kk_4, kk_5, kk_6, kk_7, kk_8] at pz qz ⊢; omega) pw ow, by decide, by decide, rfl⟩
theorem al_promise (x y z w : Int32) : Agree miX8_promise miX9_promise [.int x, .int y, .int z, .int w] := by
  by_cases nx : x < 0
  · exact ag_promise_xneg  nx
  by_cases qx : x ≤ 3
  rotate_left
  · exact ag_promise_xbig  nx (Int32.not_le.mp qx)
  have px := nx
  by_cases ny : y < 0
  · exact ag_promise_yneg px qx ny
  by_cases qy : y ≤ 7
  rotate_left
  · exact ag_promise_ybig px qx ny (Int32.not_le.mp qy)
  have py := ny
  by_cases nz : z < 0
  · exact ag_promise_zneg px qx py qy nz
  by_cases qz : z ≤ 3
  rotate_left
  · exact ag_promise_zbig px qx py qy nz (Int32.not_le.mp qz)
  have pz := nz
  by_cases nw : w < 0
  · exact ag_promise_wneg px qx py qy pz qz nw
  by_cases qw : w ≤ 7
  rotate_left
  · exact ag_promise_wbig px qx py qy pz qz nw (Int32.not_le.mp qw)
  have pw := nw
  obtain ⟨jx, lx, rfl⟩ := nI_of2 (M := 3) (n := 3) rfl px qx
  obtain ⟨jy, ly, rfl⟩ := nI_of2 (M := 7) (n := 7) rfl py qy
  obtain ⟨jz, lz, rfl⟩ := nI_of2 (M := 3) (n := 3) rfl pz qz
  obtain ⟨jw, lw, rfl⟩ := nI_of2 (M := 7) (n := 7) rfl pw qw
  exact ⟨_, _, _, 0, 0, 0, 0, tx_promise_in (fc_promise_0 jx lx) (fc_promise_1 jx lx) (fc_promise_2 jy ly) (fc_promise_3 jy ly) (fc_promise_4 jz lz) (fc_promise_5 jz lz) (fc_promise_6 jw lw) (fc_promise_7 jw lw), tm_promise_in (fc_promise_0 jx lx) (fc_promise_8 jx lx) (fc_promise_2 jy ly) (fc_promise_9 jy ly) (fc_promise_4 jz lz) (fc_promise_10 jz lz) (fc_promise_6 jw lw) (fc_promise_11 jw lw), by decide, by decide, rfl⟩
theorem tx_facts_in {x y : Int32} (g1 : ¬ x < 0) (g2 : ¬ 4 ≤ x) (g3 : ¬ y < 0) (g4 : ¬ 4 < y) (g5 : y < 7) : a_m MT [] 100000 11 miX8_facts [.ref 0, .int x, .int y] hF = some (some (.int 0), hR, 0, 0) := by
  refine me (d := 10) g_X8_facts (Nat.le_of_ble_eq_true rfl) ?_
  refine rr rfl (s_iload_n rfl) ?_
  have e1 : a_m MT [] 100000 10 miX8_isHost [.int x] hF = some ((some (.int 1)), hF, 0, 0) := by
    refine me (d := 9) g_X8_isHost (Nat.le_of_ble_eq_true rfl) ?_
    refine rr rfl (s_iload_n rfl) ?_
    refine rr rfl (s_ifF (ic_nlt g1)) ?_
    refine rr rfl (s_iload_n rfl) ?_
    refine rr rfl (s_iconst (v := 4) (by decide)) ?_
    refine rr rfl (s_icF (ic_nge g2)) ?_
    refine rr rfl (s_iconst (v := 1) (by decide)) ?_
    refine rr rfl s_goto ?_
    exact rrt rfl rfl rfl rfl
  refine rrc rfl rfl rfl (do_of g_X8_isHost rfl rfl e1) ?_
  refine rr rfl (s_ifF (by decide)) ?_
  refine rr rfl (s_aload_n rfl) ?_
  refine rr rfl (s_iload_n rfl) ?_
  have e2 : a_m MT [] 100000 10 miX8_isTick [.ref 0, .int y] hF = some ((some (.int 1)), hF, 0, 0) := by
    refine me (d := 9) g_X8_isTick (Nat.le_of_ble_eq_true rfl) ?_
    refine rr rfl (s_iload_n rfl) ?_
    refine rr rfl (s_ifF (ic_nlt g3)) ?_
    refine rr rfl (s_iload_n rfl) ?_
    refine rr rfl (s_aload_n rfl) ?_
    refine rr rfl (s_getf rfl rfl) ?_
    refine rr rfl (s_getf rfl rfl) ?_
    refine rr rfl (s_icF (ic_ngt g4)) ?_
    refine rr rfl (s_iconst (v := 1) (by decide)) ?_
    refine rr rfl s_goto ?_
    exact rrt rfl rfl rfl rfl
  refine rrc rfl rfl rfl (do_of g_X8_isTick rfl rfl e2) ?_
  refine rr rfl (s_ifT (by decide)) ?_
  refine rr rfl (s_aload_n rfl) ?_
  have e3 := ev_runHand
  refine rrc rfl rfl rfl (do_of g_X8_runHand rfl rfl e3) ?_
  refine rr rfl (s_aload_n rfl) ?_
  refine rr rfl (s_getf rfl rfl) ?_
  refine rr rfl (s_iload_n rfl) ?_
  refine rr rfl (s_iload_n rfl) ?_
  have e4 : a_m MT [] 100000 10 miX4_factsOf [.ref 33, .int x, .int y] hR = some ((some (.int 0)), hR, 0, 0) := by
    refine me (d := 9) g_X4_factsOf (Nat.le_of_ble_eq_true rfl) ?_
    refine rr rfl (s_aload_n rfl) ?_
    refine rr rfl (s_getf rfl rfl) ?_
    refine rr rfl (s_iload_n rfl) ?_
    refine rr rfl (s_ialdR (n := 7) (x := 0) rfl g3 (nI_lt_of g5)) ?_
    refine rr rfl (s_iload_n rfl) ?_
    have e5 : a_m MT [] 100000 9 miX4_share [.int 0, .int x] hR = some ((some (.int 0)), hR, 0, 0) := by
      refine me (d := 8) g_X4_share (Nat.le_of_ble_eq_true rfl) ?_
      refine rr rfl (s_iload_n rfl) ?_
      refine rr rfl (s_bipush (v := 8) (by decide)) ?_
      refine rr rfl (s_iload_n rfl) ?_
      refine rr rfl (s_imul rfl) ?_
      refine rr rfl (s_ishr (v := 0) z_ishr) ?_
      refine rr rfl (s_sipush (v := 255) (by decide)) ?_
      refine rr rfl (s_iand (v := 0) (by decide)) ?_
      exact rrt rfl rfl rfl rfl
    refine rrc rfl rfl rfl (do_of g_X4_share rfl rfl e5) ?_
    exact rrt rfl rfl rfl rfl
  refine rrc rfl rfl rfl (do_of g_X4_factsOf rfl rfl e4) ?_
  exact rrt rfl rfl rfl rfl
theorem tm_facts_in {x y : Int32} (g1 : ¬ x < 0) (g2 : ¬ 3 < x) (g3 : ¬ y < 0) (g4 : ¬ 4 < y) (g5 : ¬ ((4 * y) + x) < 0) (g6 : ((4 * y) + x) < 28) : a_m MT [] 100000 11 miX9_facts [.ref 41, .int x, .int y] hR = some (some (.int 0), hU, 0, 0) := by
  refine me (d := 10) g_X9_facts (Nat.le_of_ble_eq_true rfl) ?_
  refine rr rfl (s_iload_n rfl) ?_
  have e1 : a_m MT [] 100000 10 miX9_isHost [.int x] hR = some ((some (.int 1)), hR, 0, 0) := by
    refine me (d := 9) g_X9_isHost (Nat.le_of_ble_eq_true rfl) ?_
    refine rr rfl (s_iload_n rfl) ?_
    refine rr rfl (s_iconst (v := 0) (by decide)) ?_
    refine rr rfl (s_iconst (v := 3) (by decide)) ?_
    have e2 : a_m MT [] 100000 9 miX9_in [.int x, .int 0, .int 3] hR = some ((some (.int 1)), hR, 0, 0) := by
      refine me (d := 8) g_X9_in (Nat.le_of_ble_eq_true rfl) ?_
      refine rr rfl (s_iload_n rfl) ?_
      refine rr rfl (s_iload_n rfl) ?_
      refine rr rfl (s_icF (ic_nlt g1)) ?_
      refine rr rfl (s_iload_n rfl) ?_
      refine rr rfl (s_iload_n rfl) ?_
      refine rr rfl (s_icF (ic_ngt g2)) ?_
      refine rr rfl (s_iconst (v := 1) (by decide)) ?_
      refine rr rfl s_goto ?_
      exact rrt rfl rfl rfl rfl
    refine rrc rfl rfl rfl (do_of g_X9_in rfl rfl e2) ?_
    exact rrt rfl rfl rfl rfl
  refine rrc rfl rfl rfl (do_of g_X9_isHost rfl rfl e1) ?_
  refine rr rfl (s_ifF (by decide)) ?_
  refine rr rfl (s_aload_n rfl) ?_
  refine rr rfl (s_iload_n rfl) ?_
  have e3 : a_m MT [] 100000 10 miX9_isTick [.ref 41, .int y] hR = some ((some (.int 1)), hR, 0, 0) := by
    refine me (d := 9) g_X9_isTick (Nat.le_of_ble_eq_true rfl) ?_
    refine rr rfl (s_iload_n rfl) ?_
    refine rr rfl (s_iconst (v := 0) (by decide)) ?_
    refine rr rfl (s_aload_n rfl) ?_
    refine rr rfl (s_getf rfl rfl) ?_
    have e4 : a_m MT [] 100000 9 miX9_in [.int y, .int 0, .int 4] hR = some ((some (.int 1)), hR, 0, 0) := by
      refine me (d := 8) g_X9_in (Nat.le_of_ble_eq_true rfl) ?_
      refine rr rfl (s_iload_n rfl) ?_
      refine rr rfl (s_iload_n rfl) ?_
      refine rr rfl (s_icF (ic_nlt g3)) ?_
      refine rr rfl (s_iload_n rfl) ?_
      refine rr rfl (s_iload_n rfl) ?_
      refine rr rfl (s_icF (ic_ngt g4)) ?_
      refine rr rfl (s_iconst (v := 1) (by decide)) ?_
      refine rr rfl s_goto ?_
      exact rrt rfl rfl rfl rfl
    refine rrc rfl rfl rfl (do_of g_X9_in rfl rfl e4) ?_
    exact rrt rfl rfl rfl rfl
  refine rrc rfl rfl rfl (do_of g_X9_isTick rfl rfl e3) ?_
  refine rr rfl (s_ifT (by decide)) ?_
  refine rr rfl (s_aload_n rfl) ?_
  have e5 := ev_takesHand
  refine rrc rfl rfl rfl (do_of g_X9_takesHand rfl rfl e5) ?_
  refine rr rfl (s_aload_n rfl) ?_
  have e6 := ev_runs
  refine rrc rfl rfl rfl (do_of g_X9_runs rfl rfl e6) ?_
  refine rr rfl (s_aload_n rfl) ?_
  refine rr rfl (s_getf rfl rfl) ?_
  refine rr rfl (s_iconst (v := 4) (by decide)) ?_
  refine rr rfl (s_iload_n rfl) ?_
  refine rr rfl (s_imul rfl) ?_
  refine rr rfl (s_iload_n rfl) ?_
  refine rr rfl (s_iadd rfl) ?_
  refine rr rfl (s_ialdR (n := 28) (x := 0) rfl g5 (nI_lt_of g6)) ?_
  exact rrt rfl rfl rfl rfl
theorem tx_facts_xneg {x y : Int32} (g1 : x < 0) : a_m MT [] 100000 11 miX8_facts [.ref 0, .int x, .int y] hF = some (some (.int (-1)), hF, 0, 0) := by
  refine me (d := 10) g_X8_facts (Nat.le_of_ble_eq_true rfl) ?_
  refine rr rfl (s_iload_n rfl) ?_
  have e1 : a_m MT [] 100000 10 miX8_isHost [.int x] hF = some ((some (.int 0)), hF, 0, 0) := by
    refine me (d := 9) g_X8_isHost (Nat.le_of_ble_eq_true rfl) ?_
    refine rr rfl (s_iload_n rfl) ?_
    refine rr rfl (s_ifT (ic_lt g1)) ?_
    refine rr rfl (s_iconst (v := 0) (by decide)) ?_
    exact rrt rfl rfl rfl rfl
  refine rrc rfl rfl rfl (do_of g_X8_isHost rfl rfl e1) ?_
  refine rr rfl (s_ifT (by decide)) ?_
  refine rr rfl (s_iconst (v := (-1)) (by decide)) ?_
  exact rrt rfl rfl rfl rfl
theorem tm_facts_xneg {x y : Int32} (g1 : x < 0) : a_m MT [] 100000 11 miX9_facts [.ref 41, .int x, .int y] hF = some (some (.int (-1)), hF, 0, 0) := by
  refine me (d := 10) g_X9_facts (Nat.le_of_ble_eq_true rfl) ?_
  refine rr rfl (s_iload_n rfl) ?_
  have e1 : a_m MT [] 100000 10 miX9_isHost [.int x] hF = some ((some (.int 0)), hF, 0, 0) := by
    refine me (d := 9) g_X9_isHost (Nat.le_of_ble_eq_true rfl) ?_
    refine rr rfl (s_iload_n rfl) ?_
    refine rr rfl (s_iconst (v := 0) (by decide)) ?_
    refine rr rfl (s_iconst (v := 3) (by decide)) ?_
    have e2 : a_m MT [] 100000 9 miX9_in [.int x, .int 0, .int 3] hF = some ((some (.int 0)), hF, 0, 0) := by
      refine me (d := 8) g_X9_in (Nat.le_of_ble_eq_true rfl) ?_
      refine rr rfl (s_iload_n rfl) ?_
      refine rr rfl (s_iload_n rfl) ?_
      refine rr rfl (s_icT (ic_lt g1)) ?_
      refine rr rfl (s_iconst (v := 0) (by decide)) ?_
      exact rrt rfl rfl rfl rfl
    refine rrc rfl rfl rfl (do_of g_X9_in rfl rfl e2) ?_
    exact rrt rfl rfl rfl rfl
  refine rrc rfl rfl rfl (do_of g_X9_isHost rfl rfl e1) ?_
  refine rr rfl (s_ifT (by decide)) ?_
  refine rr rfl (s_iconst (v := (-1)) (by decide)) ?_
  exact rrt rfl rfl rfl rfl
theorem ag_facts_xneg {x y : Int32} (nx : x < 0) : Agree miX8_facts miX9_facts [.int x, .int y] := ⟨(-1), hF, hF, 0, 0, 0, 0, tx_facts_xneg nx, tm_facts_xneg nx, by decide, by decide, rfl⟩
theorem tx_facts_xbig {x y : Int32} (g1 : ¬ x < 0) (g2 : 4 ≤ x) : a_m MT [] 100000 11 miX8_facts [.ref 0, .int x, .int y] hF = some (some (.int (-1)), hF, 0, 0) := by
  refine me (d := 10) g_X8_facts (Nat.le_of_ble_eq_true rfl) ?_
  refine rr rfl (s_iload_n rfl) ?_
  have e1 : a_m MT [] 100000 10 miX8_isHost [.int x] hF = some ((some (.int 0)), hF, 0, 0) := by
    refine me (d := 9) g_X8_isHost (Nat.le_of_ble_eq_true rfl) ?_
    refine rr rfl (s_iload_n rfl) ?_
    refine rr rfl (s_ifF (ic_nlt g1)) ?_
    refine rr rfl (s_iload_n rfl) ?_
    refine rr rfl (s_iconst (v := 4) (by decide)) ?_
    refine rr rfl (s_icT (ic_ge g2)) ?_
    refine rr rfl (s_iconst (v := 0) (by decide)) ?_
    exact rrt rfl rfl rfl rfl
  refine rrc rfl rfl rfl (do_of g_X8_isHost rfl rfl e1) ?_
  refine rr rfl (s_ifT (by decide)) ?_
  refine rr rfl (s_iconst (v := (-1)) (by decide)) ?_
  exact rrt rfl rfl rfl rfl
theorem tm_facts_xbig {x y : Int32} (g1 : ¬ x < 0) (g2 : 3 < x) : a_m MT [] 100000 11 miX9_facts [.ref 41, .int x, .int y] hF = some (some (.int (-1)), hF, 0, 0) := by
  refine me (d := 10) g_X9_facts (Nat.le_of_ble_eq_true rfl) ?_
  refine rr rfl (s_iload_n rfl) ?_
  have e1 : a_m MT [] 100000 10 miX9_isHost [.int x] hF = some ((some (.int 0)), hF, 0, 0) := by
    refine me (d := 9) g_X9_isHost (Nat.le_of_ble_eq_true rfl) ?_
    refine rr rfl (s_iload_n rfl) ?_
    refine rr rfl (s_iconst (v := 0) (by decide)) ?_
    refine rr rfl (s_iconst (v := 3) (by decide)) ?_
    have e2 : a_m MT [] 100000 9 miX9_in [.int x, .int 0, .int 3] hF = some ((some (.int 0)), hF, 0, 0) := by
      refine me (d := 8) g_X9_in (Nat.le_of_ble_eq_true rfl) ?_
      refine rr rfl (s_iload_n rfl) ?_
      refine rr rfl (s_iload_n rfl) ?_
      refine rr rfl (s_icF (ic_nlt g1)) ?_
      refine rr rfl (s_iload_n rfl) ?_
      refine rr rfl (s_iload_n rfl) ?_
      refine rr rfl (s_icT (ic_gt g2)) ?_
      refine rr rfl (s_iconst (v := 0) (by decide)) ?_
      exact rrt rfl rfl rfl rfl
    refine rrc rfl rfl rfl (do_of g_X9_in rfl rfl e2) ?_
    exact rrt rfl rfl rfl rfl
  refine rrc rfl rfl rfl (do_of g_X9_isHost rfl rfl e1) ?_
  refine rr rfl (s_ifT (by decide)) ?_
  refine rr rfl (s_iconst (v := (-1)) (by decide)) ?_
  exact rrt rfl rfl rfl rfl
theorem ag_facts_xbig {x y : Int32} (px : ¬ x < 0) (ox : 3 < x) : Agree miX8_facts miX9_facts [.int x, .int y] := ⟨(-1), hF, hF, 0, 0, 0, 0, tx_facts_xbig px (by simp only [Int32.lt_iff_toInt_lt, Int32.le_iff_toInt_le, kk_0, kk_1, kk_2, kk_3, kk_4, kk_5, kk_6, kk_7, kk_8] at px ox ⊢; omega), tm_facts_xbig px ox, by decide, by decide, rfl⟩
theorem tx_facts_yneg {x y : Int32} (g1 : ¬ x < 0) (g2 : ¬ 4 ≤ x) (g3 : y < 0) : a_m MT [] 100000 11 miX8_facts [.ref 0, .int x, .int y] hF = some (some (.int (-1)), hF, 0, 0) := by
  refine me (d := 10) g_X8_facts (Nat.le_of_ble_eq_true rfl) ?_
  refine rr rfl (s_iload_n rfl) ?_
  have e1 : a_m MT [] 100000 10 miX8_isHost [.int x] hF = some ((some (.int 1)), hF, 0, 0) := by
    refine me (d := 9) g_X8_isHost (Nat.le_of_ble_eq_true rfl) ?_
    refine rr rfl (s_iload_n rfl) ?_
    refine rr rfl (s_ifF (ic_nlt g1)) ?_
    refine rr rfl (s_iload_n rfl) ?_
    refine rr rfl (s_iconst (v := 4) (by decide)) ?_
    refine rr rfl (s_icF (ic_nge g2)) ?_
    refine rr rfl (s_iconst (v := 1) (by decide)) ?_
    refine rr rfl s_goto ?_
    exact rrt rfl rfl rfl rfl
  refine rrc rfl rfl rfl (do_of g_X8_isHost rfl rfl e1) ?_
  refine rr rfl (s_ifF (by decide)) ?_
  refine rr rfl (s_aload_n rfl) ?_
  refine rr rfl (s_iload_n rfl) ?_
  have e2 : a_m MT [] 100000 10 miX8_isTick [.ref 0, .int y] hF = some ((some (.int 0)), hF, 0, 0) := by
    refine me (d := 9) g_X8_isTick (Nat.le_of_ble_eq_true rfl) ?_
    refine rr rfl (s_iload_n rfl) ?_
    refine rr rfl (s_ifT (ic_lt g3)) ?_
    refine rr rfl (s_iconst (v := 0) (by decide)) ?_
    exact rrt rfl rfl rfl rfl
  refine rrc rfl rfl rfl (do_of g_X8_isTick rfl rfl e2) ?_
  refine rr rfl (s_ifF (by decide)) ?_
  refine rr rfl (s_iconst (v := (-1)) (by decide)) ?_
  exact rrt rfl rfl rfl rfl
theorem tm_facts_yneg {x y : Int32} (g1 : ¬ x < 0) (g2 : ¬ 3 < x) (g3 : y < 0) : a_m MT [] 100000 11 miX9_facts [.ref 41, .int x, .int y] hF = some (some (.int (-1)), hF, 0, 0) := by
  refine me (d := 10) g_X9_facts (Nat.le_of_ble_eq_true rfl) ?_
  refine rr rfl (s_iload_n rfl) ?_
  have e1 : a_m MT [] 100000 10 miX9_isHost [.int x] hF = some ((some (.int 1)), hF, 0, 0) := by
    refine me (d := 9) g_X9_isHost (Nat.le_of_ble_eq_true rfl) ?_
    refine rr rfl (s_iload_n rfl) ?_
    refine rr rfl (s_iconst (v := 0) (by decide)) ?_
    refine rr rfl (s_iconst (v := 3) (by decide)) ?_
    have e2 : a_m MT [] 100000 9 miX9_in [.int x, .int 0, .int 3] hF = some ((some (.int 1)), hF, 0, 0) := by
      refine me (d := 8) g_X9_in (Nat.le_of_ble_eq_true rfl) ?_
      refine rr rfl (s_iload_n rfl) ?_
      refine rr rfl (s_iload_n rfl) ?_
      refine rr rfl (s_icF (ic_nlt g1)) ?_
      refine rr rfl (s_iload_n rfl) ?_
      refine rr rfl (s_iload_n rfl) ?_
      refine rr rfl (s_icF (ic_ngt g2)) ?_
      refine rr rfl (s_iconst (v := 1) (by decide)) ?_
      refine rr rfl s_goto ?_
      exact rrt rfl rfl rfl rfl
    refine rrc rfl rfl rfl (do_of g_X9_in rfl rfl e2) ?_
    exact rrt rfl rfl rfl rfl
  refine rrc rfl rfl rfl (do_of g_X9_isHost rfl rfl e1) ?_
  refine rr rfl (s_ifF (by decide)) ?_
  refine rr rfl (s_aload_n rfl) ?_
  refine rr rfl (s_iload_n rfl) ?_
  have e3 : a_m MT [] 100000 10 miX9_isTick [.ref 41, .int y] hF = some ((some (.int 0)), hF, 0, 0) := by
    refine me (d := 9) g_X9_isTick (Nat.le_of_ble_eq_true rfl) ?_
    refine rr rfl (s_iload_n rfl) ?_
    refine rr rfl (s_iconst (v := 0) (by decide)) ?_
    refine rr rfl (s_aload_n rfl) ?_
    refine rr rfl (s_getf rfl rfl) ?_
    have e4 : a_m MT [] 100000 9 miX9_in [.int y, .int 0, .int 4] hF = some ((some (.int 0)), hF, 0, 0) := by
      refine me (d := 8) g_X9_in (Nat.le_of_ble_eq_true rfl) ?_
      refine rr rfl (s_iload_n rfl) ?_
      refine rr rfl (s_iload_n rfl) ?_
      refine rr rfl (s_icT (ic_lt g3)) ?_
      refine rr rfl (s_iconst (v := 0) (by decide)) ?_
      exact rrt rfl rfl rfl rfl
    refine rrc rfl rfl rfl (do_of g_X9_in rfl rfl e4) ?_
    exact rrt rfl rfl rfl rfl
  refine rrc rfl rfl rfl (do_of g_X9_isTick rfl rfl e3) ?_
  refine rr rfl (s_ifF (by decide)) ?_
  refine rr rfl (s_iconst (v := (-1)) (by decide)) ?_
  exact rrt rfl rfl rfl rfl
theorem ag_facts_yneg {x y : Int32} (px : ¬ x < 0) (qx : x ≤ 3) (ny : y < 0) : Agree miX8_facts miX9_facts [.int x, .int y] := ⟨(-1), hF, hF, 0, 0, 0, 0, tx_facts_yneg px (by simp only [Int32.lt_iff_toInt_lt, Int32.le_iff_toInt_le, kk_0, kk_1, kk_2, kk_3, kk_4, kk_5, kk_6, kk_7, kk_8] at px qx ⊢; omega) ny, tm_facts_yneg px (by simp only [Int32.lt_iff_toInt_lt, Int32.le_iff_toInt_le, kk_0, kk_1, kk_2, kk_3, kk_4, kk_5, kk_6, kk_7, kk_8] at px qx ⊢; omega) ny, by decide, by decide, rfl⟩
theorem tx_facts_ybig {x y : Int32} (g1 : ¬ x < 0) (g2 : ¬ 4 ≤ x) (g3 : ¬ y < 0) (g4 : 4 < y) : a_m MT [] 100000 11 miX8_facts [.ref 0, .int x, .int y] hF = some (some (.int (-1)), hF, 0, 0) := by
  refine me (d := 10) g_X8_facts (Nat.le_of_ble_eq_true rfl) ?_
  refine rr rfl (s_iload_n rfl) ?_
  have e1 : a_m MT [] 100000 10 miX8_isHost [.int x] hF = some ((some (.int 1)), hF, 0, 0) := by
    refine me (d := 9) g_X8_isHost (Nat.le_of_ble_eq_true rfl) ?_
    refine rr rfl (s_iload_n rfl) ?_
    refine rr rfl (s_ifF (ic_nlt g1)) ?_
    refine rr rfl (s_iload_n rfl) ?_
    refine rr rfl (s_iconst (v := 4) (by decide)) ?_
    refine rr rfl (s_icF (ic_nge g2)) ?_
    refine rr rfl (s_iconst (v := 1) (by decide)) ?_
    refine rr rfl s_goto ?_
    exact rrt rfl rfl rfl rfl
  refine rrc rfl rfl rfl (do_of g_X8_isHost rfl rfl e1) ?_
  refine rr rfl (s_ifF (by decide)) ?_
  refine rr rfl (s_aload_n rfl) ?_
  refine rr rfl (s_iload_n rfl) ?_
  have e2 : a_m MT [] 100000 10 miX8_isTick [.ref 0, .int y] hF = some ((some (.int 0)), hF, 0, 0) := by
    refine me (d := 9) g_X8_isTick (Nat.le_of_ble_eq_true rfl) ?_
    refine rr rfl (s_iload_n rfl) ?_
    refine rr rfl (s_ifF (ic_nlt g3)) ?_
    refine rr rfl (s_iload_n rfl) ?_
    refine rr rfl (s_aload_n rfl) ?_
    refine rr rfl (s_getf rfl rfl) ?_
    refine rr rfl (s_getf rfl rfl) ?_
    refine rr rfl (s_icT (ic_gt g4)) ?_
    refine rr rfl (s_iconst (v := 0) (by decide)) ?_
    exact rrt rfl rfl rfl rfl
  refine rrc rfl rfl rfl (do_of g_X8_isTick rfl rfl e2) ?_
  refine rr rfl (s_ifF (by decide)) ?_
  refine rr rfl (s_iconst (v := (-1)) (by decide)) ?_
  exact rrt rfl rfl rfl rfl
theorem tm_facts_ybig {x y : Int32} (g1 : ¬ x < 0) (g2 : ¬ 3 < x) (g3 : ¬ y < 0) (g4 : 4 < y) : a_m MT [] 100000 11 miX9_facts [.ref 41, .int x, .int y] hF = some (some (.int (-1)), hF, 0, 0) := by
  refine me (d := 10) g_X9_facts (Nat.le_of_ble_eq_true rfl) ?_
  refine rr rfl (s_iload_n rfl) ?_
  have e1 : a_m MT [] 100000 10 miX9_isHost [.int x] hF = some ((some (.int 1)), hF, 0, 0) := by
    refine me (d := 9) g_X9_isHost (Nat.le_of_ble_eq_true rfl) ?_
    refine rr rfl (s_iload_n rfl) ?_
    refine rr rfl (s_iconst (v := 0) (by decide)) ?_
    refine rr rfl (s_iconst (v := 3) (by decide)) ?_
    have e2 : a_m MT [] 100000 9 miX9_in [.int x, .int 0, .int 3] hF = some ((some (.int 1)), hF, 0, 0) := by
      refine me (d := 8) g_X9_in (Nat.le_of_ble_eq_true rfl) ?_
      refine rr rfl (s_iload_n rfl) ?_
      refine rr rfl (s_iload_n rfl) ?_
      refine rr rfl (s_icF (ic_nlt g1)) ?_
      refine rr rfl (s_iload_n rfl) ?_
      refine rr rfl (s_iload_n rfl) ?_
      refine rr rfl (s_icF (ic_ngt g2)) ?_
      refine rr rfl (s_iconst (v := 1) (by decide)) ?_
      refine rr rfl s_goto ?_
      exact rrt rfl rfl rfl rfl
    refine rrc rfl rfl rfl (do_of g_X9_in rfl rfl e2) ?_
    exact rrt rfl rfl rfl rfl
  refine rrc rfl rfl rfl (do_of g_X9_isHost rfl rfl e1) ?_
  refine rr rfl (s_ifF (by decide)) ?_
  refine rr rfl (s_aload_n rfl) ?_
  refine rr rfl (s_iload_n rfl) ?_
  have e3 : a_m MT [] 100000 10 miX9_isTick [.ref 41, .int y] hF = some ((some (.int 0)), hF, 0, 0) := by
    refine me (d := 9) g_X9_isTick (Nat.le_of_ble_eq_true rfl) ?_
    refine rr rfl (s_iload_n rfl) ?_
    refine rr rfl (s_iconst (v := 0) (by decide)) ?_
    refine rr rfl (s_aload_n rfl) ?_
    refine rr rfl (s_getf rfl rfl) ?_
    have e4 : a_m MT [] 100000 9 miX9_in [.int y, .int 0, .int 4] hF = some ((some (.int 0)), hF, 0, 0) := by
      refine me (d := 8) g_X9_in (Nat.le_of_ble_eq_true rfl) ?_
      refine rr rfl (s_iload_n rfl) ?_
      refine rr rfl (s_iload_n rfl) ?_
      refine rr rfl (s_icF (ic_nlt g3)) ?_
      refine rr rfl (s_iload_n rfl) ?_
      refine rr rfl (s_iload_n rfl) ?_
      refine rr rfl (s_icT (ic_gt g4)) ?_
      refine rr rfl (s_iconst (v := 0) (by decide)) ?_
      exact rrt rfl rfl rfl rfl
    refine rrc rfl rfl rfl (do_of g_X9_in rfl rfl e4) ?_
    exact rrt rfl rfl rfl rfl
  refine rrc rfl rfl rfl (do_of g_X9_isTick rfl rfl e3) ?_
  refine rr rfl (s_ifF (by decide)) ?_
  refine rr rfl (s_iconst (v := (-1)) (by decide)) ?_
  exact rrt rfl rfl rfl rfl
theorem ag_facts_ybig {x y : Int32} (px : ¬ x < 0) (qx : x ≤ 3) (py : ¬ y < 0) (oy : 4 < y) : Agree miX8_facts miX9_facts [.int x, .int y] := ⟨(-1), hF, hF, 0, 0, 0, 0, tx_facts_ybig px (by simp only [Int32.lt_iff_toInt_lt, Int32.le_iff_toInt_le, kk_0, kk_1, kk_2, kk_3, kk_4, kk_5, kk_6, kk_7, kk_8] at px qx ⊢; omega) py oy, tm_facts_ybig px (by simp only [Int32.lt_iff_toInt_lt, Int32.le_iff_toInt_le, kk_0, kk_1, kk_2, kk_3, kk_4, kk_5, kk_6, kk_7, kk_8] at px qx ⊢; omega) py oy, by decide, by decide, rfl⟩
theorem al_facts (x y : Int32) : Agree miX8_facts miX9_facts [.int x, .int y] := by
  by_cases nx : x < 0
  · exact ag_facts_xneg  nx
  by_cases qx : x ≤ 3
  rotate_left
  · exact ag_facts_xbig  nx (Int32.not_le.mp qx)
  have px := nx
  by_cases ny : y < 0
  · exact ag_facts_yneg px qx ny
  by_cases qy : y ≤ 4
  rotate_left
  · exact ag_facts_ybig px qx ny (Int32.not_le.mp qy)
  have py := ny
  obtain ⟨jx, lx, rfl⟩ := nI_of2 (M := 3) (n := 3) rfl px qx
  obtain ⟨jy, ly, rfl⟩ := nI_of2 (M := 4) (n := 4) rfl py qy
  exact ⟨_, _, _, 0, 0, 0, 0, tx_facts_in (fc_facts_0 jx lx) (fc_facts_1 jx lx) (fc_facts_2 jy ly) (fc_facts_3 jy ly) (fc_facts_4 jy ly), tm_facts_in (fc_facts_0 jx lx) (fc_facts_5 jx lx) (fc_facts_2 jy ly) (fc_facts_3 jy ly) (fc_facts_6 jx lx jy ly) (fc_facts_7 jx lx jy ly), by decide, by decide, rfl⟩
theorem tx_letters_in {x y z : Int32} (g1 : ¬ x < 0) (g2 : ¬ 4 < x) (g3 : ¬ y < 0) (g4 : ¬ 4 ≤ y) (g5 : ¬ z < 0) (g6 : ¬ 4 ≤ z) (g7 : ¬ ((4 * x) + y) < 0) (g8 : ((4 * x) + y) < 28) : a_m MT [] 100000 11 miX8_letters [.ref 0, .int x, .int y, .int z] hF = some (some (.int 0), hR, 0, 0) := by
  refine me (d := 10) g_X8_letters (Nat.le_of_ble_eq_true rfl) ?_
  refine rr rfl (s_aload_n rfl) ?_
  refine rr rfl (s_iload_n rfl) ?_
  have e1 : a_m MT [] 100000 10 miX8_isTick [.ref 0, .int x] hF = some ((some (.int 1)), hF, 0, 0) := by
    refine me (d := 9) g_X8_isTick (Nat.le_of_ble_eq_true rfl) ?_
    refine rr rfl (s_iload_n rfl) ?_
    refine rr rfl (s_ifF (ic_nlt g1)) ?_
    refine rr rfl (s_iload_n rfl) ?_
    refine rr rfl (s_aload_n rfl) ?_
    refine rr rfl (s_getf rfl rfl) ?_
    refine rr rfl (s_getf rfl rfl) ?_
    refine rr rfl (s_icF (ic_ngt g2)) ?_
    refine rr rfl (s_iconst (v := 1) (by decide)) ?_
    refine rr rfl s_goto ?_
    exact rrt rfl rfl rfl rfl
  refine rrc rfl rfl rfl (do_of g_X8_isTick rfl rfl e1) ?_
  refine rr rfl (s_ifF (by decide)) ?_
  refine rr rfl (s_iload_n rfl) ?_
  have e2 : a_m MT [] 100000 10 miX8_isHost [.int y] hF = some ((some (.int 1)), hF, 0, 0) := by
    refine me (d := 9) g_X8_isHost (Nat.le_of_ble_eq_true rfl) ?_
    refine rr rfl (s_iload_n rfl) ?_
    refine rr rfl (s_ifF (ic_nlt g3)) ?_
    refine rr rfl (s_iload_n rfl) ?_
    refine rr rfl (s_iconst (v := 4) (by decide)) ?_
    refine rr rfl (s_icF (ic_nge g4)) ?_
    refine rr rfl (s_iconst (v := 1) (by decide)) ?_
    refine rr rfl s_goto ?_
    exact rrt rfl rfl rfl rfl
  refine rrc rfl rfl rfl (do_of g_X8_isHost rfl rfl e2) ?_
  refine rr rfl (s_ifF (by decide)) ?_
  refine rr rfl (s_iload_n rfl) ?_
  have e3 : a_m MT [] 100000 10 miX8_isHost [.int z] hF = some ((some (.int 1)), hF, 0, 0) := by
    refine me (d := 9) g_X8_isHost (Nat.le_of_ble_eq_true rfl) ?_
    refine rr rfl (s_iload_n rfl) ?_
    refine rr rfl (s_ifF (ic_nlt g5)) ?_
    refine rr rfl (s_iload_n rfl) ?_
    refine rr rfl (s_iconst (v := 4) (by decide)) ?_
    refine rr rfl (s_icF (ic_nge g6)) ?_
    refine rr rfl (s_iconst (v := 1) (by decide)) ?_
    refine rr rfl s_goto ?_
    exact rrt rfl rfl rfl rfl
  refine rrc rfl rfl rfl (do_of g_X8_isHost rfl rfl e3) ?_
  refine rr rfl (s_ifT (by decide)) ?_
  refine rr rfl (s_aload_n rfl) ?_
  have e4 := ev_runHand
  refine rrc rfl rfl rfl (do_of g_X8_runHand rfl rfl e4) ?_
  refine rr rfl (s_aload_n rfl) ?_
  refine rr rfl (s_getf rfl rfl) ?_
  refine rr rfl (s_iload_n rfl) ?_
  refine rr rfl (s_iload_n rfl) ?_
  refine rr rfl (s_iload_n rfl) ?_
  have e5 : a_m MT [] 100000 10 miX4_sentFacts [.ref 33, .int x, .int y, .int z] hR = some ((some (.int 0)), hR, 0, 0) := by
    refine me (d := 9) g_X4_sentFacts (Nat.le_of_ble_eq_true rfl) ?_
    refine rr rfl (s_aload_n rfl) ?_
    refine rr rfl (s_getf rfl rfl) ?_
    refine rr rfl (s_iconst (v := 4) (by decide)) ?_
    refine rr rfl (s_iload_n rfl) ?_
    refine rr rfl (s_imul rfl) ?_
    refine rr rfl (s_iload_n rfl) ?_
    refine rr rfl (s_iadd rfl) ?_
    refine rr rfl (s_ialdR (n := 28) (x := 0) rfl g7 (nI_lt_of g8)) ?_
    refine rr rfl (s_iload_n rfl) ?_
    have e6 : a_m MT [] 100000 9 miX4_share [.int 0, .int z] hR = some ((some (.int 0)), hR, 0, 0) := by
      refine me (d := 8) g_X4_share (Nat.le_of_ble_eq_true rfl) ?_
      refine rr rfl (s_iload_n rfl) ?_
      refine rr rfl (s_bipush (v := 8) (by decide)) ?_
      refine rr rfl (s_iload_n rfl) ?_
      refine rr rfl (s_imul rfl) ?_
      refine rr rfl (s_ishr (v := 0) z_ishr) ?_
      refine rr rfl (s_sipush (v := 255) (by decide)) ?_
      refine rr rfl (s_iand (v := 0) (by decide)) ?_
      exact rrt rfl rfl rfl rfl
    refine rrc rfl rfl rfl (do_of g_X4_share rfl rfl e6) ?_
    exact rrt rfl rfl rfl rfl
  refine rrc rfl rfl rfl (do_of g_X4_sentFacts rfl rfl e5) ?_
  have e7 : a_m MT [] 100000 10 miJ6_bitCount_0f7a4 [.int 0] hR = some ((some (.int 0)), hR, 0, 0) := by
    refine me (d := 9) g_J6_bitCount_0f7a4 (Nat.le_of_ble_eq_true rfl) ?_
    refine rr rfl (s_iload_n rfl) ?_
    refine rr rfl (s_iload_n rfl) ?_
    refine rr rfl (s_iconst (v := 1) (by decide)) ?_
    refine rr rfl (s_iushr (v := 0) (by decide)) ?_
    refine rr rfl (s_ldc_w (v := 1431655765) (by decide)) ?_
    refine rr rfl (s_iand (v := 0) (by decide)) ?_
    refine rr rfl (s_isub (v := 0) (by decide)) ?_
    refine rr rfl (s_istore_n rfl) ?_
    refine rr rfl (s_iload_n rfl) ?_
    refine rr rfl (s_ldc_w (v := 858993459) (by decide)) ?_
    refine rr rfl (s_iand (v := 0) (by decide)) ?_
    refine rr rfl (s_iload_n rfl) ?_
    refine rr rfl (s_iconst (v := 2) (by decide)) ?_
    refine rr rfl (s_iushr (v := 0) (by decide)) ?_
    refine rr rfl (s_ldc_w (v := 858993459) (by decide)) ?_
    refine rr rfl (s_iand (v := 0) (by decide)) ?_
    refine rr rfl (s_iadd (v := 0) (by decide)) ?_
    refine rr rfl (s_istore_n rfl) ?_
    refine rr rfl (s_iload_n rfl) ?_
    refine rr rfl (s_iload_n rfl) ?_
    refine rr rfl (s_iconst (v := 4) (by decide)) ?_
    refine rr rfl (s_iushr (v := 0) (by decide)) ?_
    refine rr rfl (s_iadd (v := 0) (by decide)) ?_
    refine rr rfl (s_ldc_w (v := 252645135) (by decide)) ?_
    refine rr rfl (s_iand (v := 0) (by decide)) ?_
    refine rr rfl (s_istore_n rfl) ?_
    refine rr rfl (s_iload_n rfl) ?_
    refine rr rfl (s_iload_n rfl) ?_
    refine rr rfl (s_bipush (v := 8) (by decide)) ?_
    refine rr rfl (s_iushr (v := 0) (by decide)) ?_
    refine rr rfl (s_iadd (v := 0) (by decide)) ?_
    refine rr rfl (s_istore_n rfl) ?_
    refine rr rfl (s_iload_n rfl) ?_
    refine rr rfl (s_iload_n rfl) ?_
    refine rr rfl (s_bipush (v := 16) (by decide)) ?_
    refine rr rfl (s_iushr (v := 0) (by decide)) ?_
    refine rr rfl (s_iadd (v := 0) (by decide)) ?_
    refine rr rfl (s_istore_n rfl) ?_
    refine rr rfl (s_iload_n rfl) ?_
    refine rr rfl (s_bipush (v := 63) (by decide)) ?_
    refine rr rfl (s_iand (v := 0) (by decide)) ?_
    exact rrt rfl rfl rfl rfl
  refine rrc rfl rfl rfl (do_of g_J6_bitCount_0f7a4 rfl rfl e7) ?_
  exact rrt rfl rfl rfl rfl
theorem tm_letters_in {x y z : Int32} (g1 : ¬ x < 0) (g2 : ¬ 4 < x) (g3 : ¬ y < 0) (g4 : ¬ 3 < y) (g5 : ¬ z < 0) (g6 : ¬ 3 < z) (g7 : ¬ (((16 * x) + (4 * y)) + z) < 0) (g8 : (((16 * x) + (4 * y)) + z) < 112) : a_m MT [] 100000 11 miX9_letters [.ref 41, .int x, .int y, .int z] hR = some (some (.int 0), hU, 0, 0) := by
  refine me (d := 10) g_X9_letters (Nat.le_of_ble_eq_true rfl) ?_
  refine rr rfl (s_aload_n rfl) ?_
  refine rr rfl (s_iload_n rfl) ?_
  have e1 : a_m MT [] 100000 10 miX9_isTick [.ref 41, .int x] hR = some ((some (.int 1)), hR, 0, 0) := by
    refine me (d := 9) g_X9_isTick (Nat.le_of_ble_eq_true rfl) ?_
    refine rr rfl (s_iload_n rfl) ?_
    refine rr rfl (s_iconst (v := 0) (by decide)) ?_
    refine rr rfl (s_aload_n rfl) ?_
    refine rr rfl (s_getf rfl rfl) ?_
    have e2 : a_m MT [] 100000 9 miX9_in [.int x, .int 0, .int 4] hR = some ((some (.int 1)), hR, 0, 0) := by
      refine me (d := 8) g_X9_in (Nat.le_of_ble_eq_true rfl) ?_
      refine rr rfl (s_iload_n rfl) ?_
      refine rr rfl (s_iload_n rfl) ?_
      refine rr rfl (s_icF (ic_nlt g1)) ?_
      refine rr rfl (s_iload_n rfl) ?_
      refine rr rfl (s_iload_n rfl) ?_
      refine rr rfl (s_icF (ic_ngt g2)) ?_
      refine rr rfl (s_iconst (v := 1) (by decide)) ?_
      refine rr rfl s_goto ?_
      exact rrt rfl rfl rfl rfl
    refine rrc rfl rfl rfl (do_of g_X9_in rfl rfl e2) ?_
    exact rrt rfl rfl rfl rfl
  refine rrc rfl rfl rfl (do_of g_X9_isTick rfl rfl e1) ?_
  refine rr rfl (s_ifF (by decide)) ?_
  refine rr rfl (s_iload_n rfl) ?_
  have e3 : a_m MT [] 100000 10 miX9_isHost [.int y] hR = some ((some (.int 1)), hR, 0, 0) := by
    refine me (d := 9) g_X9_isHost (Nat.le_of_ble_eq_true rfl) ?_
    refine rr rfl (s_iload_n rfl) ?_
    refine rr rfl (s_iconst (v := 0) (by decide)) ?_
    refine rr rfl (s_iconst (v := 3) (by decide)) ?_
    have e4 : a_m MT [] 100000 9 miX9_in [.int y, .int 0, .int 3] hR = some ((some (.int 1)), hR, 0, 0) := by
      refine me (d := 8) g_X9_in (Nat.le_of_ble_eq_true rfl) ?_
      refine rr rfl (s_iload_n rfl) ?_
      refine rr rfl (s_iload_n rfl) ?_
      refine rr rfl (s_icF (ic_nlt g3)) ?_
      refine rr rfl (s_iload_n rfl) ?_
      refine rr rfl (s_iload_n rfl) ?_
      refine rr rfl (s_icF (ic_ngt g4)) ?_
      refine rr rfl (s_iconst (v := 1) (by decide)) ?_
      refine rr rfl s_goto ?_
      exact rrt rfl rfl rfl rfl
    refine rrc rfl rfl rfl (do_of g_X9_in rfl rfl e4) ?_
    exact rrt rfl rfl rfl rfl
  refine rrc rfl rfl rfl (do_of g_X9_isHost rfl rfl e3) ?_
  refine rr rfl (s_ifF (by decide)) ?_
  refine rr rfl (s_iload_n rfl) ?_
  have e5 : a_m MT [] 100000 10 miX9_isHost [.int z] hR = some ((some (.int 1)), hR, 0, 0) := by
    refine me (d := 9) g_X9_isHost (Nat.le_of_ble_eq_true rfl) ?_
    refine rr rfl (s_iload_n rfl) ?_
    refine rr rfl (s_iconst (v := 0) (by decide)) ?_
    refine rr rfl (s_iconst (v := 3) (by decide)) ?_
    have e6 : a_m MT [] 100000 9 miX9_in [.int z, .int 0, .int 3] hR = some ((some (.int 1)), hR, 0, 0) := by
      refine me (d := 8) g_X9_in (Nat.le_of_ble_eq_true rfl) ?_
      refine rr rfl (s_iload_n rfl) ?_
      refine rr rfl (s_iload_n rfl) ?_
      refine rr rfl (s_icF (ic_nlt g5)) ?_
      refine rr rfl (s_iload_n rfl) ?_
      refine rr rfl (s_iload_n rfl) ?_
      refine rr rfl (s_icF (ic_ngt g6)) ?_
      refine rr rfl (s_iconst (v := 1) (by decide)) ?_
      refine rr rfl s_goto ?_
      exact rrt rfl rfl rfl rfl
    refine rrc rfl rfl rfl (do_of g_X9_in rfl rfl e6) ?_
    exact rrt rfl rfl rfl rfl
  refine rrc rfl rfl rfl (do_of g_X9_isHost rfl rfl e5) ?_
  refine rr rfl (s_ifT (by decide)) ?_
  refine rr rfl (s_aload_n rfl) ?_
  have e7 := ev_takesHand
  refine rrc rfl rfl rfl (do_of g_X9_takesHand rfl rfl e7) ?_
  refine rr rfl (s_aload_n rfl) ?_
  have e8 := ev_runs
  refine rrc rfl rfl rfl (do_of g_X9_runs rfl rfl e8) ?_
  refine rr rfl (s_aload_n rfl) ?_
  refine rr rfl (s_getf rfl rfl) ?_
  refine rr rfl (s_bipush (v := 16) (by decide)) ?_
  refine rr rfl (s_iload_n rfl) ?_
  refine rr rfl (s_imul rfl) ?_
  refine rr rfl (s_iconst (v := 4) (by decide)) ?_
  refine rr rfl (s_iload_n rfl) ?_
  refine rr rfl (s_imul rfl) ?_
  refine rr rfl (s_iadd rfl) ?_
  refine rr rfl (s_iload_n rfl) ?_
  refine rr rfl (s_iadd rfl) ?_
  refine rr rfl (s_ialdR (n := 112) (x := 0) rfl g7 (nI_lt_of g8)) ?_
  have e9 : a_m MT [] 100000 10 miX9_bits [.int 0] hU = some ((some (.int 0)), hU, 0, 0) := by
    refine me (d := 9) g_X9_bits (Nat.le_of_ble_eq_true rfl) ?_
    refine rr rfl (s_iconst (v := 0) (by decide)) ?_
    refine rr rfl (s_istore_n rfl) ?_
    refine rr rfl (s_iconst (v := 0) (by decide)) ?_
    refine rr rfl (s_istore_n rfl) ?_
    refine rr rfl (s_iload_n rfl) ?_
    refine rr rfl (s_bipush (v := 31) (by decide)) ?_
    refine rr rfl (s_icF (by decide)) ?_
    refine rr rfl (s_iload_n rfl) ?_
    refine rr rfl (s_iload_n rfl) ?_
    refine rr rfl (s_iload_n rfl) ?_
    refine rr rfl (s_ishr (v := 0) (by decide)) ?_
    refine rr rfl (s_iconst (v := 1) (by decide)) ?_
    refine rr rfl (s_iand (v := 0) (by decide)) ?_
    refine rr rfl (s_iadd (v := 0) (by decide)) ?_
    refine rr rfl (s_istore_n rfl) ?_
    refine rr rfl (s_iinc (v := 1) rfl (by decide) rfl) ?_
    refine rr rfl s_goto ?_
    refine rr rfl (s_iload_n rfl) ?_
    refine rr rfl (s_bipush (v := 31) (by decide)) ?_
    refine rr rfl (s_icF (by decide)) ?_
    refine rr rfl (s_iload_n rfl) ?_
    refine rr rfl (s_iload_n rfl) ?_
    refine rr rfl (s_iload_n rfl) ?_
    refine rr rfl (s_ishr (v := 0) (by decide)) ?_
    refine rr rfl (s_iconst (v := 1) (by decide)) ?_
    refine rr rfl (s_iand (v := 0) (by decide)) ?_
    refine rr rfl (s_iadd (v := 0) (by decide)) ?_
    refine rr rfl (s_istore_n rfl) ?_
    refine rr rfl (s_iinc (v := 2) rfl (by decide) rfl) ?_
    refine rr rfl s_goto ?_
    refine rr rfl (s_iload_n rfl) ?_
    refine rr rfl (s_bipush (v := 31) (by decide)) ?_
    refine rr rfl (s_icF (by decide)) ?_
    refine rr rfl (s_iload_n rfl) ?_
    refine rr rfl (s_iload_n rfl) ?_
    refine rr rfl (s_iload_n rfl) ?_
    refine rr rfl (s_ishr (v := 0) (by decide)) ?_
    refine rr rfl (s_iconst (v := 1) (by decide)) ?_
    refine rr rfl (s_iand (v := 0) (by decide)) ?_
    refine rr rfl (s_iadd (v := 0) (by decide)) ?_
    refine rr rfl (s_istore_n rfl) ?_
    refine rr rfl (s_iinc (v := 3) rfl (by decide) rfl) ?_
    refine rr rfl s_goto ?_
    refine rr rfl (s_iload_n rfl) ?_
    refine rr rfl (s_bipush (v := 31) (by decide)) ?_
    refine rr rfl (s_icF (by decide)) ?_
    refine rr rfl (s_iload_n rfl) ?_
    refine rr rfl (s_iload_n rfl) ?_
    refine rr rfl (s_iload_n rfl) ?_
    refine rr rfl (s_ishr (v := 0) (by decide)) ?_
    refine rr rfl (s_iconst (v := 1) (by decide)) ?_
    refine rr rfl (s_iand (v := 0) (by decide)) ?_
    refine rr rfl (s_iadd (v := 0) (by decide)) ?_
    refine rr rfl (s_istore_n rfl) ?_
    refine rr rfl (s_iinc (v := 4) rfl (by decide) rfl) ?_
    refine rr rfl s_goto ?_
    refine rr rfl (s_iload_n rfl) ?_
    refine rr rfl (s_bipush (v := 31) (by decide)) ?_
    refine rr rfl (s_icF (by decide)) ?_
    refine rr rfl (s_iload_n rfl) ?_
    refine rr rfl (s_iload_n rfl) ?_
    refine rr rfl (s_iload_n rfl) ?_
    refine rr rfl (s_ishr (v := 0) (by decide)) ?_
    refine rr rfl (s_iconst (v := 1) (by decide)) ?_
    refine rr rfl (s_iand (v := 0) (by decide)) ?_
    refine rr rfl (s_iadd (v := 0) (by decide)) ?_
    refine rr rfl (s_istore_n rfl) ?_
    refine rr rfl (s_iinc (v := 5) rfl (by decide) rfl) ?_
    refine rr rfl s_goto ?_
    refine rr rfl (s_iload_n rfl) ?_
    refine rr rfl (s_bipush (v := 31) (by decide)) ?_
    refine rr rfl (s_icF (by decide)) ?_
    refine rr rfl (s_iload_n rfl) ?_
    refine rr rfl (s_iload_n rfl) ?_
    refine rr rfl (s_iload_n rfl) ?_
    refine rr rfl (s_ishr (v := 0) (by decide)) ?_
    refine rr rfl (s_iconst (v := 1) (by decide)) ?_
    refine rr rfl (s_iand (v := 0) (by decide)) ?_
    refine rr rfl (s_iadd (v := 0) (by decide)) ?_
    refine rr rfl (s_istore_n rfl) ?_
    refine rr rfl (s_iinc (v := 6) rfl (by decide) rfl) ?_
    refine rr rfl s_goto ?_
    refine rr rfl (s_iload_n rfl) ?_
    refine rr rfl (s_bipush (v := 31) (by decide)) ?_
    refine rr rfl (s_icF (by decide)) ?_
    refine rr rfl (s_iload_n rfl) ?_
    refine rr rfl (s_iload_n rfl) ?_
    refine rr rfl (s_iload_n rfl) ?_
    refine rr rfl (s_ishr (v := 0) (by decide)) ?_
    refine rr rfl (s_iconst (v := 1) (by decide)) ?_
    refine rr rfl (s_iand (v := 0) (by decide)) ?_
    refine rr rfl (s_iadd (v := 0) (by decide)) ?_
    refine rr rfl (s_istore_n rfl) ?_
    refine rr rfl (s_iinc (v := 7) rfl (by decide) rfl) ?_
    refine rr rfl s_goto ?_
    refine rr rfl (s_iload_n rfl) ?_
    refine rr rfl (s_bipush (v := 31) (by decide)) ?_
    refine rr rfl (s_icF (by decide)) ?_
    refine rr rfl (s_iload_n rfl) ?_
    refine rr rfl (s_iload_n rfl) ?_
    refine rr rfl (s_iload_n rfl) ?_
    refine rr rfl (s_ishr (v := 0) (by decide)) ?_
    refine rr rfl (s_iconst (v := 1) (by decide)) ?_
    refine rr rfl (s_iand (v := 0) (by decide)) ?_
    refine rr rfl (s_iadd (v := 0) (by decide)) ?_
    refine rr rfl (s_istore_n rfl) ?_
    refine rr rfl (s_iinc (v := 8) rfl (by decide) rfl) ?_
    refine rr rfl s_goto ?_
    refine rr rfl (s_iload_n rfl) ?_
    refine rr rfl (s_bipush (v := 31) (by decide)) ?_
    refine rr rfl (s_icF (by decide)) ?_
    refine rr rfl (s_iload_n rfl) ?_
    refine rr rfl (s_iload_n rfl) ?_
    refine rr rfl (s_iload_n rfl) ?_
    refine rr rfl (s_ishr (v := 0) (by decide)) ?_
    refine rr rfl (s_iconst (v := 1) (by decide)) ?_
    refine rr rfl (s_iand (v := 0) (by decide)) ?_
    refine rr rfl (s_iadd (v := 0) (by decide)) ?_
    refine rr rfl (s_istore_n rfl) ?_
    refine rr rfl (s_iinc (v := 9) rfl (by decide) rfl) ?_
    refine rr rfl s_goto ?_
    refine rr rfl (s_iload_n rfl) ?_
    refine rr rfl (s_bipush (v := 31) (by decide)) ?_
    refine rr rfl (s_icF (by decide)) ?_
    refine rr rfl (s_iload_n rfl) ?_
    refine rr rfl (s_iload_n rfl) ?_
    refine rr rfl (s_iload_n rfl) ?_
    refine rr rfl (s_ishr (v := 0) (by decide)) ?_
    refine rr rfl (s_iconst (v := 1) (by decide)) ?_
    refine rr rfl (s_iand (v := 0) (by decide)) ?_
    refine rr rfl (s_iadd (v := 0) (by decide)) ?_
    refine rr rfl (s_istore_n rfl) ?_
    refine rr rfl (s_iinc (v := 10) rfl (by decide) rfl) ?_
    refine rr rfl s_goto ?_
    refine rr rfl (s_iload_n rfl) ?_
    refine rr rfl (s_bipush (v := 31) (by decide)) ?_
    refine rr rfl (s_icF (by decide)) ?_
    refine rr rfl (s_iload_n rfl) ?_
    refine rr rfl (s_iload_n rfl) ?_
    refine rr rfl (s_iload_n rfl) ?_
    refine rr rfl (s_ishr (v := 0) (by decide)) ?_
    refine rr rfl (s_iconst (v := 1) (by decide)) ?_
    refine rr rfl (s_iand (v := 0) (by decide)) ?_
    refine rr rfl (s_iadd (v := 0) (by decide)) ?_
    refine rr rfl (s_istore_n rfl) ?_
    refine rr rfl (s_iinc (v := 11) rfl (by decide) rfl) ?_
    refine rr rfl s_goto ?_
    refine rr rfl (s_iload_n rfl) ?_
    refine rr rfl (s_bipush (v := 31) (by decide)) ?_
    refine rr rfl (s_icF (by decide)) ?_
    refine rr rfl (s_iload_n rfl) ?_
    refine rr rfl (s_iload_n rfl) ?_
    refine rr rfl (s_iload_n rfl) ?_
    refine rr rfl (s_ishr (v := 0) (by decide)) ?_
    refine rr rfl (s_iconst (v := 1) (by decide)) ?_
    refine rr rfl (s_iand (v := 0) (by decide)) ?_
    refine rr rfl (s_iadd (v := 0) (by decide)) ?_
    refine rr rfl (s_istore_n rfl) ?_
    refine rr rfl (s_iinc (v := 12) rfl (by decide) rfl) ?_
    refine rr rfl s_goto ?_
    refine rr rfl (s_iload_n rfl) ?_
    refine rr rfl (s_bipush (v := 31) (by decide)) ?_
    refine rr rfl (s_icF (by decide)) ?_
    refine rr rfl (s_iload_n rfl) ?_
    refine rr rfl (s_iload_n rfl) ?_
    refine rr rfl (s_iload_n rfl) ?_
    refine rr rfl (s_ishr (v := 0) (by decide)) ?_
    refine rr rfl (s_iconst (v := 1) (by decide)) ?_
    refine rr rfl (s_iand (v := 0) (by decide)) ?_
    refine rr rfl (s_iadd (v := 0) (by decide)) ?_
    refine rr rfl (s_istore_n rfl) ?_
    refine rr rfl (s_iinc (v := 13) rfl (by decide) rfl) ?_
    refine rr rfl s_goto ?_
    refine rr rfl (s_iload_n rfl) ?_
    refine rr rfl (s_bipush (v := 31) (by decide)) ?_
    refine rr rfl (s_icF (by decide)) ?_
    refine rr rfl (s_iload_n rfl) ?_
    refine rr rfl (s_iload_n rfl) ?_
    refine rr rfl (s_iload_n rfl) ?_
    refine rr rfl (s_ishr (v := 0) (by decide)) ?_
    refine rr rfl (s_iconst (v := 1) (by decide)) ?_
    refine rr rfl (s_iand (v := 0) (by decide)) ?_
    refine rr rfl (s_iadd (v := 0) (by decide)) ?_
    refine rr rfl (s_istore_n rfl) ?_
    refine rr rfl (s_iinc (v := 14) rfl (by decide) rfl) ?_
    refine rr rfl s_goto ?_
    refine rr rfl (s_iload_n rfl) ?_
    refine rr rfl (s_bipush (v := 31) (by decide)) ?_
    refine rr rfl (s_icF (by decide)) ?_
    refine rr rfl (s_iload_n rfl) ?_
    refine rr rfl (s_iload_n rfl) ?_
    refine rr rfl (s_iload_n rfl) ?_
    refine rr rfl (s_ishr (v := 0) (by decide)) ?_
    refine rr rfl (s_iconst (v := 1) (by decide)) ?_
    refine rr rfl (s_iand (v := 0) (by decide)) ?_
    refine rr rfl (s_iadd (v := 0) (by decide)) ?_
    refine rr rfl (s_istore_n rfl) ?_
    refine rr rfl (s_iinc (v := 15) rfl (by decide) rfl) ?_
    refine rr rfl s_goto ?_
    refine rr rfl (s_iload_n rfl) ?_
    refine rr rfl (s_bipush (v := 31) (by decide)) ?_
    refine rr rfl (s_icF (by decide)) ?_
    refine rr rfl (s_iload_n rfl) ?_
    refine rr rfl (s_iload_n rfl) ?_
    refine rr rfl (s_iload_n rfl) ?_
    refine rr rfl (s_ishr (v := 0) (by decide)) ?_
    refine rr rfl (s_iconst (v := 1) (by decide)) ?_
    refine rr rfl (s_iand (v := 0) (by decide)) ?_
    refine rr rfl (s_iadd (v := 0) (by decide)) ?_
    refine rr rfl (s_istore_n rfl) ?_
    refine rr rfl (s_iinc (v := 16) rfl (by decide) rfl) ?_
    refine rr rfl s_goto ?_
    refine rr rfl (s_iload_n rfl) ?_
    refine rr rfl (s_bipush (v := 31) (by decide)) ?_
    refine rr rfl (s_icF (by decide)) ?_
    refine rr rfl (s_iload_n rfl) ?_
    refine rr rfl (s_iload_n rfl) ?_
    refine rr rfl (s_iload_n rfl) ?_
    refine rr rfl (s_ishr (v := 0) (by decide)) ?_
    refine rr rfl (s_iconst (v := 1) (by decide)) ?_
    refine rr rfl (s_iand (v := 0) (by decide)) ?_
    refine rr rfl (s_iadd (v := 0) (by decide)) ?_
    refine rr rfl (s_istore_n rfl) ?_
    refine rr rfl (s_iinc (v := 17) rfl (by decide) rfl) ?_
    refine rr rfl s_goto ?_
    refine rr rfl (s_iload_n rfl) ?_
    refine rr rfl (s_bipush (v := 31) (by decide)) ?_
    refine rr rfl (s_icF (by decide)) ?_
    refine rr rfl (s_iload_n rfl) ?_
    refine rr rfl (s_iload_n rfl) ?_
    refine rr rfl (s_iload_n rfl) ?_
    refine rr rfl (s_ishr (v := 0) (by decide)) ?_
    refine rr rfl (s_iconst (v := 1) (by decide)) ?_
    refine rr rfl (s_iand (v := 0) (by decide)) ?_
    refine rr rfl (s_iadd (v := 0) (by decide)) ?_
    refine rr rfl (s_istore_n rfl) ?_
    refine rr rfl (s_iinc (v := 18) rfl (by decide) rfl) ?_
    refine rr rfl s_goto ?_
    refine rr rfl (s_iload_n rfl) ?_
    refine rr rfl (s_bipush (v := 31) (by decide)) ?_
    refine rr rfl (s_icF (by decide)) ?_
    refine rr rfl (s_iload_n rfl) ?_
    refine rr rfl (s_iload_n rfl) ?_
    refine rr rfl (s_iload_n rfl) ?_
    refine rr rfl (s_ishr (v := 0) (by decide)) ?_
    refine rr rfl (s_iconst (v := 1) (by decide)) ?_
    refine rr rfl (s_iand (v := 0) (by decide)) ?_
    refine rr rfl (s_iadd (v := 0) (by decide)) ?_
    refine rr rfl (s_istore_n rfl) ?_
    refine rr rfl (s_iinc (v := 19) rfl (by decide) rfl) ?_
    refine rr rfl s_goto ?_
    refine rr rfl (s_iload_n rfl) ?_
    refine rr rfl (s_bipush (v := 31) (by decide)) ?_
    refine rr rfl (s_icF (by decide)) ?_
    refine rr rfl (s_iload_n rfl) ?_
    refine rr rfl (s_iload_n rfl) ?_
    refine rr rfl (s_iload_n rfl) ?_
    refine rr rfl (s_ishr (v := 0) (by decide)) ?_
    refine rr rfl (s_iconst (v := 1) (by decide)) ?_
    refine rr rfl (s_iand (v := 0) (by decide)) ?_
    refine rr rfl (s_iadd (v := 0) (by decide)) ?_
    refine rr rfl (s_istore_n rfl) ?_
    refine rr rfl (s_iinc (v := 20) rfl (by decide) rfl) ?_
    refine rr rfl s_goto ?_
    refine rr rfl (s_iload_n rfl) ?_
    refine rr rfl (s_bipush (v := 31) (by decide)) ?_
    refine rr rfl (s_icF (by decide)) ?_
    refine rr rfl (s_iload_n rfl) ?_
    refine rr rfl (s_iload_n rfl) ?_
    refine rr rfl (s_iload_n rfl) ?_
    refine rr rfl (s_ishr (v := 0) (by decide)) ?_
    refine rr rfl (s_iconst (v := 1) (by decide)) ?_
    refine rr rfl (s_iand (v := 0) (by decide)) ?_
    refine rr rfl (s_iadd (v := 0) (by decide)) ?_
    refine rr rfl (s_istore_n rfl) ?_
    refine rr rfl (s_iinc (v := 21) rfl (by decide) rfl) ?_
    refine rr rfl s_goto ?_
    refine rr rfl (s_iload_n rfl) ?_
    refine rr rfl (s_bipush (v := 31) (by decide)) ?_
    refine rr rfl (s_icF (by decide)) ?_
    refine rr rfl (s_iload_n rfl) ?_
    refine rr rfl (s_iload_n rfl) ?_
    refine rr rfl (s_iload_n rfl) ?_
    refine rr rfl (s_ishr (v := 0) (by decide)) ?_
    refine rr rfl (s_iconst (v := 1) (by decide)) ?_
    refine rr rfl (s_iand (v := 0) (by decide)) ?_
    refine rr rfl (s_iadd (v := 0) (by decide)) ?_
    refine rr rfl (s_istore_n rfl) ?_
    refine rr rfl (s_iinc (v := 22) rfl (by decide) rfl) ?_
    refine rr rfl s_goto ?_
    refine rr rfl (s_iload_n rfl) ?_
    refine rr rfl (s_bipush (v := 31) (by decide)) ?_
    refine rr rfl (s_icF (by decide)) ?_
    refine rr rfl (s_iload_n rfl) ?_
    refine rr rfl (s_iload_n rfl) ?_
    refine rr rfl (s_iload_n rfl) ?_
    refine rr rfl (s_ishr (v := 0) (by decide)) ?_
    refine rr rfl (s_iconst (v := 1) (by decide)) ?_
    refine rr rfl (s_iand (v := 0) (by decide)) ?_
    refine rr rfl (s_iadd (v := 0) (by decide)) ?_
    refine rr rfl (s_istore_n rfl) ?_
    refine rr rfl (s_iinc (v := 23) rfl (by decide) rfl) ?_
    refine rr rfl s_goto ?_
    refine rr rfl (s_iload_n rfl) ?_
    refine rr rfl (s_bipush (v := 31) (by decide)) ?_
    refine rr rfl (s_icF (by decide)) ?_
    refine rr rfl (s_iload_n rfl) ?_
    refine rr rfl (s_iload_n rfl) ?_
    refine rr rfl (s_iload_n rfl) ?_
    refine rr rfl (s_ishr (v := 0) (by decide)) ?_
    refine rr rfl (s_iconst (v := 1) (by decide)) ?_
    refine rr rfl (s_iand (v := 0) (by decide)) ?_
    refine rr rfl (s_iadd (v := 0) (by decide)) ?_
    refine rr rfl (s_istore_n rfl) ?_
    refine rr rfl (s_iinc (v := 24) rfl (by decide) rfl) ?_
    refine rr rfl s_goto ?_
    refine rr rfl (s_iload_n rfl) ?_
    refine rr rfl (s_bipush (v := 31) (by decide)) ?_
    refine rr rfl (s_icF (by decide)) ?_
    refine rr rfl (s_iload_n rfl) ?_
    refine rr rfl (s_iload_n rfl) ?_
    refine rr rfl (s_iload_n rfl) ?_
    refine rr rfl (s_ishr (v := 0) (by decide)) ?_
    refine rr rfl (s_iconst (v := 1) (by decide)) ?_
    refine rr rfl (s_iand (v := 0) (by decide)) ?_
    refine rr rfl (s_iadd (v := 0) (by decide)) ?_
    refine rr rfl (s_istore_n rfl) ?_
    refine rr rfl (s_iinc (v := 25) rfl (by decide) rfl) ?_
    refine rr rfl s_goto ?_
    refine rr rfl (s_iload_n rfl) ?_
    refine rr rfl (s_bipush (v := 31) (by decide)) ?_
    refine rr rfl (s_icF (by decide)) ?_
    refine rr rfl (s_iload_n rfl) ?_
    refine rr rfl (s_iload_n rfl) ?_
    refine rr rfl (s_iload_n rfl) ?_
    refine rr rfl (s_ishr (v := 0) (by decide)) ?_
    refine rr rfl (s_iconst (v := 1) (by decide)) ?_
    refine rr rfl (s_iand (v := 0) (by decide)) ?_
    refine rr rfl (s_iadd (v := 0) (by decide)) ?_
    refine rr rfl (s_istore_n rfl) ?_
    refine rr rfl (s_iinc (v := 26) rfl (by decide) rfl) ?_
    refine rr rfl s_goto ?_
    refine rr rfl (s_iload_n rfl) ?_
    refine rr rfl (s_bipush (v := 31) (by decide)) ?_
    refine rr rfl (s_icF (by decide)) ?_
    refine rr rfl (s_iload_n rfl) ?_
    refine rr rfl (s_iload_n rfl) ?_
    refine rr rfl (s_iload_n rfl) ?_
    refine rr rfl (s_ishr (v := 0) (by decide)) ?_
    refine rr rfl (s_iconst (v := 1) (by decide)) ?_
    refine rr rfl (s_iand (v := 0) (by decide)) ?_
    refine rr rfl (s_iadd (v := 0) (by decide)) ?_
    refine rr rfl (s_istore_n rfl) ?_
    refine rr rfl (s_iinc (v := 27) rfl (by decide) rfl) ?_
    refine rr rfl s_goto ?_
    refine rr rfl (s_iload_n rfl) ?_
    refine rr rfl (s_bipush (v := 31) (by decide)) ?_
    refine rr rfl (s_icF (by decide)) ?_
    refine rr rfl (s_iload_n rfl) ?_
    refine rr rfl (s_iload_n rfl) ?_
    refine rr rfl (s_iload_n rfl) ?_
    refine rr rfl (s_ishr (v := 0) (by decide)) ?_
    refine rr rfl (s_iconst (v := 1) (by decide)) ?_
    refine rr rfl (s_iand (v := 0) (by decide)) ?_
    refine rr rfl (s_iadd (v := 0) (by decide)) ?_
    refine rr rfl (s_istore_n rfl) ?_
    refine rr rfl (s_iinc (v := 28) rfl (by decide) rfl) ?_
    refine rr rfl s_goto ?_
    refine rr rfl (s_iload_n rfl) ?_
    refine rr rfl (s_bipush (v := 31) (by decide)) ?_
    refine rr rfl (s_icF (by decide)) ?_
    refine rr rfl (s_iload_n rfl) ?_
    refine rr rfl (s_iload_n rfl) ?_
    refine rr rfl (s_iload_n rfl) ?_
    refine rr rfl (s_ishr (v := 0) (by decide)) ?_
    refine rr rfl (s_iconst (v := 1) (by decide)) ?_
    refine rr rfl (s_iand (v := 0) (by decide)) ?_
    refine rr rfl (s_iadd (v := 0) (by decide)) ?_
    refine rr rfl (s_istore_n rfl) ?_
    refine rr rfl (s_iinc (v := 29) rfl (by decide) rfl) ?_
    refine rr rfl s_goto ?_
    refine rr rfl (s_iload_n rfl) ?_
    refine rr rfl (s_bipush (v := 31) (by decide)) ?_
    refine rr rfl (s_icF (by decide)) ?_
    refine rr rfl (s_iload_n rfl) ?_
    refine rr rfl (s_iload_n rfl) ?_
    refine rr rfl (s_iload_n rfl) ?_
    refine rr rfl (s_ishr (v := 0) (by decide)) ?_
    refine rr rfl (s_iconst (v := 1) (by decide)) ?_
    refine rr rfl (s_iand (v := 0) (by decide)) ?_
    refine rr rfl (s_iadd (v := 0) (by decide)) ?_
    refine rr rfl (s_istore_n rfl) ?_
    refine rr rfl (s_iinc (v := 30) rfl (by decide) rfl) ?_
    refine rr rfl s_goto ?_
    refine rr rfl (s_iload_n rfl) ?_
    refine rr rfl (s_bipush (v := 31) (by decide)) ?_
    refine rr rfl (s_icF (by decide)) ?_
    refine rr rfl (s_iload_n rfl) ?_
    refine rr rfl (s_iload_n rfl) ?_
    refine rr rfl (s_iload_n rfl) ?_
    refine rr rfl (s_ishr (v := 0) (by decide)) ?_
    refine rr rfl (s_iconst (v := 1) (by decide)) ?_
    refine rr rfl (s_iand (v := 0) (by decide)) ?_
    refine rr rfl (s_iadd (v := 0) (by decide)) ?_
    refine rr rfl (s_istore_n rfl) ?_
    refine rr rfl (s_iinc (v := 31) rfl (by decide) rfl) ?_
    refine rr rfl s_goto ?_
    refine rr rfl (s_iload_n rfl) ?_
    refine rr rfl (s_bipush (v := 31) (by decide)) ?_
    refine rr rfl (s_icT (by decide)) ?_
    refine rr rfl (s_iload_n rfl) ?_
    exact rrt rfl rfl rfl rfl
  refine rrc rfl rfl rfl (do_of g_X9_bits rfl rfl e9) ?_
  exact rrt rfl rfl rfl rfl
theorem tx_letters_xneg {x y z : Int32} (g1 : x < 0) : a_m MT [] 100000 11 miX8_letters [.ref 0, .int x, .int y, .int z] hF = some (some (.int (-1)), hF, 0, 0) := by
  refine me (d := 10) g_X8_letters (Nat.le_of_ble_eq_true rfl) ?_
  refine rr rfl (s_aload_n rfl) ?_
  refine rr rfl (s_iload_n rfl) ?_
  have e1 : a_m MT [] 100000 10 miX8_isTick [.ref 0, .int x] hF = some ((some (.int 0)), hF, 0, 0) := by
    refine me (d := 9) g_X8_isTick (Nat.le_of_ble_eq_true rfl) ?_
    refine rr rfl (s_iload_n rfl) ?_
    refine rr rfl (s_ifT (ic_lt g1)) ?_
    refine rr rfl (s_iconst (v := 0) (by decide)) ?_
    exact rrt rfl rfl rfl rfl
  refine rrc rfl rfl rfl (do_of g_X8_isTick rfl rfl e1) ?_
  refine rr rfl (s_ifT (by decide)) ?_
  refine rr rfl (s_iconst (v := (-1)) (by decide)) ?_
  exact rrt rfl rfl rfl rfl
theorem tm_letters_xneg {x y z : Int32} (g1 : x < 0) : a_m MT [] 100000 11 miX9_letters [.ref 41, .int x, .int y, .int z] hF = some (some (.int (-1)), hF, 0, 0) := by
  refine me (d := 10) g_X9_letters (Nat.le_of_ble_eq_true rfl) ?_
  refine rr rfl (s_aload_n rfl) ?_
  refine rr rfl (s_iload_n rfl) ?_
  have e1 : a_m MT [] 100000 10 miX9_isTick [.ref 41, .int x] hF = some ((some (.int 0)), hF, 0, 0) := by
    refine me (d := 9) g_X9_isTick (Nat.le_of_ble_eq_true rfl) ?_
    refine rr rfl (s_iload_n rfl) ?_
    refine rr rfl (s_iconst (v := 0) (by decide)) ?_
    refine rr rfl (s_aload_n rfl) ?_
    refine rr rfl (s_getf rfl rfl) ?_
    have e2 : a_m MT [] 100000 9 miX9_in [.int x, .int 0, .int 4] hF = some ((some (.int 0)), hF, 0, 0) := by
      refine me (d := 8) g_X9_in (Nat.le_of_ble_eq_true rfl) ?_
      refine rr rfl (s_iload_n rfl) ?_
      refine rr rfl (s_iload_n rfl) ?_
      refine rr rfl (s_icT (ic_lt g1)) ?_
      refine rr rfl (s_iconst (v := 0) (by decide)) ?_
      exact rrt rfl rfl rfl rfl
    refine rrc rfl rfl rfl (do_of g_X9_in rfl rfl e2) ?_
    exact rrt rfl rfl rfl rfl
  refine rrc rfl rfl rfl (do_of g_X9_isTick rfl rfl e1) ?_
  refine rr rfl (s_ifT (by decide)) ?_
  refine rr rfl (s_iconst (v := (-1)) (by decide)) ?_
  exact rrt rfl rfl rfl rfl
theorem ag_letters_xneg {x y z : Int32} (nx : x < 0) : Agree miX8_letters miX9_letters [.int x, .int y, .int z] := ⟨(-1), hF, hF, 0, 0, 0, 0, tx_letters_xneg nx, tm_letters_xneg nx, by decide, by decide, rfl⟩
theorem tx_letters_xbig {x y z : Int32} (g1 : ¬ x < 0) (g2 : 4 < x) : a_m MT [] 100000 11 miX8_letters [.ref 0, .int x, .int y, .int z] hF = some (some (.int (-1)), hF, 0, 0) := by
  refine me (d := 10) g_X8_letters (Nat.le_of_ble_eq_true rfl) ?_
  refine rr rfl (s_aload_n rfl) ?_
  refine rr rfl (s_iload_n rfl) ?_
  have e1 : a_m MT [] 100000 10 miX8_isTick [.ref 0, .int x] hF = some ((some (.int 0)), hF, 0, 0) := by
    refine me (d := 9) g_X8_isTick (Nat.le_of_ble_eq_true rfl) ?_
    refine rr rfl (s_iload_n rfl) ?_
    refine rr rfl (s_ifF (ic_nlt g1)) ?_
    refine rr rfl (s_iload_n rfl) ?_
    refine rr rfl (s_aload_n rfl) ?_
    refine rr rfl (s_getf rfl rfl) ?_
    refine rr rfl (s_getf rfl rfl) ?_
    refine rr rfl (s_icT (ic_gt g2)) ?_
    refine rr rfl (s_iconst (v := 0) (by decide)) ?_
    exact rrt rfl rfl rfl rfl
  refine rrc rfl rfl rfl (do_of g_X8_isTick rfl rfl e1) ?_
  refine rr rfl (s_ifT (by decide)) ?_
  refine rr rfl (s_iconst (v := (-1)) (by decide)) ?_
  exact rrt rfl rfl rfl rfl
theorem tm_letters_xbig {x y z : Int32} (g1 : ¬ x < 0) (g2 : 4 < x) : a_m MT [] 100000 11 miX9_letters [.ref 41, .int x, .int y, .int z] hF = some (some (.int (-1)), hF, 0, 0) := by
  refine me (d := 10) g_X9_letters (Nat.le_of_ble_eq_true rfl) ?_
  refine rr rfl (s_aload_n rfl) ?_
  refine rr rfl (s_iload_n rfl) ?_
  have e1 : a_m MT [] 100000 10 miX9_isTick [.ref 41, .int x] hF = some ((some (.int 0)), hF, 0, 0) := by
    refine me (d := 9) g_X9_isTick (Nat.le_of_ble_eq_true rfl) ?_
    refine rr rfl (s_iload_n rfl) ?_
    refine rr rfl (s_iconst (v := 0) (by decide)) ?_
    refine rr rfl (s_aload_n rfl) ?_
    refine rr rfl (s_getf rfl rfl) ?_
    have e2 : a_m MT [] 100000 9 miX9_in [.int x, .int 0, .int 4] hF = some ((some (.int 0)), hF, 0, 0) := by
      refine me (d := 8) g_X9_in (Nat.le_of_ble_eq_true rfl) ?_
      refine rr rfl (s_iload_n rfl) ?_
      refine rr rfl (s_iload_n rfl) ?_
      refine rr rfl (s_icF (ic_nlt g1)) ?_
      refine rr rfl (s_iload_n rfl) ?_
      refine rr rfl (s_iload_n rfl) ?_
      refine rr rfl (s_icT (ic_gt g2)) ?_
      refine rr rfl (s_iconst (v := 0) (by decide)) ?_
      exact rrt rfl rfl rfl rfl
    refine rrc rfl rfl rfl (do_of g_X9_in rfl rfl e2) ?_
    exact rrt rfl rfl rfl rfl
  refine rrc rfl rfl rfl (do_of g_X9_isTick rfl rfl e1) ?_
  refine rr rfl (s_ifT (by decide)) ?_
  refine rr rfl (s_iconst (v := (-1)) (by decide)) ?_
  exact rrt rfl rfl rfl rfl
theorem ag_letters_xbig {x y z : Int32} (px : ¬ x < 0) (ox : 4 < x) : Agree miX8_letters miX9_letters [.int x, .int y, .int z] := ⟨(-1), hF, hF, 0, 0, 0, 0, tx_letters_xbig px ox, tm_letters_xbig px ox, by decide, by decide, rfl⟩
theorem tx_letters_yneg {x y z : Int32} (g1 : ¬ x < 0) (g2 : ¬ 4 < x) (g3 : y < 0) : a_m MT [] 100000 11 miX8_letters [.ref 0, .int x, .int y, .int z] hF = some (some (.int (-1)), hF, 0, 0) := by
  refine me (d := 10) g_X8_letters (Nat.le_of_ble_eq_true rfl) ?_
  refine rr rfl (s_aload_n rfl) ?_
  refine rr rfl (s_iload_n rfl) ?_
  have e1 : a_m MT [] 100000 10 miX8_isTick [.ref 0, .int x] hF = some ((some (.int 1)), hF, 0, 0) := by
    refine me (d := 9) g_X8_isTick (Nat.le_of_ble_eq_true rfl) ?_
    refine rr rfl (s_iload_n rfl) ?_
    refine rr rfl (s_ifF (ic_nlt g1)) ?_
    refine rr rfl (s_iload_n rfl) ?_
    refine rr rfl (s_aload_n rfl) ?_
    refine rr rfl (s_getf rfl rfl) ?_
    refine rr rfl (s_getf rfl rfl) ?_
    refine rr rfl (s_icF (ic_ngt g2)) ?_
    refine rr rfl (s_iconst (v := 1) (by decide)) ?_
    refine rr rfl s_goto ?_
    exact rrt rfl rfl rfl rfl
  refine rrc rfl rfl rfl (do_of g_X8_isTick rfl rfl e1) ?_
  refine rr rfl (s_ifF (by decide)) ?_
  refine rr rfl (s_iload_n rfl) ?_
  have e2 : a_m MT [] 100000 10 miX8_isHost [.int y] hF = some ((some (.int 0)), hF, 0, 0) := by
    refine me (d := 9) g_X8_isHost (Nat.le_of_ble_eq_true rfl) ?_
    refine rr rfl (s_iload_n rfl) ?_
    refine rr rfl (s_ifT (ic_lt g3)) ?_
    refine rr rfl (s_iconst (v := 0) (by decide)) ?_
    exact rrt rfl rfl rfl rfl
  refine rrc rfl rfl rfl (do_of g_X8_isHost rfl rfl e2) ?_
  refine rr rfl (s_ifT (by decide)) ?_
  refine rr rfl (s_iconst (v := (-1)) (by decide)) ?_
  exact rrt rfl rfl rfl rfl
theorem tm_letters_yneg {x y z : Int32} (g1 : ¬ x < 0) (g2 : ¬ 4 < x) (g3 : y < 0) : a_m MT [] 100000 11 miX9_letters [.ref 41, .int x, .int y, .int z] hF = some (some (.int (-1)), hF, 0, 0) := by
  refine me (d := 10) g_X9_letters (Nat.le_of_ble_eq_true rfl) ?_
  refine rr rfl (s_aload_n rfl) ?_
  refine rr rfl (s_iload_n rfl) ?_
  have e1 : a_m MT [] 100000 10 miX9_isTick [.ref 41, .int x] hF = some ((some (.int 1)), hF, 0, 0) := by
    refine me (d := 9) g_X9_isTick (Nat.le_of_ble_eq_true rfl) ?_
    refine rr rfl (s_iload_n rfl) ?_
    refine rr rfl (s_iconst (v := 0) (by decide)) ?_
    refine rr rfl (s_aload_n rfl) ?_
    refine rr rfl (s_getf rfl rfl) ?_
    have e2 : a_m MT [] 100000 9 miX9_in [.int x, .int 0, .int 4] hF = some ((some (.int 1)), hF, 0, 0) := by
      refine me (d := 8) g_X9_in (Nat.le_of_ble_eq_true rfl) ?_
      refine rr rfl (s_iload_n rfl) ?_
      refine rr rfl (s_iload_n rfl) ?_
      refine rr rfl (s_icF (ic_nlt g1)) ?_
      refine rr rfl (s_iload_n rfl) ?_
      refine rr rfl (s_iload_n rfl) ?_
      refine rr rfl (s_icF (ic_ngt g2)) ?_
      refine rr rfl (s_iconst (v := 1) (by decide)) ?_
      refine rr rfl s_goto ?_
      exact rrt rfl rfl rfl rfl
    refine rrc rfl rfl rfl (do_of g_X9_in rfl rfl e2) ?_
    exact rrt rfl rfl rfl rfl
  refine rrc rfl rfl rfl (do_of g_X9_isTick rfl rfl e1) ?_
  refine rr rfl (s_ifF (by decide)) ?_
  refine rr rfl (s_iload_n rfl) ?_
  have e3 : a_m MT [] 100000 10 miX9_isHost [.int y] hF = some ((some (.int 0)), hF, 0, 0) := by
    refine me (d := 9) g_X9_isHost (Nat.le_of_ble_eq_true rfl) ?_
    refine rr rfl (s_iload_n rfl) ?_
    refine rr rfl (s_iconst (v := 0) (by decide)) ?_
    refine rr rfl (s_iconst (v := 3) (by decide)) ?_
    have e4 : a_m MT [] 100000 9 miX9_in [.int y, .int 0, .int 3] hF = some ((some (.int 0)), hF, 0, 0) := by
      refine me (d := 8) g_X9_in (Nat.le_of_ble_eq_true rfl) ?_
      refine rr rfl (s_iload_n rfl) ?_
      refine rr rfl (s_iload_n rfl) ?_
      refine rr rfl (s_icT (ic_lt g3)) ?_
      refine rr rfl (s_iconst (v := 0) (by decide)) ?_
      exact rrt rfl rfl rfl rfl
    refine rrc rfl rfl rfl (do_of g_X9_in rfl rfl e4) ?_
    exact rrt rfl rfl rfl rfl
  refine rrc rfl rfl rfl (do_of g_X9_isHost rfl rfl e3) ?_
  refine rr rfl (s_ifT (by decide)) ?_
  refine rr rfl (s_iconst (v := (-1)) (by decide)) ?_
  exact rrt rfl rfl rfl rfl
theorem ag_letters_yneg {x y z : Int32} (px : ¬ x < 0) (qx : x ≤ 4) (ny : y < 0) : Agree miX8_letters miX9_letters [.int x, .int y, .int z] := ⟨(-1), hF, hF, 0, 0, 0, 0, tx_letters_yneg px (by simp only [Int32.lt_iff_toInt_lt, Int32.le_iff_toInt_le, kk_0, kk_1, kk_2, kk_3, kk_4, kk_5, kk_6, kk_7, kk_8] at px qx ⊢; omega) ny, tm_letters_yneg px (by simp only [Int32.lt_iff_toInt_lt, Int32.le_iff_toInt_le, kk_0, kk_1, kk_2, kk_3, kk_4, kk_5, kk_6, kk_7, kk_8] at px qx ⊢; omega) ny, by decide, by decide, rfl⟩
theorem tx_letters_ybig {x y z : Int32} (g1 : ¬ x < 0) (g2 : ¬ 4 < x) (g3 : ¬ y < 0) (g4 : 4 ≤ y) : a_m MT [] 100000 11 miX8_letters [.ref 0, .int x, .int y, .int z] hF = some (some (.int (-1)), hF, 0, 0) := by
  refine me (d := 10) g_X8_letters (Nat.le_of_ble_eq_true rfl) ?_
  refine rr rfl (s_aload_n rfl) ?_
  refine rr rfl (s_iload_n rfl) ?_
  have e1 : a_m MT [] 100000 10 miX8_isTick [.ref 0, .int x] hF = some ((some (.int 1)), hF, 0, 0) := by
    refine me (d := 9) g_X8_isTick (Nat.le_of_ble_eq_true rfl) ?_
    refine rr rfl (s_iload_n rfl) ?_
    refine rr rfl (s_ifF (ic_nlt g1)) ?_
    refine rr rfl (s_iload_n rfl) ?_
    refine rr rfl (s_aload_n rfl) ?_
    refine rr rfl (s_getf rfl rfl) ?_
    refine rr rfl (s_getf rfl rfl) ?_
    refine rr rfl (s_icF (ic_ngt g2)) ?_
    refine rr rfl (s_iconst (v := 1) (by decide)) ?_
    refine rr rfl s_goto ?_
    exact rrt rfl rfl rfl rfl
  refine rrc rfl rfl rfl (do_of g_X8_isTick rfl rfl e1) ?_
  refine rr rfl (s_ifF (by decide)) ?_
  refine rr rfl (s_iload_n rfl) ?_
  have e2 : a_m MT [] 100000 10 miX8_isHost [.int y] hF = some ((some (.int 0)), hF, 0, 0) := by
    refine me (d := 9) g_X8_isHost (Nat.le_of_ble_eq_true rfl) ?_
    refine rr rfl (s_iload_n rfl) ?_
    refine rr rfl (s_ifF (ic_nlt g3)) ?_
    refine rr rfl (s_iload_n rfl) ?_
    refine rr rfl (s_iconst (v := 4) (by decide)) ?_
    refine rr rfl (s_icT (ic_ge g4)) ?_
    refine rr rfl (s_iconst (v := 0) (by decide)) ?_
    exact rrt rfl rfl rfl rfl
  refine rrc rfl rfl rfl (do_of g_X8_isHost rfl rfl e2) ?_
  refine rr rfl (s_ifT (by decide)) ?_
  refine rr rfl (s_iconst (v := (-1)) (by decide)) ?_
  exact rrt rfl rfl rfl rfl
theorem tm_letters_ybig {x y z : Int32} (g1 : ¬ x < 0) (g2 : ¬ 4 < x) (g3 : ¬ y < 0) (g4 : 3 < y) : a_m MT [] 100000 11 miX9_letters [.ref 41, .int x, .int y, .int z] hF = some (some (.int (-1)), hF, 0, 0) := by
  refine me (d := 10) g_X9_letters (Nat.le_of_ble_eq_true rfl) ?_
  refine rr rfl (s_aload_n rfl) ?_
  refine rr rfl (s_iload_n rfl) ?_
  have e1 : a_m MT [] 100000 10 miX9_isTick [.ref 41, .int x] hF = some ((some (.int 1)), hF, 0, 0) := by
    refine me (d := 9) g_X9_isTick (Nat.le_of_ble_eq_true rfl) ?_
    refine rr rfl (s_iload_n rfl) ?_
    refine rr rfl (s_iconst (v := 0) (by decide)) ?_
    refine rr rfl (s_aload_n rfl) ?_
    refine rr rfl (s_getf rfl rfl) ?_
    have e2 : a_m MT [] 100000 9 miX9_in [.int x, .int 0, .int 4] hF = some ((some (.int 1)), hF, 0, 0) := by
      refine me (d := 8) g_X9_in (Nat.le_of_ble_eq_true rfl) ?_
      refine rr rfl (s_iload_n rfl) ?_
      refine rr rfl (s_iload_n rfl) ?_
      refine rr rfl (s_icF (ic_nlt g1)) ?_
      refine rr rfl (s_iload_n rfl) ?_
      refine rr rfl (s_iload_n rfl) ?_
      refine rr rfl (s_icF (ic_ngt g2)) ?_
      refine rr rfl (s_iconst (v := 1) (by decide)) ?_
      refine rr rfl s_goto ?_
      exact rrt rfl rfl rfl rfl
    refine rrc rfl rfl rfl (do_of g_X9_in rfl rfl e2) ?_
    exact rrt rfl rfl rfl rfl
  refine rrc rfl rfl rfl (do_of g_X9_isTick rfl rfl e1) ?_
  refine rr rfl (s_ifF (by decide)) ?_
  refine rr rfl (s_iload_n rfl) ?_
  have e3 : a_m MT [] 100000 10 miX9_isHost [.int y] hF = some ((some (.int 0)), hF, 0, 0) := by
    refine me (d := 9) g_X9_isHost (Nat.le_of_ble_eq_true rfl) ?_
    refine rr rfl (s_iload_n rfl) ?_
    refine rr rfl (s_iconst (v := 0) (by decide)) ?_
    refine rr rfl (s_iconst (v := 3) (by decide)) ?_
    have e4 : a_m MT [] 100000 9 miX9_in [.int y, .int 0, .int 3] hF = some ((some (.int 0)), hF, 0, 0) := by
      refine me (d := 8) g_X9_in (Nat.le_of_ble_eq_true rfl) ?_
      refine rr rfl (s_iload_n rfl) ?_
      refine rr rfl (s_iload_n rfl) ?_
      refine rr rfl (s_icF (ic_nlt g3)) ?_
      refine rr rfl (s_iload_n rfl) ?_
      refine rr rfl (s_iload_n rfl) ?_
      refine rr rfl (s_icT (ic_gt g4)) ?_
      refine rr rfl (s_iconst (v := 0) (by decide)) ?_
      exact rrt rfl rfl rfl rfl
    refine rrc rfl rfl rfl (do_of g_X9_in rfl rfl e4) ?_
    exact rrt rfl rfl rfl rfl
  refine rrc rfl rfl rfl (do_of g_X9_isHost rfl rfl e3) ?_
  refine rr rfl (s_ifT (by decide)) ?_
  refine rr rfl (s_iconst (v := (-1)) (by decide)) ?_
  exact rrt rfl rfl rfl rfl
theorem ag_letters_ybig {x y z : Int32} (px : ¬ x < 0) (qx : x ≤ 4) (py : ¬ y < 0) (oy : 3 < y) : Agree miX8_letters miX9_letters [.int x, .int y, .int z] := ⟨(-1), hF, hF, 0, 0, 0, 0, tx_letters_ybig px (by simp only [Int32.lt_iff_toInt_lt, Int32.le_iff_toInt_le, kk_0, kk_1, kk_2, kk_3, kk_4, kk_5, kk_6, kk_7, kk_8] at px qx ⊢; omega) py (by simp only [Int32.lt_iff_toInt_lt, Int32.le_iff_toInt_le, kk_0, kk_1, kk_2, kk_3, kk_4, kk_5, kk_6, kk_7, kk_8] at py oy ⊢; omega), tm_letters_ybig px (by simp only [Int32.lt_iff_toInt_lt, Int32.le_iff_toInt_le, kk_0, kk_1, kk_2, kk_3, kk_4, kk_5, kk_6, kk_7, kk_8] at px qx ⊢; omega) py oy, by decide, by decide, rfl⟩
theorem tx_letters_zneg {x y z : Int32} (g1 : ¬ x < 0) (g2 : ¬ 4 < x) (g3 : ¬ y < 0) (g4 : ¬ 4 ≤ y) (g5 : z < 0) : a_m MT [] 100000 11 miX8_letters [.ref 0, .int x, .int y, .int z] hF = some (some (.int (-1)), hF, 0, 0) := by
  refine me (d := 10) g_X8_letters (Nat.le_of_ble_eq_true rfl) ?_
  refine rr rfl (s_aload_n rfl) ?_
  refine rr rfl (s_iload_n rfl) ?_
  have e1 : a_m MT [] 100000 10 miX8_isTick [.ref 0, .int x] hF = some ((some (.int 1)), hF, 0, 0) := by
    refine me (d := 9) g_X8_isTick (Nat.le_of_ble_eq_true rfl) ?_
    refine rr rfl (s_iload_n rfl) ?_
    refine rr rfl (s_ifF (ic_nlt g1)) ?_
    refine rr rfl (s_iload_n rfl) ?_
    refine rr rfl (s_aload_n rfl) ?_
    refine rr rfl (s_getf rfl rfl) ?_
    refine rr rfl (s_getf rfl rfl) ?_
    refine rr rfl (s_icF (ic_ngt g2)) ?_
    refine rr rfl (s_iconst (v := 1) (by decide)) ?_
    refine rr rfl s_goto ?_
    exact rrt rfl rfl rfl rfl
  refine rrc rfl rfl rfl (do_of g_X8_isTick rfl rfl e1) ?_
  refine rr rfl (s_ifF (by decide)) ?_
  refine rr rfl (s_iload_n rfl) ?_
  have e2 : a_m MT [] 100000 10 miX8_isHost [.int y] hF = some ((some (.int 1)), hF, 0, 0) := by
    refine me (d := 9) g_X8_isHost (Nat.le_of_ble_eq_true rfl) ?_
    refine rr rfl (s_iload_n rfl) ?_
    refine rr rfl (s_ifF (ic_nlt g3)) ?_
    refine rr rfl (s_iload_n rfl) ?_
    refine rr rfl (s_iconst (v := 4) (by decide)) ?_
    refine rr rfl (s_icF (ic_nge g4)) ?_
    refine rr rfl (s_iconst (v := 1) (by decide)) ?_
    refine rr rfl s_goto ?_
    exact rrt rfl rfl rfl rfl
  refine rrc rfl rfl rfl (do_of g_X8_isHost rfl rfl e2) ?_
  refine rr rfl (s_ifF (by decide)) ?_
  refine rr rfl (s_iload_n rfl) ?_
  have e3 : a_m MT [] 100000 10 miX8_isHost [.int z] hF = some ((some (.int 0)), hF, 0, 0) := by
    refine me (d := 9) g_X8_isHost (Nat.le_of_ble_eq_true rfl) ?_
    refine rr rfl (s_iload_n rfl) ?_
    refine rr rfl (s_ifT (ic_lt g5)) ?_
    refine rr rfl (s_iconst (v := 0) (by decide)) ?_
    exact rrt rfl rfl rfl rfl
  refine rrc rfl rfl rfl (do_of g_X8_isHost rfl rfl e3) ?_
  refine rr rfl (s_ifF (by decide)) ?_
  refine rr rfl (s_iconst (v := (-1)) (by decide)) ?_
  exact rrt rfl rfl rfl rfl
theorem tm_letters_zneg {x y z : Int32} (g1 : ¬ x < 0) (g2 : ¬ 4 < x) (g3 : ¬ y < 0) (g4 : ¬ 3 < y) (g5 : z < 0) : a_m MT [] 100000 11 miX9_letters [.ref 41, .int x, .int y, .int z] hF = some (some (.int (-1)), hF, 0, 0) := by
  refine me (d := 10) g_X9_letters (Nat.le_of_ble_eq_true rfl) ?_
  refine rr rfl (s_aload_n rfl) ?_
  refine rr rfl (s_iload_n rfl) ?_
  have e1 : a_m MT [] 100000 10 miX9_isTick [.ref 41, .int x] hF = some ((some (.int 1)), hF, 0, 0) := by
    refine me (d := 9) g_X9_isTick (Nat.le_of_ble_eq_true rfl) ?_
    refine rr rfl (s_iload_n rfl) ?_
    refine rr rfl (s_iconst (v := 0) (by decide)) ?_
    refine rr rfl (s_aload_n rfl) ?_
    refine rr rfl (s_getf rfl rfl) ?_
    have e2 : a_m MT [] 100000 9 miX9_in [.int x, .int 0, .int 4] hF = some ((some (.int 1)), hF, 0, 0) := by
      refine me (d := 8) g_X9_in (Nat.le_of_ble_eq_true rfl) ?_
      refine rr rfl (s_iload_n rfl) ?_
      refine rr rfl (s_iload_n rfl) ?_
      refine rr rfl (s_icF (ic_nlt g1)) ?_
      refine rr rfl (s_iload_n rfl) ?_
      refine rr rfl (s_iload_n rfl) ?_
      refine rr rfl (s_icF (ic_ngt g2)) ?_
      refine rr rfl (s_iconst (v := 1) (by decide)) ?_
      refine rr rfl s_goto ?_
      exact rrt rfl rfl rfl rfl
    refine rrc rfl rfl rfl (do_of g_X9_in rfl rfl e2) ?_
    exact rrt rfl rfl rfl rfl
  refine rrc rfl rfl rfl (do_of g_X9_isTick rfl rfl e1) ?_
  refine rr rfl (s_ifF (by decide)) ?_
  refine rr rfl (s_iload_n rfl) ?_
  have e3 : a_m MT [] 100000 10 miX9_isHost [.int y] hF = some ((some (.int 1)), hF, 0, 0) := by
    refine me (d := 9) g_X9_isHost (Nat.le_of_ble_eq_true rfl) ?_
    refine rr rfl (s_iload_n rfl) ?_
    refine rr rfl (s_iconst (v := 0) (by decide)) ?_
    refine rr rfl (s_iconst (v := 3) (by decide)) ?_
    have e4 : a_m MT [] 100000 9 miX9_in [.int y, .int 0, .int 3] hF = some ((some (.int 1)), hF, 0, 0) := by
      refine me (d := 8) g_X9_in (Nat.le_of_ble_eq_true rfl) ?_
      refine rr rfl (s_iload_n rfl) ?_
      refine rr rfl (s_iload_n rfl) ?_
      refine rr rfl (s_icF (ic_nlt g3)) ?_
      refine rr rfl (s_iload_n rfl) ?_
      refine rr rfl (s_iload_n rfl) ?_
      refine rr rfl (s_icF (ic_ngt g4)) ?_
      refine rr rfl (s_iconst (v := 1) (by decide)) ?_
      refine rr rfl s_goto ?_
      exact rrt rfl rfl rfl rfl
    refine rrc rfl rfl rfl (do_of g_X9_in rfl rfl e4) ?_
    exact rrt rfl rfl rfl rfl
  refine rrc rfl rfl rfl (do_of g_X9_isHost rfl rfl e3) ?_
  refine rr rfl (s_ifF (by decide)) ?_
  refine rr rfl (s_iload_n rfl) ?_
  have e5 : a_m MT [] 100000 10 miX9_isHost [.int z] hF = some ((some (.int 0)), hF, 0, 0) := by
    refine me (d := 9) g_X9_isHost (Nat.le_of_ble_eq_true rfl) ?_
    refine rr rfl (s_iload_n rfl) ?_
    refine rr rfl (s_iconst (v := 0) (by decide)) ?_
    refine rr rfl (s_iconst (v := 3) (by decide)) ?_
    have e6 : a_m MT [] 100000 9 miX9_in [.int z, .int 0, .int 3] hF = some ((some (.int 0)), hF, 0, 0) := by
      refine me (d := 8) g_X9_in (Nat.le_of_ble_eq_true rfl) ?_
      refine rr rfl (s_iload_n rfl) ?_
      refine rr rfl (s_iload_n rfl) ?_
      refine rr rfl (s_icT (ic_lt g5)) ?_
      refine rr rfl (s_iconst (v := 0) (by decide)) ?_
      exact rrt rfl rfl rfl rfl
    refine rrc rfl rfl rfl (do_of g_X9_in rfl rfl e6) ?_
    exact rrt rfl rfl rfl rfl
  refine rrc rfl rfl rfl (do_of g_X9_isHost rfl rfl e5) ?_
  refine rr rfl (s_ifF (by decide)) ?_
  refine rr rfl (s_iconst (v := (-1)) (by decide)) ?_
  exact rrt rfl rfl rfl rfl
theorem ag_letters_zneg {x y z : Int32} (px : ¬ x < 0) (qx : x ≤ 4) (py : ¬ y < 0) (qy : y ≤ 3) (nz : z < 0) : Agree miX8_letters miX9_letters [.int x, .int y, .int z] := ⟨(-1), hF, hF, 0, 0, 0, 0, tx_letters_zneg px (by simp only [Int32.lt_iff_toInt_lt, Int32.le_iff_toInt_le, kk_0, kk_1, kk_2, kk_3, kk_4, kk_5, kk_6, kk_7, kk_8] at px qx ⊢; omega) py (by simp only [Int32.lt_iff_toInt_lt, Int32.le_iff_toInt_le, kk_0, kk_1, kk_2, kk_3, kk_4, kk_5, kk_6, kk_7, kk_8] at py qy ⊢; omega) nz, tm_letters_zneg px (by simp only [Int32.lt_iff_toInt_lt, Int32.le_iff_toInt_le, kk_0, kk_1, kk_2, kk_3, kk_4, kk_5, kk_6, kk_7, kk_8] at px qx ⊢; omega) py (by simp only [Int32.lt_iff_toInt_lt, Int32.le_iff_toInt_le, kk_0, kk_1, kk_2, kk_3, kk_4, kk_5, kk_6, kk_7, kk_8] at py qy ⊢; omega) nz, by decide, by decide, rfl⟩
theorem tx_letters_zbig {x y z : Int32} (g1 : ¬ x < 0) (g2 : ¬ 4 < x) (g3 : ¬ y < 0) (g4 : ¬ 4 ≤ y) (g5 : ¬ z < 0) (g6 : 4 ≤ z) : a_m MT [] 100000 11 miX8_letters [.ref 0, .int x, .int y, .int z] hF = some (some (.int (-1)), hF, 0, 0) := by
  refine me (d := 10) g_X8_letters (Nat.le_of_ble_eq_true rfl) ?_
  refine rr rfl (s_aload_n rfl) ?_
  refine rr rfl (s_iload_n rfl) ?_
  have e1 : a_m MT [] 100000 10 miX8_isTick [.ref 0, .int x] hF = some ((some (.int 1)), hF, 0, 0) := by
    refine me (d := 9) g_X8_isTick (Nat.le_of_ble_eq_true rfl) ?_
    refine rr rfl (s_iload_n rfl) ?_
    refine rr rfl (s_ifF (ic_nlt g1)) ?_
    refine rr rfl (s_iload_n rfl) ?_
    refine rr rfl (s_aload_n rfl) ?_
    refine rr rfl (s_getf rfl rfl) ?_
    refine rr rfl (s_getf rfl rfl) ?_
    refine rr rfl (s_icF (ic_ngt g2)) ?_
    refine rr rfl (s_iconst (v := 1) (by decide)) ?_
    refine rr rfl s_goto ?_
    exact rrt rfl rfl rfl rfl
  refine rrc rfl rfl rfl (do_of g_X8_isTick rfl rfl e1) ?_
  refine rr rfl (s_ifF (by decide)) ?_
  refine rr rfl (s_iload_n rfl) ?_
  have e2 : a_m MT [] 100000 10 miX8_isHost [.int y] hF = some ((some (.int 1)), hF, 0, 0) := by
    refine me (d := 9) g_X8_isHost (Nat.le_of_ble_eq_true rfl) ?_
    refine rr rfl (s_iload_n rfl) ?_
    refine rr rfl (s_ifF (ic_nlt g3)) ?_
    refine rr rfl (s_iload_n rfl) ?_
    refine rr rfl (s_iconst (v := 4) (by decide)) ?_
    refine rr rfl (s_icF (ic_nge g4)) ?_
    refine rr rfl (s_iconst (v := 1) (by decide)) ?_
    refine rr rfl s_goto ?_
    exact rrt rfl rfl rfl rfl
  refine rrc rfl rfl rfl (do_of g_X8_isHost rfl rfl e2) ?_
  refine rr rfl (s_ifF (by decide)) ?_
  refine rr rfl (s_iload_n rfl) ?_
  have e3 : a_m MT [] 100000 10 miX8_isHost [.int z] hF = some ((some (.int 0)), hF, 0, 0) := by
    refine me (d := 9) g_X8_isHost (Nat.le_of_ble_eq_true rfl) ?_
    refine rr rfl (s_iload_n rfl) ?_
    refine rr rfl (s_ifF (ic_nlt g5)) ?_
    refine rr rfl (s_iload_n rfl) ?_
    refine rr rfl (s_iconst (v := 4) (by decide)) ?_
    refine rr rfl (s_icT (ic_ge g6)) ?_
    refine rr rfl (s_iconst (v := 0) (by decide)) ?_
    exact rrt rfl rfl rfl rfl
  refine rrc rfl rfl rfl (do_of g_X8_isHost rfl rfl e3) ?_
  refine rr rfl (s_ifF (by decide)) ?_
  refine rr rfl (s_iconst (v := (-1)) (by decide)) ?_
  exact rrt rfl rfl rfl rfl
theorem tm_letters_zbig {x y z : Int32} (g1 : ¬ x < 0) (g2 : ¬ 4 < x) (g3 : ¬ y < 0) (g4 : ¬ 3 < y) (g5 : ¬ z < 0) (g6 : 3 < z) : a_m MT [] 100000 11 miX9_letters [.ref 41, .int x, .int y, .int z] hF = some (some (.int (-1)), hF, 0, 0) := by
  refine me (d := 10) g_X9_letters (Nat.le_of_ble_eq_true rfl) ?_
  refine rr rfl (s_aload_n rfl) ?_
  refine rr rfl (s_iload_n rfl) ?_
  have e1 : a_m MT [] 100000 10 miX9_isTick [.ref 41, .int x] hF = some ((some (.int 1)), hF, 0, 0) := by
    refine me (d := 9) g_X9_isTick (Nat.le_of_ble_eq_true rfl) ?_
    refine rr rfl (s_iload_n rfl) ?_
    refine rr rfl (s_iconst (v := 0) (by decide)) ?_
    refine rr rfl (s_aload_n rfl) ?_
    refine rr rfl (s_getf rfl rfl) ?_
    have e2 : a_m MT [] 100000 9 miX9_in [.int x, .int 0, .int 4] hF = some ((some (.int 1)), hF, 0, 0) := by
      refine me (d := 8) g_X9_in (Nat.le_of_ble_eq_true rfl) ?_
      refine rr rfl (s_iload_n rfl) ?_
      refine rr rfl (s_iload_n rfl) ?_
      refine rr rfl (s_icF (ic_nlt g1)) ?_
      refine rr rfl (s_iload_n rfl) ?_
      refine rr rfl (s_iload_n rfl) ?_
      refine rr rfl (s_icF (ic_ngt g2)) ?_
      refine rr rfl (s_iconst (v := 1) (by decide)) ?_
      refine rr rfl s_goto ?_
      exact rrt rfl rfl rfl rfl
    refine rrc rfl rfl rfl (do_of g_X9_in rfl rfl e2) ?_
    exact rrt rfl rfl rfl rfl
  refine rrc rfl rfl rfl (do_of g_X9_isTick rfl rfl e1) ?_
  refine rr rfl (s_ifF (by decide)) ?_
  refine rr rfl (s_iload_n rfl) ?_
  have e3 : a_m MT [] 100000 10 miX9_isHost [.int y] hF = some ((some (.int 1)), hF, 0, 0) := by
    refine me (d := 9) g_X9_isHost (Nat.le_of_ble_eq_true rfl) ?_
    refine rr rfl (s_iload_n rfl) ?_
    refine rr rfl (s_iconst (v := 0) (by decide)) ?_
    refine rr rfl (s_iconst (v := 3) (by decide)) ?_
    have e4 : a_m MT [] 100000 9 miX9_in [.int y, .int 0, .int 3] hF = some ((some (.int 1)), hF, 0, 0) := by
      refine me (d := 8) g_X9_in (Nat.le_of_ble_eq_true rfl) ?_
      refine rr rfl (s_iload_n rfl) ?_
      refine rr rfl (s_iload_n rfl) ?_
      refine rr rfl (s_icF (ic_nlt g3)) ?_
      refine rr rfl (s_iload_n rfl) ?_
      refine rr rfl (s_iload_n rfl) ?_
      refine rr rfl (s_icF (ic_ngt g4)) ?_
      refine rr rfl (s_iconst (v := 1) (by decide)) ?_
      refine rr rfl s_goto ?_
      exact rrt rfl rfl rfl rfl
    refine rrc rfl rfl rfl (do_of g_X9_in rfl rfl e4) ?_
    exact rrt rfl rfl rfl rfl
  refine rrc rfl rfl rfl (do_of g_X9_isHost rfl rfl e3) ?_
  refine rr rfl (s_ifF (by decide)) ?_
  refine rr rfl (s_iload_n rfl) ?_
  have e5 : a_m MT [] 100000 10 miX9_isHost [.int z] hF = some ((some (.int 0)), hF, 0, 0) := by
    refine me (d := 9) g_X9_isHost (Nat.le_of_ble_eq_true rfl) ?_
    refine rr rfl (s_iload_n rfl) ?_
    refine rr rfl (s_iconst (v := 0) (by decide)) ?_
    refine rr rfl (s_iconst (v := 3) (by decide)) ?_
    have e6 : a_m MT [] 100000 9 miX9_in [.int z, .int 0, .int 3] hF = some ((some (.int 0)), hF, 0, 0) := by
      refine me (d := 8) g_X9_in (Nat.le_of_ble_eq_true rfl) ?_
      refine rr rfl (s_iload_n rfl) ?_
      refine rr rfl (s_iload_n rfl) ?_
      refine rr rfl (s_icF (ic_nlt g5)) ?_
      refine rr rfl (s_iload_n rfl) ?_
      refine rr rfl (s_iload_n rfl) ?_
      refine rr rfl (s_icT (ic_gt g6)) ?_
      refine rr rfl (s_iconst (v := 0) (by decide)) ?_
      exact rrt rfl rfl rfl rfl
    refine rrc rfl rfl rfl (do_of g_X9_in rfl rfl e6) ?_
    exact rrt rfl rfl rfl rfl
  refine rrc rfl rfl rfl (do_of g_X9_isHost rfl rfl e5) ?_
  refine rr rfl (s_ifF (by decide)) ?_
  refine rr rfl (s_iconst (v := (-1)) (by decide)) ?_
  exact rrt rfl rfl rfl rfl
theorem ag_letters_zbig {x y z : Int32} (px : ¬ x < 0) (qx : x ≤ 4) (py : ¬ y < 0) (qy : y ≤ 3) (pz : ¬ z < 0) (oz : 3 < z) : Agree miX8_letters miX9_letters [.int x, .int y, .int z] := ⟨(-1), hF, hF, 0, 0, 0, 0, tx_letters_zbig px (by simp only [Int32.lt_iff_toInt_lt, Int32.le_iff_toInt_le, kk_0, kk_1, kk_2, kk_3, kk_4, kk_5, kk_6, kk_7, kk_8] at px qx ⊢; omega) py (by simp only [Int32.lt_iff_toInt_lt, Int32.le_iff_toInt_le, kk_0, kk_1, kk_2, kk_3, kk_4, kk_5, kk_6, kk_7, kk_8] at py qy ⊢; omega) pz (by simp only [Int32.lt_iff_toInt_lt, Int32.le_iff_toInt_le, kk_0, kk_1, kk_2, kk_3, kk_4, kk_5, kk_6, kk_7, kk_8] at pz oz ⊢; omega), tm_letters_zbig px (by simp only [Int32.lt_iff_toInt_lt, Int32.le_iff_toInt_le, kk_0, kk_1, kk_2, kk_3, kk_4, kk_5, kk_6, kk_7, kk_8] at px qx ⊢; omega) py (by simp only [Int32.lt_iff_toInt_lt, Int32.le_iff_toInt_le, kk_0, kk_1, kk_2, kk_3, kk_4, kk_5, kk_6, kk_7, kk_8] at py qy ⊢; omega) pz oz, by decide, by decide, rfl⟩
theorem al_letters (x y z : Int32) : Agree miX8_letters miX9_letters [.int x, .int y, .int z] := by
  by_cases nx : x < 0
  · exact ag_letters_xneg  nx
  by_cases qx : x ≤ 4
  rotate_left
  · exact ag_letters_xbig  nx (Int32.not_le.mp qx)
  have px := nx
  by_cases ny : y < 0
  · exact ag_letters_yneg px qx ny
  by_cases qy : y ≤ 3
  rotate_left
  · exact ag_letters_ybig px qx ny (Int32.not_le.mp qy)
  have py := ny
  by_cases nz : z < 0
  · exact ag_letters_zneg px qx py qy nz
  by_cases qz : z ≤ 3
  rotate_left
  · exact ag_letters_zbig px qx py qy nz (Int32.not_le.mp qz)
  have pz := nz
  obtain ⟨jx, lx, rfl⟩ := nI_of2 (M := 4) (n := 4) rfl px qx
  obtain ⟨jy, ly, rfl⟩ := nI_of2 (M := 3) (n := 3) rfl py qy
  obtain ⟨jz, lz, rfl⟩ := nI_of2 (M := 3) (n := 3) rfl pz qz
  exact ⟨_, _, _, 0, 0, 0, 0, tx_letters_in (fc_letters_0 jx lx) (fc_letters_1 jx lx) (fc_letters_2 jy ly) (fc_letters_3 jy ly) (fc_letters_4 jz lz) (fc_letters_5 jz lz) (fc_letters_6 jx lx jy ly) (fc_letters_7 jx lx jy ly), tm_letters_in (fc_letters_0 jx lx) (fc_letters_1 jx lx) (fc_letters_2 jy ly) (fc_letters_8 jy ly) (fc_letters_4 jz lz) (fc_letters_9 jz lz) (fc_letters_10 jx lx jy ly jz lz) (fc_letters_11 jx lx jy ly jz lz), by decide, by decide, rfl⟩
theorem tx_why_in {x y z : Int32} (g1 : ¬ x < 0) (g2 : ¬ 4 ≤ x) (g3 : ¬ y < 0) (g4 : ¬ 4 < y) (g5 : ¬ z < 0) (g6 : ¬ 8 ≤ z) (g7 : y < 7) : a_m MT [] 100000 11 miX8_why [.ref 0, .int x, .int y, .int z] hF = some (some (.int (-1)), hR, 0, 0) := by
  refine me (d := 10) g_X8_why (Nat.le_of_ble_eq_true rfl) ?_
  refine rr rfl (s_iload_n rfl) ?_
  have e1 : a_m MT [] 100000 10 miX8_isHost [.int x] hF = some ((some (.int 1)), hF, 0, 0) := by
    refine me (d := 9) g_X8_isHost (Nat.le_of_ble_eq_true rfl) ?_
    refine rr rfl (s_iload_n rfl) ?_
    refine rr rfl (s_ifF (ic_nlt g1)) ?_
    refine rr rfl (s_iload_n rfl) ?_
    refine rr rfl (s_iconst (v := 4) (by decide)) ?_
    refine rr rfl (s_icF (ic_nge g2)) ?_
    refine rr rfl (s_iconst (v := 1) (by decide)) ?_
    refine rr rfl s_goto ?_
    exact rrt rfl rfl rfl rfl
  refine rrc rfl rfl rfl (do_of g_X8_isHost rfl rfl e1) ?_
  refine rr rfl (s_ifF (by decide)) ?_
  refine rr rfl (s_aload_n rfl) ?_
  refine rr rfl (s_iload_n rfl) ?_
  have e2 : a_m MT [] 100000 10 miX8_isTick [.ref 0, .int y] hF = some ((some (.int 1)), hF, 0, 0) := by
    refine me (d := 9) g_X8_isTick (Nat.le_of_ble_eq_true rfl) ?_
    refine rr rfl (s_iload_n rfl) ?_
    refine rr rfl (s_ifF (ic_nlt g3)) ?_
    refine rr rfl (s_iload_n rfl) ?_
    refine rr rfl (s_aload_n rfl) ?_
    refine rr rfl (s_getf rfl rfl) ?_
    refine rr rfl (s_getf rfl rfl) ?_
    refine rr rfl (s_icF (ic_ngt g4)) ?_
    refine rr rfl (s_iconst (v := 1) (by decide)) ?_
    refine rr rfl s_goto ?_
    exact rrt rfl rfl rfl rfl
  refine rrc rfl rfl rfl (do_of g_X8_isTick rfl rfl e2) ?_
  refine rr rfl (s_ifF (by decide)) ?_
  refine rr rfl (s_iload_n rfl) ?_
  have e3 : a_m MT [] 100000 10 miX8_isFact [.int z] hF = some ((some (.int 1)), hF, 0, 0) := by
    refine me (d := 9) g_X8_isFact (Nat.le_of_ble_eq_true rfl) ?_
    refine rr rfl (s_iload_n rfl) ?_
    refine rr rfl (s_ifF (ic_nlt g5)) ?_
    refine rr rfl (s_iload_n rfl) ?_
    refine rr rfl (s_bipush (v := 8) (by decide)) ?_
    refine rr rfl (s_icF (ic_nge g6)) ?_
    refine rr rfl (s_iconst (v := 1) (by decide)) ?_
    refine rr rfl s_goto ?_
    exact rrt rfl rfl rfl rfl
  refine rrc rfl rfl rfl (do_of g_X8_isFact rfl rfl e3) ?_
  refine rr rfl (s_ifT (by decide)) ?_
  refine rr rfl (s_aload_n rfl) ?_
  have e4 := ev_runHand
  refine rrc rfl rfl rfl (do_of g_X8_runHand rfl rfl e4) ?_
  refine rr rfl (s_aload_n rfl) ?_
  refine rr rfl (s_getf rfl rfl) ?_
  refine rr rfl (s_iload_n rfl) ?_
  refine rr rfl (s_iload_n rfl) ?_
  refine rr rfl (s_iload_n rfl) ?_
  have e5 : a_m MT [] 100000 10 miX4_reason [.ref 33, .int x, .int y, .int z] hR = some ((some (.int (-1))), hR, 0, 0) := by
    refine me (d := 9) g_X4_reason (Nat.le_of_ble_eq_true rfl) ?_
    refine rr rfl (s_iload_n rfl) ?_
    refine rr rfl (s_iload_n rfl) ?_
    have e6 : a_m MT [] 100000 9 miX8_bitOf [.int x, .int z] hR = some ((some (.int (1 <<< (((8 * x) + z) &&& 31)))), hR, 0, 0) := by
      refine me (d := 8) g_X8_bitOf (Nat.le_of_ble_eq_true rfl) ?_
      refine rr rfl (s_iconst (v := 1) (by decide)) ?_
      refine rr rfl (s_bipush (v := 8) (by decide)) ?_
      refine rr rfl (s_iload_n rfl) ?_
      refine rr rfl (s_imul rfl) ?_
      refine rr rfl (s_iload_n rfl) ?_
      refine rr rfl (s_iadd rfl) ?_
      refine rr rfl (s_ishl rfl) ?_
      exact rrt rfl rfl rfl rfl
    refine rrc rfl rfl rfl (do_of g_X8_bitOf rfl rfl e6) ?_
    refine rr rfl (s_istore rfl) ?_
    refine rr rfl (s_aload_n rfl) ?_
    refine rr rfl (s_getf rfl rfl) ?_
    refine rr rfl (s_iload_n rfl) ?_
    refine rr rfl (s_ialdR (n := 7) (x := 0) rfl g3 (nI_lt_of g7)) ?_
    refine rr rfl (s_iload rfl) ?_
    refine rr rfl (s_iand (v := 0) z_andL) ?_
    refine rr rfl (s_ifF (by decide)) ?_
    refine rr rfl (s_iconst (v := (-1)) (by decide)) ?_
    exact rrt rfl rfl rfl rfl
  refine rrc rfl rfl rfl (do_of g_X4_reason rfl rfl e5) ?_
  exact rrt rfl rfl rfl rfl
theorem tm_why_in {x y z : Int32} (g1 : ¬ x < 0) (g2 : ¬ 3 < x) (g3 : ¬ y < 0) (g4 : ¬ 4 < y) (g5 : ¬ z < 0) (g6 : ¬ 7 < z) (g7 : ¬ ((4 * y) + x) < 0) (g8 : ((4 * y) + x) < 28) : a_m MT [] 100000 11 miX9_why [.ref 41, .int x, .int y, .int z] hR = some (some (.int (-1)), hU, 0, 0) := by
  refine me (d := 10) g_X9_why (Nat.le_of_ble_eq_true rfl) ?_
  refine rr rfl (s_iload_n rfl) ?_
  have e1 : a_m MT [] 100000 10 miX9_isHost [.int x] hR = some ((some (.int 1)), hR, 0, 0) := by
    refine me (d := 9) g_X9_isHost (Nat.le_of_ble_eq_true rfl) ?_
    refine rr rfl (s_iload_n rfl) ?_
    refine rr rfl (s_iconst (v := 0) (by decide)) ?_
    refine rr rfl (s_iconst (v := 3) (by decide)) ?_
    have e2 : a_m MT [] 100000 9 miX9_in [.int x, .int 0, .int 3] hR = some ((some (.int 1)), hR, 0, 0) := by
      refine me (d := 8) g_X9_in (Nat.le_of_ble_eq_true rfl) ?_
      refine rr rfl (s_iload_n rfl) ?_
      refine rr rfl (s_iload_n rfl) ?_
      refine rr rfl (s_icF (ic_nlt g1)) ?_
      refine rr rfl (s_iload_n rfl) ?_
      refine rr rfl (s_iload_n rfl) ?_
      refine rr rfl (s_icF (ic_ngt g2)) ?_
      refine rr rfl (s_iconst (v := 1) (by decide)) ?_
      refine rr rfl s_goto ?_
      exact rrt rfl rfl rfl rfl
    refine rrc rfl rfl rfl (do_of g_X9_in rfl rfl e2) ?_
    exact rrt rfl rfl rfl rfl
  refine rrc rfl rfl rfl (do_of g_X9_isHost rfl rfl e1) ?_
  refine rr rfl (s_ifF (by decide)) ?_
  refine rr rfl (s_aload_n rfl) ?_
  refine rr rfl (s_iload_n rfl) ?_
  have e3 : a_m MT [] 100000 10 miX9_isTick [.ref 41, .int y] hR = some ((some (.int 1)), hR, 0, 0) := by
    refine me (d := 9) g_X9_isTick (Nat.le_of_ble_eq_true rfl) ?_
    refine rr rfl (s_iload_n rfl) ?_
    refine rr rfl (s_iconst (v := 0) (by decide)) ?_
    refine rr rfl (s_aload_n rfl) ?_
    refine rr rfl (s_getf rfl rfl) ?_
    have e4 : a_m MT [] 100000 9 miX9_in [.int y, .int 0, .int 4] hR = some ((some (.int 1)), hR, 0, 0) := by
      refine me (d := 8) g_X9_in (Nat.le_of_ble_eq_true rfl) ?_
      refine rr rfl (s_iload_n rfl) ?_
      refine rr rfl (s_iload_n rfl) ?_
      refine rr rfl (s_icF (ic_nlt g3)) ?_
      refine rr rfl (s_iload_n rfl) ?_
      refine rr rfl (s_iload_n rfl) ?_
      refine rr rfl (s_icF (ic_ngt g4)) ?_
      refine rr rfl (s_iconst (v := 1) (by decide)) ?_
      refine rr rfl s_goto ?_
      exact rrt rfl rfl rfl rfl
    refine rrc rfl rfl rfl (do_of g_X9_in rfl rfl e4) ?_
    exact rrt rfl rfl rfl rfl
  refine rrc rfl rfl rfl (do_of g_X9_isTick rfl rfl e3) ?_
  refine rr rfl (s_ifF (by decide)) ?_
  refine rr rfl (s_iload_n rfl) ?_
  have e5 : a_m MT [] 100000 10 miX9_isFact [.int z] hR = some ((some (.int 1)), hR, 0, 0) := by
    refine me (d := 9) g_X9_isFact (Nat.le_of_ble_eq_true rfl) ?_
    refine rr rfl (s_iload_n rfl) ?_
    refine rr rfl (s_iconst (v := 0) (by decide)) ?_
    refine rr rfl (s_bipush (v := 7) (by decide)) ?_
    have e6 : a_m MT [] 100000 9 miX9_in [.int z, .int 0, .int 7] hR = some ((some (.int 1)), hR, 0, 0) := by
      refine me (d := 8) g_X9_in (Nat.le_of_ble_eq_true rfl) ?_
      refine rr rfl (s_iload_n rfl) ?_
      refine rr rfl (s_iload_n rfl) ?_
      refine rr rfl (s_icF (ic_nlt g5)) ?_
      refine rr rfl (s_iload_n rfl) ?_
      refine rr rfl (s_iload_n rfl) ?_
      refine rr rfl (s_icF (ic_ngt g6)) ?_
      refine rr rfl (s_iconst (v := 1) (by decide)) ?_
      refine rr rfl s_goto ?_
      exact rrt rfl rfl rfl rfl
    refine rrc rfl rfl rfl (do_of g_X9_in rfl rfl e6) ?_
    exact rrt rfl rfl rfl rfl
  refine rrc rfl rfl rfl (do_of g_X9_isFact rfl rfl e5) ?_
  refine rr rfl (s_ifT (by decide)) ?_
  refine rr rfl (s_aload_n rfl) ?_
  have e7 := ev_takesHand
  refine rrc rfl rfl rfl (do_of g_X9_takesHand rfl rfl e7) ?_
  refine rr rfl (s_aload_n rfl) ?_
  have e8 := ev_runs
  refine rrc rfl rfl rfl (do_of g_X9_runs rfl rfl e8) ?_
  refine rr rfl (s_iconst (v := 4) (by decide)) ?_
  refine rr rfl (s_iload_n rfl) ?_
  refine rr rfl (s_imul rfl) ?_
  refine rr rfl (s_iload_n rfl) ?_
  refine rr rfl (s_iadd rfl) ?_
  refine rr rfl (s_istore rfl) ?_
  refine rr rfl (s_aload_n rfl) ?_
  refine rr rfl (s_getf rfl rfl) ?_
  refine rr rfl (s_iload rfl) ?_
  refine rr rfl (s_ialdR (n := 28) (x := 0) rfl g7 (nI_lt_of g8)) ?_
  refine rr rfl (s_iload_n rfl) ?_
  refine rr rfl (s_ishr (v := 0) z_ishr) ?_
  refine rr rfl (s_iconst (v := 1) (by decide)) ?_
  refine rr rfl (s_iand (v := 0) (by decide)) ?_
  refine rr rfl (s_ifF (by decide)) ?_
  refine rr rfl (s_iconst (v := (-1)) (by decide)) ?_
  exact rrt rfl rfl rfl rfl
theorem tx_why_xneg {x y z : Int32} (g1 : x < 0) : a_m MT [] 100000 11 miX8_why [.ref 0, .int x, .int y, .int z] hF = some (some (.int (-1)), hF, 0, 0) := by
  refine me (d := 10) g_X8_why (Nat.le_of_ble_eq_true rfl) ?_
  refine rr rfl (s_iload_n rfl) ?_
  have e1 : a_m MT [] 100000 10 miX8_isHost [.int x] hF = some ((some (.int 0)), hF, 0, 0) := by
    refine me (d := 9) g_X8_isHost (Nat.le_of_ble_eq_true rfl) ?_
    refine rr rfl (s_iload_n rfl) ?_
    refine rr rfl (s_ifT (ic_lt g1)) ?_
    refine rr rfl (s_iconst (v := 0) (by decide)) ?_
    exact rrt rfl rfl rfl rfl
  refine rrc rfl rfl rfl (do_of g_X8_isHost rfl rfl e1) ?_
  refine rr rfl (s_ifT (by decide)) ?_
  refine rr rfl (s_iconst (v := (-1)) (by decide)) ?_
  exact rrt rfl rfl rfl rfl
theorem tm_why_xneg {x y z : Int32} (g1 : x < 0) : a_m MT [] 100000 11 miX9_why [.ref 41, .int x, .int y, .int z] hF = some (some (.int (-1)), hF, 0, 0) := by
  refine me (d := 10) g_X9_why (Nat.le_of_ble_eq_true rfl) ?_
  refine rr rfl (s_iload_n rfl) ?_
  have e1 : a_m MT [] 100000 10 miX9_isHost [.int x] hF = some ((some (.int 0)), hF, 0, 0) := by
    refine me (d := 9) g_X9_isHost (Nat.le_of_ble_eq_true rfl) ?_
    refine rr rfl (s_iload_n rfl) ?_
    refine rr rfl (s_iconst (v := 0) (by decide)) ?_
    refine rr rfl (s_iconst (v := 3) (by decide)) ?_
    have e2 : a_m MT [] 100000 9 miX9_in [.int x, .int 0, .int 3] hF = some ((some (.int 0)), hF, 0, 0) := by
      refine me (d := 8) g_X9_in (Nat.le_of_ble_eq_true rfl) ?_
      refine rr rfl (s_iload_n rfl) ?_
      refine rr rfl (s_iload_n rfl) ?_
      refine rr rfl (s_icT (ic_lt g1)) ?_
      refine rr rfl (s_iconst (v := 0) (by decide)) ?_
      exact rrt rfl rfl rfl rfl
    refine rrc rfl rfl rfl (do_of g_X9_in rfl rfl e2) ?_
    exact rrt rfl rfl rfl rfl
  refine rrc rfl rfl rfl (do_of g_X9_isHost rfl rfl e1) ?_
  refine rr rfl (s_ifT (by decide)) ?_
  refine rr rfl (s_iconst (v := (-1)) (by decide)) ?_
  exact rrt rfl rfl rfl rfl
theorem ag_why_xneg {x y z : Int32} (nx : x < 0) : Agree miX8_why miX9_why [.int x, .int y, .int z] := ⟨(-1), hF, hF, 0, 0, 0, 0, tx_why_xneg nx, tm_why_xneg nx, by decide, by decide, rfl⟩
theorem tx_why_xbig {x y z : Int32} (g1 : ¬ x < 0) (g2 : 4 ≤ x) : a_m MT [] 100000 11 miX8_why [.ref 0, .int x, .int y, .int z] hF = some (some (.int (-1)), hF, 0, 0) := by
  refine me (d := 10) g_X8_why (Nat.le_of_ble_eq_true rfl) ?_
  refine rr rfl (s_iload_n rfl) ?_
  have e1 : a_m MT [] 100000 10 miX8_isHost [.int x] hF = some ((some (.int 0)), hF, 0, 0) := by
    refine me (d := 9) g_X8_isHost (Nat.le_of_ble_eq_true rfl) ?_
    refine rr rfl (s_iload_n rfl) ?_
    refine rr rfl (s_ifF (ic_nlt g1)) ?_
    refine rr rfl (s_iload_n rfl) ?_
    refine rr rfl (s_iconst (v := 4) (by decide)) ?_
    refine rr rfl (s_icT (ic_ge g2)) ?_
    refine rr rfl (s_iconst (v := 0) (by decide)) ?_
    exact rrt rfl rfl rfl rfl
  refine rrc rfl rfl rfl (do_of g_X8_isHost rfl rfl e1) ?_
  refine rr rfl (s_ifT (by decide)) ?_
  refine rr rfl (s_iconst (v := (-1)) (by decide)) ?_
  exact rrt rfl rfl rfl rfl
theorem tm_why_xbig {x y z : Int32} (g1 : ¬ x < 0) (g2 : 3 < x) : a_m MT [] 100000 11 miX9_why [.ref 41, .int x, .int y, .int z] hF = some (some (.int (-1)), hF, 0, 0) := by
  refine me (d := 10) g_X9_why (Nat.le_of_ble_eq_true rfl) ?_
  refine rr rfl (s_iload_n rfl) ?_
  have e1 : a_m MT [] 100000 10 miX9_isHost [.int x] hF = some ((some (.int 0)), hF, 0, 0) := by
    refine me (d := 9) g_X9_isHost (Nat.le_of_ble_eq_true rfl) ?_
    refine rr rfl (s_iload_n rfl) ?_
    refine rr rfl (s_iconst (v := 0) (by decide)) ?_
    refine rr rfl (s_iconst (v := 3) (by decide)) ?_
    have e2 : a_m MT [] 100000 9 miX9_in [.int x, .int 0, .int 3] hF = some ((some (.int 0)), hF, 0, 0) := by
      refine me (d := 8) g_X9_in (Nat.le_of_ble_eq_true rfl) ?_
      refine rr rfl (s_iload_n rfl) ?_
      refine rr rfl (s_iload_n rfl) ?_
      refine rr rfl (s_icF (ic_nlt g1)) ?_
      refine rr rfl (s_iload_n rfl) ?_
      refine rr rfl (s_iload_n rfl) ?_
      refine rr rfl (s_icT (ic_gt g2)) ?_
      refine rr rfl (s_iconst (v := 0) (by decide)) ?_
      exact rrt rfl rfl rfl rfl
    refine rrc rfl rfl rfl (do_of g_X9_in rfl rfl e2) ?_
    exact rrt rfl rfl rfl rfl
  refine rrc rfl rfl rfl (do_of g_X9_isHost rfl rfl e1) ?_
  refine rr rfl (s_ifT (by decide)) ?_
  refine rr rfl (s_iconst (v := (-1)) (by decide)) ?_
  exact rrt rfl rfl rfl rfl
theorem ag_why_xbig {x y z : Int32} (px : ¬ x < 0) (ox : 3 < x) : Agree miX8_why miX9_why [.int x, .int y, .int z] := ⟨(-1), hF, hF, 0, 0, 0, 0, tx_why_xbig px (by simp only [Int32.lt_iff_toInt_lt, Int32.le_iff_toInt_le, kk_0, kk_1, kk_2, kk_3, kk_4, kk_5, kk_6, kk_7, kk_8] at px ox ⊢; omega), tm_why_xbig px ox, by decide, by decide, rfl⟩
theorem tx_why_yneg {x y z : Int32} (g1 : ¬ x < 0) (g2 : ¬ 4 ≤ x) (g3 : y < 0) : a_m MT [] 100000 11 miX8_why [.ref 0, .int x, .int y, .int z] hF = some (some (.int (-1)), hF, 0, 0) := by
  refine me (d := 10) g_X8_why (Nat.le_of_ble_eq_true rfl) ?_
  refine rr rfl (s_iload_n rfl) ?_
  have e1 : a_m MT [] 100000 10 miX8_isHost [.int x] hF = some ((some (.int 1)), hF, 0, 0) := by
    refine me (d := 9) g_X8_isHost (Nat.le_of_ble_eq_true rfl) ?_
    refine rr rfl (s_iload_n rfl) ?_
    refine rr rfl (s_ifF (ic_nlt g1)) ?_
    refine rr rfl (s_iload_n rfl) ?_
    refine rr rfl (s_iconst (v := 4) (by decide)) ?_
    refine rr rfl (s_icF (ic_nge g2)) ?_
    refine rr rfl (s_iconst (v := 1) (by decide)) ?_
    refine rr rfl s_goto ?_
    exact rrt rfl rfl rfl rfl
  refine rrc rfl rfl rfl (do_of g_X8_isHost rfl rfl e1) ?_
  refine rr rfl (s_ifF (by decide)) ?_
  refine rr rfl (s_aload_n rfl) ?_
  refine rr rfl (s_iload_n rfl) ?_
  have e2 : a_m MT [] 100000 10 miX8_isTick [.ref 0, .int y] hF = some ((some (.int 0)), hF, 0, 0) := by
    refine me (d := 9) g_X8_isTick (Nat.le_of_ble_eq_true rfl) ?_
    refine rr rfl (s_iload_n rfl) ?_
    refine rr rfl (s_ifT (ic_lt g3)) ?_
    refine rr rfl (s_iconst (v := 0) (by decide)) ?_
    exact rrt rfl rfl rfl rfl
  refine rrc rfl rfl rfl (do_of g_X8_isTick rfl rfl e2) ?_
  refine rr rfl (s_ifT (by decide)) ?_
  refine rr rfl (s_iconst (v := (-1)) (by decide)) ?_
  exact rrt rfl rfl rfl rfl
theorem tm_why_yneg {x y z : Int32} (g1 : ¬ x < 0) (g2 : ¬ 3 < x) (g3 : y < 0) : a_m MT [] 100000 11 miX9_why [.ref 41, .int x, .int y, .int z] hF = some (some (.int (-1)), hF, 0, 0) := by
  refine me (d := 10) g_X9_why (Nat.le_of_ble_eq_true rfl) ?_
  refine rr rfl (s_iload_n rfl) ?_
  have e1 : a_m MT [] 100000 10 miX9_isHost [.int x] hF = some ((some (.int 1)), hF, 0, 0) := by
    refine me (d := 9) g_X9_isHost (Nat.le_of_ble_eq_true rfl) ?_
    refine rr rfl (s_iload_n rfl) ?_
    refine rr rfl (s_iconst (v := 0) (by decide)) ?_
    refine rr rfl (s_iconst (v := 3) (by decide)) ?_
    have e2 : a_m MT [] 100000 9 miX9_in [.int x, .int 0, .int 3] hF = some ((some (.int 1)), hF, 0, 0) := by
      refine me (d := 8) g_X9_in (Nat.le_of_ble_eq_true rfl) ?_
      refine rr rfl (s_iload_n rfl) ?_
      refine rr rfl (s_iload_n rfl) ?_
      refine rr rfl (s_icF (ic_nlt g1)) ?_
      refine rr rfl (s_iload_n rfl) ?_
      refine rr rfl (s_iload_n rfl) ?_
      refine rr rfl (s_icF (ic_ngt g2)) ?_
      refine rr rfl (s_iconst (v := 1) (by decide)) ?_
      refine rr rfl s_goto ?_
      exact rrt rfl rfl rfl rfl
    refine rrc rfl rfl rfl (do_of g_X9_in rfl rfl e2) ?_
    exact rrt rfl rfl rfl rfl
  refine rrc rfl rfl rfl (do_of g_X9_isHost rfl rfl e1) ?_
  refine rr rfl (s_ifF (by decide)) ?_
  refine rr rfl (s_aload_n rfl) ?_
  refine rr rfl (s_iload_n rfl) ?_
  have e3 : a_m MT [] 100000 10 miX9_isTick [.ref 41, .int y] hF = some ((some (.int 0)), hF, 0, 0) := by
    refine me (d := 9) g_X9_isTick (Nat.le_of_ble_eq_true rfl) ?_
    refine rr rfl (s_iload_n rfl) ?_
    refine rr rfl (s_iconst (v := 0) (by decide)) ?_
    refine rr rfl (s_aload_n rfl) ?_
    refine rr rfl (s_getf rfl rfl) ?_
    have e4 : a_m MT [] 100000 9 miX9_in [.int y, .int 0, .int 4] hF = some ((some (.int 0)), hF, 0, 0) := by
      refine me (d := 8) g_X9_in (Nat.le_of_ble_eq_true rfl) ?_
      refine rr rfl (s_iload_n rfl) ?_
      refine rr rfl (s_iload_n rfl) ?_
      refine rr rfl (s_icT (ic_lt g3)) ?_
      refine rr rfl (s_iconst (v := 0) (by decide)) ?_
      exact rrt rfl rfl rfl rfl
    refine rrc rfl rfl rfl (do_of g_X9_in rfl rfl e4) ?_
    exact rrt rfl rfl rfl rfl
  refine rrc rfl rfl rfl (do_of g_X9_isTick rfl rfl e3) ?_
  refine rr rfl (s_ifT (by decide)) ?_
  refine rr rfl (s_iconst (v := (-1)) (by decide)) ?_
  exact rrt rfl rfl rfl rfl
theorem ag_why_yneg {x y z : Int32} (px : ¬ x < 0) (qx : x ≤ 3) (ny : y < 0) : Agree miX8_why miX9_why [.int x, .int y, .int z] := ⟨(-1), hF, hF, 0, 0, 0, 0, tx_why_yneg px (by simp only [Int32.lt_iff_toInt_lt, Int32.le_iff_toInt_le, kk_0, kk_1, kk_2, kk_3, kk_4, kk_5, kk_6, kk_7, kk_8] at px qx ⊢; omega) ny, tm_why_yneg px (by simp only [Int32.lt_iff_toInt_lt, Int32.le_iff_toInt_le, kk_0, kk_1, kk_2, kk_3, kk_4, kk_5, kk_6, kk_7, kk_8] at px qx ⊢; omega) ny, by decide, by decide, rfl⟩
theorem tx_why_ybig {x y z : Int32} (g1 : ¬ x < 0) (g2 : ¬ 4 ≤ x) (g3 : ¬ y < 0) (g4 : 4 < y) : a_m MT [] 100000 11 miX8_why [.ref 0, .int x, .int y, .int z] hF = some (some (.int (-1)), hF, 0, 0) := by
  refine me (d := 10) g_X8_why (Nat.le_of_ble_eq_true rfl) ?_
  refine rr rfl (s_iload_n rfl) ?_
  have e1 : a_m MT [] 100000 10 miX8_isHost [.int x] hF = some ((some (.int 1)), hF, 0, 0) := by
    refine me (d := 9) g_X8_isHost (Nat.le_of_ble_eq_true rfl) ?_
    refine rr rfl (s_iload_n rfl) ?_
    refine rr rfl (s_ifF (ic_nlt g1)) ?_
    refine rr rfl (s_iload_n rfl) ?_
    refine rr rfl (s_iconst (v := 4) (by decide)) ?_
    refine rr rfl (s_icF (ic_nge g2)) ?_
    refine rr rfl (s_iconst (v := 1) (by decide)) ?_
    refine rr rfl s_goto ?_
    exact rrt rfl rfl rfl rfl
  refine rrc rfl rfl rfl (do_of g_X8_isHost rfl rfl e1) ?_
  refine rr rfl (s_ifF (by decide)) ?_
  refine rr rfl (s_aload_n rfl) ?_
  refine rr rfl (s_iload_n rfl) ?_
  have e2 : a_m MT [] 100000 10 miX8_isTick [.ref 0, .int y] hF = some ((some (.int 0)), hF, 0, 0) := by
    refine me (d := 9) g_X8_isTick (Nat.le_of_ble_eq_true rfl) ?_
    refine rr rfl (s_iload_n rfl) ?_
    refine rr rfl (s_ifF (ic_nlt g3)) ?_
    refine rr rfl (s_iload_n rfl) ?_
    refine rr rfl (s_aload_n rfl) ?_
    refine rr rfl (s_getf rfl rfl) ?_
    refine rr rfl (s_getf rfl rfl) ?_
    refine rr rfl (s_icT (ic_gt g4)) ?_
    refine rr rfl (s_iconst (v := 0) (by decide)) ?_
    exact rrt rfl rfl rfl rfl
  refine rrc rfl rfl rfl (do_of g_X8_isTick rfl rfl e2) ?_
  refine rr rfl (s_ifT (by decide)) ?_
  refine rr rfl (s_iconst (v := (-1)) (by decide)) ?_
  exact rrt rfl rfl rfl rfl
theorem tm_why_ybig {x y z : Int32} (g1 : ¬ x < 0) (g2 : ¬ 3 < x) (g3 : ¬ y < 0) (g4 : 4 < y) : a_m MT [] 100000 11 miX9_why [.ref 41, .int x, .int y, .int z] hF = some (some (.int (-1)), hF, 0, 0) := by
  refine me (d := 10) g_X9_why (Nat.le_of_ble_eq_true rfl) ?_
  refine rr rfl (s_iload_n rfl) ?_
  have e1 : a_m MT [] 100000 10 miX9_isHost [.int x] hF = some ((some (.int 1)), hF, 0, 0) := by
    refine me (d := 9) g_X9_isHost (Nat.le_of_ble_eq_true rfl) ?_
    refine rr rfl (s_iload_n rfl) ?_
    refine rr rfl (s_iconst (v := 0) (by decide)) ?_
    refine rr rfl (s_iconst (v := 3) (by decide)) ?_
    have e2 : a_m MT [] 100000 9 miX9_in [.int x, .int 0, .int 3] hF = some ((some (.int 1)), hF, 0, 0) := by
      refine me (d := 8) g_X9_in (Nat.le_of_ble_eq_true rfl) ?_
      refine rr rfl (s_iload_n rfl) ?_
      refine rr rfl (s_iload_n rfl) ?_
      refine rr rfl (s_icF (ic_nlt g1)) ?_
      refine rr rfl (s_iload_n rfl) ?_
      refine rr rfl (s_iload_n rfl) ?_
      refine rr rfl (s_icF (ic_ngt g2)) ?_
      refine rr rfl (s_iconst (v := 1) (by decide)) ?_
      refine rr rfl s_goto ?_
      exact rrt rfl rfl rfl rfl
    refine rrc rfl rfl rfl (do_of g_X9_in rfl rfl e2) ?_
    exact rrt rfl rfl rfl rfl
  refine rrc rfl rfl rfl (do_of g_X9_isHost rfl rfl e1) ?_
  refine rr rfl (s_ifF (by decide)) ?_
  refine rr rfl (s_aload_n rfl) ?_
  refine rr rfl (s_iload_n rfl) ?_
  have e3 : a_m MT [] 100000 10 miX9_isTick [.ref 41, .int y] hF = some ((some (.int 0)), hF, 0, 0) := by
    refine me (d := 9) g_X9_isTick (Nat.le_of_ble_eq_true rfl) ?_
    refine rr rfl (s_iload_n rfl) ?_
    refine rr rfl (s_iconst (v := 0) (by decide)) ?_
    refine rr rfl (s_aload_n rfl) ?_
    refine rr rfl (s_getf rfl rfl) ?_
    have e4 : a_m MT [] 100000 9 miX9_in [.int y, .int 0, .int 4] hF = some ((some (.int 0)), hF, 0, 0) := by
      refine me (d := 8) g_X9_in (Nat.le_of_ble_eq_true rfl) ?_
      refine rr rfl (s_iload_n rfl) ?_
      refine rr rfl (s_iload_n rfl) ?_
      refine rr rfl (s_icF (ic_nlt g3)) ?_
      refine rr rfl (s_iload_n rfl) ?_
      refine rr rfl (s_iload_n rfl) ?_
      refine rr rfl (s_icT (ic_gt g4)) ?_
      refine rr rfl (s_iconst (v := 0) (by decide)) ?_
      exact rrt rfl rfl rfl rfl
    refine rrc rfl rfl rfl (do_of g_X9_in rfl rfl e4) ?_
    exact rrt rfl rfl rfl rfl
  refine rrc rfl rfl rfl (do_of g_X9_isTick rfl rfl e3) ?_
  refine rr rfl (s_ifT (by decide)) ?_
  refine rr rfl (s_iconst (v := (-1)) (by decide)) ?_
  exact rrt rfl rfl rfl rfl
theorem ag_why_ybig {x y z : Int32} (px : ¬ x < 0) (qx : x ≤ 3) (py : ¬ y < 0) (oy : 4 < y) : Agree miX8_why miX9_why [.int x, .int y, .int z] := ⟨(-1), hF, hF, 0, 0, 0, 0, tx_why_ybig px (by simp only [Int32.lt_iff_toInt_lt, Int32.le_iff_toInt_le, kk_0, kk_1, kk_2, kk_3, kk_4, kk_5, kk_6, kk_7, kk_8] at px qx ⊢; omega) py oy, tm_why_ybig px (by simp only [Int32.lt_iff_toInt_lt, Int32.le_iff_toInt_le, kk_0, kk_1, kk_2, kk_3, kk_4, kk_5, kk_6, kk_7, kk_8] at px qx ⊢; omega) py oy, by decide, by decide, rfl⟩
theorem tx_why_zneg {x y z : Int32} (g1 : ¬ x < 0) (g2 : ¬ 4 ≤ x) (g3 : ¬ y < 0) (g4 : ¬ 4 < y) (g5 : z < 0) : a_m MT [] 100000 11 miX8_why [.ref 0, .int x, .int y, .int z] hF = some (some (.int (-1)), hF, 0, 0) := by
  refine me (d := 10) g_X8_why (Nat.le_of_ble_eq_true rfl) ?_
  refine rr rfl (s_iload_n rfl) ?_
  have e1 : a_m MT [] 100000 10 miX8_isHost [.int x] hF = some ((some (.int 1)), hF, 0, 0) := by
    refine me (d := 9) g_X8_isHost (Nat.le_of_ble_eq_true rfl) ?_
    refine rr rfl (s_iload_n rfl) ?_
    refine rr rfl (s_ifF (ic_nlt g1)) ?_
    refine rr rfl (s_iload_n rfl) ?_
    refine rr rfl (s_iconst (v := 4) (by decide)) ?_
    refine rr rfl (s_icF (ic_nge g2)) ?_
    refine rr rfl (s_iconst (v := 1) (by decide)) ?_
    refine rr rfl s_goto ?_
    exact rrt rfl rfl rfl rfl
  refine rrc rfl rfl rfl (do_of g_X8_isHost rfl rfl e1) ?_
  refine rr rfl (s_ifF (by decide)) ?_
  refine rr rfl (s_aload_n rfl) ?_
  refine rr rfl (s_iload_n rfl) ?_
  have e2 : a_m MT [] 100000 10 miX8_isTick [.ref 0, .int y] hF = some ((some (.int 1)), hF, 0, 0) := by
    refine me (d := 9) g_X8_isTick (Nat.le_of_ble_eq_true rfl) ?_
    refine rr rfl (s_iload_n rfl) ?_
    refine rr rfl (s_ifF (ic_nlt g3)) ?_
    refine rr rfl (s_iload_n rfl) ?_
    refine rr rfl (s_aload_n rfl) ?_
    refine rr rfl (s_getf rfl rfl) ?_
    refine rr rfl (s_getf rfl rfl) ?_
    refine rr rfl (s_icF (ic_ngt g4)) ?_
    refine rr rfl (s_iconst (v := 1) (by decide)) ?_
    refine rr rfl s_goto ?_
    exact rrt rfl rfl rfl rfl
  refine rrc rfl rfl rfl (do_of g_X8_isTick rfl rfl e2) ?_
  refine rr rfl (s_ifF (by decide)) ?_
  refine rr rfl (s_iload_n rfl) ?_
  have e3 : a_m MT [] 100000 10 miX8_isFact [.int z] hF = some ((some (.int 0)), hF, 0, 0) := by
    refine me (d := 9) g_X8_isFact (Nat.le_of_ble_eq_true rfl) ?_
    refine rr rfl (s_iload_n rfl) ?_
    refine rr rfl (s_ifT (ic_lt g5)) ?_
    refine rr rfl (s_iconst (v := 0) (by decide)) ?_
    exact rrt rfl rfl rfl rfl
  refine rrc rfl rfl rfl (do_of g_X8_isFact rfl rfl e3) ?_
  refine rr rfl (s_ifF (by decide)) ?_
  refine rr rfl (s_iconst (v := (-1)) (by decide)) ?_
  exact rrt rfl rfl rfl rfl
theorem tm_why_zneg {x y z : Int32} (g1 : ¬ x < 0) (g2 : ¬ 3 < x) (g3 : ¬ y < 0) (g4 : ¬ 4 < y) (g5 : z < 0) : a_m MT [] 100000 11 miX9_why [.ref 41, .int x, .int y, .int z] hF = some (some (.int (-1)), hF, 0, 0) := by
  refine me (d := 10) g_X9_why (Nat.le_of_ble_eq_true rfl) ?_
  refine rr rfl (s_iload_n rfl) ?_
  have e1 : a_m MT [] 100000 10 miX9_isHost [.int x] hF = some ((some (.int 1)), hF, 0, 0) := by
    refine me (d := 9) g_X9_isHost (Nat.le_of_ble_eq_true rfl) ?_
    refine rr rfl (s_iload_n rfl) ?_
    refine rr rfl (s_iconst (v := 0) (by decide)) ?_
    refine rr rfl (s_iconst (v := 3) (by decide)) ?_
    have e2 : a_m MT [] 100000 9 miX9_in [.int x, .int 0, .int 3] hF = some ((some (.int 1)), hF, 0, 0) := by
      refine me (d := 8) g_X9_in (Nat.le_of_ble_eq_true rfl) ?_
      refine rr rfl (s_iload_n rfl) ?_
      refine rr rfl (s_iload_n rfl) ?_
      refine rr rfl (s_icF (ic_nlt g1)) ?_
      refine rr rfl (s_iload_n rfl) ?_
      refine rr rfl (s_iload_n rfl) ?_
      refine rr rfl (s_icF (ic_ngt g2)) ?_
      refine rr rfl (s_iconst (v := 1) (by decide)) ?_
      refine rr rfl s_goto ?_
      exact rrt rfl rfl rfl rfl
    refine rrc rfl rfl rfl (do_of g_X9_in rfl rfl e2) ?_
    exact rrt rfl rfl rfl rfl
  refine rrc rfl rfl rfl (do_of g_X9_isHost rfl rfl e1) ?_
  refine rr rfl (s_ifF (by decide)) ?_
  refine rr rfl (s_aload_n rfl) ?_
  refine rr rfl (s_iload_n rfl) ?_
  have e3 : a_m MT [] 100000 10 miX9_isTick [.ref 41, .int y] hF = some ((some (.int 1)), hF, 0, 0) := by
    refine me (d := 9) g_X9_isTick (Nat.le_of_ble_eq_true rfl) ?_
    refine rr rfl (s_iload_n rfl) ?_
    refine rr rfl (s_iconst (v := 0) (by decide)) ?_
    refine rr rfl (s_aload_n rfl) ?_
    refine rr rfl (s_getf rfl rfl) ?_
    have e4 : a_m MT [] 100000 9 miX9_in [.int y, .int 0, .int 4] hF = some ((some (.int 1)), hF, 0, 0) := by
      refine me (d := 8) g_X9_in (Nat.le_of_ble_eq_true rfl) ?_
      refine rr rfl (s_iload_n rfl) ?_
      refine rr rfl (s_iload_n rfl) ?_
      refine rr rfl (s_icF (ic_nlt g3)) ?_
      refine rr rfl (s_iload_n rfl) ?_
      refine rr rfl (s_iload_n rfl) ?_
      refine rr rfl (s_icF (ic_ngt g4)) ?_
      refine rr rfl (s_iconst (v := 1) (by decide)) ?_
      refine rr rfl s_goto ?_
      exact rrt rfl rfl rfl rfl
    refine rrc rfl rfl rfl (do_of g_X9_in rfl rfl e4) ?_
    exact rrt rfl rfl rfl rfl
  refine rrc rfl rfl rfl (do_of g_X9_isTick rfl rfl e3) ?_
  refine rr rfl (s_ifF (by decide)) ?_
  refine rr rfl (s_iload_n rfl) ?_
  have e5 : a_m MT [] 100000 10 miX9_isFact [.int z] hF = some ((some (.int 0)), hF, 0, 0) := by
    refine me (d := 9) g_X9_isFact (Nat.le_of_ble_eq_true rfl) ?_
    refine rr rfl (s_iload_n rfl) ?_
    refine rr rfl (s_iconst (v := 0) (by decide)) ?_
    refine rr rfl (s_bipush (v := 7) (by decide)) ?_
    have e6 : a_m MT [] 100000 9 miX9_in [.int z, .int 0, .int 7] hF = some ((some (.int 0)), hF, 0, 0) := by
      refine me (d := 8) g_X9_in (Nat.le_of_ble_eq_true rfl) ?_
      refine rr rfl (s_iload_n rfl) ?_
      refine rr rfl (s_iload_n rfl) ?_
      refine rr rfl (s_icT (ic_lt g5)) ?_
      refine rr rfl (s_iconst (v := 0) (by decide)) ?_
      exact rrt rfl rfl rfl rfl
    refine rrc rfl rfl rfl (do_of g_X9_in rfl rfl e6) ?_
    exact rrt rfl rfl rfl rfl
  refine rrc rfl rfl rfl (do_of g_X9_isFact rfl rfl e5) ?_
  refine rr rfl (s_ifF (by decide)) ?_
  refine rr rfl (s_iconst (v := (-1)) (by decide)) ?_
  exact rrt rfl rfl rfl rfl
theorem ag_why_zneg {x y z : Int32} (px : ¬ x < 0) (qx : x ≤ 3) (py : ¬ y < 0) (qy : y ≤ 4) (nz : z < 0) : Agree miX8_why miX9_why [.int x, .int y, .int z] := ⟨(-1), hF, hF, 0, 0, 0, 0, tx_why_zneg px (by simp only [Int32.lt_iff_toInt_lt, Int32.le_iff_toInt_le, kk_0, kk_1, kk_2, kk_3, kk_4, kk_5, kk_6, kk_7, kk_8] at px qx ⊢; omega) py (by simp only [Int32.lt_iff_toInt_lt, Int32.le_iff_toInt_le, kk_0, kk_1, kk_2, kk_3, kk_4, kk_5, kk_6, kk_7, kk_8] at py qy ⊢; omega) nz, tm_why_zneg px (by simp only [Int32.lt_iff_toInt_lt, Int32.le_iff_toInt_le, kk_0, kk_1, kk_2, kk_3, kk_4, kk_5, kk_6, kk_7, kk_8] at px qx ⊢; omega) py (by simp only [Int32.lt_iff_toInt_lt, Int32.le_iff_toInt_le, kk_0, kk_1, kk_2, kk_3, kk_4, kk_5, kk_6, kk_7, kk_8] at py qy ⊢; omega) nz, by decide, by decide, rfl⟩
theorem tx_why_zbig {x y z : Int32} (g1 : ¬ x < 0) (g2 : ¬ 4 ≤ x) (g3 : ¬ y < 0) (g4 : ¬ 4 < y) (g5 : ¬ z < 0) (g6 : 8 ≤ z) : a_m MT [] 100000 11 miX8_why [.ref 0, .int x, .int y, .int z] hF = some (some (.int (-1)), hF, 0, 0) := by
  refine me (d := 10) g_X8_why (Nat.le_of_ble_eq_true rfl) ?_
  refine rr rfl (s_iload_n rfl) ?_
  have e1 : a_m MT [] 100000 10 miX8_isHost [.int x] hF = some ((some (.int 1)), hF, 0, 0) := by
    refine me (d := 9) g_X8_isHost (Nat.le_of_ble_eq_true rfl) ?_
    refine rr rfl (s_iload_n rfl) ?_
    refine rr rfl (s_ifF (ic_nlt g1)) ?_
    refine rr rfl (s_iload_n rfl) ?_
    refine rr rfl (s_iconst (v := 4) (by decide)) ?_
    refine rr rfl (s_icF (ic_nge g2)) ?_
    refine rr rfl (s_iconst (v := 1) (by decide)) ?_
    refine rr rfl s_goto ?_
    exact rrt rfl rfl rfl rfl
  refine rrc rfl rfl rfl (do_of g_X8_isHost rfl rfl e1) ?_
  refine rr rfl (s_ifF (by decide)) ?_
  refine rr rfl (s_aload_n rfl) ?_
  refine rr rfl (s_iload_n rfl) ?_
  have e2 : a_m MT [] 100000 10 miX8_isTick [.ref 0, .int y] hF = some ((some (.int 1)), hF, 0, 0) := by
    refine me (d := 9) g_X8_isTick (Nat.le_of_ble_eq_true rfl) ?_
    refine rr rfl (s_iload_n rfl) ?_
    refine rr rfl (s_ifF (ic_nlt g3)) ?_
    refine rr rfl (s_iload_n rfl) ?_
    refine rr rfl (s_aload_n rfl) ?_
    refine rr rfl (s_getf rfl rfl) ?_
    refine rr rfl (s_getf rfl rfl) ?_
    refine rr rfl (s_icF (ic_ngt g4)) ?_
    refine rr rfl (s_iconst (v := 1) (by decide)) ?_
    refine rr rfl s_goto ?_
    exact rrt rfl rfl rfl rfl
  refine rrc rfl rfl rfl (do_of g_X8_isTick rfl rfl e2) ?_
  refine rr rfl (s_ifF (by decide)) ?_
  refine rr rfl (s_iload_n rfl) ?_
  have e3 : a_m MT [] 100000 10 miX8_isFact [.int z] hF = some ((some (.int 0)), hF, 0, 0) := by
    refine me (d := 9) g_X8_isFact (Nat.le_of_ble_eq_true rfl) ?_
    refine rr rfl (s_iload_n rfl) ?_
    refine rr rfl (s_ifF (ic_nlt g5)) ?_
    refine rr rfl (s_iload_n rfl) ?_
    refine rr rfl (s_bipush (v := 8) (by decide)) ?_
    refine rr rfl (s_icT (ic_ge g6)) ?_
    refine rr rfl (s_iconst (v := 0) (by decide)) ?_
    exact rrt rfl rfl rfl rfl
  refine rrc rfl rfl rfl (do_of g_X8_isFact rfl rfl e3) ?_
  refine rr rfl (s_ifF (by decide)) ?_
  refine rr rfl (s_iconst (v := (-1)) (by decide)) ?_
  exact rrt rfl rfl rfl rfl
theorem tm_why_zbig {x y z : Int32} (g1 : ¬ x < 0) (g2 : ¬ 3 < x) (g3 : ¬ y < 0) (g4 : ¬ 4 < y) (g5 : ¬ z < 0) (g6 : 7 < z) : a_m MT [] 100000 11 miX9_why [.ref 41, .int x, .int y, .int z] hF = some (some (.int (-1)), hF, 0, 0) := by
  refine me (d := 10) g_X9_why (Nat.le_of_ble_eq_true rfl) ?_
  refine rr rfl (s_iload_n rfl) ?_
  have e1 : a_m MT [] 100000 10 miX9_isHost [.int x] hF = some ((some (.int 1)), hF, 0, 0) := by
    refine me (d := 9) g_X9_isHost (Nat.le_of_ble_eq_true rfl) ?_
    refine rr rfl (s_iload_n rfl) ?_
    refine rr rfl (s_iconst (v := 0) (by decide)) ?_
    refine rr rfl (s_iconst (v := 3) (by decide)) ?_
    have e2 : a_m MT [] 100000 9 miX9_in [.int x, .int 0, .int 3] hF = some ((some (.int 1)), hF, 0, 0) := by
      refine me (d := 8) g_X9_in (Nat.le_of_ble_eq_true rfl) ?_
      refine rr rfl (s_iload_n rfl) ?_
      refine rr rfl (s_iload_n rfl) ?_
      refine rr rfl (s_icF (ic_nlt g1)) ?_
      refine rr rfl (s_iload_n rfl) ?_
      refine rr rfl (s_iload_n rfl) ?_
      refine rr rfl (s_icF (ic_ngt g2)) ?_
      refine rr rfl (s_iconst (v := 1) (by decide)) ?_
      refine rr rfl s_goto ?_
      exact rrt rfl rfl rfl rfl
    refine rrc rfl rfl rfl (do_of g_X9_in rfl rfl e2) ?_
    exact rrt rfl rfl rfl rfl
  refine rrc rfl rfl rfl (do_of g_X9_isHost rfl rfl e1) ?_
  refine rr rfl (s_ifF (by decide)) ?_
  refine rr rfl (s_aload_n rfl) ?_
  refine rr rfl (s_iload_n rfl) ?_
  have e3 : a_m MT [] 100000 10 miX9_isTick [.ref 41, .int y] hF = some ((some (.int 1)), hF, 0, 0) := by
    refine me (d := 9) g_X9_isTick (Nat.le_of_ble_eq_true rfl) ?_
    refine rr rfl (s_iload_n rfl) ?_
    refine rr rfl (s_iconst (v := 0) (by decide)) ?_
    refine rr rfl (s_aload_n rfl) ?_
    refine rr rfl (s_getf rfl rfl) ?_
    have e4 : a_m MT [] 100000 9 miX9_in [.int y, .int 0, .int 4] hF = some ((some (.int 1)), hF, 0, 0) := by
      refine me (d := 8) g_X9_in (Nat.le_of_ble_eq_true rfl) ?_
      refine rr rfl (s_iload_n rfl) ?_
      refine rr rfl (s_iload_n rfl) ?_
      refine rr rfl (s_icF (ic_nlt g3)) ?_
      refine rr rfl (s_iload_n rfl) ?_
      refine rr rfl (s_iload_n rfl) ?_
      refine rr rfl (s_icF (ic_ngt g4)) ?_
      refine rr rfl (s_iconst (v := 1) (by decide)) ?_
      refine rr rfl s_goto ?_
      exact rrt rfl rfl rfl rfl
    refine rrc rfl rfl rfl (do_of g_X9_in rfl rfl e4) ?_
    exact rrt rfl rfl rfl rfl
  refine rrc rfl rfl rfl (do_of g_X9_isTick rfl rfl e3) ?_
  refine rr rfl (s_ifF (by decide)) ?_
  refine rr rfl (s_iload_n rfl) ?_
  have e5 : a_m MT [] 100000 10 miX9_isFact [.int z] hF = some ((some (.int 0)), hF, 0, 0) := by
    refine me (d := 9) g_X9_isFact (Nat.le_of_ble_eq_true rfl) ?_
    refine rr rfl (s_iload_n rfl) ?_
    refine rr rfl (s_iconst (v := 0) (by decide)) ?_
    refine rr rfl (s_bipush (v := 7) (by decide)) ?_
    have e6 : a_m MT [] 100000 9 miX9_in [.int z, .int 0, .int 7] hF = some ((some (.int 0)), hF, 0, 0) := by
      refine me (d := 8) g_X9_in (Nat.le_of_ble_eq_true rfl) ?_
      refine rr rfl (s_iload_n rfl) ?_
      refine rr rfl (s_iload_n rfl) ?_
      refine rr rfl (s_icF (ic_nlt g5)) ?_
      refine rr rfl (s_iload_n rfl) ?_
      refine rr rfl (s_iload_n rfl) ?_
      refine rr rfl (s_icT (ic_gt g6)) ?_
      refine rr rfl (s_iconst (v := 0) (by decide)) ?_
      exact rrt rfl rfl rfl rfl
    refine rrc rfl rfl rfl (do_of g_X9_in rfl rfl e6) ?_
    exact rrt rfl rfl rfl rfl
  refine rrc rfl rfl rfl (do_of g_X9_isFact rfl rfl e5) ?_
  refine rr rfl (s_ifF (by decide)) ?_
  refine rr rfl (s_iconst (v := (-1)) (by decide)) ?_
  exact rrt rfl rfl rfl rfl
theorem ag_why_zbig {x y z : Int32} (px : ¬ x < 0) (qx : x ≤ 3) (py : ¬ y < 0) (qy : y ≤ 4) (pz : ¬ z < 0) (oz : 7 < z) : Agree miX8_why miX9_why [.int x, .int y, .int z] := ⟨(-1), hF, hF, 0, 0, 0, 0, tx_why_zbig px (by simp only [Int32.lt_iff_toInt_lt, Int32.le_iff_toInt_le, kk_0, kk_1, kk_2, kk_3, kk_4, kk_5, kk_6, kk_7, kk_8] at px qx ⊢; omega) py (by simp only [Int32.lt_iff_toInt_lt, Int32.le_iff_toInt_le, kk_0, kk_1, kk_2, kk_3, kk_4, kk_5, kk_6, kk_7, kk_8] at py qy ⊢; omega) pz (by simp only [Int32.lt_iff_toInt_lt, Int32.le_iff_toInt_le, kk_0, kk_1, kk_2, kk_3, kk_4, kk_5, kk_6, kk_7, kk_8] at pz oz ⊢; omega), tm_why_zbig px (by simp only [Int32.lt_iff_toInt_lt, Int32.le_iff_toInt_le, kk_0, kk_1, kk_2, kk_3, kk_4, kk_5, kk_6, kk_7, kk_8] at px qx ⊢; omega) py (by simp only [Int32.lt_iff_toInt_lt, Int32.le_iff_toInt_le, kk_0, kk_1, kk_2, kk_3, kk_4, kk_5, kk_6, kk_7, kk_8] at py qy ⊢; omega) pz oz, by decide, by decide, rfl⟩
theorem al_why (x y z : Int32) : Agree miX8_why miX9_why [.int x, .int y, .int z] := by
  by_cases nx : x < 0
  · exact ag_why_xneg  nx
  by_cases qx : x ≤ 3
  rotate_left
  · exact ag_why_xbig  nx (Int32.not_le.mp qx)
  have px := nx
  by_cases ny : y < 0
  · exact ag_why_yneg px qx ny
  by_cases qy : y ≤ 4
  rotate_left
  · exact ag_why_ybig px qx ny (Int32.not_le.mp qy)
  have py := ny
  by_cases nz : z < 0
  · exact ag_why_zneg px qx py qy nz
  by_cases qz : z ≤ 7
  rotate_left
  · exact ag_why_zbig px qx py qy nz (Int32.not_le.mp qz)
  have pz := nz
  obtain ⟨jx, lx, rfl⟩ := nI_of2 (M := 3) (n := 3) rfl px qx
  obtain ⟨jy, ly, rfl⟩ := nI_of2 (M := 4) (n := 4) rfl py qy
  obtain ⟨jz, lz, rfl⟩ := nI_of2 (M := 7) (n := 7) rfl pz qz
  exact ⟨_, _, _, 0, 0, 0, 0, tx_why_in (fc_why_0 jx lx) (fc_why_1 jx lx) (fc_why_2 jy ly) (fc_why_3 jy ly) (fc_why_4 jz lz) (fc_why_5 jz lz) (fc_why_6 jy ly), tm_why_in (fc_why_0 jx lx) (fc_why_7 jx lx) (fc_why_2 jy ly) (fc_why_3 jy ly) (fc_why_4 jz lz) (fc_why_8 jz lz) (fc_why_9 jx lx jy ly) (fc_why_10 jx lx jy ly), by decide, by decide, rfl⟩
