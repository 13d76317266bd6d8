theorem me {xs : List Int32} {N d mi : Nat} {m : AM} {vs : List Value} {h : AH} {res : ARes} (hm : a_at MT mi = some m) (hv : vs.length ≤ m.2.2.1) (k : a_run MT xs (a_m MT xs N d) (d + 1) m.2.2.2.1 m.2.2.2.2.2.2.2 N 0 (a_entry 0 vs) [] h 0 0 = some res) : a_m MT xs N (d + 1) mi vs h = some res := by
  rw [a_m_succ, a_meth_at hm hv]
  exact k
theorem g_X8_end : a_at MT miX8_end = some amX8_end := rfl
theorem g_X8_facts : a_at MT miX8_facts = some amX8_facts := rfl
theorem g_X8_isHost : a_at MT miX8_isHost = some amX8_isHost := rfl
theorem g_X9_end : a_at MT miX9_end = some amX9_end := rfl
theorem g_X9_in : a_at MT miX9_in = some amX9_in := rfl
theorem t_end1 {x : Int32} (g1 : x < 1) : a_m MT [] 100000 11 miX8_end [.ref 0, .int x] hF = some (some (.int (-2)), hF, 0, 0) := by
  refine me (d := 10) g_X8_end (Nat.le_of_ble_eq_true rfl) ?_
  refine rr rfl (s_iload_n rfl) ?_
  refine rr rfl (s_iconst (v := 1) (by decide)) ?_
  refine rr rfl (s_icT (ic_lt g1)) ?_
  refine rr rfl (s_bipush (v := (-2)) (by decide)) ?_
  exact rrt rfl rfl rfl rfl
theorem t_facts1 {x y : Int32} (g1 : x < 0) : a_m MT [] 100000 11 miX8_facts [.ref 0, .int x, .int y] hF = some (some (.int (-1)), hF, 0, 0) := by
  refine me (d := 10) g_X8_facts (Nat.le_of_ble_eq_true rfl) ?_
  refine rr rfl (s_iload_n rfl) ?_
  have e1 : a_m MT [] 100000 10 miX8_isHost [.int x] hF = some ((some (.int 0)), hF, 0, 0) := by
    refine me (d := 9) g_X8_isHost (Nat.le_of_ble_eq_true rfl) ?_
    refine rr rfl (s_iload_n rfl) ?_
    refine rr rfl (s_ifT (ic_lt g1)) ?_
    refine rr rfl (s_iconst (v := 0) (by decide)) ?_
    exact rrt rfl rfl rfl rfl
  refine rrc rfl rfl rfl (do_of g_X8_isHost rfl rfl e1) ?_
  refine rr rfl (s_ifT (by decide)) ?_
  refine rr rfl (s_iconst (v := (-1)) (by decide)) ?_
  exact rrt rfl rfl rfl rfl
theorem t_endm {x : Int32} (g1 : x < 1) : a_m MT [] 100000 11 miX9_end [.ref 41, .int x] hF = some (some (.int (-2)), hF, 0, 0) := by
  refine me (d := 10) g_X9_end (Nat.le_of_ble_eq_true rfl) ?_
  refine rr rfl (s_iload_n rfl) ?_
  refine rr rfl (s_iconst (v := 1) (by decide)) ?_
  refine rr rfl (s_bipush (v := 6) (by decide)) ?_
  have e1 : a_m MT [] 100000 10 miX9_in [.int x, .int 1, .int 6] hF = some ((some (.int 0)), hF, 0, 0) := by
    refine me (d := 9) g_X9_in (Nat.le_of_ble_eq_true rfl) ?_
    refine rr rfl (s_iload_n rfl) ?_
    refine rr rfl (s_iload_n rfl) ?_
    refine rr rfl (s_icT (ic_lt g1)) ?_
    refine rr rfl (s_iconst (v := 0) (by decide)) ?_
    exact rrt rfl rfl rfl rfl
  refine rrc rfl rfl rfl (do_of g_X9_in rfl rfl e1) ?_
  refine rr rfl (s_ifF (by decide)) ?_
  refine rr rfl (s_bipush (v := (-2)) (by decide)) ?_
  exact rrt rfl rfl rfl rfl
