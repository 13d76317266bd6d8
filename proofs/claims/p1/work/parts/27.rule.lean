set_option maxHeartbeats 4000000 in
theorem ckM {x1 x2 x3 x4 x5 x6 x7 f : Int32} {H : AH} (hn : x1 < (-1) ∨ 3 < x1 ∨ x2 < 0 ∨ 2 < x2 ∨ f = 0 ∨ (x2 = 2 ∧ (x7 < 0 ∨ 3 < x7))) : a_run MT [] (a_m MT [] 100000 10) 11 (some .int) tabX9_rule 95000 44 ((8, .int f) :: (a_entry 0 [.ref 41, .int x1, .int x2, .int x3, .int x4, .int x5, .int x6, .int x7])) [] H 0 0 = some (some (.int (-1)), H, 0, 0) := by
  by_cases c1 : x1 < (-1)
  · refine rr rfl (s_iload_n rfl) ?_
    refine rr rfl (s_iconst (v := (-1)) (by decide)) ?_
    refine rr rfl (s_iconst (v := 3) (by decide)) ?_
    have e1 : a_m MT [] 100000 10 miX9_in [.int x1, .int (-1), .int 3] H = some ((some (.int 0)), H, 0, 0) := by
      refine me (d := 9) g_X9_in (Nat.le_of_ble_eq_true rfl) ?_
      refine rr rfl (s_iload_n rfl) ?_
      refine rr rfl (s_iload_n rfl) ?_
      refine rr rfl (s_icT (ic_lt c1)) ?_
      refine rr rfl (s_iconst (v := 0) (by decide)) ?_
      exact rrt rfl rfl rfl rfl
    refine rrc rfl rfl rfl (do_of g_X9_in rfl rfl e1) ?_
    refine rr rfl (s_ifT (by decide)) ?_
    refine rr rfl (s_iconst (v := (-1)) (by decide)) ?_
    exact rrt rfl rfl rfl rfl
  by_cases c2 : 3 < x1
  · refine rr rfl (s_iload_n rfl) ?_
    refine rr rfl (s_iconst (v := (-1)) (by decide)) ?_
    refine rr rfl (s_iconst (v := 3) (by decide)) ?_
    have e1 : a_m MT [] 100000 10 miX9_in [.int x1, .int (-1), .int 3] H = some ((some (.int 0)), H, 0, 0) := by
      refine me (d := 9) g_X9_in (Nat.le_of_ble_eq_true rfl) ?_
      refine rr rfl (s_iload_n rfl) ?_
      refine rr rfl (s_iload_n rfl) ?_
      refine rr rfl (s_icF (ic_nlt c1)) ?_
      refine rr rfl (s_iload_n rfl) ?_
      refine rr rfl (s_iload_n rfl) ?_
      refine rr rfl (s_icT (ic_gt c2)) ?_
      refine rr rfl (s_iconst (v := 0) (by decide)) ?_
      exact rrt rfl rfl rfl rfl
    refine rrc rfl rfl rfl (do_of g_X9_in rfl rfl e1) ?_
    refine rr rfl (s_ifT (by decide)) ?_
    refine rr rfl (s_iconst (v := (-1)) (by decide)) ?_
    exact rrt rfl rfl rfl rfl
  by_cases c3 : x2 < 0
  · refine rr rfl (s_iload_n rfl) ?_
    refine rr rfl (s_iconst (v := (-1)) (by decide)) ?_
    refine rr rfl (s_iconst (v := 3) (by decide)) ?_
    have e1 : a_m MT [] 100000 10 miX9_in [.int x1, .int (-1), .int 3] H = some ((some (.int 1)), H, 0, 0) := by
      refine me (d := 9) g_X9_in (Nat.le_of_ble_eq_true rfl) ?_
      refine rr rfl (s_iload_n rfl) ?_
      refine rr rfl (s_iload_n rfl) ?_
      refine rr rfl (s_icF (ic_nlt c1)) ?_
      refine rr rfl (s_iload_n rfl) ?_
      refine rr rfl (s_iload_n rfl) ?_
      refine rr rfl (s_icF (ic_ngt c2)) ?_
      refine rr rfl (s_iconst (v := 1) (by decide)) ?_
      refine rr rfl s_goto ?_
      exact rrt rfl rfl rfl rfl
    refine rrc rfl rfl rfl (do_of g_X9_in rfl rfl e1) ?_
    refine rr rfl (s_ifF (by decide)) ?_
    refine rr rfl (s_iload_n rfl) ?_
    refine rr rfl (s_iconst (v := 0) (by decide)) ?_
    refine rr rfl (s_iconst (v := 2) (by decide)) ?_
    have e2 : a_m MT [] 100000 10 miX9_in [.int x2, .int 0, .int 2] H = some ((some (.int 0)), H, 0, 0) := by
      refine me (d := 9) g_X9_in (Nat.le_of_ble_eq_true rfl) ?_
      refine rr rfl (s_iload_n rfl) ?_
      refine rr rfl (s_iload_n rfl) ?_
      refine rr rfl (s_icT (ic_lt c3)) ?_
      refine rr rfl (s_iconst (v := 0) (by decide)) ?_
      exact rrt rfl rfl rfl rfl
    refine rrc rfl rfl rfl (do_of g_X9_in rfl rfl e2) ?_
    refine rr rfl (s_ifT (by decide)) ?_
    refine rr rfl (s_iconst (v := (-1)) (by decide)) ?_
    exact rrt rfl rfl rfl rfl
  by_cases c4 : 2 < x2
  · refine rr rfl (s_iload_n rfl) ?_
    refine rr rfl (s_iconst (v := (-1)) (by decide)) ?_
    refine rr rfl (s_iconst (v := 3) (by decide)) ?_
    have e1 : a_m MT [] 100000 10 miX9_in [.int x1, .int (-1), .int 3] H = some ((some (.int 1)), H, 0, 0) := by
      refine me (d := 9) g_X9_in (Nat.le_of_ble_eq_true rfl) ?_
      refine rr rfl (s_iload_n rfl) ?_
      refine rr rfl (s_iload_n rfl) ?_
      refine rr rfl (s_icF (ic_nlt c1)) ?_
      refine rr rfl (s_iload_n rfl) ?_
      refine rr rfl (s_iload_n rfl) ?_
      refine rr rfl (s_icF (ic_ngt c2)) ?_
      refine rr rfl (s_iconst (v := 1) (by decide)) ?_
      refine rr rfl s_goto ?_
      exact rrt rfl rfl rfl rfl
    refine rrc rfl rfl rfl (do_of g_X9_in rfl rfl e1) ?_
    refine rr rfl (s_ifF (by decide)) ?_
    refine rr rfl (s_iload_n rfl) ?_
    refine rr rfl (s_iconst (v := 0) (by decide)) ?_
    refine rr rfl (s_iconst (v := 2) (by decide)) ?_
    have e2 : a_m MT [] 100000 10 miX9_in [.int x2, .int 0, .int 2] H = some ((some (.int 0)), H, 0, 0) := by
      refine me (d := 9) g_X9_in (Nat.le_of_ble_eq_true rfl) ?_
      refine rr rfl (s_iload_n rfl) ?_
      refine rr rfl (s_iload_n rfl) ?_
      refine rr rfl (s_icF (ic_nlt c3)) ?_
      refine rr rfl (s_iload_n rfl) ?_
      refine rr rfl (s_iload_n rfl) ?_
      refine rr rfl (s_icT (ic_gt c4)) ?_
      refine rr rfl (s_iconst (v := 0) (by decide)) ?_
      exact rrt rfl rfl rfl rfl
    refine rrc rfl rfl rfl (do_of g_X9_in rfl rfl e2) ?_
    refine rr rfl (s_ifT (by decide)) ?_
    refine rr rfl (s_iconst (v := (-1)) (by decide)) ?_
    exact rrt rfl rfl rfl rfl
  by_cases c5 : f = 0
  · refine rr rfl (s_iload_n rfl) ?_
    refine rr rfl (s_iconst (v := (-1)) (by decide)) ?_
    refine rr rfl (s_iconst (v := 3) (by decide)) ?_
    have e1 : a_m MT [] 100000 10 miX9_in [.int x1, .int (-1), .int 3] H = some ((some (.int 1)), H, 0, 0) := by
      refine me (d := 9) g_X9_in (Nat.le_of_ble_eq_true rfl) ?_
      refine rr rfl (s_iload_n rfl) ?_
      refine rr rfl (s_iload_n rfl) ?_
      refine rr rfl (s_icF (ic_nlt c1)) ?_
      refine rr rfl (s_iload_n rfl) ?_
      refine rr rfl (s_iload_n rfl) ?_
      refine rr rfl (s_icF (ic_ngt c2)) ?_
      refine rr rfl (s_iconst (v := 1) (by decide)) ?_
      refine rr rfl s_goto ?_
      exact rrt rfl rfl rfl rfl
    refine rrc rfl rfl rfl (do_of g_X9_in rfl rfl e1) ?_
    refine rr rfl (s_ifF (by decide)) ?_
    refine rr rfl (s_iload_n rfl) ?_
    refine rr rfl (s_iconst (v := 0) (by decide)) ?_
    refine rr rfl (s_iconst (v := 2) (by decide)) ?_
    have e2 : a_m MT [] 100000 10 miX9_in [.int x2, .int 0, .int 2] H = some ((some (.int 1)), H, 0, 0) := by
      refine me (d := 9) g_X9_in (Nat.le_of_ble_eq_true rfl) ?_
      refine rr rfl (s_iload_n rfl) ?_
      refine rr rfl (s_iload_n rfl) ?_
      refine rr rfl (s_icF (ic_nlt c3)) ?_
      refine rr rfl (s_iload_n rfl) ?_
      refine rr rfl (s_iload_n rfl) ?_
      refine rr rfl (s_icF (ic_ngt c4)) ?_
      refine rr rfl (s_iconst (v := 1) (by decide)) ?_
      refine rr rfl s_goto ?_
      exact rrt rfl rfl rfl rfl
    refine rrc rfl rfl rfl (do_of g_X9_in rfl rfl e2) ?_
    refine rr rfl (s_ifF (by decide)) ?_
    refine rr rfl (s_iload rfl) ?_
    refine rr rfl (s_ifT (ic_eq c5)) ?_
    refine rr rfl (s_iconst (v := (-1)) (by decide)) ?_
    exact rrt rfl rfl rfl rfl
  have hn2 : x2 = 2 ∧ (x7 < 0 ∨ 3 < x7) := by simpa only [c1, c2, c3, c4, c5, false_or] using hn
  obtain ⟨c6, hn3⟩ := hn2
  by_cases c7 : x7 < 0
  · refine rr rfl (s_iload_n rfl) ?_
    refine rr rfl (s_iconst (v := (-1)) (by decide)) ?_
    refine rr rfl (s_iconst (v := 3) (by decide)) ?_
    have e1 : a_m MT [] 100000 10 miX9_in [.int x1, .int (-1), .int 3] H = some ((some (.int 1)), H, 0, 0) := by
      refine me (d := 9) g_X9_in (Nat.le_of_ble_eq_true rfl) ?_
      refine rr rfl (s_iload_n rfl) ?_
      refine rr rfl (s_iload_n rfl) ?_
      refine rr rfl (s_icF (ic_nlt c1)) ?_
      refine rr rfl (s_iload_n rfl) ?_
      refine rr rfl (s_iload_n rfl) ?_
      refine rr rfl (s_icF (ic_ngt c2)) ?_
      refine rr rfl (s_iconst (v := 1) (by decide)) ?_
      refine rr rfl s_goto ?_
      exact rrt rfl rfl rfl rfl
    refine rrc rfl rfl rfl (do_of g_X9_in rfl rfl e1) ?_
    refine rr rfl (s_ifF (by decide)) ?_
    refine rr rfl (s_iload_n rfl) ?_
    refine rr rfl (s_iconst (v := 0) (by decide)) ?_
    refine rr rfl (s_iconst (v := 2) (by decide)) ?_
    have e2 : a_m MT [] 100000 10 miX9_in [.int x2, .int 0, .int 2] H = some ((some (.int 1)), H, 0, 0) := by
      refine me (d := 9) g_X9_in (Nat.le_of_ble_eq_true rfl) ?_
      refine rr rfl (s_iload_n rfl) ?_
      refine rr rfl (s_iload_n rfl) ?_
      refine rr rfl (s_icF (ic_nlt c3)) ?_
      refine rr rfl (s_iload_n rfl) ?_
      refine rr rfl (s_iload_n rfl) ?_
      refine rr rfl (s_icF (ic_ngt c4)) ?_
      refine rr rfl (s_iconst (v := 1) (by decide)) ?_
      refine rr rfl s_goto ?_
      exact rrt rfl rfl rfl rfl
    refine rrc rfl rfl rfl (do_of g_X9_in rfl rfl e2) ?_
    refine rr rfl (s_ifF (by decide)) ?_
    refine rr rfl (s_iload rfl) ?_
    refine rr rfl (s_ifF (ic_neq c5)) ?_
    refine rr rfl (s_iload_n rfl) ?_
    refine rr rfl (s_iconst (v := 2) (by decide)) ?_
    refine rr rfl (s_icF (ic_nne c6)) ?_
    refine rr rfl (s_iload rfl) ?_
    have e3 : a_m MT [] 100000 10 miX9_isHost [.int x7] H = some ((some (.int 0)), H, 0, 0) := by
      refine me (d := 9) g_X9_isHost (Nat.le_of_ble_eq_true rfl) ?_
      refine rr rfl (s_iload_n rfl) ?_
      refine rr rfl (s_iconst (v := 0) (by decide)) ?_
      refine rr rfl (s_iconst (v := 3) (by decide)) ?_
      have e4 : a_m MT [] 100000 9 miX9_in [.int x7, .int 0, .int 3] H = some ((some (.int 0)), H, 0, 0) := by
        refine me (d := 8) g_X9_in (Nat.le_of_ble_eq_true rfl) ?_
        refine rr rfl (s_iload_n rfl) ?_
        refine rr rfl (s_iload_n rfl) ?_
        refine rr rfl (s_icT (ic_lt c7)) ?_
        refine rr rfl (s_iconst (v := 0) (by decide)) ?_
        exact rrt rfl rfl rfl rfl
      refine rrc rfl rfl rfl (do_of g_X9_in rfl rfl e4) ?_
      exact rrt rfl rfl rfl rfl
    refine rrc rfl rfl rfl (do_of g_X9_isHost rfl rfl e3) ?_
    refine rr rfl (s_ifF (by decide)) ?_
    refine rr rfl (s_iconst (v := (-1)) (by decide)) ?_
    exact rrt rfl rfl rfl rfl
  have c8 : 3 < x7 := hn3.resolve_left c7
  refine rr rfl (s_iload_n rfl) ?_
  refine rr rfl (s_iconst (v := (-1)) (by decide)) ?_
  refine rr rfl (s_iconst (v := 3) (by decide)) ?_
  have e1 : a_m MT [] 100000 10 miX9_in [.int x1, .int (-1), .int 3] H = some ((some (.int 1)), H, 0, 0) := by
    refine me (d := 9) g_X9_in (Nat.le_of_ble_eq_true rfl) ?_
    refine rr rfl (s_iload_n rfl) ?_
    refine rr rfl (s_iload_n rfl) ?_
    refine rr rfl (s_icF (ic_nlt c1)) ?_
    refine rr rfl (s_iload_n rfl) ?_
    refine rr rfl (s_iload_n rfl) ?_
    refine rr rfl (s_icF (ic_ngt c2)) ?_
    refine rr rfl (s_iconst (v := 1) (by decide)) ?_
    refine rr rfl s_goto ?_
    exact rrt rfl rfl rfl rfl
  refine rrc rfl rfl rfl (do_of g_X9_in rfl rfl e1) ?_
  refine rr rfl (s_ifF (by decide)) ?_
  refine rr rfl (s_iload_n rfl) ?_
  refine rr rfl (s_iconst (v := 0) (by decide)) ?_
  refine rr rfl (s_iconst (v := 2) (by decide)) ?_
  have e2 : a_m MT [] 100000 10 miX9_in [.int x2, .int 0, .int 2] H = some ((some (.int 1)), H, 0, 0) := by
    refine me (d := 9) g_X9_in (Nat.le_of_ble_eq_true rfl) ?_
    refine rr rfl (s_iload_n rfl) ?_
    refine rr rfl (s_iload_n rfl) ?_
    refine rr rfl (s_icF (ic_nlt c3)) ?_
    refine rr rfl (s_iload_n rfl) ?_
    refine rr rfl (s_iload_n rfl) ?_
    refine rr rfl (s_icF (ic_ngt c4)) ?_
    refine rr rfl (s_iconst (v := 1) (by decide)) ?_
    refine rr rfl s_goto ?_
    exact rrt rfl rfl rfl rfl
  refine rrc rfl rfl rfl (do_of g_X9_in rfl rfl e2) ?_
  refine rr rfl (s_ifF (by decide)) ?_
  refine rr rfl (s_iload rfl) ?_
  refine rr rfl (s_ifF (ic_neq c5)) ?_
  refine rr rfl (s_iload_n rfl) ?_
  refine rr rfl (s_iconst (v := 2) (by decide)) ?_
  refine rr rfl (s_icF (ic_nne c6)) ?_
  refine rr rfl (s_iload rfl) ?_
  have e3 : a_m MT [] 100000 10 miX9_isHost [.int x7] H = some ((some (.int 0)), H, 0, 0) := by
    refine me (d := 9) g_X9_isHost (Nat.le_of_ble_eq_true rfl) ?_
    refine rr rfl (s_iload_n rfl) ?_
    refine rr rfl (s_iconst (v := 0) (by decide)) ?_
    refine rr rfl (s_iconst (v := 3) (by decide)) ?_
    have e4 : a_m MT [] 100000 9 miX9_in [.int x7, .int 0, .int 3] H = some ((some (.int 0)), H, 0, 0) := by
      refine me (d := 8) g_X9_in (Nat.le_of_ble_eq_true rfl) ?_
      refine rr rfl (s_iload_n rfl) ?_
      refine rr rfl (s_iload_n rfl) ?_
      refine rr rfl (s_icF (ic_nlt c7)) ?_
      refine rr rfl (s_iload_n rfl) ?_
      refine rr rfl (s_iload_n rfl) ?_
      refine rr rfl (s_icT (ic_gt c8)) ?_
      refine rr rfl (s_iconst (v := 0) (by decide)) ?_
      exact rrt rfl rfl rfl rfl
    refine rrc rfl rfl rfl (do_of g_X9_in rfl rfl e4) ?_
    exact rrt rfl rfl rfl rfl
  refine rrc rfl rfl rfl (do_of g_X9_isHost rfl rfl e3) ?_
  refine rr rfl (s_ifF (by decide)) ?_
  refine rr rfl (s_iconst (v := (-1)) (by decide)) ?_
  exact rrt rfl rfl rfl rfl
set_option maxHeartbeats 4000000 in
theorem bdM {x1 x2 x3 x4 x5 x6 x7 f : Int32} {H : AH} (c1 : ¬ x1 < (-1)) (c2 : ¬ 3 < x1) (c3 : ¬ x2 < 0) (c4 : ¬ 2 < x2) (c5 : ¬ f = 0) (c6 : ¬ x2 = 2) (c9 : ¬ x7 = 0) : a_run MT [] (a_m MT [] 100000 10) 11 (some .int) tabX9_rule 95000 44 ((8, .int f) :: (a_entry 0 [.ref 41, .int x1, .int x2, .int x3, .int x4, .int x5, .int x6, .int x7])) [] H 0 0 = some (some (.int (-2)), H, 0, 0) := by
  refine rr rfl (s_iload_n rfl) ?_
  refine rr rfl (s_iconst (v := (-1)) (by decide)) ?_
  refine rr rfl (s_iconst (v := 3) (by decide)) ?_
  have e1 : a_m MT [] 100000 10 miX9_in [.int x1, .int (-1), .int 3] H = some ((some (.int 1)), H, 0, 0) := by
    refine me (d := 9) g_X9_in (Nat.le_of_ble_eq_true rfl) ?_
    refine rr rfl (s_iload_n rfl) ?_
    refine rr rfl (s_iload_n rfl) ?_
    refine rr rfl (s_icF (ic_nlt c1)) ?_
    refine rr rfl (s_iload_n rfl) ?_
    refine rr rfl (s_iload_n rfl) ?_
    refine rr rfl (s_icF (ic_ngt c2)) ?_
    refine rr rfl (s_iconst (v := 1) (by decide)) ?_
    refine rr rfl s_goto ?_
    exact rrt rfl rfl rfl rfl
  refine rrc rfl rfl rfl (do_of g_X9_in rfl rfl e1) ?_
  refine rr rfl (s_ifF (by decide)) ?_
  refine rr rfl (s_iload_n rfl) ?_
  refine rr rfl (s_iconst (v := 0) (by decide)) ?_
  refine rr rfl (s_iconst (v := 2) (by decide)) ?_
  have e2 : a_m MT [] 100000 10 miX9_in [.int x2, .int 0, .int 2] H = some ((some (.int 1)), H, 0, 0) := by
    refine me (d := 9) g_X9_in (Nat.le_of_ble_eq_true rfl) ?_
    refine rr rfl (s_iload_n rfl) ?_
    refine rr rfl (s_iload_n rfl) ?_
    refine rr rfl (s_icF (ic_nlt c3)) ?_
    refine rr rfl (s_iload_n rfl) ?_
    refine rr rfl (s_iload_n rfl) ?_
    refine rr rfl (s_icF (ic_ngt c4)) ?_
    refine rr rfl (s_iconst (v := 1) (by decide)) ?_
    refine rr rfl s_goto ?_
    exact rrt rfl rfl rfl rfl
  refine rrc rfl rfl rfl (do_of g_X9_in rfl rfl e2) ?_
  refine rr rfl (s_ifF (by decide)) ?_
  refine rr rfl (s_iload rfl) ?_
  refine rr rfl (s_ifF (ic_neq c5)) ?_
  refine rr rfl (s_iload_n rfl) ?_
  refine rr rfl (s_iconst (v := 2) (by decide)) ?_
  refine rr rfl (s_icT (ic_ne c6)) ?_
  refine rr rfl (s_iload_n rfl) ?_
  refine rr rfl (s_iconst (v := 2) (by decide)) ?_
  refine rr rfl (s_icF (ic_neq c6)) ?_
  refine rr rfl (s_iload rfl) ?_
  refine rr rfl (s_ifF (ic_neq c9)) ?_
  refine rr rfl (s_bipush (v := (-2)) (by decide)) ?_
  exact rrt rfl rfl rfl rfl
set_option maxHeartbeats 4000000 in
theorem gdM {x1 x2 x3 x4 x5 x6 x7 f : Int32} {H : AH} {res : ARes} (c1 : ¬ x1 < (-1)) (c2 : ¬ 3 < x1) (c3 : ¬ x2 < 0) (c4 : ¬ 2 < x2) (c5 : ¬ f = 0) (c6 : x2 = 2) (c7 : ¬ x7 < 0) (c8 : ¬ 3 < x7) (k : a_run MT [] (a_m MT [] 100000 10) 11 (some .int) tabX9_rule 90000 95 ((8, .int f) :: (a_entry 0 [.ref 41, .int x1, .int x2, .int x3, .int x4, .int x5, .int x6, .int x7])) [] H 0 0 = some res) : a_run MT [] (a_m MT [] 100000 10) 11 (some .int) tabX9_rule 95000 44 ((8, .int f) :: (a_entry 0 [.ref 41, .int x1, .int x2, .int x3, .int x4, .int x5, .int x6, .int x7])) [] H 0 0 = some res := by
  refine rr rfl (s_iload_n rfl) ?_
  refine rr rfl (s_iconst (v := (-1)) (by decide)) ?_
  refine rr rfl (s_iconst (v := 3) (by decide)) ?_
  have e1 : a_m MT [] 100000 10 miX9_in [.int x1, .int (-1), .int 3] H = some ((some (.int 1)), H, 0, 0) := by
    refine me (d := 9) g_X9_in (Nat.le_of_ble_eq_true rfl) ?_
    refine rr rfl (s_iload_n rfl) ?_
    refine rr rfl (s_iload_n rfl) ?_
    refine rr rfl (s_icF (ic_nlt c1)) ?_
    refine rr rfl (s_iload_n rfl) ?_
    refine rr rfl (s_iload_n rfl) ?_
    refine rr rfl (s_icF (ic_ngt c2)) ?_
    refine rr rfl (s_iconst (v := 1) (by decide)) ?_
    refine rr rfl s_goto ?_
    exact rrt rfl rfl rfl rfl
  refine rrc rfl rfl rfl (do_of g_X9_in rfl rfl e1) ?_
  refine rr rfl (s_ifF (by decide)) ?_
  refine rr rfl (s_iload_n rfl) ?_
  refine rr rfl (s_iconst (v := 0) (by decide)) ?_
  refine rr rfl (s_iconst (v := 2) (by decide)) ?_
  have e2 : a_m MT [] 100000 10 miX9_in [.int x2, .int 0, .int 2] H = some ((some (.int 1)), H, 0, 0) := by
    refine me (d := 9) g_X9_in (Nat.le_of_ble_eq_true rfl) ?_
    refine rr rfl (s_iload_n rfl) ?_
    refine rr rfl (s_iload_n rfl) ?_
    refine rr rfl (s_icF (ic_nlt c3)) ?_
    refine rr rfl (s_iload_n rfl) ?_
    refine rr rfl (s_iload_n rfl) ?_
    refine rr rfl (s_icF (ic_ngt c4)) ?_
    refine rr rfl (s_iconst (v := 1) (by decide)) ?_
    refine rr rfl s_goto ?_
    exact rrt rfl rfl rfl rfl
  refine rrc rfl rfl rfl (do_of g_X9_in rfl rfl e2) ?_
  refine rr rfl (s_ifF (by decide)) ?_
  refine rr rfl (s_iload rfl) ?_
  refine rr rfl (s_ifF (ic_neq c5)) ?_
  refine rr rfl (s_iload_n rfl) ?_
  refine rr rfl (s_iconst (v := 2) (by decide)) ?_
  refine rr rfl (s_icF (ic_nne c6)) ?_
  refine rr rfl (s_iload rfl) ?_
  have e3 : a_m MT [] 100000 10 miX9_isHost [.int x7] H = some ((some (.int 1)), H, 0, 0) := by
    refine me (d := 9) g_X9_isHost (Nat.le_of_ble_eq_true rfl) ?_
    refine rr rfl (s_iload_n rfl) ?_
    refine rr rfl (s_iconst (v := 0) (by decide)) ?_
    refine rr rfl (s_iconst (v := 3) (by decide)) ?_
    have e4 : a_m MT [] 100000 9 miX9_in [.int x7, .int 0, .int 3] H = some ((some (.int 1)), H, 0, 0) := by
      refine me (d := 8) g_X9_in (Nat.le_of_ble_eq_true rfl) ?_
      refine rr rfl (s_iload_n rfl) ?_
      refine rr rfl (s_iload_n rfl) ?_
      refine rr rfl (s_icF (ic_nlt c7)) ?_
      refine rr rfl (s_iload_n rfl) ?_
      refine rr rfl (s_iload_n rfl) ?_
      refine rr rfl (s_icF (ic_ngt c8)) ?_
      refine rr rfl (s_iconst (v := 1) (by decide)) ?_
      refine rr rfl s_goto ?_
      exact rrt rfl rfl rfl rfl
    refine rrc rfl rfl rfl (do_of g_X9_in rfl rfl e4) ?_
    exact rrt rfl rfl rfl rfl
  refine rrc rfl rfl rfl (do_of g_X9_isHost rfl rfl e3) ?_
  refine rr rfl (s_ifT (by decide)) ?_
  refine rr rfl (s_iload_n rfl) ?_
  refine rr rfl (s_iconst (v := 2) (by decide)) ?_
  refine rr rfl (s_icT (ic_eq c6)) ?_
  exact fuel_up 90000 _ _ _ _ _ _ _ (by decide) k
set_option maxHeartbeats 4000000 in
theorem geM {x1 x2 x3 x4 x5 x6 x7 f : Int32} {H : AH} {res : ARes} (c1 : ¬ x1 < (-1)) (c2 : ¬ 3 < x1) (c3 : ¬ x2 < 0) (c4 : ¬ 2 < x2) (c5 : ¬ f = 0) (c6 : ¬ x2 = 2) (c9 : x7 = 0) (k : a_run MT [] (a_m MT [] 100000 10) 11 (some .int) tabX9_rule 90000 95 ((8, .int f) :: (a_entry 0 [.ref 41, .int x1, .int x2, .int x3, .int x4, .int x5, .int x6, .int x7])) [] H 0 0 = some res) : a_run MT [] (a_m MT [] 100000 10) 11 (some .int) tabX9_rule 95000 44 ((8, .int f) :: (a_entry 0 [.ref 41, .int x1, .int x2, .int x3, .int x4, .int x5, .int x6, .int x7])) [] H 0 0 = some res := by
  refine rr rfl (s_iload_n rfl) ?_
  refine rr rfl (s_iconst (v := (-1)) (by decide)) ?_
  refine rr rfl (s_iconst (v := 3) (by decide)) ?_
  have e1 : a_m MT [] 100000 10 miX9_in [.int x1, .int (-1), .int 3] H = some ((some (.int 1)), H, 0, 0) := by
    refine me (d := 9) g_X9_in (Nat.le_of_ble_eq_true rfl) ?_
    refine rr rfl (s_iload_n rfl) ?_
    refine rr rfl (s_iload_n rfl) ?_
    refine rr rfl (s_icF (ic_nlt c1)) ?_
    refine rr rfl (s_iload_n rfl) ?_
    refine rr rfl (s_iload_n rfl) ?_
    refine rr rfl (s_icF (ic_ngt c2)) ?_
    refine rr rfl (s_iconst (v := 1) (by decide)) ?_
    refine rr rfl s_goto ?_
    exact rrt rfl rfl rfl rfl
  refine rrc rfl rfl rfl (do_of g_X9_in rfl rfl e1) ?_
  refine rr rfl (s_ifF (by decide)) ?_
  refine rr rfl (s_iload_n rfl) ?_
  refine rr rfl (s_iconst (v := 0) (by decide)) ?_
  refine rr rfl (s_iconst (v := 2) (by decide)) ?_
  have e2 : a_m MT [] 100000 10 miX9_in [.int x2, .int 0, .int 2] H = some ((some (.int 1)), H, 0, 0) := by
    refine me (d := 9) g_X9_in (Nat.le_of_ble_eq_true rfl) ?_
    refine rr rfl (s_iload_n rfl) ?_
    refine rr rfl (s_iload_n rfl) ?_
    refine rr rfl (s_icF (ic_nlt c3)) ?_
    refine rr rfl (s_iload_n rfl) ?_
    refine rr rfl (s_iload_n rfl) ?_
    refine rr rfl (s_icF (ic_ngt c4)) ?_
    refine rr rfl (s_iconst (v := 1) (by decide)) ?_
    refine rr rfl s_goto ?_
    exact rrt rfl rfl rfl rfl
  refine rrc rfl rfl rfl (do_of g_X9_in rfl rfl e2) ?_
  refine rr rfl (s_ifF (by decide)) ?_
  refine rr rfl (s_iload rfl) ?_
  refine rr rfl (s_ifF (ic_neq c5)) ?_
  refine rr rfl (s_iload_n rfl) ?_
  refine rr rfl (s_iconst (v := 2) (by decide)) ?_
  refine rr rfl (s_icT (ic_ne c6)) ?_
  refine rr rfl (s_iload_n rfl) ?_
  refine rr rfl (s_iconst (v := 2) (by decide)) ?_
  refine rr rfl (s_icF (ic_neq c6)) ?_
  refine rr rfl (s_iload rfl) ?_
  refine rr rfl (s_ifT (ic_eq c9)) ?_
  exact fuel_up 90000 _ _ _ _ _ _ _ (by decide) k
set_option maxHeartbeats 4000000 in
theorem sgG {x1 x2 x3 x4 x5 x6 x7 : Int32} {H : AH} {M : Nat} {res : ARes} (k : a_run MT [] (a_m MT [] 100000 10) 11 (some .int) tabX9_rule M 44 ((8, .int (ff x3 x4 x5 x6)) :: (a_entry 0 [.ref 41, .int x1, .int x2, .int x3, .int x4, .int x5, .int x6, .int x7])) [] H 0 0 = some res) : a_run MT [] (a_m MT [] 100000 10) 11 (some .int) tabX9_rule (M + 80) 0 ((a_entry 0 [.ref 41, .int x1, .int x2, .int x3, .int x4, .int x5, .int x6, .int x7])) [] H 0 0 = some res := by
  unfold ff at k
  by_cases c1 : x3 < 0
  · rw [if_pos c1] at k
    refine rr rfl (s_iload_n rfl) ?_
    have e1 : a_m MT [] 100000 10 miX9_isFact [.int x3] H = some ((some (.int 0)), H, 0, 0) := by
      refine me (d := 9) g_X9_isFact (Nat.le_of_ble_eq_true rfl) ?_
      refine rr rfl (s_iload_n rfl) ?_
      refine rr rfl (s_iconst (v := 0) (by decide)) ?_
      refine rr rfl (s_bipush (v := 7) (by decide)) ?_
      have e2 : a_m MT [] 100000 9 miX9_in [.int x3, .int 0, .int 7] H = some ((some (.int 0)), H, 0, 0) := by
        refine me (d := 8) g_X9_in (Nat.le_of_ble_eq_true rfl) ?_
        refine rr rfl (s_iload_n rfl) ?_
        refine rr rfl (s_iload_n rfl) ?_
        refine rr rfl (s_icT (ic_lt c1)) ?_
        refine rr rfl (s_iconst (v := 0) (by decide)) ?_
        exact rrt rfl rfl rfl rfl
      refine rrc rfl rfl rfl (do_of g_X9_in rfl rfl e2) ?_
      exact rrt rfl rfl rfl rfl
    refine rrc rfl rfl rfl (do_of g_X9_isFact rfl rfl e1) ?_
    refine rr rfl (s_ifT (by decide)) ?_
    refine rr rfl (s_iconst (v := 0) (by decide)) ?_
    refine rr rfl (s_istore rfl) ?_
    exact fuel_up M _ _ _ _ _ _ _ (by omega) k
  · rw [if_neg c1] at k
    by_cases c2 : 7 < x3
    · rw [if_pos c2] at k
      refine rr rfl (s_iload_n rfl) ?_
      have e1 : a_m MT [] 100000 10 miX9_isFact [.int x3] H = some ((some (.int 0)), H, 0, 0) := by
        refine me (d := 9) g_X9_isFact (Nat.le_of_ble_eq_true rfl) ?_
        refine rr rfl (s_iload_n rfl) ?_
        refine rr rfl (s_iconst (v := 0) (by decide)) ?_
        refine rr rfl (s_bipush (v := 7) (by decide)) ?_
        have e2 : a_m MT [] 100000 9 miX9_in [.int x3, .int 0, .int 7] H = some ((some (.int 0)), H, 0, 0) := by
          refine me (d := 8) g_X9_in (Nat.le_of_ble_eq_true rfl) ?_
          refine rr rfl (s_iload_n rfl) ?_
          refine rr rfl (s_iload_n rfl) ?_
          refine rr rfl (s_icF (ic_nlt c1)) ?_
          refine rr rfl (s_iload_n rfl) ?_
          refine rr rfl (s_iload_n rfl) ?_
          refine rr rfl (s_icT (ic_gt c2)) ?_
          refine rr rfl (s_iconst (v := 0) (by decide)) ?_
          exact rrt rfl rfl rfl rfl
        refine rrc rfl rfl rfl (do_of g_X9_in rfl rfl e2) ?_
        exact rrt rfl rfl rfl rfl
      refine rrc rfl rfl rfl (do_of g_X9_isFact rfl rfl e1) ?_
      refine rr rfl (s_ifT (by decide)) ?_
      refine rr rfl (s_iconst (v := 0) (by decide)) ?_
      refine rr rfl (s_istore rfl) ?_
      exact fuel_up M _ _ _ _ _ _ _ (by omega) k
    · rw [if_neg c2] at k
      by_cases c3 : x4 < 0
      · rw [if_pos c3] at k
        refine rr rfl (s_iload_n rfl) ?_
        have e1 : a_m MT [] 100000 10 miX9_isFact [.int x3] H = some ((some (.int 1)), H, 0, 0) := by
          refine me (d := 9) g_X9_isFact (Nat.le_of_ble_eq_true rfl) ?_
          refine rr rfl (s_iload_n rfl) ?_
          refine rr rfl (s_iconst (v := 0) (by decide)) ?_
          refine rr rfl (s_bipush (v := 7) (by decide)) ?_
          have e2 : a_m MT [] 100000 9 miX9_in [.int x3, .int 0, .int 7] H = some ((some (.int 1)), H, 0, 0) := by
            refine me (d := 8) g_X9_in (Nat.le_of_ble_eq_true rfl) ?_
            refine rr rfl (s_iload_n rfl) ?_
            refine rr rfl (s_iload_n rfl) ?_
            refine rr rfl (s_icF (ic_nlt c1)) ?_
            refine rr rfl (s_iload_n rfl) ?_
            refine rr rfl (s_iload_n rfl) ?_
            refine rr rfl (s_icF (ic_ngt c2)) ?_
            refine rr rfl (s_iconst (v := 1) (by decide)) ?_
            refine rr rfl s_goto ?_
            exact rrt rfl rfl rfl rfl
          refine rrc rfl rfl rfl (do_of g_X9_in rfl rfl e2) ?_
          exact rrt rfl rfl rfl rfl
        refine rrc rfl rfl rfl (do_of g_X9_isFact rfl rfl e1) ?_
        refine rr rfl (s_ifF (by decide)) ?_
        refine rr rfl (s_iload rfl) ?_
        have e3 : a_m MT [] 100000 10 miX9_isFact [.int x4] H = some ((some (.int 0)), H, 0, 0) := by
          refine me (d := 9) g_X9_isFact (Nat.le_of_ble_eq_true rfl) ?_
          refine rr rfl (s_iload_n rfl) ?_
          refine rr rfl (s_iconst (v := 0) (by decide)) ?_
          refine rr rfl (s_bipush (v := 7) (by decide)) ?_
          have e4 : a_m MT [] 100000 9 miX9_in [.int x4, .int 0, .int 7] H = some ((some (.int 0)), H, 0, 0) := by
            refine me (d := 8) g_X9_in (Nat.le_of_ble_eq_true rfl) ?_
            refine rr rfl (s_iload_n rfl) ?_
            refine rr rfl (s_iload_n rfl) ?_
            refine rr rfl (s_icT (ic_lt c3)) ?_
            refine rr rfl (s_iconst (v := 0) (by decide)) ?_
            exact rrt rfl rfl rfl rfl
          refine rrc rfl rfl rfl (do_of g_X9_in rfl rfl e4) ?_
          exact rrt rfl rfl rfl rfl
        refine rrc rfl rfl rfl (do_of g_X9_isFact rfl rfl e3) ?_
        refine rr rfl (s_ifT (by decide)) ?_
        refine rr rfl (s_iconst (v := 0) (by decide)) ?_
        refine rr rfl (s_istore rfl) ?_
        exact fuel_up M _ _ _ _ _ _ _ (by omega) k
      · rw [if_neg c3] at k
        by_cases c4 : 7 < x4
        · rw [if_pos c4] at k
          refine rr rfl (s_iload_n rfl) ?_
          have e1 : a_m MT [] 100000 10 miX9_isFact [.int x3] H = some ((some (.int 1)), H, 0, 0) := by
            refine me (d := 9) g_X9_isFact (Nat.le_of_ble_eq_true rfl) ?_
            refine rr rfl (s_iload_n rfl) ?_
            refine rr rfl (s_iconst (v := 0) (by decide)) ?_
            refine rr rfl (s_bipush (v := 7) (by decide)) ?_
            have e2 : a_m MT [] 100000 9 miX9_in [.int x3, .int 0, .int 7] H = some ((some (.int 1)), H, 0, 0) := by
              refine me (d := 8) g_X9_in (Nat.le_of_ble_eq_true rfl) ?_
              refine rr rfl (s_iload_n rfl) ?_
              refine rr rfl (s_iload_n rfl) ?_
              refine rr rfl (s_icF (ic_nlt c1)) ?_
              refine rr rfl (s_iload_n rfl) ?_
              refine rr rfl (s_iload_n rfl) ?_
              refine rr rfl (s_icF (ic_ngt c2)) ?_
              refine rr rfl (s_iconst (v := 1) (by decide)) ?_
              refine rr rfl s_goto ?_
              exact rrt rfl rfl rfl rfl
            refine rrc rfl rfl rfl (do_of g_X9_in rfl rfl e2) ?_
            exact rrt rfl rfl rfl rfl
          refine rrc rfl rfl rfl (do_of g_X9_isFact rfl rfl e1) ?_
          refine rr rfl (s_ifF (by decide)) ?_
          refine rr rfl (s_iload rfl) ?_
          have e3 : a_m MT [] 100000 10 miX9_isFact [.int x4] H = some ((some (.int 0)), H, 0, 0) := by
            refine me (d := 9) g_X9_isFact (Nat.le_of_ble_eq_true rfl) ?_
            refine rr rfl (s_iload_n rfl) ?_
            refine rr rfl (s_iconst (v := 0) (by decide)) ?_
            refine rr rfl (s_bipush (v := 7) (by decide)) ?_
            have e4 : a_m MT [] 100000 9 miX9_in [.int x4, .int 0, .int 7] H = some ((some (.int 0)), H, 0, 0) := by
              refine me (d := 8) g_X9_in (Nat.le_of_ble_eq_true rfl) ?_
              refine rr rfl (s_iload_n rfl) ?_
              refine rr rfl (s_iload_n rfl) ?_
              refine rr rfl (s_icF (ic_nlt c3)) ?_
              refine rr rfl (s_iload_n rfl) ?_
              refine rr rfl (s_iload_n rfl) ?_
              refine rr rfl (s_icT (ic_gt c4)) ?_
              refine rr rfl (s_iconst (v := 0) (by decide)) ?_
              exact rrt rfl rfl rfl rfl
            refine rrc rfl rfl rfl (do_of g_X9_in rfl rfl e4) ?_
            exact rrt rfl rfl rfl rfl
          refine rrc rfl rfl rfl (do_of g_X9_isFact rfl rfl e3) ?_
          refine rr rfl (s_ifT (by decide)) ?_
          refine rr rfl (s_iconst (v := 0) (by decide)) ?_
          refine rr rfl (s_istore rfl) ?_
          exact fuel_up M _ _ _ _ _ _ _ (by omega) k
        · rw [if_neg c4] at k
          by_cases c5 : x5 < (-1)
          · rw [if_pos c5] at k
            refine rr rfl (s_iload_n rfl) ?_
            have e1 : a_m MT [] 100000 10 miX9_isFact [.int x3] H = some ((some (.int 1)), H, 0, 0) := by
              refine me (d := 9) g_X9_isFact (Nat.le_of_ble_eq_true rfl) ?_
              refine rr rfl (s_iload_n rfl) ?_
              refine rr rfl (s_iconst (v := 0) (by decide)) ?_
              refine rr rfl (s_bipush (v := 7) (by decide)) ?_
              have e2 : a_m MT [] 100000 9 miX9_in [.int x3, .int 0, .int 7] H = some ((some (.int 1)), H, 0, 0) := by
                refine me (d := 8) g_X9_in (Nat.le_of_ble_eq_true rfl) ?_
                refine rr rfl (s_iload_n rfl) ?_
                refine rr rfl (s_iload_n rfl) ?_
                refine rr rfl (s_icF (ic_nlt c1)) ?_
                refine rr rfl (s_iload_n rfl) ?_
                refine rr rfl (s_iload_n rfl) ?_
                refine rr rfl (s_icF (ic_ngt c2)) ?_
                refine rr rfl (s_iconst (v := 1) (by decide)) ?_
                refine rr rfl s_goto ?_
                exact rrt rfl rfl rfl rfl
              refine rrc rfl rfl rfl (do_of g_X9_in rfl rfl e2) ?_
              exact rrt rfl rfl rfl rfl
            refine rrc rfl rfl rfl (do_of g_X9_isFact rfl rfl e1) ?_
            refine rr rfl (s_ifF (by decide)) ?_
            refine rr rfl (s_iload rfl) ?_
            have e3 : a_m MT [] 100000 10 miX9_isFact [.int x4] H = some ((some (.int 1)), H, 0, 0) := by
              refine me (d := 9) g_X9_isFact (Nat.le_of_ble_eq_true rfl) ?_
              refine rr rfl (s_iload_n rfl) ?_
              refine rr rfl (s_iconst (v := 0) (by decide)) ?_
              refine rr rfl (s_bipush (v := 7) (by decide)) ?_
              have e4 : a_m MT [] 100000 9 miX9_in [.int x4, .int 0, .int 7] H = some ((some (.int 1)), H, 0, 0) := by
                refine me (d := 8) g_X9_in (Nat.le_of_ble_eq_true rfl) ?_
                refine rr rfl (s_iload_n rfl) ?_
                refine rr rfl (s_iload_n rfl) ?_
                refine rr rfl (s_icF (ic_nlt c3)) ?_
                refine rr rfl (s_iload_n rfl) ?_
                refine rr rfl (s_iload_n rfl) ?_
                refine rr rfl (s_icF (ic_ngt c4)) ?_
                refine rr rfl (s_iconst (v := 1) (by decide)) ?_
                refine rr rfl s_goto ?_
                exact rrt rfl rfl rfl rfl
              refine rrc rfl rfl rfl (do_of g_X9_in rfl rfl e4) ?_
              exact rrt rfl rfl rfl rfl
            refine rrc rfl rfl rfl (do_of g_X9_isFact rfl rfl e3) ?_
            refine rr rfl (s_ifF (by decide)) ?_
            refine rr rfl (s_iload rfl) ?_
            refine rr rfl (s_iconst (v := (-1)) (by decide)) ?_
            refine rr rfl (s_bipush (v := 7) (by decide)) ?_
            have e5 : a_m MT [] 100000 10 miX9_in [.int x5, .int (-1), .int 7] H = some ((some (.int 0)), H, 0, 0) := by
              refine me (d := 9) g_X9_in (Nat.le_of_ble_eq_true rfl) ?_
              refine rr rfl (s_iload_n rfl) ?_
              refine rr rfl (s_iload_n rfl) ?_
              refine rr rfl (s_icT (ic_lt c5)) ?_
              refine rr rfl (s_iconst (v := 0) (by decide)) ?_
              exact rrt rfl rfl rfl rfl
            refine rrc rfl rfl rfl (do_of g_X9_in rfl rfl e5) ?_
            refine rr rfl (s_ifT (by decide)) ?_
            refine rr rfl (s_iconst (v := 0) (by decide)) ?_
            refine rr rfl (s_istore rfl) ?_
            exact fuel_up M _ _ _ _ _ _ _ (by omega) k
          · rw [if_neg c5] at k
            by_cases c6 : 7 < x5
            · rw [if_pos c6] at k
              refine rr rfl (s_iload_n rfl) ?_
              have e1 : a_m MT [] 100000 10 miX9_isFact [.int x3] H = some ((some (.int 1)), H, 0, 0) := by
                refine me (d := 9) g_X9_isFact (Nat.le_of_ble_eq_true rfl) ?_
                refine rr rfl (s_iload_n rfl) ?_
                refine rr rfl (s_iconst (v := 0) (by decide)) ?_
                refine rr rfl (s_bipush (v := 7) (by decide)) ?_
                have e2 : a_m MT [] 100000 9 miX9_in [.int x3, .int 0, .int 7] H = some ((some (.int 1)), H, 0, 0) := by
                  refine me (d := 8) g_X9_in (Nat.le_of_ble_eq_true rfl) ?_
                  refine rr rfl (s_iload_n rfl) ?_
                  refine rr rfl (s_iload_n rfl) ?_
                  refine rr rfl (s_icF (ic_nlt c1)) ?_
                  refine rr rfl (s_iload_n rfl) ?_
                  refine rr rfl (s_iload_n rfl) ?_
                  refine rr rfl (s_icF (ic_ngt c2)) ?_
                  refine rr rfl (s_iconst (v := 1) (by decide)) ?_
                  refine rr rfl s_goto ?_
                  exact rrt rfl rfl rfl rfl
                refine rrc rfl rfl rfl (do_of g_X9_in rfl rfl e2) ?_
                exact rrt rfl rfl rfl rfl
              refine rrc rfl rfl rfl (do_of g_X9_isFact rfl rfl e1) ?_
              refine rr rfl (s_ifF (by decide)) ?_
              refine rr rfl (s_iload rfl) ?_
              have e3 : a_m MT [] 100000 10 miX9_isFact [.int x4] H = some ((some (.int 1)), H, 0, 0) := by
                refine me (d := 9) g_X9_isFact (Nat.le_of_ble_eq_true rfl) ?_
                refine rr rfl (s_iload_n rfl) ?_
                refine rr rfl (s_iconst (v := 0) (by decide)) ?_
                refine rr rfl (s_bipush (v := 7) (by decide)) ?_
                have e4 : a_m MT [] 100000 9 miX9_in [.int x4, .int 0, .int 7] H = some ((some (.int 1)), H, 0, 0) := by
                  refine me (d := 8) g_X9_in (Nat.le_of_ble_eq_true rfl) ?_
                  refine rr rfl (s_iload_n rfl) ?_
                  refine rr rfl (s_iload_n rfl) ?_
                  refine rr rfl (s_icF (ic_nlt c3)) ?_
                  refine rr rfl (s_iload_n rfl) ?_
                  refine rr rfl (s_iload_n rfl) ?_
                  refine rr rfl (s_icF (ic_ngt c4)) ?_
                  refine rr rfl (s_iconst (v := 1) (by decide)) ?_
                  refine rr rfl s_goto ?_
                  exact rrt rfl rfl rfl rfl
                refine rrc rfl rfl rfl (do_of g_X9_in rfl rfl e4) ?_
                exact rrt rfl rfl rfl rfl
              refine rrc rfl rfl rfl (do_of g_X9_isFact rfl rfl e3) ?_
              refine rr rfl (s_ifF (by decide)) ?_
              refine rr rfl (s_iload rfl) ?_
              refine rr rfl (s_iconst (v := (-1)) (by decide)) ?_
              refine rr rfl (s_bipush (v := 7) (by decide)) ?_
              have e5 : a_m MT [] 100000 10 miX9_in [.int x5, .int (-1), .int 7] H = some ((some (.int 0)), H, 0, 0) := by
                refine me (d := 9) g_X9_in (Nat.le_of_ble_eq_true rfl) ?_
                refine rr rfl (s_iload_n rfl) ?_
                refine rr rfl (s_iload_n rfl) ?_
                refine rr rfl (s_icF (ic_nlt c5)) ?_
                refine rr rfl (s_iload_n rfl) ?_
                refine rr rfl (s_iload_n rfl) ?_
                refine rr rfl (s_icT (ic_gt c6)) ?_
                refine rr rfl (s_iconst (v := 0) (by decide)) ?_
                exact rrt rfl rfl rfl rfl
              refine rrc rfl rfl rfl (do_of g_X9_in rfl rfl e5) ?_
              refine rr rfl (s_ifT (by decide)) ?_
              refine rr rfl (s_iconst (v := 0) (by decide)) ?_
              refine rr rfl (s_istore rfl) ?_
              exact fuel_up M _ _ _ _ _ _ _ (by omega) k
            · rw [if_neg c6] at k
              by_cases c7 : x6 < (-1)
              · rw [if_pos c7] at k
                refine rr rfl (s_iload_n rfl) ?_
                have e1 : a_m MT [] 100000 10 miX9_isFact [.int x3] H = some ((some (.int 1)), H, 0, 0) := by
                  refine me (d := 9) g_X9_isFact (Nat.le_of_ble_eq_true rfl) ?_
                  refine rr rfl (s_iload_n rfl) ?_
                  refine rr rfl (s_iconst (v := 0) (by decide)) ?_
                  refine rr rfl (s_bipush (v := 7) (by decide)) ?_
                  have e2 : a_m MT [] 100000 9 miX9_in [.int x3, .int 0, .int 7] H = some ((some (.int 1)), H, 0, 0) := by
                    refine me (d := 8) g_X9_in (Nat.le_of_ble_eq_true rfl) ?_
                    refine rr rfl (s_iload_n rfl) ?_
                    refine rr rfl (s_iload_n rfl) ?_
                    refine rr rfl (s_icF (ic_nlt c1)) ?_
                    refine rr rfl (s_iload_n rfl) ?_
                    refine rr rfl (s_iload_n rfl) ?_
                    refine rr rfl (s_icF (ic_ngt c2)) ?_
                    refine rr rfl (s_iconst (v := 1) (by decide)) ?_
                    refine rr rfl s_goto ?_
                    exact rrt rfl rfl rfl rfl
                  refine rrc rfl rfl rfl (do_of g_X9_in rfl rfl e2) ?_
                  exact rrt rfl rfl rfl rfl
                refine rrc rfl rfl rfl (do_of g_X9_isFact rfl rfl e1) ?_
                refine rr rfl (s_ifF (by decide)) ?_
                refine rr rfl (s_iload rfl) ?_
                have e3 : a_m MT [] 100000 10 miX9_isFact [.int x4] H = some ((some (.int 1)), H, 0, 0) := by
                  refine me (d := 9) g_X9_isFact (Nat.le_of_ble_eq_true rfl) ?_
                  refine rr rfl (s_iload_n rfl) ?_
                  refine rr rfl (s_iconst (v := 0) (by decide)) ?_
                  refine rr rfl (s_bipush (v := 7) (by decide)) ?_
                  have e4 : a_m MT [] 100000 9 miX9_in [.int x4, .int 0, .int 7] H = some ((some (.int 1)), H, 0, 0) := by
                    refine me (d := 8) g_X9_in (Nat.le_of_ble_eq_true rfl) ?_
                    refine rr rfl (s_iload_n rfl) ?_
                    refine rr rfl (s_iload_n rfl) ?_
                    refine rr rfl (s_icF (ic_nlt c3)) ?_
                    refine rr rfl (s_iload_n rfl) ?_
                    refine rr rfl (s_iload_n rfl) ?_
                    refine rr rfl (s_icF (ic_ngt c4)) ?_
                    refine rr rfl (s_iconst (v := 1) (by decide)) ?_
                    refine rr rfl s_goto ?_
                    exact rrt rfl rfl rfl rfl
                  refine rrc rfl rfl rfl (do_of g_X9_in rfl rfl e4) ?_
                  exact rrt rfl rfl rfl rfl
                refine rrc rfl rfl rfl (do_of g_X9_isFact rfl rfl e3) ?_
                refine rr rfl (s_ifF (by decide)) ?_
                refine rr rfl (s_iload rfl) ?_
                refine rr rfl (s_iconst (v := (-1)) (by decide)) ?_
                refine rr rfl (s_bipush (v := 7) (by decide)) ?_
                have e5 : a_m MT [] 100000 10 miX9_in [.int x5, .int (-1), .int 7] H = some ((some (.int 1)), H, 0, 0) := by
                  refine me (d := 9) g_X9_in (Nat.le_of_ble_eq_true rfl) ?_
                  refine rr rfl (s_iload_n rfl) ?_
                  refine rr rfl (s_iload_n rfl) ?_
                  refine rr rfl (s_icF (ic_nlt c5)) ?_
                  refine rr rfl (s_iload_n rfl) ?_
                  refine rr rfl (s_iload_n rfl) ?_
                  refine rr rfl (s_icF (ic_ngt c6)) ?_
                  refine rr rfl (s_iconst (v := 1) (by decide)) ?_
                  refine rr rfl s_goto ?_
                  exact rrt rfl rfl rfl rfl
                refine rrc rfl rfl rfl (do_of g_X9_in rfl rfl e5) ?_
                refine rr rfl (s_ifF (by decide)) ?_
                refine rr rfl (s_iload rfl) ?_
                refine rr rfl (s_iconst (v := (-1)) (by decide)) ?_
                refine rr rfl (s_bipush (v := 7) (by decide)) ?_
                have e6 : a_m MT [] 100000 10 miX9_in [.int x6, .int (-1), .int 7] H = some ((some (.int 0)), H, 0, 0) := by
                  refine me (d := 9) g_X9_in (Nat.le_of_ble_eq_true rfl) ?_
                  refine rr rfl (s_iload_n rfl) ?_
                  refine rr rfl (s_iload_n rfl) ?_
                  refine rr rfl (s_icT (ic_lt c7)) ?_
                  refine rr rfl (s_iconst (v := 0) (by decide)) ?_
                  exact rrt rfl rfl rfl rfl
                refine rrc rfl rfl rfl (do_of g_X9_in rfl rfl e6) ?_
                refine rr rfl (s_ifT (by decide)) ?_
                refine rr rfl (s_iconst (v := 0) (by decide)) ?_
                refine rr rfl (s_istore rfl) ?_
                exact fuel_up M _ _ _ _ _ _ _ (by omega) k
              · rw [if_neg c7] at k
                by_cases c8 : 7 < x6
                · rw [if_pos c8] at k
                  refine rr rfl (s_iload_n rfl) ?_
                  have e1 : a_m MT [] 100000 10 miX9_isFact [.int x3] H = some ((some (.int 1)), H, 0, 0) := by
                    refine me (d := 9) g_X9_isFact (Nat.le_of_ble_eq_true rfl) ?_
                    refine rr rfl (s_iload_n rfl) ?_
                    refine rr rfl (s_iconst (v := 0) (by decide)) ?_
                    refine rr rfl (s_bipush (v := 7) (by decide)) ?_
                    have e2 : a_m MT [] 100000 9 miX9_in [.int x3, .int 0, .int 7] H = some ((some (.int 1)), H, 0, 0) := by
                      refine me (d := 8) g_X9_in (Nat.le_of_ble_eq_true rfl) ?_
                      refine rr rfl (s_iload_n rfl) ?_
                      refine rr rfl (s_iload_n rfl) ?_
                      refine rr rfl (s_icF (ic_nlt c1)) ?_
                      refine rr rfl (s_iload_n rfl) ?_
                      refine rr rfl (s_iload_n rfl) ?_
                      refine rr rfl (s_icF (ic_ngt c2)) ?_
                      refine rr rfl (s_iconst (v := 1) (by decide)) ?_
                      refine rr rfl s_goto ?_
                      exact rrt rfl rfl rfl rfl
                    refine rrc rfl rfl rfl (do_of g_X9_in rfl rfl e2) ?_
                    exact rrt rfl rfl rfl rfl
                  refine rrc rfl rfl rfl (do_of g_X9_isFact rfl rfl e1) ?_
                  refine rr rfl (s_ifF (by decide)) ?_
                  refine rr rfl (s_iload rfl) ?_
                  have e3 : a_m MT [] 100000 10 miX9_isFact [.int x4] H = some ((some (.int 1)), H, 0, 0) := by
                    refine me (d := 9) g_X9_isFact (Nat.le_of_ble_eq_true rfl) ?_
                    refine rr rfl (s_iload_n rfl) ?_
                    refine rr rfl (s_iconst (v := 0) (by decide)) ?_
                    refine rr rfl (s_bipush (v := 7) (by decide)) ?_
                    have e4 : a_m MT [] 100000 9 miX9_in [.int x4, .int 0, .int 7] H = some ((some (.int 1)), H, 0, 0) := by
                      refine me (d := 8) g_X9_in (Nat.le_of_ble_eq_true rfl) ?_
                      refine rr rfl (s_iload_n rfl) ?_
                      refine rr rfl (s_iload_n rfl) ?_
                      refine rr rfl (s_icF (ic_nlt c3)) ?_
                      refine rr rfl (s_iload_n rfl) ?_
                      refine rr rfl (s_iload_n rfl) ?_
                      refine rr rfl (s_icF (ic_ngt c4)) ?_
                      refine rr rfl (s_iconst (v := 1) (by decide)) ?_
                      refine rr rfl s_goto ?_
                      exact rrt rfl rfl rfl rfl
                    refine rrc rfl rfl rfl (do_of g_X9_in rfl rfl e4) ?_
                    exact rrt rfl rfl rfl rfl
                  refine rrc rfl rfl rfl (do_of g_X9_isFact rfl rfl e3) ?_
                  refine rr rfl (s_ifF (by decide)) ?_
                  refine rr rfl (s_iload rfl) ?_
                  refine rr rfl (s_iconst (v := (-1)) (by decide)) ?_
                  refine rr rfl (s_bipush (v := 7) (by decide)) ?_
                  have e5 : a_m MT [] 100000 10 miX9_in [.int x5, .int (-1), .int 7] H = some ((some (.int 1)), H, 0, 0) := by
                    refine me (d := 9) g_X9_in (Nat.le_of_ble_eq_true rfl) ?_
                    refine rr rfl (s_iload_n rfl) ?_
                    refine rr rfl (s_iload_n rfl) ?_
                    refine rr rfl (s_icF (ic_nlt c5)) ?_
                    refine rr rfl (s_iload_n rfl) ?_
                    refine rr rfl (s_iload_n rfl) ?_
                    refine rr rfl (s_icF (ic_ngt c6)) ?_
                    refine rr rfl (s_iconst (v := 1) (by decide)) ?_
                    refine rr rfl s_goto ?_
                    exact rrt rfl rfl rfl rfl
                  refine rrc rfl rfl rfl (do_of g_X9_in rfl rfl e5) ?_
                  refine rr rfl (s_ifF (by decide)) ?_
                  refine rr rfl (s_iload rfl) ?_
                  refine rr rfl (s_iconst (v := (-1)) (by decide)) ?_
                  refine rr rfl (s_bipush (v := 7) (by decide)) ?_
                  have e6 : a_m MT [] 100000 10 miX9_in [.int x6, .int (-1), .int 7] H = some ((some (.int 0)), H, 0, 0) := by
                    refine me (d := 9) g_X9_in (Nat.le_of_ble_eq_true rfl) ?_
                    refine rr rfl (s_iload_n rfl) ?_
                    refine rr rfl (s_iload_n rfl) ?_
                    refine rr rfl (s_icF (ic_nlt c7)) ?_
                    refine rr rfl (s_iload_n rfl) ?_
                    refine rr rfl (s_iload_n rfl) ?_
                    refine rr rfl (s_icT (ic_gt c8)) ?_
                    refine rr rfl (s_iconst (v := 0) (by decide)) ?_
                    exact rrt rfl rfl rfl rfl
                  refine rrc rfl rfl rfl (do_of g_X9_in rfl rfl e6) ?_
                  refine rr rfl (s_ifT (by decide)) ?_
                  refine rr rfl (s_iconst (v := 0) (by decide)) ?_
                  refine rr rfl (s_istore rfl) ?_
                  exact fuel_up M _ _ _ _ _ _ _ (by omega) k
                · rw [if_neg c8] at k
                  refine rr rfl (s_iload_n rfl) ?_
                  have e1 : a_m MT [] 100000 10 miX9_isFact [.int x3] H = some ((some (.int 1)), H, 0, 0) := by
                    refine me (d := 9) g_X9_isFact (Nat.le_of_ble_eq_true rfl) ?_
                    refine rr rfl (s_iload_n rfl) ?_
                    refine rr rfl (s_iconst (v := 0) (by decide)) ?_
                    refine rr rfl (s_bipush (v := 7) (by decide)) ?_
                    have e2 : a_m MT [] 100000 9 miX9_in [.int x3, .int 0, .int 7] H = some ((some (.int 1)), H, 0, 0) := by
                      refine me (d := 8) g_X9_in (Nat.le_of_ble_eq_true rfl) ?_
                      refine rr rfl (s_iload_n rfl) ?_
                      refine rr rfl (s_iload_n rfl) ?_
                      refine rr rfl (s_icF (ic_nlt c1)) ?_
                      refine rr rfl (s_iload_n rfl) ?_
                      refine rr rfl (s_iload_n rfl) ?_
                      refine rr rfl (s_icF (ic_ngt c2)) ?_
                      refine rr rfl (s_iconst (v := 1) (by decide)) ?_
                      refine rr rfl s_goto ?_
                      exact rrt rfl rfl rfl rfl
                    refine rrc rfl rfl rfl (do_of g_X9_in rfl rfl e2) ?_
                    exact rrt rfl rfl rfl rfl
                  refine rrc rfl rfl rfl (do_of g_X9_isFact rfl rfl e1) ?_
                  refine rr rfl (s_ifF (by decide)) ?_
                  refine rr rfl (s_iload rfl) ?_
                  have e3 : a_m MT [] 100000 10 miX9_isFact [.int x4] H = some ((some (.int 1)), H, 0, 0) := by
                    refine me (d := 9) g_X9_isFact (Nat.le_of_ble_eq_true rfl) ?_
                    refine rr rfl (s_iload_n rfl) ?_
                    refine rr rfl (s_iconst (v := 0) (by decide)) ?_
                    refine rr rfl (s_bipush (v := 7) (by decide)) ?_
                    have e4 : a_m MT [] 100000 9 miX9_in [.int x4, .int 0, .int 7] H = some ((some (.int 1)), H, 0, 0) := by
                      refine me (d := 8) g_X9_in (Nat.le_of_ble_eq_true rfl) ?_
                      refine rr rfl (s_iload_n rfl) ?_
                      refine rr rfl (s_iload_n rfl) ?_
                      refine rr rfl (s_icF (ic_nlt c3)) ?_
                      refine rr rfl (s_iload_n rfl) ?_
                      refine rr rfl (s_iload_n rfl) ?_
                      refine rr rfl (s_icF (ic_ngt c4)) ?_
                      refine rr rfl (s_iconst (v := 1) (by decide)) ?_
                      refine rr rfl s_goto ?_
                      exact rrt rfl rfl rfl rfl
                    refine rrc rfl rfl rfl (do_of g_X9_in rfl rfl e4) ?_
                    exact rrt rfl rfl rfl rfl
                  refine rrc rfl rfl rfl (do_of g_X9_isFact rfl rfl e3) ?_
                  refine rr rfl (s_ifF (by decide)) ?_
                  refine rr rfl (s_iload rfl) ?_
                  refine rr rfl (s_iconst (v := (-1)) (by decide)) ?_
                  refine rr rfl (s_bipush (v := 7) (by decide)) ?_
                  have e5 : a_m MT [] 100000 10 miX9_in [.int x5, .int (-1), .int 7] H = some ((some (.int 1)), H, 0, 0) := by
                    refine me (d := 9) g_X9_in (Nat.le_of_ble_eq_true rfl) ?_
                    refine rr rfl (s_iload_n rfl) ?_
                    refine rr rfl (s_iload_n rfl) ?_
                    refine rr rfl (s_icF (ic_nlt c5)) ?_
                    refine rr rfl (s_iload_n rfl) ?_
                    refine rr rfl (s_iload_n rfl) ?_
                    refine rr rfl (s_icF (ic_ngt c6)) ?_
                    refine rr rfl (s_iconst (v := 1) (by decide)) ?_
                    refine rr rfl s_goto ?_
                    exact rrt rfl rfl rfl rfl
                  refine rrc rfl rfl rfl (do_of g_X9_in rfl rfl e5) ?_
                  refine rr rfl (s_ifF (by decide)) ?_
                  refine rr rfl (s_iload rfl) ?_
                  refine rr rfl (s_iconst (v := (-1)) (by decide)) ?_
                  refine rr rfl (s_bipush (v := 7) (by decide)) ?_
                  have e6 : a_m MT [] 100000 10 miX9_in [.int x6, .int (-1), .int 7] H = some ((some (.int 1)), H, 0, 0) := by
                    refine me (d := 9) g_X9_in (Nat.le_of_ble_eq_true rfl) ?_
                    refine rr rfl (s_iload_n rfl) ?_
                    refine rr rfl (s_iload_n rfl) ?_
                    refine rr rfl (s_icF (ic_nlt c7)) ?_
                    refine rr rfl (s_iload_n rfl) ?_
                    refine rr rfl (s_iload_n rfl) ?_
                    refine rr rfl (s_icF (ic_ngt c8)) ?_
                    refine rr rfl (s_iconst (v := 1) (by decide)) ?_
                    refine rr rfl s_goto ?_
                    exact rrt rfl rfl rfl rfl
                  refine rrc rfl rfl rfl (do_of g_X9_in rfl rfl e6) ?_
                  refine rr rfl (s_ifF (by decide)) ?_
                  refine rr rfl (s_iconst (v := 1) (by decide)) ?_
                  refine rr rfl s_goto ?_
                  refine rr rfl (s_istore rfl) ?_
                  exact fuel_up M _ _ _ _ _ _ _ (by omega) k
theorem g_X8_rule : a_at MT miX8_rule = some amX8_rule := rfl
theorem g_X9_rule : a_at MT miX9_rule = some amX9_rule := rfl
theorem runX {x1 x2 x3 x4 x5 x6 x7 : Int32} {res : ARes} (k : a_run MT [] (a_m MT [] 100000 10) 11 (some .int) tabX8_rule 95000 89 ((11, .int (ft x2 x7)) :: (10, .int (fd x6)) :: (9, .int (fa x4 x5)) :: (8, .int (fo x1)) :: (a_entry 0 [.ref 0, .int x1, .int x2, .int x3, .int x4, .int x5, .int x6, .int x7])) [] hF 0 0 = some res) : a_m MT [] 100000 11 miX8_rule [.ref 0, .int x1, .int x2, .int x3, .int x4, .int x5, .int x6, .int x7] hF = some res := by
  refine me (d := 10) g_X8_rule (Nat.le_of_ble_eq_true rfl) ?_
  exact fuel_up (95000 + 80 + 80 + 80 + 80) _ _ _ _ _ _ _ (by decide) (sgA (sgB (sgC (sgD k))))
theorem runM {x1 x2 x3 x4 x5 x6 x7 : Int32} {H : AH} {res : ARes} (k : a_run MT [] (a_m MT [] 100000 10) 11 (some .int) tabX9_rule 95000 44 ((8, .int (ff x3 x4 x5 x6)) :: (a_entry 0 [.ref 41, .int x1, .int x2, .int x3, .int x4, .int x5, .int x6, .int x7])) [] H 0 0 = some res) : a_m MT [] 100000 11 miX9_rule [.ref 41, .int x1, .int x2, .int x3, .int x4, .int x5, .int x6, .int x7] H = some res := by
  refine me (d := 10) g_X9_rule (Nat.le_of_ble_eq_true rfl) ?_
  exact fuel_up (95000 + 80) _ _ _ _ _ _ _ (by decide) (sgG k)
theorem i_eq {x y : Int32} : x = y ↔ x.toInt = y.toInt := Int32.toInt_inj.symm
theorem km1 : (-1 : Int32).toInt = -1 := by decide
theorem k0 : (0 : Int32).toInt = 0 := by decide
theorem k1 : (1 : Int32).toInt = 1 := by decide
theorem k2 : (2 : Int32).toInt = 2 := by decide
theorem k3 : (3 : Int32).toInt = 3 := by decide
theorem k4 : (4 : Int32).toInt = 4 := by decide
theorem k7 : (7 : Int32).toInt = 7 := by decide
theorem k8 : (8 : Int32).toInt = 8 := by decide
theorem fo_a {x1 : Int32} (h : x1 < (-1)) : fo x1 = 0 := by
  unfold fo
  rw [if_neg (show ¬ x1 = (-1) from (by simp only [Int32.lt_iff_toInt_lt, Int32.le_iff_toInt_le, i_eq, km1, k0, k1, k2, k3, k4, k7, k8] at h ⊢; omega)), if_pos (show x1 < 0 from (by simp only [Int32.lt_iff_toInt_lt, Int32.le_iff_toInt_le, i_eq, km1, k0, k1, k2, k3, k4, k7, k8] at h ⊢; omega))]
theorem fo_b {x1 : Int32} (h : 3 < x1) : fo x1 = 0 := by
  unfold fo
  rw [if_neg (show ¬ x1 = (-1) from (by simp only [Int32.lt_iff_toInt_lt, Int32.le_iff_toInt_le, i_eq, km1, k0, k1, k2, k3, k4, k7, k8] at h ⊢; omega)), if_neg (show ¬ x1 < 0 from (by simp only [Int32.lt_iff_toInt_lt, Int32.le_iff_toInt_le, i_eq, km1, k0, k1, k2, k3, k4, k7, k8] at h ⊢; omega)), if_pos (show 4 ≤ x1 from (by simp only [Int32.lt_iff_toInt_lt, Int32.le_iff_toInt_le, i_eq, km1, k0, k1, k2, k3, k4, k7, k8] at h ⊢; omega))]
theorem fo_1 {x1 : Int32} (a : ¬ x1 < (-1)) (b : ¬ 3 < x1) : fo x1 = 1 := by
  unfold fo
  by_cases c : x1 = (-1)
  · rw [if_pos c]
  · rw [if_neg c, if_neg (show ¬ x1 < 0 from (by simp only [Int32.lt_iff_toInt_lt, Int32.le_iff_toInt_le, i_eq, km1, k0, k1, k2, k3, k4, k7, k8] at a c ⊢; omega)), if_neg (show ¬ 4 ≤ x1 from (by simp only [Int32.lt_iff_toInt_lt, Int32.le_iff_toInt_le, i_eq, km1, k0, k1, k2, k3, k4, k7, k8] at b ⊢; omega))]
theorem fd_a {x6 : Int32} (h : x6 < (-1)) : fd x6 = 0 := by
  unfold fd
  rw [if_neg (show ¬ x6 = (-1) from (by simp only [Int32.lt_iff_toInt_lt, Int32.le_iff_toInt_le, i_eq, km1, k0, k1, k2, k3, k4, k7, k8] at h ⊢; omega)), if_pos (show x6 < 0 from (by simp only [Int32.lt_iff_toInt_lt, Int32.le_iff_toInt_le, i_eq, km1, k0, k1, k2, k3, k4, k7, k8] at h ⊢; omega))]
theorem fd_b {x6 : Int32} (h : 7 < x6) : fd x6 = 0 := by
  unfold fd
  rw [if_neg (show ¬ x6 = (-1) from (by simp only [Int32.lt_iff_toInt_lt, Int32.le_iff_toInt_le, i_eq, km1, k0, k1, k2, k3, k4, k7, k8] at h ⊢; omega)), if_neg (show ¬ x6 < 0 from (by simp only [Int32.lt_iff_toInt_lt, Int32.le_iff_toInt_le, i_eq, km1, k0, k1, k2, k3, k4, k7, k8] at h ⊢; omega)), if_pos (show 8 ≤ x6 from (by simp only [Int32.lt_iff_toInt_lt, Int32.le_iff_toInt_le, i_eq, km1, k0, k1, k2, k3, k4, k7, k8] at h ⊢; omega))]
theorem fd_1 {x6 : Int32} (a : ¬ x6 < (-1)) (b : ¬ 7 < x6) : fd x6 = 1 := by
  unfold fd
  by_cases c : x6 = (-1)
  · rw [if_pos c]
  · rw [if_neg c, if_neg (show ¬ x6 < 0 from (by simp only [Int32.lt_iff_toInt_lt, Int32.le_iff_toInt_le, i_eq, km1, k0, k1, k2, k3, k4, k7, k8] at a c ⊢; omega)), if_neg (show ¬ 8 ≤ x6 from (by simp only [Int32.lt_iff_toInt_lt, Int32.le_iff_toInt_le, i_eq, km1, k0, k1, k2, k3, k4, k7, k8] at b ⊢; omega))]
theorem fa_a {x4 x5 : Int32} (h : x4 < 0) : fa x4 x5 = 0 := by
  unfold fa
  rw [if_pos (show x4 < 0 from h)]
theorem fa_b {x4 x5 : Int32} (h : 7 < x4) : fa x4 x5 = 0 := by
  unfold fa
  rw [if_neg (show ¬ x4 < 0 from (by simp only [Int32.lt_iff_toInt_lt, Int32.le_iff_toInt_le, i_eq, km1, k0, k1, k2, k3, k4, k7, k8] at h ⊢; omega)), if_pos (show 8 ≤ x4 from (by simp only [Int32.lt_iff_toInt_lt, Int32.le_iff_toInt_le, i_eq, km1, k0, k1, k2, k3, k4, k7, k8] at h ⊢; omega))]
theorem fa_c {x4 x5 : Int32} (p4 : ¬ x4 < 0) (q4 : ¬ 7 < x4) (h : x5 < (-1)) : fa x4 x5 = 0 := by
  unfold fa
  rw [if_neg (show ¬ x4 < 0 from p4), if_neg (show ¬ 8 ≤ x4 from (by simp only [Int32.lt_iff_toInt_lt, Int32.le_iff_toInt_le, i_eq, km1, k0, k1, k2, k3, k4, k7, k8] at p4 q4 ⊢; omega)), if_neg (show ¬ x5 = (-1) from (by simp only [Int32.lt_iff_toInt_lt, Int32.le_iff_toInt_le, i_eq, km1, k0, k1, k2, k3, k4, k7, k8] at h ⊢; omega)), if_pos (show x5 < 0 from (by simp only [Int32.lt_iff_toInt_lt, Int32.le_iff_toInt_le, i_eq, km1, k0, k1, k2, k3, k4, k7, k8] at h ⊢; omega))]
theorem fa_d {x4 x5 : Int32} (p4 : ¬ x4 < 0) (q4 : ¬ 7 < x4) (h : 7 < x5) : fa x4 x5 = 0 := by
  unfold fa
  rw [if_neg (show ¬ x4 < 0 from p4), if_neg (show ¬ 8 ≤ x4 from (by simp only [Int32.lt_iff_toInt_lt, Int32.le_iff_toInt_le, i_eq, km1, k0, k1, k2, k3, k4, k7, k8] at p4 q4 ⊢; omega)), if_neg (show ¬ x5 = (-1) from (by simp only [Int32.lt_iff_toInt_lt, Int32.le_iff_toInt_le, i_eq, km1, k0, k1, k2, k3, k4, k7, k8] at h ⊢; omega)), if_neg (show ¬ x5 < 0 from (by simp only [Int32.lt_iff_toInt_lt, Int32.le_iff_toInt_le, i_eq, km1, k0, k1, k2, k3, k4, k7, k8] at h ⊢; omega)), if_pos (show 8 ≤ x5 from (by simp only [Int32.lt_iff_toInt_lt, Int32.le_iff_toInt_le, i_eq, km1, k0, k1, k2, k3, k4, k7, k8] at h ⊢; omega))]
theorem fa_1 {x4 x5 : Int32} (p4 : ¬ x4 < 0) (q4 : ¬ 7 < x4) (a : ¬ x5 < (-1)) (b : ¬ 7 < x5) : fa x4 x5 = 1 := by
  unfold fa
  rw [if_neg p4, if_neg (show ¬ 8 ≤ x4 from (by simp only [Int32.lt_iff_toInt_lt, Int32.le_iff_toInt_le, i_eq, km1, k0, k1, k2, k3, k4, k7, k8] at q4 ⊢; omega))]
  by_cases c : x5 = (-1)
  · rw [if_pos c]
  · rw [if_neg c, if_neg (show ¬ x5 < 0 from (by simp only [Int32.lt_iff_toInt_lt, Int32.le_iff_toInt_le, i_eq, km1, k0, k1, k2, k3, k4, k7, k8] at a c ⊢; omega)), if_neg (show ¬ 8 ≤ x5 from (by simp only [Int32.lt_iff_toInt_lt, Int32.le_iff_toInt_le, i_eq, km1, k0, k1, k2, k3, k4, k7, k8] at b ⊢; omega))]
theorem ft_a {x2 x7 : Int32} (h0 : x2 = 2) (h : x7 < 0) : ft x2 x7 = 0 := by
  unfold ft
  rw [if_pos (show x2 = 2 from h0), if_pos (show x7 < 0 from h)]
theorem ft_b {x2 x7 : Int32} (h0 : x2 = 2) (h : 3 < x7) : ft x2 x7 = 0 := by
  unfold ft
  rw [if_pos (show x2 = 2 from h0), if_neg (show ¬ x7 < 0 from (by simp only [Int32.lt_iff_toInt_lt, Int32.le_iff_toInt_le, i_eq, km1, k0, k1, k2, k3, k4, k7, k8] at h ⊢; omega)), if_pos (show 4 ≤ x7 from (by simp only [Int32.lt_iff_toInt_lt, Int32.le_iff_toInt_le, i_eq, km1, k0, k1, k2, k3, k4, k7, k8] at h ⊢; omega))]
theorem ft_1 {x2 x7 : Int32} (h0 : x2 = 2) (p7 : ¬ x7 < 0) (q7 : ¬ 3 < x7) : ft x2 x7 = 1 := by
  unfold ft
  rw [if_pos (show x2 = 2 from h0), if_neg (show ¬ x7 < 0 from p7), if_neg (show ¬ 4 ≤ x7 from (by simp only [Int32.lt_iff_toInt_lt, Int32.le_iff_toInt_le, i_eq, km1, k0, k1, k2, k3, k4, k7, k8] at p7 q7 ⊢; omega))]
theorem ft_2 {x2 x7 : Int32} (h0 : ¬ x2 = 2) : ft x2 x7 = 1 := by
  unfold ft
  rw [if_neg (show ¬ x2 = 2 from h0)]
theorem ff_0 {x3 x4 x5 x6 : Int32} (h : x3 < 0) : ff x3 x4 x5 x6 = 0 := by
  unfold ff
  rw [if_pos (show x3 < 0 from h)]
theorem ff_1 {x3 x4 x5 x6 : Int32} (n0 : ¬ x3 < 0) (h : 7 < x3) : ff x3 x4 x5 x6 = 0 := by
  unfold ff
  rw [if_neg (show ¬ x3 < 0 from n0), if_pos (show 7 < x3 from h)]
theorem ff_2 {x3 x4 x5 x6 : Int32} (n0 : ¬ x3 < 0) (n1 : ¬ 7 < x3) (h : x4 < 0) : ff x3 x4 x5 x6 = 0 := by
  unfold ff
  rw [if_neg (show ¬ x3 < 0 from n0), if_neg (show ¬ 7 < x3 from n1), if_pos (show x4 < 0 from h)]
theorem ff_3 {x3 x4 x5 x6 : Int32} (n0 : ¬ x3 < 0) (n1 : ¬ 7 < x3) (n2 : ¬ x4 < 0) (h : 7 < x4) : ff x3 x4 x5 x6 = 0 := by
  unfold ff
  rw [if_neg (show ¬ x3 < 0 from n0), if_neg (show ¬ 7 < x3 from n1), if_neg (show ¬ x4 < 0 from n2), if_pos (show 7 < x4 from h)]
theorem ff_4 {x3 x4 x5 x6 : Int32} (n0 : ¬ x3 < 0) (n1 : ¬ 7 < x3) (n2 : ¬ x4 < 0) (n3 : ¬ 7 < x4) (h : x5 < (-1)) : ff x3 x4 x5 x6 = 0 := by
  unfold ff
  rw [if_neg (show ¬ x3 < 0 from n0), if_neg (show ¬ 7 < x3 from n1), if_neg (show ¬ x4 < 0 from n2), if_neg (show ¬ 7 < x4 from n3), if_pos (show x5 < (-1) from h)]
theorem ff_5 {x3 x4 x5 x6 : Int32} (n0 : ¬ x3 < 0) (n1 : ¬ 7 < x3) (n2 : ¬ x4 < 0) (n3 : ¬ 7 < x4) (n4 : ¬ x5 < (-1)) (h : 7 < x5) : ff x3 x4 x5 x6 = 0 := by
  unfold ff
  rw [if_neg (show ¬ x3 < 0 from n0), if_neg (show ¬ 7 < x3 from n1), if_neg (show ¬ x4 < 0 from n2), if_neg (show ¬ 7 < x4 from n3), if_neg (show ¬ x5 < (-1) from n4), if_pos (show 7 < x5 from h)]
theorem ff_6 {x3 x4 x5 x6 : Int32} (n0 : ¬ x3 < 0) (n1 : ¬ 7 < x3) (n2 : ¬ x4 < 0) (n3 : ¬ 7 < x4) (n4 : ¬ x5 < (-1)) (n5 : ¬ 7 < x5) (h : x6 < (-1)) : ff x3 x4 x5 x6 = 0 := by
  unfold ff
  rw [if_neg (show ¬ x3 < 0 from n0), if_neg (show ¬ 7 < x3 from n1), if_neg (show ¬ x4 < 0 from n2), if_neg (show ¬ 7 < x4 from n3), if_neg (show ¬ x5 < (-1) from n4), if_neg (show ¬ 7 < x5 from n5), if_pos (show x6 < (-1) from h)]
theorem ff_7 {x3 x4 x5 x6 : Int32} (n0 : ¬ x3 < 0) (n1 : ¬ 7 < x3) (n2 : ¬ x4 < 0) (n3 : ¬ 7 < x4) (n4 : ¬ x5 < (-1)) (n5 : ¬ 7 < x5) (n6 : ¬ x6 < (-1)) (h : 7 < x6) : ff x3 x4 x5 x6 = 0 := by
  unfold ff
  rw [if_neg (show ¬ x3 < 0 from n0), if_neg (show ¬ 7 < x3 from n1), if_neg (show ¬ x4 < 0 from n2), if_neg (show ¬ 7 < x4 from n3), if_neg (show ¬ x5 < (-1) from n4), if_neg (show ¬ 7 < x5 from n5), if_neg (show ¬ x6 < (-1) from n6), if_pos (show 7 < x6 from h)]
theorem ff_8 {x3 x4 x5 x6 : Int32} (n0 : ¬ x3 < 0) (n1 : ¬ 7 < x3) (n2 : ¬ x4 < 0) (n3 : ¬ 7 < x4) (n4 : ¬ x5 < (-1)) (n5 : ¬ 7 < x5) (n6 : ¬ x6 < (-1)) (n7 : ¬ 7 < x6) : ff x3 x4 x5 x6 = 1 := by
  unfold ff
  rw [if_neg (show ¬ x3 < 0 from n0), if_neg (show ¬ 7 < x3 from n1), if_neg (show ¬ x4 < 0 from n2), if_neg (show ¬ 7 < x4 from n3), if_neg (show ¬ x5 < (-1) from n4), if_neg (show ¬ 7 < x5 from n5), if_neg (show ¬ x6 < (-1) from n6), if_neg (show ¬ 7 < x6 from n7)]
def Taken (x1 x2 x3 x4 x5 x6 x7 : Int32) : Prop := ∃ (r : Int32) (h1 h2 : AH) (c1 s1 c2 s2 : Nat), a_run MT [] (a_m MT [] 100000 10) 11 (some .int) tabX8_rule 90000 140 (alR x1 x2 x3 x4 x5 x6 x7) [] hF 0 0 = some (some (.int r), h1, c1, s1) ∧ a_run MT [] (a_m MT [] 100000 10) 11 (some .int) tabX9_rule 90000 95 (alQ x1 x2 x3 x4 x5 x6 x7) [] h1 0 0 = some (some (.int r), h2, c2, s2) ∧ c1 + c2 ≤ 100 ∧ s1 + s2 ≤ 1000 ∧ a_recv h1 41 9 = true
set_option maxRecDepth 100000 in
set_option maxHeartbeats 4000000 in
theorem taken {x1 x2 x3 x4 x5 x6 x7 : Int32} (p3 : ¬ x3 < 0) (q3 : ¬ 7 < x3) (p4 : ¬ x4 < 0) (q4 : ¬ 7 < x4) (a5 : ¬ x5 < (-1)) (q5 : ¬ 7 < x5) (a6 : ¬ x6 < (-1)) (q6 : ¬ 7 < x6) : Taken x1 x2 x3 x4 x5 x6 x7 := by
  have lt8 : ∀ {x : Int32}, ¬ 7 < x → x < nI 8 := fun {x} q => by
    show x < (8 : Int32)
    simp only [Int32.lt_iff_toInt_lt, Int32.le_iff_toInt_le, i_eq, km1, k0, k1, k2, k3, k4, k7, k8] at q ⊢
    omega
  have l3 := lt8 q3
  have l4 := lt8 q4
  have l5 := lt8 q5
  have l6 := lt8 q6
  have pos : ∀ {x : Int32}, ¬ x < (-1) → ¬ x = (-1) → ¬ x < 0 := fun {x} q r => by
    simp only [Int32.lt_iff_toInt_lt, Int32.le_iff_toInt_le, i_eq, km1, k0, k1, k2, k3, k4, k7, k8] at q r ⊢
    omega
  by_cases k0 : x2 = 0
  · by_cases b6 : x6 = (-1)
    · by_cases b5 : x5 = (-1)
      · exact ⟨_, _, _, _, _, _, _, rx_Nmm b5 b6 k0 p4 l4 p3 l3, rm_Nmm rfl rfl rfl rfl rfl rfl rfl rfl rfl rfl k0 p4 l4 b5 b6 p3 l3, by decide, by decide, rfl⟩
      · have p5 := pos a5 b5
        exact ⟨_, _, _, _, _, _, _, rx_Nim b5 b6 k0 p4 l4 p5 l5 p3 l3, rm_Nim rfl rfl rfl rfl rfl rfl rfl rfl rfl rfl k0 p4 l4 b5 p5 l5 b6 p3 l3, by decide, by decide, rfl⟩
    · have p6 := pos a6 b6
      by_cases e6 : x6 = x3
      · by_cases e4 : x4 = x3
        · by_cases b5 : x5 = (-1)
          · exact ⟨_, _, _, _, _, _, _, rx_Nmhh b5 b6 k0 p4 l4 p6 l6 p3 l3 e4 e6, rm_Nmhh rfl rfl rfl rfl rfl rfl rfl rfl rfl rfl k0 p4 l4 b5 b6 p6 l6 p3 l3 e4 e6, by decide, by decide, rfl⟩
          · have p5 := pos a5 b5
            by_cases e5 : x5 = x3
            · exact ⟨_, _, _, _, _, _, _, rx_Nhhh b5 b6 k0 p4 l4 p5 l5 p6 l6 p3 l3 e4 e5 e6, rm_Nhhh rfl rfl rfl rfl rfl rfl rfl rfl rfl rfl k0 p4 l4 b5 p5 l5 b6 p6 l6 p3 l3 e4 e5 e6, by decide, by decide, rfl⟩
            · exact ⟨_, _, _, _, _, _, _, rx_Nohh b5 b6 k0 p4 l4 p5 l5 p6 l6 p3 l3 e4 e5 e6, rm_Nohh rfl rfl rfl rfl rfl rfl rfl rfl rfl rfl k0 p4 l4 b5 p5 l5 b6 p6 l6 p3 l3 e4 e5 e6, by decide, by decide, rfl⟩
        · by_cases b5 : x5 = (-1)
          · exact ⟨_, _, _, _, _, _, _, rx_Nmho b5 b6 k0 p4 l4 p6 l6 p3 l3 e4 e6, rm_Nmho rfl rfl rfl rfl rfl rfl rfl rfl rfl rfl k0 p4 l4 b5 b6 p6 l6 p3 l3 e4 e6, by decide, by decide, rfl⟩
          · have p5 := pos a5 b5
            by_cases e5 : x5 = x3
            · exact ⟨_, _, _, _, _, _, _, rx_Nhho b5 b6 k0 p4 l4 p5 l5 p6 l6 p3 l3 e4 e5 e6, rm_Nhho rfl rfl rfl rfl rfl rfl rfl rfl rfl rfl k0 p4 l4 b5 p5 l5 b6 p6 l6 p3 l3 e4 e5 e6, by decide, by decide, rfl⟩
            · exact ⟨_, _, _, _, _, _, _, rx_Noho b5 b6 k0 p4 l4 p5 l5 p6 l6 p3 l3 e4 e5 e6, rm_Noho rfl rfl rfl rfl rfl rfl rfl rfl rfl rfl k0 p4 l4 b5 p5 l5 b6 p6 l6 p3 l3 e4 e5 e6, by decide, by decide, rfl⟩
      · by_cases e4 : x4 = x3
        · by_cases b5 : x5 = (-1)
          · exact ⟨_, _, _, _, _, _, _, rx_Nmoh b5 b6 k0 p4 l4 p6 l6 p3 l3 e4 e6, rm_Nmoh rfl rfl rfl rfl rfl rfl rfl rfl rfl rfl k0 p4 l4 b5 b6 p6 l6 p3 l3 e4 e6, by decide, by decide, rfl⟩
          · have p5 := pos a5 b5
            by_cases e5 : x5 = x3
            · exact ⟨_, _, _, _, _, _, _, rx_Nhoh b5 b6 k0 p4 l4 p5 l5 p6 l6 p3 l3 e4 e5 e6, rm_Nhoh rfl rfl rfl rfl rfl rfl rfl rfl rfl rfl k0 p4 l4 b5 p5 l5 b6 p6 l6 p3 l3 e4 e5 e6, by decide, by decide, rfl⟩
            · exact ⟨_, _, _, _, _, _, _, rx_Nooh b5 b6 k0 p4 l4 p5 l5 p6 l6 p3 l3 e4 e5 e6, rm_Nooh rfl rfl rfl rfl rfl rfl rfl rfl rfl rfl k0 p4 l4 b5 p5 l5 b6 p6 l6 p3 l3 e4 e5 e6, by decide, by decide, rfl⟩
        · by_cases b5 : x5 = (-1)
          · exact ⟨_, _, _, _, _, _, _, rx_Nmoo b5 b6 k0 p4 l4 p6 l6 p3 l3 e4 e6, rm_Nmoo rfl rfl rfl rfl rfl rfl rfl rfl rfl rfl k0 p4 l4 b5 b6 p6 l6 p3 l3 e4 e6, by decide, by decide, rfl⟩
          · have p5 := pos a5 b5
            by_cases e5 : x5 = x3
            · exact ⟨_, _, _, _, _, _, _, rx_Nhoo b5 b6 k0 p4 l4 p5 l5 p6 l6 p3 l3 e4 e5 e6, rm_Nhoo rfl rfl rfl rfl rfl rfl rfl rfl rfl rfl k0 p4 l4 b5 p5 l5 b6 p6 l6 p3 l3 e4 e5 e6, by decide, by decide, rfl⟩
            · exact ⟨_, _, _, _, _, _, _, rx_Nooo b5 b6 k0 p4 l4 p5 l5 p6 l6 p3 l3 e4 e5 e6, rm_Nooo rfl rfl rfl rfl rfl rfl rfl rfl rfl rfl k0 p4 l4 b5 p5 l5 b6 p6 l6 p3 l3 e4 e5 e6, by decide, by decide, rfl⟩
  · by_cases b5 : x5 = (-1)
    · by_cases b6 : x6 = (-1)
      · exact ⟨_, _, _, _, _, _, _, rx_Kmm b5 b6 k0, rm_K rfl rfl rfl rfl rfl rfl rfl rfl rfl rfl k0 p3 l3, by decide, by decide, rfl⟩
      · exact ⟨_, _, _, _, _, _, _, rx_Kmi b5 b6 k0, rm_K rfl rfl rfl rfl rfl rfl rfl rfl rfl rfl k0 p3 l3, by decide, by decide, rfl⟩
    · by_cases b6 : x6 = (-1)
      · exact ⟨_, _, _, _, _, _, _, rx_Kim b5 b6 k0, rm_K rfl rfl rfl rfl rfl rfl rfl rfl rfl rfl k0 p3 l3, by decide, by decide, rfl⟩
      · exact ⟨_, _, _, _, _, _, _, rx_Kii b5 b6 k0, rm_K rfl rfl rfl rfl rfl rfl rfl rfl rfl rfl k0 p3 l3, by decide, by decide, rfl⟩
theorem none_ {x1 x2 x3 x4 x5 x6 x7 : Int32} (hx : fo x1 = 0 ∨ x2 < 0 ∨ 2 < x2 ∨ x3 < 0 ∨ 8 ≤ x3 ∨ fa x4 x5 = 0 ∨ fd x6 = 0 ∨ ft x2 x7 = 0) (hm : x1 < (-1) ∨ 3 < x1 ∨ x2 < 0 ∨ 2 < x2 ∨ ff x3 x4 x5 x6 = 0 ∨ (x2 = 2 ∧ (x7 < 0 ∨ 3 < x7))) : Agree miX8_rule miX9_rule [.int x1, .int x2, .int x3, .int x4, .int x5, .int x6, .int x7] := ⟨(-1), hF, hF, 0, 0, 0, 0, runX (ckX hx), runM (ckM hm), by decide, by decide, rfl⟩
set_option maxHeartbeats 4000000 in
theorem al_rule (x1 x2 x3 x4 x5 x6 x7 : Int32) : Agree miX8_rule miX9_rule [.int x1, .int x2, .int x3, .int x4, .int x5, .int x6, .int x7] := by
  by_cases a1 : x1 < (-1)
  · exact none_ (Or.inl (fo_a a1)) (Or.inl (a1))
  by_cases b1 : 3 < x1
  · exact none_ (Or.inl (fo_b b1)) (Or.inr (Or.inl (b1)))
  by_cases a2 : x2 < 0
  · exact none_ (Or.inr (Or.inl (a2))) (Or.inr (Or.inr (Or.inl (a2))))
  by_cases b2 : 2 < x2
  · exact none_ (Or.inr (Or.inr (Or.inl (b2)))) (Or.inr (Or.inr (Or.inr (Or.inl (b2)))))
  by_cases p3 : x3 < 0
  · exact none_ (Or.inr (Or.inr (Or.inr (Or.inl (p3))))) (Or.inr (Or.inr (Or.inr (Or.inr (Or.inl (ff_0 p3))))))
  by_cases q3 : 7 < x3
  · exact none_ (Or.inr (Or.inr (Or.inr (Or.inr (Or.inl ((by simp only [Int32.lt_iff_toInt_lt, Int32.le_iff_toInt_le, i_eq, km1, k0, k1, k2, k3, k4, k7, k8] at q3 ⊢; omega))))))) (Or.inr (Or.inr (Or.inr (Or.inr (Or.inl (ff_1 p3 q3))))))
  by_cases p4 : x4 < 0
  · exact none_ (Or.inr (Or.inr (Or.inr (Or.inr (Or.inr (Or.inl (fa_a p4))))))) (Or.inr (Or.inr (Or.inr (Or.inr (Or.inl (ff_2 p3 q3 p4))))))
  by_cases q4 : 7 < x4
  · exact none_ (Or.inr (Or.inr (Or.inr (Or.inr (Or.inr (Or.inl (fa_b q4))))))) (Or.inr (Or.inr (Or.inr (Or.inr (Or.inl (ff_3 p3 q3 p4 q4))))))
  by_cases a5 : x5 < (-1)
  · exact none_ (Or.inr (Or.inr (Or.inr (Or.inr (Or.inr (Or.inl (fa_c p4 q4 a5))))))) (Or.inr (Or.inr (Or.inr (Or.inr (Or.inl (ff_4 p3 q3 p4 q4 a5))))))
  by_cases q5 : 7 < x5
  · exact none_ (Or.inr (Or.inr (Or.inr (Or.inr (Or.inr (Or.inl (fa_d p4 q4 q5))))))) (Or.inr (Or.inr (Or.inr (Or.inr (Or.inl (ff_5 p3 q3 p4 q4 a5 q5))))))
  by_cases a6 : x6 < (-1)
  · exact none_ (Or.inr (Or.inr (Or.inr (Or.inr (Or.inr (Or.inr (Or.inl (fd_a a6)))))))) (Or.inr (Or.inr (Or.inr (Or.inr (Or.inl (ff_6 p3 q3 p4 q4 a5 q5 a6))))))
  by_cases q6 : 7 < x6
  · exact none_ (Or.inr (Or.inr (Or.inr (Or.inr (Or.inr (Or.inr (Or.inl (fd_b q6)))))))) (Or.inr (Or.inr (Or.inr (Or.inr (Or.inl (ff_7 p3 q3 p4 q4 a5 q5 a6 q6))))))
  have eo := fo_1 a1 b1
  have ea := fa_1 p4 q4 a5 q5
  have ed := fd_1 a6 q6
  have ef := ff_8 p3 q3 p4 q4 a5 q5 a6 q6
  have q8 : ¬ 8 ≤ x3 := (by simp only [Int32.lt_iff_toInt_lt, Int32.le_iff_toInt_le, i_eq, km1, k0, k1, k2, k3, k4, k7, k8] at q3 ⊢; omega)
  have one : ¬ (1 : Int32) = 0 := by decide
  by_cases c9 : x2 = 2
  · by_cases a7 : x7 < 0
    · exact none_ (Or.inr (Or.inr (Or.inr (Or.inr (Or.inr (Or.inr (Or.inr (ft_a c9 a7)))))))) (Or.inr (Or.inr (Or.inr (Or.inr (Or.inr (⟨c9, Or.inl a7⟩))))))
    by_cases b7 : 3 < x7
    · exact none_ (Or.inr (Or.inr (Or.inr (Or.inr (Or.inr (Or.inr (Or.inr (ft_b c9 b7)))))))) (Or.inr (Or.inr (Or.inr (Or.inr (Or.inr (⟨c9, Or.inr b7⟩))))))
    have et := ft_1 c9 a7 b7
    obtain ⟨r, h1, h2, c1, s1, c2, s2, e1, e2, hc, hs, hr⟩ := taken (x1 := x1) (x2 := x2) (x7 := x7) p3 q3 p4 q4 a5 q5 a6 q6
    refine ⟨r, h1, h2, c1, s1, c2, s2, runX ?_, runM ?_, hc, hs, hr⟩
    · rw [eo, ea, ed, et]; exact gdX one a2 b2 p3 q8 one one one c9 e1
    · rw [ef]; exact gdM a1 b1 a2 b2 one c9 a7 b7 e2
  · have et := ft_2 (x7 := x7) c9
    by_cases c10 : x7 = 0
    · obtain ⟨r, h1, h2, c1, s1, c2, s2, e1, e2, hc, hs, hr⟩ := taken (x1 := x1) (x2 := x2) (x7 := x7) p3 q3 p4 q4 a5 q5 a6 q6
      refine ⟨r, h1, h2, c1, s1, c2, s2, runX ?_, runM ?_, hc, hs, hr⟩
      · rw [eo, ea, ed, et]; exact geX one a2 b2 p3 q8 one one one c9 c10 e1
      · rw [ef]; exact geM a1 b1 a2 b2 one c9 c10 e2
    · refine ⟨(-2), hF, hF, 0, 0, 0, 0, runX ?_, runM ?_, by decide, by decide, rfl⟩
      · rw [eo, ea, ed, et]; exact bdX one a2 b2 p3 q8 one one one c9 c10
      · rw [ef]; exact bdM a1 b1 a2 b2 one c9 c10
