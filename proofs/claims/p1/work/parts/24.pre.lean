def fo (x1 : Int32) : Int32 := if x1 = (-1) then 1 else if x1 < 0 then 0 else if 4 ≤ x1 then 0 else 1
def fa (x4 x5 : Int32) : Int32 := if x4 < 0 then 0 else if 8 ≤ x4 then 0 else if x5 = (-1) then 1 else if x5 < 0 then 0 else if 8 ≤ x5 then 0 else 1
def fd (x6 : Int32) : Int32 := if x6 = (-1) then 1 else if x6 < 0 then 0 else if 8 ≤ x6 then 0 else 1
def ft (x2 x7 : Int32) : Int32 := if x2 = 2 then (if x7 < 0 then 0 else if 4 ≤ x7 then 0 else 1) else 1
def ff (x3 x4 x5 x6 : Int32) : Int32 := if x3 < 0 then 0 else if 7 < x3 then 0 else if x4 < 0 then 0 else if 7 < x4 then 0 else if x5 < (-1) then 0 else if 7 < x5 then 0 else if x6 < (-1) then 0 else if 7 < x6 then 0 else 1
set_option maxHeartbeats 4000000 in
theorem sgA {x1 x2 x3 x4 x5 x6 x7 : Int32} {M : Nat} {res : ARes} (k : a_run MT [] (a_m MT [] 100000 10) 11 (some .int) tabX8_rule M 19 ((8, .int (fo x1)) :: (a_entry 0 [.ref 0, .int x1, .int x2, .int x3, .int x4, .int x5, .int x6, .int x7])) [] hF 0 0 = some res) : a_run MT [] (a_m MT [] 100000 10) 11 (some .int) tabX8_rule (M + 80) 0 ((a_entry 0 [.ref 0, .int x1, .int x2, .int x3, .int x4, .int x5, .int x6, .int x7])) [] hF 0 0 = some res := by
  unfold fo at k
  by_cases c1 : x1 = (-1)
  · rw [if_pos c1] at k
    refine rr rfl (s_iload_n rfl) ?_
    refine rr rfl (s_iconst (v := (-1)) (by decide)) ?_
    refine rr rfl (s_icT (ic_eq c1)) ?_
    refine rr rfl (s_iconst (v := 1) (by decide)) ?_
    refine rr rfl s_goto ?_
    refine rr rfl (s_istore rfl) ?_
    exact fuel_up M _ _ _ _ _ _ _ (by omega) k
  · rw [if_neg c1] at k
    by_cases c2 : x1 < 0
    · rw [if_pos c2] at k
      refine rr rfl (s_iload_n rfl) ?_
      refine rr rfl (s_iconst (v := (-1)) (by decide)) ?_
      refine rr rfl (s_icF (ic_neq c1)) ?_
      refine rr rfl (s_iload_n rfl) ?_
      have e1 : a_m MT [] 100000 10 miX8_isHost [.int x1] hF = some ((some (.int 0)), hF, 0, 0) := by
        refine me (d := 9) g_X8_isHost (Nat.le_of_ble_eq_true rfl) ?_
        refine rr rfl (s_iload_n rfl) ?_
        refine rr rfl (s_ifT (ic_lt c2)) ?_
        refine rr rfl (s_iconst (v := 0) (by decide)) ?_
        exact rrt rfl rfl rfl rfl
      refine rrc rfl rfl rfl (do_of g_X8_isHost rfl rfl e1) ?_
      refine rr rfl (s_ifT (by decide)) ?_
      refine rr rfl (s_iconst (v := 0) (by decide)) ?_
      refine rr rfl (s_istore rfl) ?_
      exact fuel_up M _ _ _ _ _ _ _ (by omega) k
    · rw [if_neg c2] at k
      by_cases c3 : 4 ≤ x1
      · rw [if_pos c3] at k
        refine rr rfl (s_iload_n rfl) ?_
        refine rr rfl (s_iconst (v := (-1)) (by decide)) ?_
        refine rr rfl (s_icF (ic_neq c1)) ?_
        refine rr rfl (s_iload_n rfl) ?_
        have e1 : a_m MT [] 100000 10 miX8_isHost [.int x1] hF = some ((some (.int 0)), hF, 0, 0) := by
          refine me (d := 9) g_X8_isHost (Nat.le_of_ble_eq_true rfl) ?_
          refine rr rfl (s_iload_n rfl) ?_
          refine rr rfl (s_ifF (ic_nlt c2)) ?_
          refine rr rfl (s_iload_n rfl) ?_
          refine rr rfl (s_iconst (v := 4) (by decide)) ?_
          refine rr rfl (s_icT (ic_ge c3)) ?_
          refine rr rfl (s_iconst (v := 0) (by decide)) ?_
          exact rrt rfl rfl rfl rfl
        refine rrc rfl rfl rfl (do_of g_X8_isHost rfl rfl e1) ?_
        refine rr rfl (s_ifT (by decide)) ?_
        refine rr rfl (s_iconst (v := 0) (by decide)) ?_
        refine rr rfl (s_istore rfl) ?_
        exact fuel_up M _ _ _ _ _ _ _ (by omega) k
      · rw [if_neg c3] at k
        refine rr rfl (s_iload_n rfl) ?_
        refine rr rfl (s_iconst (v := (-1)) (by decide)) ?_
        refine rr rfl (s_icF (ic_neq c1)) ?_
        refine rr rfl (s_iload_n rfl) ?_
        have e1 : a_m MT [] 100000 10 miX8_isHost [.int x1] hF = some ((some (.int 1)), hF, 0, 0) := by
          refine me (d := 9) g_X8_isHost (Nat.le_of_ble_eq_true rfl) ?_
          refine rr rfl (s_iload_n rfl) ?_
          refine rr rfl (s_ifF (ic_nlt c2)) ?_
          refine rr rfl (s_iload_n rfl) ?_
          refine rr rfl (s_iconst (v := 4) (by decide)) ?_
          refine rr rfl (s_icF (ic_nge c3)) ?_
          refine rr rfl (s_iconst (v := 1) (by decide)) ?_
          refine rr rfl s_goto ?_
          exact rrt rfl rfl rfl rfl
        refine rrc rfl rfl rfl (do_of g_X8_isHost rfl rfl e1) ?_
        refine rr rfl (s_ifF (by decide)) ?_
        refine rr rfl (s_iconst (v := 1) (by decide)) ?_
        refine rr rfl s_goto ?_
        refine rr rfl (s_istore rfl) ?_
        exact fuel_up M _ _ _ _ _ _ _ (by omega) k
set_option maxHeartbeats 4000000 in
theorem sgB {x1 x2 x3 x4 x5 x6 x7 : Int32} {o : Int32} {M : Nat} {res : ARes} (k : a_run MT [] (a_m MT [] 100000 10) 11 (some .int) tabX8_rule M 48 ((9, .int (fa x4 x5)) :: (8, .int o) :: (a_entry 0 [.ref 0, .int x1, .int x2, .int x3, .int x4, .int x5, .int x6, .int x7])) [] hF 0 0 = some res) : a_run MT [] (a_m MT [] 100000 10) 11 (some .int) tabX8_rule (M + 80) 19 ((8, .int o) :: (a_entry 0 [.ref 0, .int x1, .int x2, .int x3, .int x4, .int x5, .int x6, .int x7])) [] hF 0 0 = some res := by
  unfold fa at k
  by_cases c1 : x4 < 0
  · rw [if_pos c1] at k
    refine rr rfl (s_iload rfl) ?_
    have e1 : a_m MT [] 100000 10 miX8_isFact [.int x4] hF = some ((some (.int 0)), hF, 0, 0) := by
      refine me (d := 9) g_X8_isFact (Nat.le_of_ble_eq_true rfl) ?_
      refine rr rfl (s_iload_n rfl) ?_
      refine rr rfl (s_ifT (ic_lt c1)) ?_
      refine rr rfl (s_iconst (v := 0) (by decide)) ?_
      exact rrt rfl rfl rfl rfl
    refine rrc rfl rfl rfl (do_of g_X8_isFact rfl rfl e1) ?_
    refine rr rfl (s_ifT (by decide)) ?_
    refine rr rfl (s_iconst (v := 0) (by decide)) ?_
    refine rr rfl (s_istore rfl) ?_
    exact fuel_up M _ _ _ _ _ _ _ (by omega) k
  · rw [if_neg c1] at k
    by_cases c2 : 8 ≤ x4
    · rw [if_pos c2] at k
      refine rr rfl (s_iload rfl) ?_
      have e1 : a_m MT [] 100000 10 miX8_isFact [.int x4] hF = some ((some (.int 0)), hF, 0, 0) := by
        refine me (d := 9) g_X8_isFact (Nat.le_of_ble_eq_true rfl) ?_
        refine rr rfl (s_iload_n rfl) ?_
        refine rr rfl (s_ifF (ic_nlt c1)) ?_
        refine rr rfl (s_iload_n rfl) ?_
        refine rr rfl (s_bipush (v := 8) (by decide)) ?_
        refine rr rfl (s_icT (ic_ge c2)) ?_
        refine rr rfl (s_iconst (v := 0) (by decide)) ?_
        exact rrt rfl rfl rfl rfl
      refine rrc rfl rfl rfl (do_of g_X8_isFact rfl rfl e1) ?_
      refine rr rfl (s_ifT (by decide)) ?_
      refine rr rfl (s_iconst (v := 0) (by decide)) ?_
      refine rr rfl (s_istore rfl) ?_
      exact fuel_up M _ _ _ _ _ _ _ (by omega) k
    · rw [if_neg c2] at k
      by_cases c3 : x5 = (-1)
      · rw [if_pos c3] at k
        refine rr rfl (s_iload rfl) ?_
        have e1 : a_m MT [] 100000 10 miX8_isFact [.int x4] hF = some ((some (.int 1)), hF, 0, 0) := by
          refine me (d := 9) g_X8_isFact (Nat.le_of_ble_eq_true rfl) ?_
          refine rr rfl (s_iload_n rfl) ?_
          refine rr rfl (s_ifF (ic_nlt c1)) ?_
          refine rr rfl (s_iload_n rfl) ?_
          refine rr rfl (s_bipush (v := 8) (by decide)) ?_
          refine rr rfl (s_icF (ic_nge c2)) ?_
          refine rr rfl (s_iconst (v := 1) (by decide)) ?_
          refine rr rfl s_goto ?_
          exact rrt rfl rfl rfl rfl
        refine rrc rfl rfl rfl (do_of g_X8_isFact rfl rfl e1) ?_
        refine rr rfl (s_ifF (by decide)) ?_
        refine rr rfl (s_iload rfl) ?_
        refine rr rfl (s_iconst (v := (-1)) (by decide)) ?_
        refine rr rfl (s_icT (ic_eq c3)) ?_
        refine rr rfl (s_iconst (v := 1) (by decide)) ?_
        refine rr rfl s_goto ?_
        refine rr rfl (s_istore rfl) ?_
        exact fuel_up M _ _ _ _ _ _ _ (by omega) k
      · rw [if_neg c3] at k
        by_cases c4 : x5 < 0
        · rw [if_pos c4] at k
          refine rr rfl (s_iload rfl) ?_
          have e1 : a_m MT [] 100000 10 miX8_isFact [.int x4] hF = some ((some (.int 1)), hF, 0, 0) := by
            refine me (d := 9) g_X8_isFact (Nat.le_of_ble_eq_true rfl) ?_
            refine rr rfl (s_iload_n rfl) ?_
            refine rr rfl (s_ifF (ic_nlt c1)) ?_
            refine rr rfl (s_iload_n rfl) ?_
            refine rr rfl (s_bipush (v := 8) (by decide)) ?_
            refine rr rfl (s_icF (ic_nge c2)) ?_
            refine rr rfl (s_iconst (v := 1) (by decide)) ?_
            refine rr rfl s_goto ?_
            exact rrt rfl rfl rfl rfl
          refine rrc rfl rfl rfl (do_of g_X8_isFact rfl rfl e1) ?_
          refine rr rfl (s_ifF (by decide)) ?_
          refine rr rfl (s_iload rfl) ?_
          refine rr rfl (s_iconst (v := (-1)) (by decide)) ?_
          refine rr rfl (s_icF (ic_neq c3)) ?_
          refine rr rfl (s_iload rfl) ?_
          have e2 : a_m MT [] 100000 10 miX8_isFact [.int x5] hF = some ((some (.int 0)), hF, 0, 0) := by
            refine me (d := 9) g_X8_isFact (Nat.le_of_ble_eq_true rfl) ?_
            refine rr rfl (s_iload_n rfl) ?_
            refine rr rfl (s_ifT (ic_lt c4)) ?_
            refine rr rfl (s_iconst (v := 0) (by decide)) ?_
            exact rrt rfl rfl rfl rfl
          refine rrc rfl rfl rfl (do_of g_X8_isFact rfl rfl e2) ?_
          refine rr rfl (s_ifT (by decide)) ?_
          refine rr rfl (s_iconst (v := 0) (by decide)) ?_
          refine rr rfl (s_istore rfl) ?_
          exact fuel_up M _ _ _ _ _ _ _ (by omega) k
        · rw [if_neg c4] at k
          by_cases c5 : 8 ≤ x5
          · rw [if_pos c5] at k
            refine rr rfl (s_iload rfl) ?_
            have e1 : a_m MT [] 100000 10 miX8_isFact [.int x4] hF = some ((some (.int 1)), hF, 0, 0) := by
              refine me (d := 9) g_X8_isFact (Nat.le_of_ble_eq_true rfl) ?_
              refine rr rfl (s_iload_n rfl) ?_
              refine rr rfl (s_ifF (ic_nlt c1)) ?_
              refine rr rfl (s_iload_n rfl) ?_
              refine rr rfl (s_bipush (v := 8) (by decide)) ?_
              refine rr rfl (s_icF (ic_nge c2)) ?_
              refine rr rfl (s_iconst (v := 1) (by decide)) ?_
              refine rr rfl s_goto ?_
              exact rrt rfl rfl rfl rfl
            refine rrc rfl rfl rfl (do_of g_X8_isFact rfl rfl e1) ?_
            refine rr rfl (s_ifF (by decide)) ?_
            refine rr rfl (s_iload rfl) ?_
            refine rr rfl (s_iconst (v := (-1)) (by decide)) ?_
            refine rr rfl (s_icF (ic_neq c3)) ?_
            refine rr rfl (s_iload rfl) ?_
            have e2 : a_m MT [] 100000 10 miX8_isFact [.int x5] hF = some ((some (.int 0)), hF, 0, 0) := by
              refine me (d := 9) g_X8_isFact (Nat.le_of_ble_eq_true rfl) ?_
              refine rr rfl (s_iload_n rfl) ?_
              refine rr rfl (s_ifF (ic_nlt c4)) ?_
              refine rr rfl (s_iload_n rfl) ?_
              refine rr rfl (s_bipush (v := 8) (by decide)) ?_
              refine rr rfl (s_icT (ic_ge c5)) ?_
              refine rr rfl (s_iconst (v := 0) (by decide)) ?_
              exact rrt rfl rfl rfl rfl
            refine rrc rfl rfl rfl (do_of g_X8_isFact rfl rfl e2) ?_
            refine rr rfl (s_ifT (by decide)) ?_
            refine rr rfl (s_iconst (v := 0) (by decide)) ?_
            refine rr rfl (s_istore rfl) ?_
            exact fuel_up M _ _ _ _ _ _ _ (by omega) k
          · rw [if_neg c5] at k
            refine rr rfl (s_iload rfl) ?_
            have e1 : a_m MT [] 100000 10 miX8_isFact [.int x4] hF = some ((some (.int 1)), hF, 0, 0) := by
              refine me (d := 9) g_X8_isFact (Nat.le_of_ble_eq_true rfl) ?_
              refine rr rfl (s_iload_n rfl) ?_
              refine rr rfl (s_ifF (ic_nlt c1)) ?_
              refine rr rfl (s_iload_n rfl) ?_
              refine rr rfl (s_bipush (v := 8) (by decide)) ?_
              refine rr rfl (s_icF (ic_nge c2)) ?_
              refine rr rfl (s_iconst (v := 1) (by decide)) ?_
              refine rr rfl s_goto ?_
              exact rrt rfl rfl rfl rfl
            refine rrc rfl rfl rfl (do_of g_X8_isFact rfl rfl e1) ?_
            refine rr rfl (s_ifF (by decide)) ?_
            refine rr rfl (s_iload rfl) ?_
            refine rr rfl (s_iconst (v := (-1)) (by decide)) ?_
            refine rr rfl (s_icF (ic_neq c3)) ?_
            refine rr rfl (s_iload rfl) ?_
            have e2 : a_m MT [] 100000 10 miX8_isFact [.int x5] hF = some ((some (.int 1)), hF, 0, 0) := by
              refine me (d := 9) g_X8_isFact (Nat.le_of_ble_eq_true rfl) ?_
              refine rr rfl (s_iload_n rfl) ?_
              refine rr rfl (s_ifF (ic_nlt c4)) ?_
              refine rr rfl (s_iload_n rfl) ?_
              refine rr rfl (s_bipush (v := 8) (by decide)) ?_
              refine rr rfl (s_icF (ic_nge c5)) ?_
              refine rr rfl (s_iconst (v := 1) (by decide)) ?_
              refine rr rfl s_goto ?_
              exact rrt rfl rfl rfl rfl
            refine rrc rfl rfl rfl (do_of g_X8_isFact rfl rfl e2) ?_
            refine rr rfl (s_ifF (by decide)) ?_
            refine rr rfl (s_iconst (v := 1) (by decide)) ?_
            refine rr rfl s_goto ?_
            refine rr rfl (s_istore rfl) ?_
            exact fuel_up M _ _ _ _ _ _ _ (by omega) k
set_option maxHeartbeats 4000000 in
theorem sgC {x1 x2 x3 x4 x5 x6 x7 : Int32} {o b : Int32} {M : Nat} {res : ARes} (k : a_run MT [] (a_m MT [] 100000 10) 11 (some .int) tabX8_rule M 69 ((10, .int (fd x6)) :: (9, .int b) :: (8, .int o) :: (a_entry 0 [.ref 0, .int x1, .int x2, .int x3, .int x4, .int x5, .int x6, .int x7])) [] hF 0 0 = some res) : a_run MT [] (a_m MT [] 100000 10) 11 (some .int) tabX8_rule (M + 80) 48 ((9, .int b) :: (8, .int o) :: (a_entry 0 [.ref 0, .int x1, .int x2, .int x3, .int x4, .int x5, .int x6, .int x7])) [] hF 0 0 = some res := by
  unfold fd at k
  by_cases c1 : x6 = (-1)
  · rw [if_pos c1] at k
    refine rr rfl (s_iload rfl) ?_
    refine rr rfl (s_iconst (v := (-1)) (by decide)) ?_
    refine rr rfl (s_icT (ic_eq c1)) ?_
    refine rr rfl (s_iconst (v := 1) (by decide)) ?_
    refine rr rfl s_goto ?_
    refine rr rfl (s_istore rfl) ?_
    exact fuel_up M _ _ _ _ _ _ _ (by omega) k
  · rw [if_neg c1] at k
    by_cases c2 : x6 < 0
    · rw [if_pos c2] at k
      refine rr rfl (s_iload rfl) ?_
      refine rr rfl (s_iconst (v := (-1)) (by decide)) ?_
      refine rr rfl (s_icF (ic_neq c1)) ?_
      refine rr rfl (s_iload rfl) ?_
      have e1 : a_m MT [] 100000 10 miX8_isFact [.int x6] hF = some ((some (.int 0)), hF, 0, 0) := by
        refine me (d := 9) g_X8_isFact (Nat.le_of_ble_eq_true rfl) ?_
        refine rr rfl (s_iload_n rfl) ?_
        refine rr rfl (s_ifT (ic_lt c2)) ?_
        refine rr rfl (s_iconst (v := 0) (by decide)) ?_
        exact rrt rfl rfl rfl rfl
      refine rrc rfl rfl rfl (do_of g_X8_isFact rfl rfl e1) ?_
      refine rr rfl (s_ifT (by decide)) ?_
      refine rr rfl (s_iconst (v := 0) (by decide)) ?_
      refine rr rfl (s_istore rfl) ?_
      exact fuel_up M _ _ _ _ _ _ _ (by omega) k
    · rw [if_neg c2] at k
      by_cases c3 : 8 ≤ x6
      · rw [if_pos c3] at k
        refine rr rfl (s_iload rfl) ?_
        refine rr rfl (s_iconst (v := (-1)) (by decide)) ?_
        refine rr rfl (s_icF (ic_neq c1)) ?_
        refine rr rfl (s_iload rfl) ?_
        have e1 : a_m MT [] 100000 10 miX8_isFact [.int x6] hF = some ((some (.int 0)), hF, 0, 0) := by
          refine me (d := 9) g_X8_isFact (Nat.le_of_ble_eq_true rfl) ?_
          refine rr rfl (s_iload_n rfl) ?_
          refine rr rfl (s_ifF (ic_nlt c2)) ?_
          refine rr rfl (s_iload_n rfl) ?_
          refine rr rfl (s_bipush (v := 8) (by decide)) ?_
          refine rr rfl (s_icT (ic_ge c3)) ?_
          refine rr rfl (s_iconst (v := 0) (by decide)) ?_
          exact rrt rfl rfl rfl rfl
        refine rrc rfl rfl rfl (do_of g_X8_isFact rfl rfl e1) ?_
        refine rr rfl (s_ifT (by decide)) ?_
        refine rr rfl (s_iconst (v := 0) (by decide)) ?_
        refine rr rfl (s_istore rfl) ?_
        exact fuel_up M _ _ _ _ _ _ _ (by omega) k
      · rw [if_neg c3] at k
        refine rr rfl (s_iload rfl) ?_
        refine rr rfl (s_iconst (v := (-1)) (by decide)) ?_
        refine rr rfl (s_icF (ic_neq c1)) ?_
        refine rr rfl (s_iload rfl) ?_
        have e1 : a_m MT [] 100000 10 miX8_isFact [.int x6] hF = some ((some (.int 1)), hF, 0, 0) := by
          refine me (d := 9) g_X8_isFact (Nat.le_of_ble_eq_true rfl) ?_
          refine rr rfl (s_iload_n rfl) ?_
          refine rr rfl (s_ifF (ic_nlt c2)) ?_
          refine rr rfl (s_iload_n rfl) ?_
          refine rr rfl (s_bipush (v := 8) (by decide)) ?_
          refine rr rfl (s_icF (ic_nge c3)) ?_
          refine rr rfl (s_iconst (v := 1) (by decide)) ?_
          refine rr rfl s_goto ?_
          exact rrt rfl rfl rfl rfl
        refine rrc rfl rfl rfl (do_of g_X8_isFact rfl rfl e1) ?_
        refine rr rfl (s_ifF (by decide)) ?_
        refine rr rfl (s_iconst (v := 1) (by decide)) ?_
        refine rr rfl s_goto ?_
        refine rr rfl (s_istore rfl) ?_
        exact fuel_up M _ _ _ _ _ _ _ (by omega) k
set_option maxHeartbeats 4000000 in
theorem sgD {x1 x2 x3 x4 x5 x6 x7 : Int32} {o b e : Int32} {M : Nat} {res : ARes} (k : a_run MT [] (a_m MT [] 100000 10) 11 (some .int) tabX8_rule M 89 ((11, .int (ft x2 x7)) :: (10, .int e) :: (9, .int b) :: (8, .int o) :: (a_entry 0 [.ref 0, .int x1, .int x2, .int x3, .int x4, .int x5, .int x6, .int x7])) [] hF 0 0 = some res) : a_run MT [] (a_m MT [] 100000 10) 11 (some .int) tabX8_rule (M + 80) 69 ((10, .int e) :: (9, .int b) :: (8, .int o) :: (a_entry 0 [.ref 0, .int x1, .int x2, .int x3, .int x4, .int x5, .int x6, .int x7])) [] hF 0 0 = some res := by
  unfold ft at k
  by_cases c1 : x2 = 2
  · rw [if_pos c1] at k
    by_cases c2 : x7 < 0
    · rw [if_pos c2] at k
      refine rr rfl (s_iload_n rfl) ?_
      refine rr rfl (s_iconst (v := 2) (by decide)) ?_
      refine rr rfl (s_icF (ic_nne c1)) ?_
      refine rr rfl (s_iload rfl) ?_
      have e1 : a_m MT [] 100000 10 miX8_isHost [.int x7] hF = some ((some (.int 0)), hF, 0, 0) := by
        refine me (d := 9) g_X8_isHost (Nat.le_of_ble_eq_true rfl) ?_
        refine rr rfl (s_iload_n rfl) ?_
        refine rr rfl (s_ifT (ic_lt c2)) ?_
        refine rr rfl (s_iconst (v := 0) (by decide)) ?_
        exact rrt rfl rfl rfl rfl
      refine rrc rfl rfl rfl (do_of g_X8_isHost rfl rfl e1) ?_
      refine rr rfl (s_ifT (by decide)) ?_
      refine rr rfl (s_iconst (v := 0) (by decide)) ?_
      refine rr rfl (s_istore rfl) ?_
      exact fuel_up M _ _ _ _ _ _ _ (by omega) k
    · rw [if_neg c2] at k
      by_cases c3 : 4 ≤ x7
      · rw [if_pos c3] at k
        refine rr rfl (s_iload_n rfl) ?_
        refine rr rfl (s_iconst (v := 2) (by decide)) ?_
        refine rr rfl (s_icF (ic_nne c1)) ?_
        refine rr rfl (s_iload rfl) ?_
        have e1 : a_m MT [] 100000 10 miX8_isHost [.int x7] hF = some ((some (.int 0)), hF, 0, 0) := by
          refine me (d := 9) g_X8_isHost (Nat.le_of_ble_eq_true rfl) ?_
          refine rr rfl (s_iload_n rfl) ?_
          refine rr rfl (s_ifF (ic_nlt c2)) ?_
          refine rr rfl (s_iload_n rfl) ?_
          refine rr rfl (s_iconst (v := 4) (by decide)) ?_
          refine rr rfl (s_icT (ic_ge c3)) ?_
          refine rr rfl (s_iconst (v := 0) (by decide)) ?_
          exact rrt rfl rfl rfl rfl
        refine rrc rfl rfl rfl (do_of g_X8_isHost rfl rfl e1) ?_
        refine rr rfl (s_ifT (by decide)) ?_
        refine rr rfl (s_iconst (v := 0) (by decide)) ?_
        refine rr rfl (s_istore rfl) ?_
        exact fuel_up M _ _ _ _ _ _ _ (by omega) k
      · rw [if_neg c3] at k
        refine rr rfl (s_iload_n rfl) ?_
        refine rr rfl (s_iconst (v := 2) (by decide)) ?_
        refine rr rfl (s_icF (ic_nne c1)) ?_
        refine rr rfl (s_iload rfl) ?_
        have e1 : a_m MT [] 100000 10 miX8_isHost [.int x7] hF = some ((some (.int 1)), hF, 0, 0) := by
          refine me (d := 9) g_X8_isHost (Nat.le_of_ble_eq_true rfl) ?_
          refine rr rfl (s_iload_n rfl) ?_
          refine rr rfl (s_ifF (ic_nlt c2)) ?_
          refine rr rfl (s_iload_n rfl) ?_
          refine rr rfl (s_iconst (v := 4) (by decide)) ?_
          refine rr rfl (s_icF (ic_nge c3)) ?_
          refine rr rfl (s_iconst (v := 1) (by decide)) ?_
          refine rr rfl s_goto ?_
          exact rrt rfl rfl rfl rfl
        refine rrc rfl rfl rfl (do_of g_X8_isHost rfl rfl e1) ?_
        refine rr rfl (s_ifF (by decide)) ?_
        refine rr rfl (s_iconst (v := 1) (by decide)) ?_
        refine rr rfl s_goto ?_
        refine rr rfl (s_istore rfl) ?_
        exact fuel_up M _ _ _ _ _ _ _ (by omega) k
  · rw [if_neg c1] at k
    refine rr rfl (s_iload_n rfl) ?_
    refine rr rfl (s_iconst (v := 2) (by decide)) ?_
    refine rr rfl (s_icT (ic_ne c1)) ?_
    refine rr rfl (s_iconst (v := 1) (by decide)) ?_
    refine rr rfl s_goto ?_
    refine rr rfl (s_istore rfl) ?_
    exact fuel_up M _ _ _ _ _ _ _ (by omega) k
set_option maxHeartbeats 4000000 in
theorem ckX {x1 x2 x3 x4 x5 x6 x7 o b e t : Int32} (hn : o = 0 ∨ x2 < 0 ∨ 2 < x2 ∨ x3 < 0 ∨ 8 ≤ x3 ∨ b = 0 ∨ e = 0 ∨ t = 0) : a_run MT [] (a_m MT [] 100000 10) 11 (some .int) tabX8_rule 95000 89 ((11, .int t) :: (10, .int e) :: (9, .int b) :: (8, .int o) :: (a_entry 0 [.ref 0, .int x1, .int x2, .int x3, .int x4, .int x5, .int x6, .int x7])) [] hF 0 0 = some (some (.int (-1)), hF, 0, 0) := by
  by_cases c1 : o = 0
  · refine rr rfl (s_iload rfl) ?_
    refine rr rfl (s_ifT (ic_eq c1)) ?_
    refine rr rfl (s_iconst (v := (-1)) (by decide)) ?_
    exact rrt rfl rfl rfl rfl
  by_cases c2 : x2 < 0
  · refine rr rfl (s_iload rfl) ?_
    refine rr rfl (s_ifF (ic_neq c1)) ?_
    refine rr rfl (s_iload_n rfl) ?_
    refine rr rfl (s_ifT (ic_lt c2)) ?_
    refine rr rfl (s_iconst (v := (-1)) (by decide)) ?_
    exact rrt rfl rfl rfl rfl
  by_cases c3 : 2 < x2
  · refine rr rfl (s_iload rfl) ?_
    refine rr rfl (s_ifF (ic_neq c1)) ?_
    refine rr rfl (s_iload_n rfl) ?_
    refine rr rfl (s_ifF (ic_nlt c2)) ?_
    refine rr rfl (s_iload_n rfl) ?_
    refine rr rfl (s_iconst (v := 2) (by decide)) ?_
    refine rr rfl (s_icT (ic_gt c3)) ?_
    refine rr rfl (s_iconst (v := (-1)) (by decide)) ?_
    exact rrt rfl rfl rfl rfl
  by_cases c4 : x3 < 0
  · refine rr rfl (s_iload rfl) ?_
    refine rr rfl (s_ifF (ic_neq c1)) ?_
    refine rr rfl (s_iload_n rfl) ?_
    refine rr rfl (s_ifF (ic_nlt c2)) ?_
    refine rr rfl (s_iload_n rfl) ?_
    refine rr rfl (s_iconst (v := 2) (by decide)) ?_
    refine rr rfl (s_icF (ic_ngt c3)) ?_
    refine rr rfl (s_iload_n rfl) ?_
    have e1 : a_m MT [] 100000 10 miX8_isFact [.int x3] hF = some ((some (.int 0)), hF, 0, 0) := by
      refine me (d := 9) g_X8_isFact (Nat.le_of_ble_eq_true rfl) ?_
      refine rr rfl (s_iload_n rfl) ?_
      refine rr rfl (s_ifT (ic_lt c4)) ?_
      refine rr rfl (s_iconst (v := 0) (by decide)) ?_
      exact rrt rfl rfl rfl rfl
    refine rrc rfl rfl rfl (do_of g_X8_isFact rfl rfl e1) ?_
    refine rr rfl (s_ifT (by decide)) ?_
    refine rr rfl (s_iconst (v := (-1)) (by decide)) ?_
    exact rrt rfl rfl rfl rfl
  by_cases c5 : 8 ≤ x3
  · refine rr rfl (s_iload rfl) ?_
    refine rr rfl (s_ifF (ic_neq c1)) ?_
    refine rr rfl (s_iload_n rfl) ?_
    refine rr rfl (s_ifF (ic_nlt c2)) ?_
    refine rr rfl (s_iload_n rfl) ?_
    refine rr rfl (s_iconst (v := 2) (by decide)) ?_
    refine rr rfl (s_icF (ic_ngt c3)) ?_
    refine rr rfl (s_iload_n rfl) ?_
    have e1 : a_m MT [] 100000 10 miX8_isFact [.int x3] hF = some ((some (.int 0)), hF, 0, 0) := by
      refine me (d := 9) g_X8_isFact (Nat.le_of_ble_eq_true rfl) ?_
      refine rr rfl (s_iload_n rfl) ?_
      refine rr rfl (s_ifF (ic_nlt c4)) ?_
      refine rr rfl (s_iload_n rfl) ?_
      refine rr rfl (s_bipush (v := 8) (by decide)) ?_
      refine rr rfl (s_icT (ic_ge c5)) ?_
      refine rr rfl (s_iconst (v := 0) (by decide)) ?_
      exact rrt rfl rfl rfl rfl
    refine rrc rfl rfl rfl (do_of g_X8_isFact rfl rfl e1) ?_
    refine rr rfl (s_ifT (by decide)) ?_
    refine rr rfl (s_iconst (v := (-1)) (by decide)) ?_
    exact rrt rfl rfl rfl rfl
  by_cases c6 : b = 0
  · refine rr rfl (s_iload rfl) ?_
    refine rr rfl (s_ifF (ic_neq c1)) ?_
    refine rr rfl (s_iload_n rfl) ?_
    refine rr rfl (s_ifF (ic_nlt c2)) ?_
    refine rr rfl (s_iload_n rfl) ?_
    refine rr rfl (s_iconst (v := 2) (by decide)) ?_
    refine rr rfl (s_icF (ic_ngt c3)) ?_
    refine rr rfl (s_iload_n rfl) ?_
    have e1 : a_m MT [] 100000 10 miX8_isFact [.int x3] hF = some ((some (.int 1)), hF, 0, 0) := by
      refine me (d := 9) g_X8_isFact (Nat.le_of_ble_eq_true rfl) ?_
      refine rr rfl (s_iload_n rfl) ?_
      refine rr rfl (s_ifF (ic_nlt c4)) ?_
      refine rr rfl (s_iload_n rfl) ?_
      refine rr rfl (s_bipush (v := 8) (by decide)) ?_
      refine rr rfl (s_icF (ic_nge c5)) ?_
      refine rr rfl (s_iconst (v := 1) (by decide)) ?_
      refine rr rfl s_goto ?_
      exact rrt rfl rfl rfl rfl
    refine rrc rfl rfl rfl (do_of g_X8_isFact rfl rfl e1) ?_
    refine rr rfl (s_ifF (by decide)) ?_
    refine rr rfl (s_iload rfl) ?_
    refine rr rfl (s_ifT (ic_eq c6)) ?_
    refine rr rfl (s_iconst (v := (-1)) (by decide)) ?_
    exact rrt rfl rfl rfl rfl
  by_cases c7 : e = 0
  · refine rr rfl (s_iload rfl) ?_
    refine rr rfl (s_ifF (ic_neq c1)) ?_
    refine rr rfl (s_iload_n rfl) ?_
    refine rr rfl (s_ifF (ic_nlt c2)) ?_
    refine rr rfl (s_iload_n rfl) ?_
    refine rr rfl (s_iconst (v := 2) (by decide)) ?_
    refine rr rfl (s_icF (ic_ngt c3)) ?_
    refine rr rfl (s_iload_n rfl) ?_
    have e1 : a_m MT [] 100000 10 miX8_isFact [.int x3] hF = some ((some (.int 1)), hF, 0, 0) := by
      refine me (d := 9) g_X8_isFact (Nat.le_of_ble_eq_true rfl) ?_
      refine rr rfl (s_iload_n rfl) ?_
      refine rr rfl (s_ifF (ic_nlt c4)) ?_
      refine rr rfl (s_iload_n rfl) ?_
      refine rr rfl (s_bipush (v := 8) (by decide)) ?_
      refine rr rfl (s_icF (ic_nge c5)) ?_
      refine rr rfl (s_iconst (v := 1) (by decide)) ?_
      refine rr rfl s_goto ?_
      exact rrt rfl rfl rfl rfl
    refine rrc rfl rfl rfl (do_of g_X8_isFact rfl rfl e1) ?_
    refine rr rfl (s_ifF (by decide)) ?_
    refine rr rfl (s_iload rfl) ?_
    refine rr rfl (s_ifF (ic_neq c6)) ?_
    refine rr rfl (s_iload rfl) ?_
    refine rr rfl (s_ifT (ic_eq c7)) ?_
    refine rr rfl (s_iconst (v := (-1)) (by decide)) ?_
    exact rrt rfl rfl rfl rfl
  by_cases c8 : t = 0
  · refine rr rfl (s_iload rfl) ?_
    refine rr rfl (s_ifF (ic_neq c1)) ?_
    refine rr rfl (s_iload_n rfl) ?_
    refine rr rfl (s_ifF (ic_nlt c2)) ?_
    refine rr rfl (s_iload_n rfl) ?_
    refine rr rfl (s_iconst (v := 2) (by decide)) ?_
    refine rr rfl (s_icF (ic_ngt c3)) ?_
    refine rr rfl (s_iload_n rfl) ?_
    have e1 : a_m MT [] 100000 10 miX8_isFact [.int x3] hF = some ((some (.int 1)), hF, 0, 0) := by
      refine me (d := 9) g_X8_isFact (Nat.le_of_ble_eq_true rfl) ?_
      refine rr rfl (s_iload_n rfl) ?_
      refine rr rfl (s_ifF (ic_nlt c4)) ?_
      refine rr rfl (s_iload_n rfl) ?_
      refine rr rfl (s_bipush (v := 8) (by decide)) ?_
      refine rr rfl (s_icF (ic_nge c5)) ?_
      refine rr rfl (s_iconst (v := 1) (by decide)) ?_
      refine rr rfl s_goto ?_
      exact rrt rfl rfl rfl rfl
    refine rrc rfl rfl rfl (do_of g_X8_isFact rfl rfl e1) ?_
    refine rr rfl (s_ifF (by decide)) ?_
    refine rr rfl (s_iload rfl) ?_
    refine rr rfl (s_ifF (ic_neq c6)) ?_
    refine rr rfl (s_iload rfl) ?_
    refine rr rfl (s_ifF (ic_neq c7)) ?_
    refine rr rfl (s_iload rfl) ?_
    refine rr rfl (s_ifF (ic_nne c8)) ?_
    refine rr rfl (s_iconst (v := (-1)) (by decide)) ?_
    exact rrt rfl rfl rfl rfl
  exact absurd hn (by simp only [c1, c2, c3, c4, c5, c6, c7, c8, or_self, not_false_eq_true])
set_option maxHeartbeats 4000000 in
theorem bdX {x1 x2 x3 x4 x5 x6 x7 o b e t : Int32} (c1 : ¬ o = 0) (c2 : ¬ x2 < 0) (c3 : ¬ 2 < x2) (c4 : ¬ x3 < 0) (c5 : ¬ 8 ≤ x3) (c6 : ¬ b = 0) (c7 : ¬ e = 0) (c8 : ¬ t = 0) (c9 : ¬ x2 = 2) (c10 : ¬ x7 = 0) : a_run MT [] (a_m MT [] 100000 10) 11 (some .int) tabX8_rule 95000 89 ((11, .int t) :: (10, .int e) :: (9, .int b) :: (8, .int o) :: (a_entry 0 [.ref 0, .int x1, .int x2, .int x3, .int x4, .int x5, .int x6, .int x7])) [] hF 0 0 = some (some (.int (-2)), hF, 0, 0) := by
  refine rr rfl (s_iload rfl) ?_
  refine rr rfl (s_ifF (ic_neq c1)) ?_
  refine rr rfl (s_iload_n rfl) ?_
  refine rr rfl (s_ifF (ic_nlt c2)) ?_
  refine rr rfl (s_iload_n rfl) ?_
  refine rr rfl (s_iconst (v := 2) (by decide)) ?_
  refine rr rfl (s_icF (ic_ngt c3)) ?_
  refine rr rfl (s_iload_n rfl) ?_
  have e1 : a_m MT [] 100000 10 miX8_isFact [.int x3] hF = some ((some (.int 1)), hF, 0, 0) := by
    refine me (d := 9) g_X8_isFact (Nat.le_of_ble_eq_true rfl) ?_
    refine rr rfl (s_iload_n rfl) ?_
    refine rr rfl (s_ifF (ic_nlt c4)) ?_
    refine rr rfl (s_iload_n rfl) ?_
    refine rr rfl (s_bipush (v := 8) (by decide)) ?_
    refine rr rfl (s_icF (ic_nge c5)) ?_
    refine rr rfl (s_iconst (v := 1) (by decide)) ?_
    refine rr rfl s_goto ?_
    exact rrt rfl rfl rfl rfl
  refine rrc rfl rfl rfl (do_of g_X8_isFact rfl rfl e1) ?_
  refine rr rfl (s_ifF (by decide)) ?_
  refine rr rfl (s_iload rfl) ?_
  refine rr rfl (s_ifF (ic_neq c6)) ?_
  refine rr rfl (s_iload rfl) ?_
  refine rr rfl (s_ifF (ic_neq c7)) ?_
  refine rr rfl (s_iload rfl) ?_
  refine rr rfl (s_ifT (ic_ne c8)) ?_
  refine rr rfl (s_iload_n rfl) ?_
  refine rr rfl (s_iconst (v := 2) (by decide)) ?_
  refine rr rfl (s_icF (ic_neq c9)) ?_
  refine rr rfl (s_iload rfl) ?_
  refine rr rfl (s_ifF (ic_neq c10)) ?_
  refine rr rfl (s_bipush (v := (-2)) (by decide)) ?_
  exact rrt rfl rfl rfl rfl
set_option maxHeartbeats 4000000 in
theorem gdX {x1 x2 x3 x4 x5 x6 x7 o b e t : Int32} {res : ARes} (c1 : ¬ o = 0) (c2 : ¬ x2 < 0) (c3 : ¬ 2 < x2) (c4 : ¬ x3 < 0) (c5 : ¬ 8 ≤ x3) (c6 : ¬ b = 0) (c7 : ¬ e = 0) (c8 : ¬ t = 0) (c9 : x2 = 2) (k : a_run MT [] (a_m MT [] 100000 10) 11 (some .int) tabX8_rule 90000 140 ((11, .int t) :: (10, .int e) :: (9, .int b) :: (8, .int o) :: (a_entry 0 [.ref 0, .int x1, .int x2, .int x3, .int x4, .int x5, .int x6, .int x7])) [] hF 0 0 = some res) : a_run MT [] (a_m MT [] 100000 10) 11 (some .int) tabX8_rule 95000 89 ((11, .int t) :: (10, .int e) :: (9, .int b) :: (8, .int o) :: (a_entry 0 [.ref 0, .int x1, .int x2, .int x3, .int x4, .int x5, .int x6, .int x7])) [] hF 0 0 = some res := by
  refine rr rfl (s_iload rfl) ?_
  refine rr rfl (s_ifF (ic_neq c1)) ?_
  refine rr rfl (s_iload_n rfl) ?_
  refine rr rfl (s_ifF (ic_nlt c2)) ?_
  refine rr rfl (s_iload_n rfl) ?_
  refine rr rfl (s_iconst (v := 2) (by decide)) ?_
  refine rr rfl (s_icF (ic_ngt c3)) ?_
  refine rr rfl (s_iload_n rfl) ?_
  have e1 : a_m MT [] 100000 10 miX8_isFact [.int x3] hF = some ((some (.int 1)), hF, 0, 0) := by
    refine me (d := 9) g_X8_isFact (Nat.le_of_ble_eq_true rfl) ?_
    refine rr rfl (s_iload_n rfl) ?_
    refine rr rfl (s_ifF (ic_nlt c4)) ?_
    refine rr rfl (s_iload_n rfl) ?_
    refine rr rfl (s_bipush (v := 8) (by decide)) ?_
    refine rr rfl (s_icF (ic_nge c5)) ?_
    refine rr rfl (s_iconst (v := 1) (by decide)) ?_
    refine rr rfl s_goto ?_
    exact rrt rfl rfl rfl rfl
  refine rrc rfl rfl rfl (do_of g_X8_isFact rfl rfl e1) ?_
  refine rr rfl (s_ifF (by decide)) ?_
  refine rr rfl (s_iload rfl) ?_
  refine rr rfl (s_ifF (ic_neq c6)) ?_
  refine rr rfl (s_iload rfl) ?_
  refine rr rfl (s_ifF (ic_neq c7)) ?_
  refine rr rfl (s_iload rfl) ?_
  refine rr rfl (s_ifT (ic_ne c8)) ?_
  refine rr rfl (s_iload_n rfl) ?_
  refine rr rfl (s_iconst (v := 2) (by decide)) ?_
  refine rr rfl (s_icT (ic_eq c9)) ?_
  exact fuel_up 90000 _ _ _ _ _ _ _ (by decide) k
set_option maxHeartbeats 4000000 in
theorem geX {x1 x2 x3 x4 x5 x6 x7 o b e t : Int32} {res : ARes} (c1 : ¬ o = 0) (c2 : ¬ x2 < 0) (c3 : ¬ 2 < x2) (c4 : ¬ x3 < 0) (c5 : ¬ 8 ≤ x3) (c6 : ¬ b = 0) (c7 : ¬ e = 0) (c8 : ¬ t = 0) (c9 : ¬ x2 = 2) (c10 : x7 = 0) (k : a_run MT [] (a_m MT [] 100000 10) 11 (some .int) tabX8_rule 90000 140 ((11, .int t) :: (10, .int e) :: (9, .int b) :: (8, .int o) :: (a_entry 0 [.ref 0, .int x1, .int x2, .int x3, .int x4, .int x5, .int x6, .int x7])) [] hF 0 0 = some res) : a_run MT [] (a_m MT [] 100000 10) 11 (some .int) tabX8_rule 95000 89 ((11, .int t) :: (10, .int e) :: (9, .int b) :: (8, .int o) :: (a_entry 0 [.ref 0, .int x1, .int x2, .int x3, .int x4, .int x5, .int x6, .int x7])) [] hF 0 0 = some res := by
  refine rr rfl (s_iload rfl) ?_
  refine rr rfl (s_ifF (ic_neq c1)) ?_
  refine rr rfl (s_iload_n rfl) ?_
  refine rr rfl (s_ifF (ic_nlt c2)) ?_
  refine rr rfl (s_iload_n rfl) ?_
  refine rr rfl (s_iconst (v := 2) (by decide)) ?_
  refine rr rfl (s_icF (ic_ngt c3)) ?_
  refine rr rfl (s_iload_n rfl) ?_
  have e1 : a_m MT [] 100000 10 miX8_isFact [.int x3] hF = some ((some (.int 1)), hF, 0, 0) := by
    refine me (d := 9) g_X8_isFact (Nat.le_of_ble_eq_true rfl) ?_
    refine rr rfl (s_iload_n rfl) ?_
    refine rr rfl (s_ifF (ic_nlt c4)) ?_
    refine rr rfl (s_iload_n rfl) ?_
    refine rr rfl (s_bipush (v := 8) (by decide)) ?_
    refine rr rfl (s_icF (ic_nge c5)) ?_
    refine rr rfl (s_iconst (v := 1) (by decide)) ?_
    refine rr rfl s_goto ?_
    exact rrt rfl rfl rfl rfl
  refine rrc rfl rfl rfl (do_of g_X8_isFact rfl rfl e1) ?_
  refine rr rfl (s_ifF (by decide)) ?_
  refine rr rfl (s_iload rfl) ?_
  refine rr rfl (s_ifF (ic_neq c6)) ?_
  refine rr rfl (s_iload rfl) ?_
  refine rr rfl (s_ifF (ic_neq c7)) ?_
  refine rr rfl (s_iload rfl) ?_
  refine rr rfl (s_ifT (ic_ne c8)) ?_
  refine rr rfl (s_iload_n rfl) ?_
  refine rr rfl (s_iconst (v := 2) (by decide)) ?_
  refine rr rfl (s_icF (ic_neq c9)) ?_
  refine rr rfl (s_iload rfl) ?_
  refine rr rfl (s_ifT (ic_eq c10)) ?_
  exact fuel_up 90000 _ _ _ _ _ _ _ (by decide) k
set_option maxHeartbeats 4000000 in
theorem sgF {x1 x2 x3 x4 x5 x6 x7 : Int32} {M : Nat} {res : ARes} (k : a_run MT [] (a_m MT [] 100000 10) 11 (some .int) tabX9_rule M 44 ((8, .int (ff x3 x4 x5 x6)) :: (a_entry 0 [.ref 41, .int x1, .int x2, .int x3, .int x4, .int x5, .int x6, .int x7])) [] hF 0 0 = some res) : a_run MT [] (a_m MT [] 100000 10) 11 (some .int) tabX9_rule (M + 80) 0 ((a_entry 0 [.ref 41, .int x1, .int x2, .int x3, .int x4, .int x5, .int x6, .int x7])) [] hF 0 0 = some res := by
  unfold ff at k
  by_cases c1 : x3 < 0
  · rw [if_pos c1] at k
    refine rr rfl (s_iload_n rfl) ?_
    have e1 : a_m MT [] 100000 10 miX9_isFact [.int x3] hF = some ((some (.int 0)), hF, 0, 0) := by
      refine me (d := 9) g_X9_isFact (Nat.le_of_ble_eq_true rfl) ?_
      refine rr rfl (s_iload_n rfl) ?_
      refine rr rfl (s_iconst (v := 0) (by decide)) ?_
      refine rr rfl (s_bipush (v := 7) (by decide)) ?_
      have e2 : a_m MT [] 100000 9 miX9_in [.int x3, .int 0, .int 7] hF = some ((some (.int 0)), hF, 0, 0) := by
        refine me (d := 8) g_X9_in (Nat.le_of_ble_eq_true rfl) ?_
        refine rr rfl (s_iload_n rfl) ?_
        refine rr rfl (s_iload_n rfl) ?_
        refine rr rfl (s_icT (ic_lt c1)) ?_
        refine rr rfl (s_iconst (v := 0) (by decide)) ?_
        exact rrt rfl rfl rfl rfl
      refine rrc rfl rfl rfl (do_of g_X9_in rfl rfl e2) ?_
      exact rrt rfl rfl rfl rfl
    refine rrc rfl rfl rfl (do_of g_X9_isFact rfl rfl e1) ?_
    refine rr rfl (s_ifT (by decide)) ?_
    refine rr rfl (s_iconst (v := 0) (by decide)) ?_
    refine rr rfl (s_istore rfl) ?_
    exact fuel_up M _ _ _ _ _ _ _ (by omega) k
  · rw [if_neg c1] at k
    by_cases c2 : 7 < x3
    · rw [if_pos c2] at k
      refine rr rfl (s_iload_n rfl) ?_
      have e1 : a_m MT [] 100000 10 miX9_isFact [.int x3] hF = some ((some (.int 0)), hF, 0, 0) := by
        refine me (d := 9) g_X9_isFact (Nat.le_of_ble_eq_true rfl) ?_
        refine rr rfl (s_iload_n rfl) ?_
        refine rr rfl (s_iconst (v := 0) (by decide)) ?_
        refine rr rfl (s_bipush (v := 7) (by decide)) ?_
        have e2 : a_m MT [] 100000 9 miX9_in [.int x3, .int 0, .int 7] hF = some ((some (.int 0)), hF, 0, 0) := by
          refine me (d := 8) g_X9_in (Nat.le_of_ble_eq_true rfl) ?_
          refine rr rfl (s_iload_n rfl) ?_
          refine rr rfl (s_iload_n rfl) ?_
          refine rr rfl (s_icF (ic_nlt c1)) ?_
          refine rr rfl (s_iload_n rfl) ?_
          refine rr rfl (s_iload_n rfl) ?_
          refine rr rfl (s_icT (ic_gt c2)) ?_
          refine rr rfl (s_iconst (v := 0) (by decide)) ?_
          exact rrt rfl rfl rfl rfl
        refine rrc rfl rfl rfl (do_of g_X9_in rfl rfl e2) ?_
        exact rrt rfl rfl rfl rfl
      refine rrc rfl rfl rfl (do_of g_X9_isFact rfl rfl e1) ?_
      refine rr rfl (s_ifT (by decide)) ?_
      refine rr rfl (s_iconst (v := 0) (by decide)) ?_
      refine rr rfl (s_istore rfl) ?_
      exact fuel_up M _ _ _ _ _ _ _ (by omega) k
    · rw [if_neg c2] at k
      by_cases c3 : x4 < 0
      · rw [if_pos c3] at k
        refine rr rfl (s_iload_n rfl) ?_
        have e1 : a_m MT [] 100000 10 miX9_isFact [.int x3] hF = some ((some (.int 1)), hF, 0, 0) := by
          refine me (d := 9) g_X9_isFact (Nat.le_of_ble_eq_true rfl) ?_
          refine rr rfl (s_iload_n rfl) ?_
          refine rr rfl (s_iconst (v := 0) (by decide)) ?_
          refine rr rfl (s_bipush (v := 7) (by decide)) ?_
          have e2 : a_m MT [] 100000 9 miX9_in [.int x3, .int 0, .int 7] hF = some ((some (.int 1)), hF, 0, 0) := by
            refine me (d := 8) g_X9_in (Nat.le_of_ble_eq_true rfl) ?_
            refine rr rfl (s_iload_n rfl) ?_
            refine rr rfl (s_iload_n rfl) ?_
            refine rr rfl (s_icF (ic_nlt c1)) ?_
            refine rr rfl (s_iload_n rfl) ?_
            refine rr rfl (s_iload_n rfl) ?_
            refine rr rfl (s_icF (ic_ngt c2)) ?_
            refine rr rfl (s_iconst (v := 1) (by decide)) ?_
            refine rr rfl s_goto ?_
            exact rrt rfl rfl rfl rfl
          refine rrc rfl rfl rfl (do_of g_X9_in rfl rfl e2) ?_
          exact rrt rfl rfl rfl rfl
        refine rrc rfl rfl rfl (do_of g_X9_isFact rfl rfl e1) ?_
        refine rr rfl (s_ifF (by decide)) ?_
        refine rr rfl (s_iload rfl) ?_
        have e3 : a_m MT [] 100000 10 miX9_isFact [.int x4] hF = some ((some (.int 0)), hF, 0, 0) := by
          refine me (d := 9) g_X9_isFact (Nat.le_of_ble_eq_true rfl) ?_
          refine rr rfl (s_iload_n rfl) ?_
          refine rr rfl (s_iconst (v := 0) (by decide)) ?_
          refine rr rfl (s_bipush (v := 7) (by decide)) ?_
          have e4 : a_m MT [] 100000 9 miX9_in [.int x4, .int 0, .int 7] hF = some ((some (.int 0)), hF, 0, 0) := by
            refine me (d := 8) g_X9_in (Nat.le_of_ble_eq_true rfl) ?_
            refine rr rfl (s_iload_n rfl) ?_
            refine rr rfl (s_iload_n rfl) ?_
            refine rr rfl (s_icT (ic_lt c3)) ?_
            refine rr rfl (s_iconst (v := 0) (by decide)) ?_
            exact rrt rfl rfl rfl rfl
          refine rrc rfl rfl rfl (do_of g_X9_in rfl rfl e4) ?_
          exact rrt rfl rfl rfl rfl
        refine rrc rfl rfl rfl (do_of g_X9_isFact rfl rfl e3) ?_
        refine rr rfl (s_ifT (by decide)) ?_
        refine rr rfl (s_iconst (v := 0) (by decide)) ?_
        refine rr rfl (s_istore rfl) ?_
        exact fuel_up M _ _ _ _ _ _ _ (by omega) k
      · rw [if_neg c3] at k
        by_cases c4 : 7 < x4
        · rw [if_pos c4] at k
          refine rr rfl (s_iload_n rfl) ?_
          have e1 : a_m MT [] 100000 10 miX9_isFact [.int x3] hF = some ((some (.int 1)), hF, 0, 0) := by
            refine me (d := 9) g_X9_isFact (Nat.le_of_ble_eq_true rfl) ?_
            refine rr rfl (s_iload_n rfl) ?_
            refine rr rfl (s_iconst (v := 0) (by decide)) ?_
            refine rr rfl (s_bipush (v := 7) (by decide)) ?_
            have e2 : a_m MT [] 100000 9 miX9_in [.int x3, .int 0, .int 7] hF = some ((some (.int 1)), hF, 0, 0) := by
              refine me (d := 8) g_X9_in (Nat.le_of_ble_eq_true rfl) ?_
              refine rr rfl (s_iload_n rfl) ?_
              refine rr rfl (s_iload_n rfl) ?_
              refine rr rfl (s_icF (ic_nlt c1)) ?_
              refine rr rfl (s_iload_n rfl) ?_
              refine rr rfl (s_iload_n rfl) ?_
              refine rr rfl (s_icF (ic_ngt c2)) ?_
              refine rr rfl (s_iconst (v := 1) (by decide)) ?_
              refine rr rfl s_goto ?_
              exact rrt rfl rfl rfl rfl
            refine rrc rfl rfl rfl (do_of g_X9_in rfl rfl e2) ?_
            exact rrt rfl rfl rfl rfl
          refine rrc rfl rfl rfl (do_of g_X9_isFact rfl rfl e1) ?_
          refine rr rfl (s_ifF (by decide)) ?_
          refine rr rfl (s_iload rfl) ?_
          have e3 : a_m MT [] 100000 10 miX9_isFact [.int x4] hF = some ((some (.int 0)), hF, 0, 0) := by
            refine me (d := 9) g_X9_isFact (Nat.le_of_ble_eq_true rfl) ?_
            refine rr rfl (s_iload_n rfl) ?_
            refine rr rfl (s_iconst (v := 0) (by decide)) ?_
            refine rr rfl (s_bipush (v := 7) (by decide)) ?_
            have e4 : a_m MT [] 100000 9 miX9_in [.int x4, .int 0, .int 7] hF = some ((some (.int 0)), hF, 0, 0) := by
              refine me (d := 8) g_X9_in (Nat.le_of_ble_eq_true rfl) ?_
              refine rr rfl (s_iload_n rfl) ?_
              refine rr rfl (s_iload_n rfl) ?_
              refine rr rfl (s_icF (ic_nlt c3)) ?_
              refine rr rfl (s_iload_n rfl) ?_
              refine rr rfl (s_iload_n rfl) ?_
              refine rr rfl (s_icT (ic_gt c4)) ?_
              refine rr rfl (s_iconst (v := 0) (by decide)) ?_
              exact rrt rfl rfl rfl rfl
            refine rrc rfl rfl rfl (do_of g_X9_in rfl rfl e4) ?_
            exact rrt rfl rfl rfl rfl
          refine rrc rfl rfl rfl (do_of g_X9_isFact rfl rfl e3) ?_
          refine rr rfl (s_ifT (by decide)) ?_
          refine rr rfl (s_iconst (v := 0) (by decide)) ?_
          refine rr rfl (s_istore rfl) ?_
          exact fuel_up M _ _ _ _ _ _ _ (by omega) k
        · rw [if_neg c4] at k
          by_cases c5 : x5 < (-1)
          · rw [if_pos c5] at k
            refine rr rfl (s_iload_n rfl) ?_
            have e1 : a_m MT [] 100000 10 miX9_isFact [.int x3] hF = some ((some (.int 1)), hF, 0, 0) := by
              refine me (d := 9) g_X9_isFact (Nat.le_of_ble_eq_true rfl) ?_
              refine rr rfl (s_iload_n rfl) ?_
              refine rr rfl (s_iconst (v := 0) (by decide)) ?_
              refine rr rfl (s_bipush (v := 7) (by decide)) ?_
              have e2 : a_m MT [] 100000 9 miX9_in [.int x3, .int 0, .int 7] hF = some ((some (.int 1)), hF, 0, 0) := by
                refine me (d := 8) g_X9_in (Nat.le_of_ble_eq_true rfl) ?_
                refine rr rfl (s_iload_n rfl) ?_
                refine rr rfl (s_iload_n rfl) ?_
                refine rr rfl (s_icF (ic_nlt c1)) ?_
                refine rr rfl (s_iload_n rfl) ?_
                refine rr rfl (s_iload_n rfl) ?_
                refine rr rfl (s_icF (ic_ngt c2)) ?_
                refine rr rfl (s_iconst (v := 1) (by decide)) ?_
                refine rr rfl s_goto ?_
                exact rrt rfl rfl rfl rfl
              refine rrc rfl rfl rfl (do_of g_X9_in rfl rfl e2) ?_
              exact rrt rfl rfl rfl rfl
            refine rrc rfl rfl rfl (do_of g_X9_isFact rfl rfl e1) ?_
            refine rr rfl (s_ifF (by decide)) ?_
            refine rr rfl (s_iload rfl) ?_
            have e3 : a_m MT [] 100000 10 miX9_isFact [.int x4] hF = some ((some (.int 1)), hF, 0, 0) := by
              refine me (d := 9) g_X9_isFact (Nat.le_of_ble_eq_true rfl) ?_
              refine rr rfl (s_iload_n rfl) ?_
              refine rr rfl (s_iconst (v := 0) (by decide)) ?_
              refine rr rfl (s_bipush (v := 7) (by decide)) ?_
              have e4 : a_m MT [] 100000 9 miX9_in [.int x4, .int 0, .int 7] hF = some ((some (.int 1)), hF, 0, 0) := by
                refine me (d := 8) g_X9_in (Nat.le_of_ble_eq_true rfl) ?_
                refine rr rfl (s_iload_n rfl) ?_
                refine rr rfl (s_iload_n rfl) ?_
                refine rr rfl (s_icF (ic_nlt c3)) ?_
                refine rr rfl (s_iload_n rfl) ?_
                refine rr rfl (s_iload_n rfl) ?_
                refine rr rfl (s_icF (ic_ngt c4)) ?_
                refine rr rfl (s_iconst (v := 1) (by decide)) ?_
                refine rr rfl s_goto ?_
                exact rrt rfl rfl rfl rfl
              refine rrc rfl rfl rfl (do_of g_X9_in rfl rfl e4) ?_
              exact rrt rfl rfl rfl rfl
            refine rrc rfl rfl rfl (do_of g_X9_isFact rfl rfl e3) ?_
            refine rr rfl (s_ifF (by decide)) ?_
            refine rr rfl (s_iload rfl) ?_
            refine rr rfl (s_iconst (v := (-1)) (by decide)) ?_
            refine rr rfl (s_bipush (v := 7) (by decide)) ?_
            have e5 : a_m MT [] 100000 10 miX9_in [.int x5, .int (-1), .int 7] hF = some ((some (.int 0)), hF, 0, 0) := by
              refine me (d := 9) g_X9_in (Nat.le_of_ble_eq_true rfl) ?_
              refine rr rfl (s_iload_n rfl) ?_
              refine rr rfl (s_iload_n rfl) ?_
              refine rr rfl (s_icT (ic_lt c5)) ?_
              refine rr rfl (s_iconst (v := 0) (by decide)) ?_
              exact rrt rfl rfl rfl rfl
            refine rrc rfl rfl rfl (do_of g_X9_in rfl rfl e5) ?_
            refine rr rfl (s_ifT (by decide)) ?_
            refine rr rfl (s_iconst (v := 0) (by decide)) ?_
            refine rr rfl (s_istore rfl) ?_
            exact fuel_up M _ _ _ _ _ _ _ (by omega) k
          · rw [if_neg c5] at k
            by_cases c6 : 7 < x5
            · rw [if_pos c6] at k
              refine rr rfl (s_iload_n rfl) ?_
              have e1 : a_m MT [] 100000 10 miX9_isFact [.int x3] hF = some ((some (.int 1)), hF, 0, 0) := by
                refine me (d := 9) g_X9_isFact (Nat.le_of_ble_eq_true rfl) ?_
                refine rr rfl (s_iload_n rfl) ?_
                refine rr rfl (s_iconst (v := 0) (by decide)) ?_
                refine rr rfl (s_bipush (v := 7) (by decide)) ?_
                have e2 : a_m MT [] 100000 9 miX9_in [.int x3, .int 0, .int 7] hF = some ((some (.int 1)), hF, 0, 0) := by
                  refine me (d := 8) g_X9_in (Nat.le_of_ble_eq_true rfl) ?_
                  refine rr rfl (s_iload_n rfl) ?_
                  refine rr rfl (s_iload_n rfl) ?_
                  refine rr rfl (s_icF (ic_nlt c1)) ?_
                  refine rr rfl (s_iload_n rfl) ?_
                  refine rr rfl (s_iload_n rfl) ?_
                  refine rr rfl (s_icF (ic_ngt c2)) ?_
                  refine rr rfl (s_iconst (v := 1) (by decide)) ?_
                  refine rr rfl s_goto ?_
                  exact rrt rfl rfl rfl rfl
                refine rrc rfl rfl rfl (do_of g_X9_in rfl rfl e2) ?_
                exact rrt rfl rfl rfl rfl
              refine rrc rfl rfl rfl (do_of g_X9_isFact rfl rfl e1) ?_
              refine rr rfl (s_ifF (by decide)) ?_
              refine rr rfl (s_iload rfl) ?_
              have e3 : a_m MT [] 100000 10 miX9_isFact [.int x4] hF = some ((some (.int 1)), hF, 0, 0) := by
                refine me (d := 9) g_X9_isFact (Nat.le_of_ble_eq_true rfl) ?_
                refine rr rfl (s_iload_n rfl) ?_
                refine rr rfl (s_iconst (v := 0) (by decide)) ?_
                refine rr rfl (s_bipush (v := 7) (by decide)) ?_
                have e4 : a_m MT [] 100000 9 miX9_in [.int x4, .int 0, .int 7] hF = some ((some (.int 1)), hF, 0, 0) := by
                  refine me (d := 8) g_X9_in (Nat.le_of_ble_eq_true rfl) ?_
                  refine rr rfl (s_iload_n rfl) ?_
                  refine rr rfl (s_iload_n rfl) ?_
                  refine rr rfl (s_icF (ic_nlt c3)) ?_
                  refine rr rfl (s_iload_n rfl) ?_
                  refine rr rfl (s_iload_n rfl) ?_
                  refine rr rfl (s_icF (ic_ngt c4)) ?_
                  refine rr rfl (s_iconst (v := 1) (by decide)) ?_
                  refine rr rfl s_goto ?_
                  exact rrt rfl rfl rfl rfl
                refine rrc rfl rfl rfl (do_of g_X9_in rfl rfl e4) ?_
                exact rrt rfl rfl rfl rfl
              refine rrc rfl rfl rfl (do_of g_X9_isFact rfl rfl e3) ?_
              refine rr rfl (s_ifF (by decide)) ?_
              refine rr rfl (s_iload rfl) ?_
              refine rr rfl (s_iconst (v := (-1)) (by decide)) ?_
              refine rr rfl (s_bipush (v := 7) (by decide)) ?_
              have e5 : a_m MT [] 100000 10 miX9_in [.int x5, .int (-1), .int 7] hF = some ((some (.int 0)), hF, 0, 0) := by
                refine me (d := 9) g_X9_in (Nat.le_of_ble_eq_true rfl) ?_
                refine rr rfl (s_iload_n rfl) ?_
                refine rr rfl (s_iload_n rfl) ?_
                refine rr rfl (s_icF (ic_nlt c5)) ?_
                refine rr rfl (s_iload_n rfl) ?_
                refine rr rfl (s_iload_n rfl) ?_
                refine rr rfl (s_icT (ic_gt c6)) ?_
                refine rr rfl (s_iconst (v := 0) (by decide)) ?_
                exact rrt rfl rfl rfl rfl
              refine rrc rfl rfl rfl (do_of g_X9_in rfl rfl e5) ?_
              refine rr rfl (s_ifT (by decide)) ?_
              refine rr rfl (s_iconst (v := 0) (by decide)) ?_
              refine rr rfl (s_istore rfl) ?_
              exact fuel_up M _ _ _ _ _ _ _ (by omega) k
            · rw [if_neg c6] at k
              by_cases c7 : x6 < (-1)
              · rw [if_pos c7] at k
                refine rr rfl (s_iload_n rfl) ?_
                have e1 : a_m MT [] 100000 10 miX9_isFact [.int x3] hF = some ((some (.int 1)), hF, 0, 0) := by
                  refine me (d := 9) g_X9_isFact (Nat.le_of_ble_eq_true rfl) ?_
                  refine rr rfl (s_iload_n rfl) ?_
                  refine rr rfl (s_iconst (v := 0) (by decide)) ?_
                  refine rr rfl (s_bipush (v := 7) (by decide)) ?_
                  have e2 : a_m MT [] 100000 9 miX9_in [.int x3, .int 0, .int 7] hF = some ((some (.int 1)), hF, 0, 0) := by
                    refine me (d := 8) g_X9_in (Nat.le_of_ble_eq_true rfl) ?_
                    refine rr rfl (s_iload_n rfl) ?_
                    refine rr rfl (s_iload_n rfl) ?_
                    refine rr rfl (s_icF (ic_nlt c1)) ?_
                    refine rr rfl (s_iload_n rfl) ?_
                    refine rr rfl (s_iload_n rfl) ?_
                    refine rr rfl (s_icF (ic_ngt c2)) ?_
                    refine rr rfl (s_iconst (v := 1) (by decide)) ?_
                    refine rr rfl s_goto ?_
                    exact rrt rfl rfl rfl rfl
                  refine rrc rfl rfl rfl (do_of g_X9_in rfl rfl e2) ?_
                  exact rrt rfl rfl rfl rfl
                refine rrc rfl rfl rfl (do_of g_X9_isFact rfl rfl e1) ?_
                refine rr rfl (s_ifF (by decide)) ?_
                refine rr rfl (s_iload rfl) ?_
                have e3 : a_m MT [] 100000 10 miX9_isFact [.int x4] hF = some ((some (.int 1)), hF, 0, 0) := by
                  refine me (d := 9) g_X9_isFact (Nat.le_of_ble_eq_true rfl) ?_
                  refine rr rfl (s_iload_n rfl) ?_
                  refine rr rfl (s_iconst (v := 0) (by decide)) ?_
                  refine rr rfl (s_bipush (v := 7) (by decide)) ?_
                  have e4 : a_m MT [] 100000 9 miX9_in [.int x4, .int 0, .int 7] hF = some ((some (.int 1)), hF, 0, 0) := by
                    refine me (d := 8) g_X9_in (Nat.le_of_ble_eq_true rfl) ?_
                    refine rr rfl (s_iload_n rfl) ?_
                    refine rr rfl (s_iload_n rfl) ?_
                    refine rr rfl (s_icF (ic_nlt c3)) ?_
                    refine rr rfl (s_iload_n rfl) ?_
                    refine rr rfl (s_iload_n rfl) ?_
                    refine rr rfl (s_icF (ic_ngt c4)) ?_
                    refine rr rfl (s_iconst (v := 1) (by decide)) ?_
                    refine rr rfl s_goto ?_
                    exact rrt rfl rfl rfl rfl
                  refine rrc rfl rfl rfl (do_of g_X9_in rfl rfl e4) ?_
                  exact rrt rfl rfl rfl rfl
                refine rrc rfl rfl rfl (do_of g_X9_isFact rfl rfl e3) ?_
                refine rr rfl (s_ifF (by decide)) ?_
                refine rr rfl (s_iload rfl) ?_
                refine rr rfl (s_iconst (v := (-1)) (by decide)) ?_
                refine rr rfl (s_bipush (v := 7) (by decide)) ?_
                have e5 : a_m MT [] 100000 10 miX9_in [.int x5, .int (-1), .int 7] hF = some ((some (.int 1)), hF, 0, 0) := by
                  refine me (d := 9) g_X9_in (Nat.le_of_ble_eq_true rfl) ?_
                  refine rr rfl (s_iload_n rfl) ?_
                  refine rr rfl (s_iload_n rfl) ?_
                  refine rr rfl (s_icF (ic_nlt c5)) ?_
                  refine rr rfl (s_iload_n rfl) ?_
                  refine rr rfl (s_iload_n rfl) ?_
                  refine rr rfl (s_icF (ic_ngt c6)) ?_
                  refine rr rfl (s_iconst (v := 1) (by decide)) ?_
                  refine rr rfl s_goto ?_
                  exact rrt rfl rfl rfl rfl
                refine rrc rfl rfl rfl (do_of g_X9_in rfl rfl e5) ?_
                refine rr rfl (s_ifF (by decide)) ?_
                refine rr rfl (s_iload rfl) ?_
                refine rr rfl (s_iconst (v := (-1)) (by decide)) ?_
                refine rr rfl (s_bipush (v := 7) (by decide)) ?_
                have e6 : a_m MT [] 100000 10 miX9_in [.int x6, .int (-1), .int 7] hF = some ((some (.int 0)), hF, 0, 0) := by
                  refine me (d := 9) g_X9_in (Nat.le_of_ble_eq_true rfl) ?_
                  refine rr rfl (s_iload_n rfl) ?_
                  refine rr rfl (s_iload_n rfl) ?_
                  refine rr rfl (s_icT (ic_lt c7)) ?_
                  refine rr rfl (s_iconst (v := 0) (by decide)) ?_
                  exact rrt rfl rfl rfl rfl
                refine rrc rfl rfl rfl (do_of g_X9_in rfl rfl e6) ?_
                refine rr rfl (s_ifT (by decide)) ?_
                refine rr rfl (s_iconst (v := 0) (by decide)) ?_
                refine rr rfl (s_istore rfl) ?_
                exact fuel_up M _ _ _ _ _ _ _ (by omega) k
              · rw [if_neg c7] at k
                by_cases c8 : 7 < x6
                · rw [if_pos c8] at k
                  refine rr rfl (s_iload_n rfl) ?_
                  have e1 : a_m MT [] 100000 10 miX9_isFact [.int x3] hF = some ((some (.int 1)), hF, 0, 0) := by
                    refine me (d := 9) g_X9_isFact (Nat.le_of_ble_eq_true rfl) ?_
                    refine rr rfl (s_iload_n rfl) ?_
                    refine rr rfl (s_iconst (v := 0) (by decide)) ?_
                    refine rr rfl (s_bipush (v := 7) (by decide)) ?_
                    have e2 : a_m MT [] 100000 9 miX9_in [.int x3, .int 0, .int 7] hF = some ((some (.int 1)), hF, 0, 0) := by
                      refine me (d := 8) g_X9_in (Nat.le_of_ble_eq_true rfl) ?_
                      refine rr rfl (s_iload_n rfl) ?_
                      refine rr rfl (s_iload_n rfl) ?_
                      refine rr rfl (s_icF (ic_nlt c1)) ?_
                      refine rr rfl (s_iload_n rfl) ?_
                      refine rr rfl (s_iload_n rfl) ?_
                      refine rr rfl (s_icF (ic_ngt c2)) ?_
                      refine rr rfl (s_iconst (v := 1) (by decide)) ?_
                      refine rr rfl s_goto ?_
                      exact rrt rfl rfl rfl rfl
                    refine rrc rfl rfl rfl (do_of g_X9_in rfl rfl e2) ?_
                    exact rrt rfl rfl rfl rfl
                  refine rrc rfl rfl rfl (do_of g_X9_isFact rfl rfl e1) ?_
                  refine rr rfl (s_ifF (by decide)) ?_
                  refine rr rfl (s_iload rfl) ?_
                  have e3 : a_m MT [] 100000 10 miX9_isFact [.int x4] hF = some ((some (.int 1)), hF, 0, 0) := by
                    refine me (d := 9) g_X9_isFact (Nat.le_of_ble_eq_true rfl) ?_
                    refine rr rfl (s_iload_n rfl) ?_
                    refine rr rfl (s_iconst (v := 0) (by decide)) ?_
                    refine rr rfl (s_bipush (v := 7) (by decide)) ?_
                    have e4 : a_m MT [] 100000 9 miX9_in [.int x4, .int 0, .int 7] hF = some ((some (.int 1)), hF, 0, 0) := by
                      refine me (d := 8) g_X9_in (Nat.le_of_ble_eq_true rfl) ?_
                      refine rr rfl (s_iload_n rfl) ?_
                      refine rr rfl (s_iload_n rfl) ?_
                      refine rr rfl (s_icF (ic_nlt c3)) ?_
                      refine rr rfl (s_iload_n rfl) ?_
                      refine rr rfl (s_iload_n rfl) ?_
                      refine rr rfl (s_icF (ic_ngt c4)) ?_
                      refine rr rfl (s_iconst (v := 1) (by decide)) ?_
                      refine rr rfl s_goto ?_
                      exact rrt rfl rfl rfl rfl
                    refine rrc rfl rfl rfl (do_of g_X9_in rfl rfl e4) ?_
                    exact rrt rfl rfl rfl rfl
                  refine rrc rfl rfl rfl (do_of g_X9_isFact rfl rfl e3) ?_
                  refine rr rfl (s_ifF (by decide)) ?_
                  refine rr rfl (s_iload rfl) ?_
                  refine rr rfl (s_iconst (v := (-1)) (by decide)) ?_
                  refine rr rfl (s_bipush (v := 7) (by decide)) ?_
                  have e5 : a_m MT [] 100000 10 miX9_in [.int x5, .int (-1), .int 7] hF = some ((some (.int 1)), hF, 0, 0) := by
                    refine me (d := 9) g_X9_in (Nat.le_of_ble_eq_true rfl) ?_
                    refine rr rfl (s_iload_n rfl) ?_
                    refine rr rfl (s_iload_n rfl) ?_
                    refine rr rfl (s_icF (ic_nlt c5)) ?_
                    refine rr rfl (s_iload_n rfl) ?_
                    refine rr rfl (s_iload_n rfl) ?_
                    refine rr rfl (s_icF (ic_ngt c6)) ?_
                    refine rr rfl (s_iconst (v := 1) (by decide)) ?_
                    refine rr rfl s_goto ?_
                    exact rrt rfl rfl rfl rfl
                  refine rrc rfl rfl rfl (do_of g_X9_in rfl rfl e5) ?_
                  refine rr rfl (s_ifF (by decide)) ?_
                  refine rr rfl (s_iload rfl) ?_
                  refine rr rfl (s_iconst (v := (-1)) (by decide)) ?_
                  refine rr rfl (s_bipush (v := 7) (by decide)) ?_
                  have e6 : a_m MT [] 100000 10 miX9_in [.int x6, .int (-1), .int 7] hF = some ((some (.int 0)), hF, 0, 0) := by
                    refine me (d := 9) g_X9_in (Nat.le_of_ble_eq_true rfl) ?_
                    refine rr rfl (s_iload_n rfl) ?_
                    refine rr rfl (s_iload_n rfl) ?_
                    refine rr rfl (s_icF (ic_nlt c7)) ?_
                    refine rr rfl (s_iload_n rfl) ?_
                    refine rr rfl (s_iload_n rfl) ?_
                    refine rr rfl (s_icT (ic_gt c8)) ?_
                    refine rr rfl (s_iconst (v := 0) (by decide)) ?_
                    exact rrt rfl rfl rfl rfl
                  refine rrc rfl rfl rfl (do_of g_X9_in rfl rfl e6) ?_
                  refine rr rfl (s_ifT (by decide)) ?_
                  refine rr rfl (s_iconst (v := 0) (by decide)) ?_
                  refine rr rfl (s_istore rfl) ?_
                  exact fuel_up M _ _ _ _ _ _ _ (by omega) k
                · rw [if_neg c8] at k
                  refine rr rfl (s_iload_n rfl) ?_
                  have e1 : a_m MT [] 100000 10 miX9_isFact [.int x3] hF = some ((some (.int 1)), hF, 0, 0) := by
                    refine me (d := 9) g_X9_isFact (Nat.le_of_ble_eq_true rfl) ?_
                    refine rr rfl (s_iload_n rfl) ?_
                    refine rr rfl (s_iconst (v := 0) (by decide)) ?_
                    refine rr rfl (s_bipush (v := 7) (by decide)) ?_
                    have e2 : a_m MT [] 100000 9 miX9_in [.int x3, .int 0, .int 7] hF = some ((some (.int 1)), hF, 0, 0) := by
                      refine me (d := 8) g_X9_in (Nat.le_of_ble_eq_true rfl) ?_
                      refine rr rfl (s_iload_n rfl) ?_
                      refine rr rfl (s_iload_n rfl) ?_
                      refine rr rfl (s_icF (ic_nlt c1)) ?_
                      refine rr rfl (s_iload_n rfl) ?_
                      refine rr rfl (s_iload_n rfl) ?_
                      refine rr rfl (s_icF (ic_ngt c2)) ?_
                      refine rr rfl (s_iconst (v := 1) (by decide)) ?_
                      refine rr rfl s_goto ?_
                      exact rrt rfl rfl rfl rfl
                    refine rrc rfl rfl rfl (do_of g_X9_in rfl rfl e2) ?_
                    exact rrt rfl rfl rfl rfl
                  refine rrc rfl rfl rfl (do_of g_X9_isFact rfl rfl e1) ?_
                  refine rr rfl (s_ifF (by decide)) ?_
                  refine rr rfl (s_iload rfl) ?_
                  have e3 : a_m MT [] 100000 10 miX9_isFact [.int x4] hF = some ((some (.int 1)), hF, 0, 0) := by
                    refine me (d := 9) g_X9_isFact (Nat.le_of_ble_eq_true rfl) ?_
                    refine rr rfl (s_iload_n rfl) ?_
                    refine rr rfl (s_iconst (v := 0) (by decide)) ?_
                    refine rr rfl (s_bipush (v := 7) (by decide)) ?_
                    have e4 : a_m MT [] 100000 9 miX9_in [.int x4, .int 0, .int 7] hF = some ((some (.int 1)), hF, 0, 0) := by
                      refine me (d := 8) g_X9_in (Nat.le_of_ble_eq_true rfl) ?_
                      refine rr rfl (s_iload_n rfl) ?_
                      refine rr rfl (s_iload_n rfl) ?_
                      refine rr rfl (s_icF (ic_nlt c3)) ?_
                      refine rr rfl (s_iload_n rfl) ?_
                      refine rr rfl (s_iload_n rfl) ?_
                      refine rr rfl (s_icF (ic_ngt c4)) ?_
                      refine rr rfl (s_iconst (v := 1) (by decide)) ?_
                      refine rr rfl s_goto ?_
                      exact rrt rfl rfl rfl rfl
                    refine rrc rfl rfl rfl (do_of g_X9_in rfl rfl e4) ?_
                    exact rrt rfl rfl rfl rfl
                  refine rrc rfl rfl rfl (do_of g_X9_isFact rfl rfl e3) ?_
                  refine rr rfl (s_ifF (by decide)) ?_
                  refine rr rfl (s_iload rfl) ?_
                  refine rr rfl (s_iconst (v := (-1)) (by decide)) ?_
                  refine rr rfl (s_bipush (v := 7) (by decide)) ?_
                  have e5 : a_m MT [] 100000 10 miX9_in [.int x5, .int (-1), .int 7] hF = some ((some (.int 1)), hF, 0, 0) := by
                    refine me (d := 9) g_X9_in (Nat.le_of_ble_eq_true rfl) ?_
                    refine rr rfl (s_iload_n rfl) ?_
                    refine rr rfl (s_iload_n rfl) ?_
                    refine rr rfl (s_icF (ic_nlt c5)) ?_
                    refine rr rfl (s_iload_n rfl) ?_
                    refine rr rfl (s_iload_n rfl) ?_
                    refine rr rfl (s_icF (ic_ngt c6)) ?_
                    refine rr rfl (s_iconst (v := 1) (by decide)) ?_
                    refine rr rfl s_goto ?_
                    exact rrt rfl rfl rfl rfl
                  refine rrc rfl rfl rfl (do_of g_X9_in rfl rfl e5) ?_
                  refine rr rfl (s_ifF (by decide)) ?_
                  refine rr rfl (s_iload rfl) ?_
                  refine rr rfl (s_iconst (v := (-1)) (by decide)) ?_
                  refine rr rfl (s_bipush (v := 7) (by decide)) ?_
                  have e6 : a_m MT [] 100000 10 miX9_in [.int x6, .int (-1), .int 7] hF = some ((some (.int 1)), hF, 0, 0) := by
                    refine me (d := 9) g_X9_in (Nat.le_of_ble_eq_true rfl) ?_
                    refine rr rfl (s_iload_n rfl) ?_
                    refine rr rfl (s_iload_n rfl) ?_
                    refine rr rfl (s_icF (ic_nlt c7)) ?_
                    refine rr rfl (s_iload_n rfl) ?_
                    refine rr rfl (s_iload_n rfl) ?_
                    refine rr rfl (s_icF (ic_ngt c8)) ?_
                    refine rr rfl (s_iconst (v := 1) (by decide)) ?_
                    refine rr rfl s_goto ?_
                    exact rrt rfl rfl rfl rfl
                  refine rrc rfl rfl rfl (do_of g_X9_in rfl rfl e6) ?_
                  refine rr rfl (s_ifF (by decide)) ?_
                  refine rr rfl (s_iconst (v := 1) (by decide)) ?_
                  refine rr rfl s_goto ?_
                  refine rr rfl (s_istore rfl) ?_
                  exact fuel_up M _ _ _ _ _ _ _ (by omega) k
