abbrev alR (x1 x2 x3 x4 x5 x6 x7 : Int32) : AL := [(11, .int 1), (10, .int 1), (9, .int 1), (8, .int 1), (0, .ref 0), (1, .int x1), (2, .int x2), (3, .int x3), (4, .int x4), (5, .int x5), (6, .int x6), (7, .int x7)]
theorem g_J15_checkIndex_7cf53 : a_at MT miJ15_checkIndex_7cf53 = some amJ15_checkIndex_7cf53 := rfl
theorem g_J3_checkIndex_8e157 : a_at MT miJ3_checkIndex_8e157 = some amJ3_checkIndex_8e157 := rfl
theorem g_J7_fill_53178 : a_at MT miJ7_fill_53178 = some amJ7_fill_53178 := rfl
theorem g_Jx4a65c_add_72be8 : a_at MT miJx4a65c_add_72be8 = some amJx4a65c_add_72be8 := rfl
theorem g_Jx4a65c_add_9ea2d : a_at MT miJx4a65c_add_9ea2d = some amJx4a65c_add_9ea2d := rfl
theorem g_Jx4a65c_elementData_915e3 : a_at MT miJx4a65c_elementData_915e3 = some amJx4a65c_elementData_915e3 := rfl
theorem g_Jx4a65c_get_915e3 : a_at MT miJx4a65c_get_915e3 = some amJx4a65c_get_915e3 := rfl
theorem g_Jx4a65c_grow_92f84 : a_at MT miJx4a65c_grow_92f84 = some amJx4a65c_grow_92f84 := rfl
theorem g_Jx4a65c_grow_d5877 : a_at MT miJx4a65c_grow_d5877 = some amJx4a65c_grow_d5877 := rfl
theorem g_X2_init : a_at MT miX2_init = some amX2_init := rfl
theorem g_X2_isSpare : a_at MT miX2_isSpare = some amX2_isSpare := rfl
theorem g_X3_hasLayersWith : a_at MT miX3_hasLayersWith = some amX3_hasLayersWith := rfl
theorem g_X3_lift : a_at MT miX3_lift = some amX3_lift := rfl
theorem g_X3_notSpare : a_at MT miX3_notSpare = some amX3_notSpare := rfl
theorem g_X3_take : a_at MT miX3_take = some amX3_take := rfl
theorem g_X6_countOnly : a_at MT miX6_countOnly = some amX6_countOnly := rfl
theorem g_X8_forgetRules : a_at MT miX8_forgetRules = some amX8_forgetRules := rfl
theorem g_X8_forgetRuns : a_at MT miX8_forgetRuns = some amX8_forgetRuns := rfl
set_option maxHeartbeats 4000000 in
set_option maxRecDepth 10000 in
theorem rx_Kmm {x1 x2 x3 x4 x5 x6 x7 : Int32} (g1 : x5 = (-1)) (g2 : x6 = (-1)) (g3 : ¬ x2 = 0) : a_run MT [] (a_m MT [] 100000 10) 11 (some .int) tabX8_rule 90000 140 (alR x1 x2 x3 x4 x5 x6 x7) [] hF 0 0 = some (some (.int 0), (((hF.set 3 (.inr (.inr (0, [.int 1, .ref 62, .int 1])))).set 6 (.inr (.inr (6, [.ref 2, .ref 7, .ref 8, .ref 9, .int 1])))) ++ [.inr (.inr (2, [.int x1, .int x2, .int x3, .int x4, .int x4, .int x6, .int x7, .int ((1 <<< (x4 &&& 31) : Int32) ||| (1 <<< (x4 &&& 31) : Int32)), .int 0, .int (-1)])), .inr (.inl [some 61, none, none, none, none, none, none, none, none, none])]), 2, 20) := by
  refine rr rfl (s_new (q := 61) rfl rfl (h' := (hF ++ [.inr (.inr (2, [.int 0, .int 0, .int 0, .int 0, .int 0, .int 0, .int 0, .int 0, .int 0, .int 0]))]))) ?_
  refine rr rfl rfl ?_
  refine rr rfl (s_iload_n rfl) ?_
  refine rr rfl (s_iload_n rfl) ?_
  refine rr rfl (s_iload_n rfl) ?_
  refine rr rfl (s_iload rfl) ?_
  refine rr rfl (s_iload rfl) ?_
  refine rr rfl (s_iload rfl) ?_
  refine rr rfl (s_iload rfl) ?_
  have e1 : a_m MT [] 100000 10 miX2_init [.ref 61, .int x1, .int x2, .int x3, .int x4, .int x5, .int x6, .int x7] (hF ++ [.inr (.inr (2, [.int 0, .int 0, .int 0, .int 0, .int 0, .int 0, .int 0, .int 0, .int 0, .int 0]))]) = some (none, (hF ++ [.inr (.inr (2, [.int x1, .int x2, .int x3, .int x4, .int x4, .int x6, .int x7, .int ((1 <<< (x4 &&& 31) : Int32) ||| (1 <<< (x4 &&& 31) : Int32)), .int 0, .int (-1)]))]), 0, 0) := by
    refine me (d := 9) g_X2_init (Nat.le_of_ble_eq_true rfl) ?_
    refine rr rfl (s_aload_n rfl) ?_
    refine rr rfl rfl ?_
    refine rr rfl (s_aload_n rfl) ?_
    refine rr rfl (s_iconst (v := (-1)) (by decide)) ?_
    refine rr rfl (s_putf rfl rfl (Nat.le_of_ble_eq_true rfl) rfl (Nat.le_of_ble_eq_true rfl) rfl (h' := (hF ++ [.inr (.inr (2, [.int 0, .int 0, .int 0, .int 0, .int 0, .int 0, .int 0, .int 0, .int 0, .int (-1)]))]))) ?_
    refine rr rfl (s_aload_n rfl) ?_
    refine rr rfl (s_iload_n rfl) ?_
    refine rr rfl (s_putf rfl rfl (Nat.le_of_ble_eq_true rfl) rfl (Nat.le_of_ble_eq_true rfl) rfl (h' := (hF ++ [.inr (.inr (2, [.int x1, .int 0, .int 0, .int 0, .int 0, .int 0, .int 0, .int 0, .int 0, .int (-1)]))]))) ?_
    refine rr rfl (s_aload_n rfl) ?_
    refine rr rfl (s_iload_n rfl) ?_
    refine rr rfl (s_putf rfl rfl (Nat.le_of_ble_eq_true rfl) rfl (Nat.le_of_ble_eq_true rfl) rfl (h' := (hF ++ [.inr (.inr (2, [.int x1, .int x2, .int 0, .int 0, .int 0, .int 0, .int 0, .int 0, .int 0, .int (-1)]))]))) ?_
    refine rr rfl (s_aload_n rfl) ?_
    refine rr rfl (s_iload_n rfl) ?_
    refine rr rfl (s_putf rfl rfl (Nat.le_of_ble_eq_true rfl) rfl (Nat.le_of_ble_eq_true rfl) rfl (h' := (hF ++ [.inr (.inr (2, [.int x1, .int x2, .int x3, .int 0, .int 0, .int 0, .int 0, .int 0, .int 0, .int (-1)]))]))) ?_
    refine rr rfl (s_aload_n rfl) ?_
    refine rr rfl (s_iload rfl) ?_
    refine rr rfl (s_putf rfl rfl (Nat.le_of_ble_eq_true rfl) rfl (Nat.le_of_ble_eq_true rfl) rfl (h' := (hF ++ [.inr (.inr (2, [.int x1, .int x2, .int x3, .int x4, .int 0, .int 0, .int 0, .int 0, .int 0, .int (-1)]))]))) ?_
    refine rr rfl (s_aload_n rfl) ?_
    refine rr rfl (s_iload rfl) ?_
    refine rr rfl (s_iconst (v := (-1)) (by decide)) ?_
    refine rr rfl (s_icF (ic_nne g1)) ?_
    refine rr rfl (s_iload rfl) ?_
    refine rr rfl s_goto ?_
    refine rr rfl (s_putf rfl rfl (Nat.le_of_ble_eq_true rfl) rfl (Nat.le_of_ble_eq_true rfl) rfl (h' := (hF ++ [.inr (.inr (2, [.int x1, .int x2, .int x3, .int x4, .int x4, .int 0, .int 0, .int 0, .int 0, .int (-1)]))]))) ?_
    refine rr rfl (s_aload_n rfl) ?_
    refine rr rfl (s_iload rfl) ?_
    refine rr rfl (s_putf rfl rfl (Nat.le_of_ble_eq_true rfl) rfl (Nat.le_of_ble_eq_true rfl) rfl (h' := (hF ++ [.inr (.inr (2, [.int x1, .int x2, .int x3, .int x4, .int x4, .int x6, .int 0, .int 0, .int 0, .int (-1)]))]))) ?_
    refine rr rfl (s_aload_n rfl) ?_
    refine rr rfl (s_iload rfl) ?_
    refine rr rfl (s_putf rfl rfl (Nat.le_of_ble_eq_true rfl) rfl (Nat.le_of_ble_eq_true rfl) rfl (h' := (hF ++ [.inr (.inr (2, [.int x1, .int x2, .int x3, .int x4, .int x4, .int x6, .int x7, .int 0, .int 0, .int (-1)]))]))) ?_
    refine rr rfl (s_aload_n rfl) ?_
    refine rr rfl (s_iconst (v := 1) (by decide)) ?_
    refine rr rfl (s_aload_n rfl) ?_
    refine rr rfl (s_getf rfl rfl) ?_
    refine rr rfl (s_ishl (v := (1 <<< (x4 &&& 31) : Int32)) rfl) ?_
    refine rr rfl (s_iconst (v := 1) (by decide)) ?_
    refine rr rfl (s_aload_n rfl) ?_
    refine rr rfl (s_getf rfl rfl) ?_
    refine rr rfl (s_ishl (v := (1 <<< (x4 &&& 31) : Int32)) rfl) ?_
    refine rr rfl (s_ior (v := ((1 <<< (x4 &&& 31) : Int32) ||| (1 <<< (x4 &&& 31) : Int32))) rfl) ?_
    refine rr rfl (s_putf rfl rfl (Nat.le_of_ble_eq_true rfl) rfl (Nat.le_of_ble_eq_true rfl) rfl (h' := (hF ++ [.inr (.inr (2, [.int x1, .int x2, .int x3, .int x4, .int x4, .int x6, .int x7, .int ((1 <<< (x4 &&& 31) : Int32) ||| (1 <<< (x4 &&& 31) : Int32)), .int 0, .int (-1)]))]))) ?_
    refine rr rfl (s_aload_n rfl) ?_
    refine rr rfl (s_iload rfl) ?_
    refine rr rfl (s_iconst (v := (-1)) (by decide)) ?_
    refine rr rfl (s_icF (ic_nne g2)) ?_
    refine rr rfl (s_iconst (v := 0) (by decide)) ?_
    refine rr rfl s_goto ?_
    refine rr rfl (s_putf rfl rfl (Nat.le_of_ble_eq_true rfl) rfl (Nat.le_of_ble_eq_true rfl) rfl (h' := (hF ++ [.inr (.inr (2, [.int x1, .int x2, .int x3, .int x4, .int x4, .int x6, .int x7, .int ((1 <<< (x4 &&& 31) : Int32) ||| (1 <<< (x4 &&& 31) : Int32)), .int 0, .int (-1)]))]))) ?_
    exact rrt rfl rfl rfl rfl
  refine rrc rfl rfl rfl (do_of g_X2_init rfl rfl e1) ?_
  refine rr rfl (s_astore rfl) ?_
  refine rr rfl (s_aload_n rfl) ?_
  refine rr rfl (s_getf rfl rfl) ?_
  refine rr rfl (s_getf rfl rfl) ?_
  refine rr rfl (s_aload rfl) ?_
  have e2 : a_m MT [] 100000 10 miX3_hasLayersWith [.ref 2, .ref 61] (hF ++ [.inr (.inr (2, [.int x1, .int x2, .int x3, .int x4, .int x4, .int x6, .int x7, .int ((1 <<< (x4 &&& 31) : Int32) ||| (1 <<< (x4 &&& 31) : Int32)), .int 0, .int (-1)]))]) = some ((some (.int 1)), (hF ++ [.inr (.inr (2, [.int x1, .int x2, .int x3, .int x4, .int x4, .int x6, .int x7, .int ((1 <<< (x4 &&& 31) : Int32) ||| (1 <<< (x4 &&& 31) : Int32)), .int 0, .int (-1)]))]), 0, 0) := by
    refine me (d := 9) g_X3_hasLayersWith (Nat.le_of_ble_eq_true rfl) ?_
    refine rr rfl (s_aload_n rfl) ?_
    refine rr rfl (s_getf rfl rfl) ?_
    refine rr rfl (s_iconst (v := 0) (by decide)) ?_
    have e3 : a_m MT [] 100000 9 miJ7_fill_53178 [.ref 5, .int 0] (hF ++ [.inr (.inr (2, [.int x1, .int x2, .int x3, .int x4, .int x4, .int x6, .int x7, .int ((1 <<< (x4 &&& 31) : Int32) ||| (1 <<< (x4 &&& 31) : Int32)), .int 0, .int (-1)]))]) = some (none, (hF ++ [.inr (.inr (2, [.int x1, .int x2, .int x3, .int x4, .int x4, .int x6, .int x7, .int ((1 <<< (x4 &&& 31) : Int32) ||| (1 <<< (x4 &&& 31) : Int32)), .int 0, .int (-1)]))]), 0, 0) := fill_n rfl (Nat.le_of_ble_eq_true rfl) rfl
    refine rrc rfl rfl rfl (do_of g_J7_fill_53178 rfl rfl e3) ?_
    refine rr rfl (s_iconst (v := 1) (by decide)) ?_
    refine rr rfl (s_istore_n rfl) ?_
    refine rr rfl (s_iconst (v := 0) (by decide)) ?_
    refine rr rfl (s_istore_n rfl) ?_
    refine rr rfl (s_iload_n rfl) ?_
    refine rr rfl (s_ifF (by decide)) ?_
    refine rr rfl (s_iload_n rfl) ?_
    refine rr rfl (s_bipush (v := 8) (by decide)) ?_
    refine rr rfl (s_icF (by decide)) ?_
    refine rr rfl (s_aload_n rfl) ?_
    refine rr rfl (s_aload_n rfl) ?_
    have e4 : a_m MT [] 100000 9 miX3_lift [.ref 2, .ref 61] (hF ++ [.inr (.inr (2, [.int x1, .int x2, .int x3, .int x4, .int x4, .int x6, .int x7, .int ((1 <<< (x4 &&& 31) : Int32) ||| (1 <<< (x4 &&& 31) : Int32)), .int 0, .int (-1)]))]) = some ((some (.int 0)), (hF ++ [.inr (.inr (2, [.int x1, .int x2, .int x3, .int x4, .int x4, .int x6, .int x7, .int ((1 <<< (x4 &&& 31) : Int32) ||| (1 <<< (x4 &&& 31) : Int32)), .int 0, .int (-1)]))]), 0, 0) := by
      refine me (d := 8) g_X3_lift (Nat.le_of_ble_eq_true rfl) ?_
      refine rr rfl (s_aload_n rfl) ?_
      refine rr rfl (s_getf rfl rfl) ?_
      refine rr rfl (s_ifF (ic_neq g3)) ?_
      refine rr rfl (s_iconst (v := 0) (by decide)) ?_
      exact rrt rfl rfl rfl rfl
    refine rrc rfl rfl rfl (do_of g_X3_lift rfl rfl e4) ?_
    refine rr rfl (s_istore_n rfl) ?_
    refine rr rfl (s_iconst (v := 0) (by decide)) ?_
    refine rr rfl (s_istore rfl) ?_
    refine rr rfl (s_iload rfl) ?_
    refine rr rfl (s_aload_n rfl) ?_
    refine rr rfl (s_getf rfl rfl) ?_
    have e5 : a_m MT [] 100000 9 miJx4a65c_size_8abf5 [.ref 3] (hF ++ [.inr (.inr (2, [.int x1, .int x2, .int x3, .int x4, .int x4, .int x6, .int x7, .int ((1 <<< (x4 &&& 31) : Int32) ||| (1 <<< (x4 &&& 31) : Int32)), .int 0, .int (-1)]))]) = some ((some (.int 0)), (hF ++ [.inr (.inr (2, [.int x1, .int x2, .int x3, .int x4, .int x4, .int x6, .int x7, .int ((1 <<< (x4 &&& 31) : Int32) ||| (1 <<< (x4 &&& 31) : Int32)), .int 0, .int (-1)]))]), 0, 0) := by
      refine me (d := 8) g_Jx4a65c_size_8abf5 (Nat.le_of_ble_eq_true rfl) ?_
      refine rr rfl (s_aload_n rfl) ?_
      refine rr rfl (s_getf rfl rfl) ?_
      exact rrt rfl rfl rfl rfl
    refine rrc rfl rfl rfl (do_of g_Jx4a65c_size_8abf5 rfl rfl e5) ?_
    refine rr rfl (s_icT (by decide)) ?_
    refine rr rfl (s_iinc (v := 1) rfl (by decide) rfl) ?_
    refine rr rfl s_goto ?_
    refine rr rfl (s_iload_n rfl) ?_
    refine rr rfl (s_ifT (by decide)) ?_
    refine rr rfl (s_iload_n rfl) ?_
    refine rr rfl (s_ifF (by decide)) ?_
    refine rr rfl (s_iconst (v := 1) (by decide)) ?_
    refine rr rfl s_goto ?_
    exact rrt rfl rfl rfl rfl
  refine rrc rfl rfl rfl (do_of g_X3_hasLayersWith rfl rfl e2) ?_
  refine rr rfl (s_ifT (by decide)) ?_
  refine rr rfl (s_aload_n rfl) ?_
  refine rr rfl (s_getf rfl rfl) ?_
  refine rr rfl (s_getf rfl rfl) ?_
  refine rr rfl (s_getf rfl rfl) ?_
  have e6 : a_m MT [] 100000 10 miJx4a65c_size_8abf5 [.ref 3] (hF ++ [.inr (.inr (2, [.int x1, .int x2, .int x3, .int x4, .int x4, .int x6, .int x7, .int ((1 <<< (x4 &&& 31) : Int32) ||| (1 <<< (x4 &&& 31) : Int32)), .int 0, .int (-1)]))]) = some ((some (.int 0)), (hF ++ [.inr (.inr (2, [.int x1, .int x2, .int x3, .int x4, .int x4, .int x6, .int x7, .int ((1 <<< (x4 &&& 31) : Int32) ||| (1 <<< (x4 &&& 31) : Int32)), .int 0, .int (-1)]))]), 0, 0) := by
    refine me (d := 9) g_Jx4a65c_size_8abf5 (Nat.le_of_ble_eq_true rfl) ?_
    refine rr rfl (s_aload_n rfl) ?_
    refine rr rfl (s_getf rfl rfl) ?_
    exact rrt rfl rfl rfl rfl
  refine rrc rfl rfl rfl (do_of g_Jx4a65c_size_8abf5 rfl rfl e6) ?_
  refine rr rfl (s_bipush (v := 12) (by decide)) ?_
  refine rr rfl (s_icT (by decide)) ?_
  refine rr rfl (s_aload_n rfl) ?_
  refine rr rfl (s_getf rfl rfl) ?_
  refine rr rfl (s_getf rfl rfl) ?_
  refine rr rfl (s_aload rfl) ?_
  have e7 : a_m MT [] 100000 10 miX3_take [.ref 2, .ref 61] (hF ++ [.inr (.inr (2, [.int x1, .int x2, .int x3, .int x4, .int x4, .int x6, .int x7, .int ((1 <<< (x4 &&& 31) : Int32) ||| (1 <<< (x4 &&& 31) : Int32)), .int 0, .int (-1)]))]) = some (none, ((hF.set 3 (.inr (.inr (0, [.int 1, .ref 62, .int 1])))) ++ [.inr (.inr (2, [.int x1, .int x2, .int x3, .int x4, .int x4, .int x6, .int x7, .int ((1 <<< (x4 &&& 31) : Int32) ||| (1 <<< (x4 &&& 31) : Int32)), .int 0, .int (-1)])), .inr (.inl [some 61, none, none, none, none, none, none, none, none, none])]), 1, 10) := by
    refine me (d := 9) g_X3_take (Nat.le_of_ble_eq_true rfl) ?_
    refine rr rfl (s_aload_n rfl) ?_
    refine rr rfl (s_getf rfl rfl) ?_
    refine rr rfl (s_aload_n rfl) ?_
    have e8 : a_m MT [] 100000 9 miJx4a65c_add_9ea2d [.ref 3, .ref 61] (hF ++ [.inr (.inr (2, [.int x1, .int x2, .int x3, .int x4, .int x4, .int x6, .int x7, .int ((1 <<< (x4 &&& 31) : Int32) ||| (1 <<< (x4 &&& 31) : Int32)), .int 0, .int (-1)]))]) = some ((some (.int 1)), ((hF.set 3 (.inr (.inr (0, [.int 1, .ref 62, .int 1])))) ++ [.inr (.inr (2, [.int x1, .int x2, .int x3, .int x4, .int x4, .int x6, .int x7, .int ((1 <<< (x4 &&& 31) : Int32) ||| (1 <<< (x4 &&& 31) : Int32)), .int 0, .int (-1)])), .inr (.inl [some 61, none, none, none, none, none, none, none, none, none])]), 1, 10) := by
      refine me (d := 8) g_Jx4a65c_add_9ea2d (Nat.le_of_ble_eq_true rfl) ?_
      refine rr rfl (s_aload_n rfl) ?_
      refine rr rfl rfl ?_
      refine rr rfl (s_getf rfl rfl) ?_
      refine rr rfl (s_iconst (v := 1) (by decide)) ?_
      refine rr rfl (s_iadd (v := 1) (by decide)) ?_
      refine rr rfl (s_putf rfl rfl (Nat.le_of_ble_eq_true rfl) rfl (Nat.le_of_ble_eq_true rfl) rfl (h' := ((hF.set 3 (.inr (.inr (0, [.int 1, .long 0, .int 0])))) ++ [.inr (.inr (2, [.int x1, .int x2, .int x3, .int x4, .int x4, .int x6, .int x7, .int ((1 <<< (x4 &&& 31) : Int32) ||| (1 <<< (x4 &&& 31) : Int32)), .int 0, .int (-1)]))]))) ?_
      refine rr rfl (s_aload_n rfl) ?_
      refine rr rfl (s_aload_n rfl) ?_
      refine rr rfl (s_aload_n rfl) ?_
      refine rr rfl (s_getf rfl rfl) ?_
      refine rr rfl (s_aload_n rfl) ?_
      refine rr rfl (s_getf rfl rfl) ?_
      have e9 : a_m MT [] 100000 8 miJx4a65c_add_72be8 [.ref 3, .ref 61, .long 0, .int 0] ((hF.set 3 (.inr (.inr (0, [.int 1, .long 0, .int 0])))) ++ [.inr (.inr (2, [.int x1, .int x2, .int x3, .int x4, .int x4, .int x6, .int x7, .int ((1 <<< (x4 &&& 31) : Int32) ||| (1 <<< (x4 &&& 31) : Int32)), .int 0, .int (-1)]))]) = some (none, ((hF.set 3 (.inr (.inr (0, [.int 1, .ref 62, .int 1])))) ++ [.inr (.inr (2, [.int x1, .int x2, .int x3, .int x4, .int x4, .int x6, .int x7, .int ((1 <<< (x4 &&& 31) : Int32) ||| (1 <<< (x4 &&& 31) : Int32)), .int 0, .int (-1)])), .inr (.inl [some 61, none, none, none, none, none, none, none, none, none])]), 1, 10) := by
        refine me (d := 7) g_Jx4a65c_add_72be8 (Nat.le_of_ble_eq_true rfl) ?_
        refine rr rfl (s_iload_n rfl) ?_
        refine rr rfl (s_aloadL rfl) ?_
        refine rr rfl (s_alen0) ?_
        refine rr rfl (s_icF (by decide)) ?_
        refine rr rfl (s_aload_n rfl) ?_
        have e10 : a_m MT [] 100000 7 miJx4a65c_grow_d5877 [.ref 3] ((hF.set 3 (.inr (.inr (0, [.int 1, .long 0, .int 0])))) ++ [.inr (.inr (2, [.int x1, .int x2, .int x3, .int x4, .int x4, .int x6, .int x7, .int ((1 <<< (x4 &&& 31) : Int32) ||| (1 <<< (x4 &&& 31) : Int32)), .int 0, .int (-1)]))]) = some ((some (.ref 62)), ((hF.set 3 (.inr (.inr (0, [.int 1, .ref 62, .int 0])))) ++ [.inr (.inr (2, [.int x1, .int x2, .int x3, .int x4, .int x4, .int x6, .int x7, .int ((1 <<< (x4 &&& 31) : Int32) ||| (1 <<< (x4 &&& 31) : Int32)), .int 0, .int (-1)])), .inr (.inl (List.replicate 10 none))]), 1, 10) := by
          refine me (d := 6) g_Jx4a65c_grow_d5877 (Nat.le_of_ble_eq_true rfl) ?_
          refine rr rfl (s_aload_n rfl) ?_
          refine rr rfl (s_aload_n rfl) ?_
          refine rr rfl (s_getf rfl rfl) ?_
          refine rr rfl (s_iconst (v := 1) (by decide)) ?_
          refine rr rfl (s_iadd (v := 1) (by decide)) ?_
          have e11 : a_m MT [] 100000 6 miJx4a65c_grow_92f84 [.ref 3, .int 1] ((hF.set 3 (.inr (.inr (0, [.int 1, .long 0, .int 0])))) ++ [.inr (.inr (2, [.int x1, .int x2, .int x3, .int x4, .int x4, .int x6, .int x7, .int ((1 <<< (x4 &&& 31) : Int32) ||| (1 <<< (x4 &&& 31) : Int32)), .int 0, .int (-1)]))]) = some ((some (.ref 62)), ((hF.set 3 (.inr (.inr (0, [.int 1, .ref 62, .int 0])))) ++ [.inr (.inr (2, [.int x1, .int x2, .int x3, .int x4, .int x4, .int x6, .int x7, .int ((1 <<< (x4 &&& 31) : Int32) ||| (1 <<< (x4 &&& 31) : Int32)), .int 0, .int (-1)])), .inr (.inl (List.replicate 10 none))]), 1, 10) := by
            refine me (d := 5) g_Jx4a65c_grow_92f84 (Nat.le_of_ble_eq_true rfl) ?_
            refine rr rfl (s_aload_n rfl) ?_
            refine rr rfl (s_getf rfl rfl) ?_
            refine rr rfl (s_alen0) ?_
            refine rr rfl (s_istore_n rfl) ?_
            refine rr rfl (s_iload_n rfl) ?_
            refine rr rfl (s_ifF (by decide)) ?_
            refine rr rfl (s_aload_n rfl) ?_
            refine rr rfl (s_getf rfl rfl) ?_
            refine rr rfl rfl ?_
            refine rr rfl rfl ?_
            refine rr rfl (s_aload_n rfl) ?_
            refine rr rfl (s_bipush (v := 10) (by decide)) ?_
            refine rr rfl (s_iload_n rfl) ?_
            refine rr rfl (s_max (v := 10) rfl (Nat.le_of_ble_eq_true rfl) (by decide)) ?_
            refine rr rfl (s_anew (q := 62) (j := 10) rfl rfl rfl rfl (h' := ((hF.set 3 (.inr (.inr (0, [.int 1, .long 0, .int 0])))) ++ [.inr (.inr (2, [.int x1, .int x2, .int x3, .int x4, .int x4, .int x6, .int x7, .int ((1 <<< (x4 &&& 31) : Int32) ||| (1 <<< (x4 &&& 31) : Int32)), .int 0, .int (-1)])), .inr (.inl (List.replicate 10 none))]))) ?_
            refine rr rfl rfl ?_
            refine rr rfl (s_putf rfl rfl (Nat.le_of_ble_eq_true rfl) rfl (Nat.le_of_ble_eq_true rfl) rfl (h' := ((hF.set 3 (.inr (.inr (0, [.int 1, .ref 62, .int 0])))) ++ [.inr (.inr (2, [.int x1, .int x2, .int x3, .int x4, .int x4, .int x6, .int x7, .int ((1 <<< (x4 &&& 31) : Int32) ||| (1 <<< (x4 &&& 31) : Int32)), .int 0, .int (-1)])), .inr (.inl (List.replicate 10 none))]))) ?_
            exact rrt rfl rfl rfl rfl
          refine rrc rfl rfl rfl (do_of g_Jx4a65c_grow_92f84 rfl rfl e11) ?_
          exact rrt rfl rfl rfl rfl
        refine rrc rfl rfl rfl (do_of g_Jx4a65c_grow_d5877 rfl rfl e10) ?_
        refine rr rfl (s_astore_n rfl) ?_
        refine rr rfl (s_aload_n rfl) ?_
        refine rr rfl (s_iload_n rfl) ?_
        refine rr rfl (s_aload_n rfl) ?_
        refine rr rfl (s_aastore (j := 0) rfl rfl rfl (Nat.le_of_ble_eq_true rfl) rfl (Nat.le_of_ble_eq_true rfl) rfl (h' := ((hF.set 3 (.inr (.inr (0, [.int 1, .ref 62, .int 0])))) ++ [.inr (.inr (2, [.int x1, .int x2, .int x3, .int x4, .int x4, .int x6, .int x7, .int ((1 <<< (x4 &&& 31) : Int32) ||| (1 <<< (x4 &&& 31) : Int32)), .int 0, .int (-1)])), .inr (.inl [some 61, none, none, none, none, none, none, none, none, none])]))) ?_
        refine rr rfl (s_aload_n rfl) ?_
        refine rr rfl (s_iload_n rfl) ?_
        refine rr rfl (s_iconst (v := 1) (by decide)) ?_
        refine rr rfl (s_iadd (v := 1) (by decide)) ?_
        refine rr rfl (s_putf rfl rfl (Nat.le_of_ble_eq_true rfl) rfl (Nat.le_of_ble_eq_true rfl) rfl (h' := ((hF.set 3 (.inr (.inr (0, [.int 1, .ref 62, .int 1])))) ++ [.inr (.inr (2, [.int x1, .int x2, .int x3, .int x4, .int x4, .int x6, .int x7, .int ((1 <<< (x4 &&& 31) : Int32) ||| (1 <<< (x4 &&& 31) : Int32)), .int 0, .int (-1)])), .inr (.inl [some 61, none, none, none, none, none, none, none, none, none])]))) ?_
        exact rrt rfl rfl rfl rfl
      refine rrc rfl rfl rfl (do_of g_Jx4a65c_add_72be8 rfl rfl e9) ?_
      refine rr rfl (s_iconst (v := 1) (by decide)) ?_
      exact rrt rfl rfl rfl rfl
    refine rrc rfl rfl rfl (do_of g_Jx4a65c_add_9ea2d rfl rfl e8) ?_
    refine rr rfl rfl ?_
    refine rr rfl (s_aload_n rfl) ?_
    refine rr rfl (s_getf rfl rfl) ?_
    refine rr rfl (s_iconst (v := 0) (by decide)) ?_
    refine rr rfl (s_aload_n rfl) ?_
    refine rr rfl (s_getf rfl rfl) ?_
    refine rr rfl (s_iconst (v := 0) (by decide)) ?_
    refine rr rfl (s_bipush (v := 8) (by decide)) ?_
    refine rr rfl (s_copy8 rfl (Nat.le_of_ble_eq_true rfl) rfl rfl rfl rfl (Nat.le_of_ble_eq_true rfl) rfl (h' := ((hF.set 3 (.inr (.inr (0, [.int 1, .ref 62, .int 1])))) ++ [.inr (.inr (2, [.int x1, .int x2, .int x3, .int x4, .int x4, .int x6, .int x7, .int ((1 <<< (x4 &&& 31) : Int32) ||| (1 <<< (x4 &&& 31) : Int32)), .int 0, .int (-1)])), .inr (.inl [some 61, none, none, none, none, none, none, none, none, none])]))) ?_
    exact rrt rfl rfl rfl rfl
  refine rrc rfl rfl rfl (do_of g_X3_take rfl rfl e7) ?_
  refine rr rfl (s_aload_n rfl) ?_
  have e12 : a_m MT [] 100000 10 miX8_forgetRules [.ref 0] ((hF.set 3 (.inr (.inr (0, [.int 1, .ref 62, .int 1])))) ++ [.inr (.inr (2, [.int x1, .int x2, .int x3, .int x4, .int x4, .int x6, .int x7, .int ((1 <<< (x4 &&& 31) : Int32) ||| (1 <<< (x4 &&& 31) : Int32)), .int 0, .int (-1)])), .inr (.inl [some 61, none, none, none, none, none, none, none, none, none])]) = some (none, (((hF.set 3 (.inr (.inr (0, [.int 1, .ref 62, .int 1])))).set 6 (.inr (.inr (6, [.ref 2, .ref 7, .ref 8, .ref 9, .int 1])))) ++ [.inr (.inr (2, [.int x1, .int x2, .int x3, .int x4, .int x4, .int x6, .int x7, .int ((1 <<< (x4 &&& 31) : Int32) ||| (1 <<< (x4 &&& 31) : Int32)), .int 0, .int (-1)])), .inr (.inl [some 61, none, none, none, none, none, none, none, none, none])]), 0, 0) := by
    refine me (d := 9) g_X8_forgetRules (Nat.le_of_ble_eq_true rfl) ?_
    refine rr rfl (s_aload_n rfl) ?_
    refine rr rfl (s_getf rfl rfl) ?_
    refine rr rfl (s_getf rfl rfl) ?_
    refine rr rfl (s_aload_n rfl) ?_
    refine rr rfl (s_getf rfl rfl) ?_
    refine rr rfl (s_getf rfl rfl) ?_
    have e13 : a_m MT [] 100000 9 miX3_notSpare [.ref 2] ((hF.set 3 (.inr (.inr (0, [.int 1, .ref 62, .int 1])))) ++ [.inr (.inr (2, [.int x1, .int x2, .int x3, .int x4, .int x4, .int x6, .int x7, .int ((1 <<< (x4 &&& 31) : Int32) ||| (1 <<< (x4 &&& 31) : Int32)), .int 0, .int (-1)])), .inr (.inl [some 61, none, none, none, none, none, none, none, none, none])]) = some ((some (.int 1)), ((hF.set 3 (.inr (.inr (0, [.int 1, .ref 62, .int 1])))) ++ [.inr (.inr (2, [.int x1, .int x2, .int x3, .int x4, .int x4, .int x6, .int x7, .int ((1 <<< (x4 &&& 31) : Int32) ||| (1 <<< (x4 &&& 31) : Int32)), .int 0, .int (-1)])), .inr (.inl [some 61, none, none, none, none, none, none, none, none, none])]), 0, 0) := by
      refine me (d := 8) g_X3_notSpare (Nat.le_of_ble_eq_true rfl) ?_
      refine rr rfl (s_iconst (v := 0) (by decide)) ?_
      refine rr rfl (s_istore_n rfl) ?_
      refine rr rfl (s_iconst (v := 0) (by decide)) ?_
      refine rr rfl (s_istore_n rfl) ?_
      refine rr rfl (s_iload_n rfl) ?_
      refine rr rfl (s_aload_n rfl) ?_
      refine rr rfl (s_getf rfl rfl) ?_
      have e14 : a_m MT [] 100000 8 miJx4a65c_size_8abf5 [.ref 3] ((hF.set 3 (.inr (.inr (0, [.int 1, .ref 62, .int 1])))) ++ [.inr (.inr (2, [.int x1, .int x2, .int x3, .int x4, .int x4, .int x6, .int x7, .int ((1 <<< (x4 &&& 31) : Int32) ||| (1 <<< (x4 &&& 31) : Int32)), .int 0, .int (-1)])), .inr (.inl [some 61, none, none, none, none, none, none, none, none, none])]) = some ((some (.int 1)), ((hF.set 3 (.inr (.inr (0, [.int 1, .ref 62, .int 1])))) ++ [.inr (.inr (2, [.int x1, .int x2, .int x3, .int x4, .int x4, .int x6, .int x7, .int ((1 <<< (x4 &&& 31) : Int32) ||| (1 <<< (x4 &&& 31) : Int32)), .int 0, .int (-1)])), .inr (.inl [some 61, none, none, none, none, none, none, none, none, none])]), 0, 0) := by
        refine me (d := 7) g_Jx4a65c_size_8abf5 (Nat.le_of_ble_eq_true rfl) ?_
        refine rr rfl (s_aload_n rfl) ?_
        refine rr rfl (s_getf rfl rfl) ?_
        exact rrt rfl rfl rfl rfl
      refine rrc rfl rfl rfl (do_of g_Jx4a65c_size_8abf5 rfl rfl e14) ?_
      refine rr rfl (s_icF (by decide)) ?_
      refine rr rfl (s_aload_n rfl) ?_
      refine rr rfl (s_getf rfl rfl) ?_
      refine rr rfl (s_iload_n rfl) ?_
      have e15 : a_m MT [] 100000 8 miJx4a65c_get_915e3 [.ref 3, .int 0] ((hF.set 3 (.inr (.inr (0, [.int 1, .ref 62, .int 1])))) ++ [.inr (.inr (2, [.int x1, .int x2, .int x3, .int x4, .int x4, .int x6, .int x7, .int ((1 <<< (x4 &&& 31) : Int32) ||| (1 <<< (x4 &&& 31) : Int32)), .int 0, .int (-1)])), .inr (.inl [some 61, none, none, none, none, none, none, none, none, none])]) = some ((some (.ref 61)), ((hF.set 3 (.inr (.inr (0, [.int 1, .ref 62, .int 1])))) ++ [.inr (.inr (2, [.int x1, .int x2, .int x3, .int x4, .int x4, .int x6, .int x7, .int ((1 <<< (x4 &&& 31) : Int32) ||| (1 <<< (x4 &&& 31) : Int32)), .int 0, .int (-1)])), .inr (.inl [some 61, none, none, none, none, none, none, none, none, none])]), 0, 0) := by
        refine me (d := 7) g_Jx4a65c_get_915e3 (Nat.le_of_ble_eq_true rfl) ?_
        refine rr rfl (s_iload_n rfl) ?_
        refine rr rfl (s_aload_n rfl) ?_
        refine rr rfl (s_getf rfl rfl) ?_
        have e16 : a_m MT [] 100000 7 miJ15_checkIndex_7cf53 [.int 0, .int 1] ((hF.set 3 (.inr (.inr (0, [.int 1, .ref 62, .int 1])))) ++ [.inr (.inr (2, [.int x1, .int x2, .int x3, .int x4, .int x4, .int x6, .int x7, .int ((1 <<< (x4 &&& 31) : Int32) ||| (1 <<< (x4 &&& 31) : Int32)), .int 0, .int (-1)])), .inr (.inl [some 61, none, none, none, none, none, none, none, none, none])]) = some ((some (.int 0)), ((hF.set 3 (.inr (.inr (0, [.int 1, .ref 62, .int 1])))) ++ [.inr (.inr (2, [.int x1, .int x2, .int x3, .int x4, .int x4, .int x6, .int x7, .int ((1 <<< (x4 &&& 31) : Int32) ||| (1 <<< (x4 &&& 31) : Int32)), .int 0, .int (-1)])), .inr (.inl [some 61, none, none, none, none, none, none, none, none, none])]), 0, 0) := by
          refine me (d := 6) g_J15_checkIndex_7cf53 (Nat.le_of_ble_eq_true rfl) ?_
          refine rr rfl (s_iload_n rfl) ?_
          refine rr rfl (s_iload_n rfl) ?_
          refine rr rfl rfl ?_
          have e17 : a_m MT [] 100000 6 miJ3_checkIndex_8e157 [.int 0, .int 1, .null] ((hF.set 3 (.inr (.inr (0, [.int 1, .ref 62, .int 1])))) ++ [.inr (.inr (2, [.int x1, .int x2, .int x3, .int x4, .int x4, .int x6, .int x7, .int ((1 <<< (x4 &&& 31) : Int32) ||| (1 <<< (x4 &&& 31) : Int32)), .int 0, .int (-1)])), .inr (.inl [some 61, none, none, none, none, none, none, none, none, none])]) = some ((some (.int 0)), ((hF.set 3 (.inr (.inr (0, [.int 1, .ref 62, .int 1])))) ++ [.inr (.inr (2, [.int x1, .int x2, .int x3, .int x4, .int x4, .int x6, .int x7, .int ((1 <<< (x4 &&& 31) : Int32) ||| (1 <<< (x4 &&& 31) : Int32)), .int 0, .int (-1)])), .inr (.inl [some 61, none, none, none, none, none, none, none, none, none])]), 0, 0) := by
            refine me (d := 5) g_J3_checkIndex_8e157 (Nat.le_of_ble_eq_true rfl) ?_
            refine rr rfl (s_iload_n rfl) ?_
            refine rr rfl (s_ifF (by decide)) ?_
            refine rr rfl (s_iload_n rfl) ?_
            refine rr rfl (s_iload_n rfl) ?_
            refine rr rfl (s_icT (by decide)) ?_
            refine rr rfl (s_iload_n rfl) ?_
            exact rrt rfl rfl rfl rfl
          refine rrc rfl rfl rfl (do_of g_J3_checkIndex_8e157 rfl rfl e17) ?_
          exact rrt rfl rfl rfl rfl
        refine rrc rfl rfl rfl (do_of g_J15_checkIndex_7cf53 rfl rfl e16) ?_
        refine rr rfl rfl ?_
        refine rr rfl (s_aload_n rfl) ?_
        refine rr rfl (s_iload_n rfl) ?_
        have e18 : a_m MT [] 100000 7 miJx4a65c_elementData_915e3 [.ref 3, .int 0] ((hF.set 3 (.inr (.inr (0, [.int 1, .ref 62, .int 1])))) ++ [.inr (.inr (2, [.int x1, .int x2, .int x3, .int x4, .int x4, .int x6, .int x7, .int ((1 <<< (x4 &&& 31) : Int32) ||| (1 <<< (x4 &&& 31) : Int32)), .int 0, .int (-1)])), .inr (.inl [some 61, none, none, none, none, none, none, none, none, none])]) = some ((some (.ref 61)), ((hF.set 3 (.inr (.inr (0, [.int 1, .ref 62, .int 1])))) ++ [.inr (.inr (2, [.int x1, .int x2, .int x3, .int x4, .int x4, .int x6, .int x7, .int ((1 <<< (x4 &&& 31) : Int32) ||| (1 <<< (x4 &&& 31) : Int32)), .int 0, .int (-1)])), .inr (.inl [some 61, none, none, none, none, none, none, none, none, none])]), 0, 0) := by
          refine me (d := 6) g_Jx4a65c_elementData_915e3 (Nat.le_of_ble_eq_true rfl) ?_
          refine rr rfl (s_aload_n rfl) ?_
          refine rr rfl (s_getf rfl rfl) ?_
          refine rr rfl (s_iload_n rfl) ?_
          refine rr rfl (s_aaload (j := 0) (z := 61) rfl rfl rfl) ?_
          exact rrt rfl rfl rfl rfl
        refine rrc rfl rfl rfl (do_of g_Jx4a65c_elementData_915e3 rfl rfl e18) ?_
        exact rrt rfl rfl rfl rfl
      refine rrc rfl rfl rfl (do_of g_Jx4a65c_get_915e3 rfl rfl e15) ?_
      refine rr rfl rfl ?_
      have e19 : a_m MT [] 100000 8 miX2_isSpare [.ref 61] ((hF.set 3 (.inr (.inr (0, [.int 1, .ref 62, .int 1])))) ++ [.inr (.inr (2, [.int x1, .int x2, .int x3, .int x4, .int x4, .int x6, .int x7, .int ((1 <<< (x4 &&& 31) : Int32) ||| (1 <<< (x4 &&& 31) : Int32)), .int 0, .int (-1)])), .inr (.inl [some 61, none, none, none, none, none, none, none, none, none])]) = some ((some (.int 0)), ((hF.set 3 (.inr (.inr (0, [.int 1, .ref 62, .int 1])))) ++ [.inr (.inr (2, [.int x1, .int x2, .int x3, .int x4, .int x4, .int x6, .int x7, .int ((1 <<< (x4 &&& 31) : Int32) ||| (1 <<< (x4 &&& 31) : Int32)), .int 0, .int (-1)])), .inr (.inl [some 61, none, none, none, none, none, none, none, none, none])]), 0, 0) := by
        refine me (d := 7) g_X2_isSpare (Nat.le_of_ble_eq_true rfl) ?_
        refine rr rfl (s_aload_n rfl) ?_
        refine rr rfl (s_getf rfl rfl) ?_
        refine rr rfl (s_iconst (v := (-1)) (by decide)) ?_
        refine rr rfl (s_icT (by decide)) ?_
        refine rr rfl (s_iconst (v := 0) (by decide)) ?_
        exact rrt rfl rfl rfl rfl
      refine rrc rfl rfl rfl (do_of g_X2_isSpare rfl rfl e19) ?_
      refine rr rfl (s_ifF (by decide)) ?_
      refine rr rfl (s_iload_n rfl) ?_
      refine rr rfl (s_iconst (v := 1) (by decide)) ?_
      refine rr rfl (s_iload_n rfl) ?_
      refine rr rfl (s_ishl (v := 1) (by decide)) ?_
      refine rr rfl (s_ior (v := 1) (by decide)) ?_
      refine rr rfl (s_istore_n rfl) ?_
      refine rr rfl (s_iinc (v := 1) rfl (by decide) rfl) ?_
      refine rr rfl s_goto ?_
      refine rr rfl (s_iload_n rfl) ?_
      refine rr rfl (s_aload_n rfl) ?_
      refine rr rfl (s_getf rfl rfl) ?_
      have e20 : a_m MT [] 100000 8 miJx4a65c_size_8abf5 [.ref 3] ((hF.set 3 (.inr (.inr (0, [.int 1, .ref 62, .int 1])))) ++ [.inr (.inr (2, [.int x1, .int x2, .int x3, .int x4, .int x4, .int x6, .int x7, .int ((1 <<< (x4 &&& 31) : Int32) ||| (1 <<< (x4 &&& 31) : Int32)), .int 0, .int (-1)])), .inr (.inl [some 61, none, none, none, none, none, none, none, none, none])]) = some ((some (.int 1)), ((hF.set 3 (.inr (.inr (0, [.int 1, .ref 62, .int 1])))) ++ [.inr (.inr (2, [.int x1, .int x2, .int x3, .int x4, .int x4, .int x6, .int x7, .int ((1 <<< (x4 &&& 31) : Int32) ||| (1 <<< (x4 &&& 31) : Int32)), .int 0, .int (-1)])), .inr (.inl [some 61, none, none, none, none, none, none, none, none, none])]), 0, 0) := by
        refine me (d := 7) g_Jx4a65c_size_8abf5 (Nat.le_of_ble_eq_true rfl) ?_
        refine rr rfl (s_aload_n rfl) ?_
        refine rr rfl (s_getf rfl rfl) ?_
        exact rrt rfl rfl rfl rfl
      refine rrc rfl rfl rfl (do_of g_Jx4a65c_size_8abf5 rfl rfl e20) ?_
      refine rr rfl (s_icT (by decide)) ?_
      refine rr rfl (s_iload_n rfl) ?_
      exact rrt rfl rfl rfl rfl
    refine rrc rfl rfl rfl (do_of g_X3_notSpare rfl rfl e13) ?_
    have e21 : a_m MT [] 100000 9 miX6_countOnly [.ref 6, .int 1] ((hF.set 3 (.inr (.inr (0, [.int 1, .ref 62, .int 1])))) ++ [.inr (.inr (2, [.int x1, .int x2, .int x3, .int x4, .int x4, .int x6, .int x7, .int ((1 <<< (x4 &&& 31) : Int32) ||| (1 <<< (x4 &&& 31) : Int32)), .int 0, .int (-1)])), .inr (.inl [some 61, none, none, none, none, none, none, none, none, none])]) = some (none, (((hF.set 3 (.inr (.inr (0, [.int 1, .ref 62, .int 1])))).set 6 (.inr (.inr (6, [.ref 2, .ref 7, .ref 8, .ref 9, .int 1])))) ++ [.inr (.inr (2, [.int x1, .int x2, .int x3, .int x4, .int x4, .int x6, .int x7, .int ((1 <<< (x4 &&& 31) : Int32) ||| (1 <<< (x4 &&& 31) : Int32)), .int 0, .int (-1)])), .inr (.inl [some 61, none, none, none, none, none, none, none, none, none])]), 0, 0) := by
      refine me (d := 8) g_X6_countOnly (Nat.le_of_ble_eq_true rfl) ?_
      refine rr rfl (s_aload_n rfl) ?_
      refine rr rfl (s_iload_n rfl) ?_
      refine rr rfl (s_putf rfl rfl (Nat.le_of_ble_eq_true rfl) rfl (Nat.le_of_ble_eq_true rfl) rfl (h' := (((hF.set 3 (.inr (.inr (0, [.int 1, .ref 62, .int 1])))).set 6 (.inr (.inr (6, [.ref 2, .ref 7, .ref 8, .ref 9, .int 1])))) ++ [.inr (.inr (2, [.int x1, .int x2, .int x3, .int x4, .int x4, .int x6, .int x7, .int ((1 <<< (x4 &&& 31) : Int32) ||| (1 <<< (x4 &&& 31) : Int32)), .int 0, .int (-1)])), .inr (.inl [some 61, none, none, none, none, none, none, none, none, none])]))) ?_
      refine rr rfl (s_aload_n rfl) ?_
      refine rr rfl (s_getf rfl rfl) ?_
      refine rr rfl (s_iconst (v := (-1)) (by decide)) ?_
      have e22 : a_m MT [] 100000 8 miJ7_fill_53178 [.ref 7, .int (-1)] (((hF.set 3 (.inr (.inr (0, [.int 1, .ref 62, .int 1])))).set 6 (.inr (.inr (6, [.ref 2, .ref 7, .ref 8, .ref 9, .int 1])))) ++ [.inr (.inr (2, [.int x1, .int x2, .int x3, .int x4, .int x4, .int x6, .int x7, .int ((1 <<< (x4 &&& 31) : Int32) ||| (1 <<< (x4 &&& 31) : Int32)), .int 0, .int (-1)])), .inr (.inl [some 61, none, none, none, none, none, none, none, none, none])]) = some (none, (((hF.set 3 (.inr (.inr (0, [.int 1, .ref 62, .int 1])))).set 6 (.inr (.inr (6, [.ref 2, .ref 7, .ref 8, .ref 9, .int 1])))) ++ [.inr (.inr (2, [.int x1, .int x2, .int x3, .int x4, .int x4, .int x6, .int x7, .int ((1 <<< (x4 &&& 31) : Int32) ||| (1 <<< (x4 &&& 31) : Int32)), .int 0, .int (-1)])), .inr (.inl [some 61, none, none, none, none, none, none, none, none, none])]), 0, 0) := fill_n rfl (Nat.le_of_ble_eq_true rfl) rfl
      refine rrc rfl rfl rfl (do_of g_J7_fill_53178 rfl rfl e22) ?_
      exact rrt rfl rfl rfl rfl
    refine rrc rfl rfl rfl (do_of g_X6_countOnly rfl rfl e21) ?_
    refine rr rfl (s_aload_n rfl) ?_
    have e23 : a_m MT [] 100000 9 miX8_forgetRuns [.ref 0] (((hF.set 3 (.inr (.inr (0, [.int 1, .ref 62, .int 1])))).set 6 (.inr (.inr (6, [.ref 2, .ref 7, .ref 8, .ref 9, .int 1])))) ++ [.inr (.inr (2, [.int x1, .int x2, .int x3, .int x4, .int x4, .int x6, .int x7, .int ((1 <<< (x4 &&& 31) : Int32) ||| (1 <<< (x4 &&& 31) : Int32)), .int 0, .int (-1)])), .inr (.inl [some 61, none, none, none, none, none, none, none, none, none])]) = some (none, (((hF.set 3 (.inr (.inr (0, [.int 1, .ref 62, .int 1])))).set 6 (.inr (.inr (6, [.ref 2, .ref 7, .ref 8, .ref 9, .int 1])))) ++ [.inr (.inr (2, [.int x1, .int x2, .int x3, .int x4, .int x4, .int x6, .int x7, .int ((1 <<< (x4 &&& 31) : Int32) ||| (1 <<< (x4 &&& 31) : Int32)), .int 0, .int (-1)])), .inr (.inl [some 61, none, none, none, none, none, none, none, none, none])]), 0, 0) := by
      refine me (d := 8) g_X8_forgetRuns (Nat.le_of_ble_eq_true rfl) ?_
      refine rr rfl (s_aload_n rfl) ?_
      refine rr rfl (s_iconst (v := 0) (by decide)) ?_
      refine rr rfl (s_putf rfl rfl (Nat.le_of_ble_eq_true rfl) rfl (Nat.le_of_ble_eq_true rfl) rfl (h' := (((hF.set 3 (.inr (.inr (0, [.int 1, .ref 62, .int 1])))).set 6 (.inr (.inr (6, [.ref 2, .ref 7, .ref 8, .ref 9, .int 1])))) ++ [.inr (.inr (2, [.int x1, .int x2, .int x3, .int x4, .int x4, .int x6, .int x7, .int ((1 <<< (x4 &&& 31) : Int32) ||| (1 <<< (x4 &&& 31) : Int32)), .int 0, .int (-1)])), .inr (.inl [some 61, none, none, none, none, none, none, none, none, none])]))) ?_
      refine rr rfl (s_aload_n rfl) ?_
      refine rr rfl (s_getf rfl rfl) ?_
      refine rr rfl (s_iconst (v := 0) (by decide)) ?_
      refine rr rfl (s_putf rfl rfl (Nat.le_of_ble_eq_true rfl) rfl (Nat.le_of_ble_eq_true rfl) rfl (h' := (((hF.set 3 (.inr (.inr (0, [.int 1, .ref 62, .int 1])))).set 6 (.inr (.inr (6, [.ref 2, .ref 7, .ref 8, .ref 9, .int 1])))) ++ [.inr (.inr (2, [.int x1, .int x2, .int x3, .int x4, .int x4, .int x6, .int x7, .int ((1 <<< (x4 &&& 31) : Int32) ||| (1 <<< (x4 &&& 31) : Int32)), .int 0, .int (-1)])), .inr (.inl [some 61, none, none, none, none, none, none, none, none, none])]))) ?_
      exact rrt rfl rfl rfl rfl
    refine rrc rfl rfl rfl (do_of g_X8_forgetRuns rfl rfl e23) ?_
    exact rrt rfl rfl rfl rfl
  refine rrc rfl rfl rfl (do_of g_X8_forgetRules rfl rfl e12) ?_
  refine rr rfl (s_aload_n rfl) ?_
  refine rr rfl (s_getf rfl rfl) ?_
  refine rr rfl (s_getf rfl rfl) ?_
  refine rr rfl (s_getf rfl rfl) ?_
  have e24 : a_m MT [] 100000 10 miJx4a65c_size_8abf5 [.ref 3] (((hF.set 3 (.inr (.inr (0, [.int 1, .ref 62, .int 1])))).set 6 (.inr (.inr (6, [.ref 2, .ref 7, .ref 8, .ref 9, .int 1])))) ++ [.inr (.inr (2, [.int x1, .int x2, .int x3, .int x4, .int x4, .int x6, .int x7, .int ((1 <<< (x4 &&& 31) : Int32) ||| (1 <<< (x4 &&& 31) : Int32)), .int 0, .int (-1)])), .inr (.inl [some 61, none, none, none, none, none, none, none, none, none])]) = some ((some (.int 1)), (((hF.set 3 (.inr (.inr (0, [.int 1, .ref 62, .int 1])))).set 6 (.inr (.inr (6, [.ref 2, .ref 7, .ref 8, .ref 9, .int 1])))) ++ [.inr (.inr (2, [.int x1, .int x2, .int x3, .int x4, .int x4, .int x6, .int x7, .int ((1 <<< (x4 &&& 31) : Int32) ||| (1 <<< (x4 &&& 31) : Int32)), .int 0, .int (-1)])), .inr (.inl [some 61, none, none, none, none, none, none, none, none, none])]), 0, 0) := by
    refine me (d := 9) g_Jx4a65c_size_8abf5 (Nat.le_of_ble_eq_true rfl) ?_
    refine rr rfl (s_aload_n rfl) ?_
    refine rr rfl (s_getf rfl rfl) ?_
    exact rrt rfl rfl rfl rfl
  refine rrc rfl rfl rfl (do_of g_Jx4a65c_size_8abf5 rfl rfl e24) ?_
  refine rr rfl (s_iconst (v := 1) (by decide)) ?_
  refine rr rfl (s_isub (v := 0) (by decide)) ?_
  exact rrt rfl rfl rfl rfl
set_option maxHeartbeats 4000000 in
set_option maxRecDepth 10000 in
theorem rx_Kmi {x1 x2 x3 x4 x5 x6 x7 : Int32} (g1 : x5 = (-1)) (g2 : ¬ x6 = (-1)) (g3 : ¬ x2 = 0) : a_run MT [] (a_m MT [] 100000 10) 11 (some .int) tabX8_rule 90000 140 (alR x1 x2 x3 x4 x5 x6 x7) [] hF 0 0 = some (some (.int 0), (((hF.set 3 (.inr (.inr (0, [.int 1, .ref 62, .int 1])))).set 6 (.inr (.inr (6, [.ref 2, .ref 7, .ref 8, .ref 9, .int 1])))) ++ [.inr (.inr (2, [.int x1, .int x2, .int x3, .int x4, .int x4, .int x6, .int x7, .int ((1 <<< (x4 &&& 31) : Int32) ||| (1 <<< (x4 &&& 31) : Int32)), .int (1 <<< (x6 &&& 31) : Int32), .int (-1)])), .inr (.inl [some 61, none, none, none, none, none, none, none, none, none])]), 2, 20) := by
  refine rr rfl (s_new (q := 61) rfl rfl (h' := (hF ++ [.inr (.inr (2, [.int 0, .int 0, .int 0, .int 0, .int 0, .int 0, .int 0, .int 0, .int 0, .int 0]))]))) ?_
  refine rr rfl rfl ?_
  refine rr rfl (s_iload_n rfl) ?_
  refine rr rfl (s_iload_n rfl) ?_
  refine rr rfl (s_iload_n rfl) ?_
  refine rr rfl (s_iload rfl) ?_
  refine rr rfl (s_iload rfl) ?_
  refine rr rfl (s_iload rfl) ?_
  refine rr rfl (s_iload rfl) ?_
  have e1 : a_m MT [] 100000 10 miX2_init [.ref 61, .int x1, .int x2, .int x3, .int x4, .int x5, .int x6, .int x7] (hF ++ [.inr (.inr (2, [.int 0, .int 0, .int 0, .int 0, .int 0, .int 0, .int 0, .int 0, .int 0, .int 0]))]) = some (none, (hF ++ [.inr (.inr (2, [.int x1, .int x2, .int x3, .int x4, .int x4, .int x6, .int x7, .int ((1 <<< (x4 &&& 31) : Int32) ||| (1 <<< (x4 &&& 31) : Int32)), .int (1 <<< (x6 &&& 31) : Int32), .int (-1)]))]), 0, 0) := by
    refine me (d := 9) g_X2_init (Nat.le_of_ble_eq_true rfl) ?_
    refine rr rfl (s_aload_n rfl) ?_
    refine rr rfl rfl ?_
    refine rr rfl (s_aload_n rfl) ?_
    refine rr rfl (s_iconst (v := (-1)) (by decide)) ?_
    refine rr rfl (s_putf rfl rfl (Nat.le_of_ble_eq_true rfl) rfl (Nat.le_of_ble_eq_true rfl) rfl (h' := (hF ++ [.inr (.inr (2, [.int 0, .int 0, .int 0, .int 0, .int 0, .int 0, .int 0, .int 0, .int 0, .int (-1)]))]))) ?_
    refine rr rfl (s_aload_n rfl) ?_
    refine rr rfl (s_iload_n rfl) ?_
    refine rr rfl (s_putf rfl rfl (Nat.le_of_ble_eq_true rfl) rfl (Nat.le_of_ble_eq_true rfl) rfl (h' := (hF ++ [.inr (.inr (2, [.int x1, .int 0, .int 0, .int 0, .int 0, .int 0, .int 0, .int 0, .int 0, .int (-1)]))]))) ?_
    refine rr rfl (s_aload_n rfl) ?_
    refine rr rfl (s_iload_n rfl) ?_
    refine rr rfl (s_putf rfl rfl (Nat.le_of_ble_eq_true rfl) rfl (Nat.le_of_ble_eq_true rfl) rfl (h' := (hF ++ [.inr (.inr (2, [.int x1, .int x2, .int 0, .int 0, .int 0, .int 0, .int 0, .int 0, .int 0, .int (-1)]))]))) ?_
    refine rr rfl (s_aload_n rfl) ?_
    refine rr rfl (s_iload_n rfl) ?_
    refine rr rfl (s_putf rfl rfl (Nat.le_of_ble_eq_true rfl) rfl (Nat.le_of_ble_eq_true rfl) rfl (h' := (hF ++ [.inr (.inr (2, [.int x1, .int x2, .int x3, .int 0, .int 0, .int 0, .int 0, .int 0, .int 0, .int (-1)]))]))) ?_
    refine rr rfl (s_aload_n rfl) ?_
    refine rr rfl (s_iload rfl) ?_
    refine rr rfl (s_putf rfl rfl (Nat.le_of_ble_eq_true rfl) rfl (Nat.le_of_ble_eq_true rfl) rfl (h' := (hF ++ [.inr (.inr (2, [.int x1, .int x2, .int x3, .int x4, .int 0, .int 0, .int 0, .int 0, .int 0, .int (-1)]))]))) ?_
    refine rr rfl (s_aload_n rfl) ?_
    refine rr rfl (s_iload rfl) ?_
    refine rr rfl (s_iconst (v := (-1)) (by decide)) ?_
    refine rr rfl (s_icF (ic_nne g1)) ?_
    refine rr rfl (s_iload rfl) ?_
    refine rr rfl s_goto ?_
    refine rr rfl (s_putf rfl rfl (Nat.le_of_ble_eq_true rfl) rfl (Nat.le_of_ble_eq_true rfl) rfl (h' := (hF ++ [.inr (.inr (2, [.int x1, .int x2, .int x3, .int x4, .int x4, .int 0, .int 0, .int 0, .int 0, .int (-1)]))]))) ?_
    refine rr rfl (s_aload_n rfl) ?_
    refine rr rfl (s_iload rfl) ?_
    refine rr rfl (s_putf rfl rfl (Nat.le_of_ble_eq_true rfl) rfl (Nat.le_of_ble_eq_true rfl) rfl (h' := (hF ++ [.inr (.inr (2, [.int x1, .int x2, .int x3, .int x4, .int x4, .int x6, .int 0, .int 0, .int 0, .int (-1)]))]))) ?_
    refine rr rfl (s_aload_n rfl) ?_
    refine rr rfl (s_iload rfl) ?_
    refine rr rfl (s_putf rfl rfl (Nat.le_of_ble_eq_true rfl) rfl (Nat.le_of_ble_eq_true rfl) rfl (h' := (hF ++ [.inr (.inr (2, [.int x1, .int x2, .int x3, .int x4, .int x4, .int x6, .int x7, .int 0, .int 0, .int (-1)]))]))) ?_
    refine rr rfl (s_aload_n rfl) ?_
    refine rr rfl (s_iconst (v := 1) (by decide)) ?_
    refine rr rfl (s_aload_n rfl) ?_
    refine rr rfl (s_getf rfl rfl) ?_
    refine rr rfl (s_ishl (v := (1 <<< (x4 &&& 31) : Int32)) rfl) ?_
    refine rr rfl (s_iconst (v := 1) (by decide)) ?_
    refine rr rfl (s_aload_n rfl) ?_
    refine rr rfl (s_getf rfl rfl) ?_
    refine rr rfl (s_ishl (v := (1 <<< (x4 &&& 31) : Int32)) rfl) ?_
    refine rr rfl (s_ior (v := ((1 <<< (x4 &&& 31) : Int32) ||| (1 <<< (x4 &&& 31) : Int32))) rfl) ?_
    refine rr rfl (s_putf rfl rfl (Nat.le_of_ble_eq_true rfl) rfl (Nat.le_of_ble_eq_true rfl) rfl (h' := (hF ++ [.inr (.inr (2, [.int x1, .int x2, .int x3, .int x4, .int x4, .int x6, .int x7, .int ((1 <<< (x4 &&& 31) : Int32) ||| (1 <<< (x4 &&& 31) : Int32)), .int 0, .int (-1)]))]))) ?_
    refine rr rfl (s_aload_n rfl) ?_
    refine rr rfl (s_iload rfl) ?_
    refine rr rfl (s_iconst (v := (-1)) (by decide)) ?_
    refine rr rfl (s_icT (ic_ne g2)) ?_
    refine rr rfl (s_iconst (v := 1) (by decide)) ?_
    refine rr rfl (s_iload rfl) ?_
    refine rr rfl (s_ishl (v := (1 <<< (x6 &&& 31) : Int32)) rfl) ?_
    refine rr rfl (s_putf rfl rfl (Nat.le_of_ble_eq_true rfl) rfl (Nat.le_of_ble_eq_true rfl) rfl (h' := (hF ++ [.inr (.inr (2, [.int x1, .int x2, .int x3, .int x4, .int x4, .int x6, .int x7, .int ((1 <<< (x4 &&& 31) : Int32) ||| (1 <<< (x4 &&& 31) : Int32)), .int (1 <<< (x6 &&& 31) : Int32), .int (-1)]))]))) ?_
    exact rrt rfl rfl rfl rfl
  refine rrc rfl rfl rfl (do_of g_X2_init rfl rfl e1) ?_
  refine rr rfl (s_astore rfl) ?_
  refine rr rfl (s_aload_n rfl) ?_
  refine rr rfl (s_getf rfl rfl) ?_
  refine rr rfl (s_getf rfl rfl) ?_
  refine rr rfl (s_aload rfl) ?_
  have e2 : a_m MT [] 100000 10 miX3_hasLayersWith [.ref 2, .ref 61] (hF ++ [.inr (.inr (2, [.int x1, .int x2, .int x3, .int x4, .int x4, .int x6, .int x7, .int ((1 <<< (x4 &&& 31) : Int32) ||| (1 <<< (x4 &&& 31) : Int32)), .int (1 <<< (x6 &&& 31) : Int32), .int (-1)]))]) = some ((some (.int 1)), (hF ++ [.inr (.inr (2, [.int x1, .int x2, .int x3, .int x4, .int x4, .int x6, .int x7, .int ((1 <<< (x4 &&& 31) : Int32) ||| (1 <<< (x4 &&& 31) : Int32)), .int (1 <<< (x6 &&& 31) : Int32), .int (-1)]))]), 0, 0) := by
    refine me (d := 9) g_X3_hasLayersWith (Nat.le_of_ble_eq_true rfl) ?_
    refine rr rfl (s_aload_n rfl) ?_
    refine rr rfl (s_getf rfl rfl) ?_
    refine rr rfl (s_iconst (v := 0) (by decide)) ?_
    have e3 : a_m MT [] 100000 9 miJ7_fill_53178 [.ref 5, .int 0] (hF ++ [.inr (.inr (2, [.int x1, .int x2, .int x3, .int x4, .int x4, .int x6, .int x7, .int ((1 <<< (x4 &&& 31) : Int32) ||| (1 <<< (x4 &&& 31) : Int32)), .int (1 <<< (x6 &&& 31) : Int32), .int (-1)]))]) = some (none, (hF ++ [.inr (.inr (2, [.int x1, .int x2, .int x3, .int x4, .int x4, .int x6, .int x7, .int ((1 <<< (x4 &&& 31) : Int32) ||| (1 <<< (x4 &&& 31) : Int32)), .int (1 <<< (x6 &&& 31) : Int32), .int (-1)]))]), 0, 0) := fill_n rfl (Nat.le_of_ble_eq_true rfl) rfl
    refine rrc rfl rfl rfl (do_of g_J7_fill_53178 rfl rfl e3) ?_
    refine rr rfl (s_iconst (v := 1) (by decide)) ?_
    refine rr rfl (s_istore_n rfl) ?_
    refine rr rfl (s_iconst (v := 0) (by decide)) ?_
    refine rr rfl (s_istore_n rfl) ?_
    refine rr rfl (s_iload_n rfl) ?_
    refine rr rfl (s_ifF (by decide)) ?_
    refine rr rfl (s_iload_n rfl) ?_
    refine rr rfl (s_bipush (v := 8) (by decide)) ?_
    refine rr rfl (s_icF (by decide)) ?_
    refine rr rfl (s_aload_n rfl) ?_
    refine rr rfl (s_aload_n rfl) ?_
    have e4 : a_m MT [] 100000 9 miX3_lift [.ref 2, .ref 61] (hF ++ [.inr (.inr (2, [.int x1, .int x2, .int x3, .int x4, .int x4, .int x6, .int x7, .int ((1 <<< (x4 &&& 31) : Int32) ||| (1 <<< (x4 &&& 31) : Int32)), .int (1 <<< (x6 &&& 31) : Int32), .int (-1)]))]) = some ((some (.int 0)), (hF ++ [.inr (.inr (2, [.int x1, .int x2, .int x3, .int x4, .int x4, .int x6, .int x7, .int ((1 <<< (x4 &&& 31) : Int32) ||| (1 <<< (x4 &&& 31) : Int32)), .int (1 <<< (x6 &&& 31) : Int32), .int (-1)]))]), 0, 0) := by
      refine me (d := 8) g_X3_lift (Nat.le_of_ble_eq_true rfl) ?_
      refine rr rfl (s_aload_n rfl) ?_
      refine rr rfl (s_getf rfl rfl) ?_
      refine rr rfl (s_ifF (ic_neq g3)) ?_
      refine rr rfl (s_iconst (v := 0) (by decide)) ?_
      exact rrt rfl rfl rfl rfl
    refine rrc rfl rfl rfl (do_of g_X3_lift rfl rfl e4) ?_
    refine rr rfl (s_istore_n rfl) ?_
    refine rr rfl (s_iconst (v := 0) (by decide)) ?_
    refine rr rfl (s_istore rfl) ?_
    refine rr rfl (s_iload rfl) ?_
    refine rr rfl (s_aload_n rfl) ?_
    refine rr rfl (s_getf rfl rfl) ?_
    have e5 : a_m MT [] 100000 9 miJx4a65c_size_8abf5 [.ref 3] (hF ++ [.inr (.inr (2, [.int x1, .int x2, .int x3, .int x4, .int x4, .int x6, .int x7, .int ((1 <<< (x4 &&& 31) : Int32) ||| (1 <<< (x4 &&& 31) : Int32)), .int (1 <<< (x6 &&& 31) : Int32), .int (-1)]))]) = some ((some (.int 0)), (hF ++ [.inr (.inr (2, [.int x1, .int x2, .int x3, .int x4, .int x4, .int x6, .int x7, .int ((1 <<< (x4 &&& 31) : Int32) ||| (1 <<< (x4 &&& 31) : Int32)), .int (1 <<< (x6 &&& 31) : Int32), .int (-1)]))]), 0, 0) := by
      refine me (d := 8) g_Jx4a65c_size_8abf5 (Nat.le_of_ble_eq_true rfl) ?_
      refine rr rfl (s_aload_n rfl) ?_
      refine rr rfl (s_getf rfl rfl) ?_
      exact rrt rfl rfl rfl rfl
    refine rrc rfl rfl rfl (do_of g_Jx4a65c_size_8abf5 rfl rfl e5) ?_
    refine rr rfl (s_icT (by decide)) ?_
    refine rr rfl (s_iinc (v := 1) rfl (by decide) rfl) ?_
    refine rr rfl s_goto ?_
    refine rr rfl (s_iload_n rfl) ?_
    refine rr rfl (s_ifT (by decide)) ?_
    refine rr rfl (s_iload_n rfl) ?_
    refine rr rfl (s_ifF (by decide)) ?_
    refine rr rfl (s_iconst (v := 1) (by decide)) ?_
    refine rr rfl s_goto ?_
    exact rrt rfl rfl rfl rfl
  refine rrc rfl rfl rfl (do_of g_X3_hasLayersWith rfl rfl e2) ?_
  refine rr rfl (s_ifT (by decide)) ?_
  refine rr rfl (s_aload_n rfl) ?_
  refine rr rfl (s_getf rfl rfl) ?_
  refine rr rfl (s_getf rfl rfl) ?_
  refine rr rfl (s_getf rfl rfl) ?_
  have e6 : a_m MT [] 100000 10 miJx4a65c_size_8abf5 [.ref 3] (hF ++ [.inr (.inr (2, [.int x1, .int x2, .int x3, .int x4, .int x4, .int x6, .int x7, .int ((1 <<< (x4 &&& 31) : Int32) ||| (1 <<< (x4 &&& 31) : Int32)), .int (1 <<< (x6 &&& 31) : Int32), .int (-1)]))]) = some ((some (.int 0)), (hF ++ [.inr (.inr (2, [.int x1, .int x2, .int x3, .int x4, .int x4, .int x6, .int x7, .int ((1 <<< (x4 &&& 31) : Int32) ||| (1 <<< (x4 &&& 31) : Int32)), .int (1 <<< (x6 &&& 31) : Int32), .int (-1)]))]), 0, 0) := by
    refine me (d := 9) g_Jx4a65c_size_8abf5 (Nat.le_of_ble_eq_true rfl) ?_
    refine rr rfl (s_aload_n rfl) ?_
    refine rr rfl (s_getf rfl rfl) ?_
    exact rrt rfl rfl rfl rfl
  refine rrc rfl rfl rfl (do_of g_Jx4a65c_size_8abf5 rfl rfl e6) ?_
  refine rr rfl (s_bipush (v := 12) (by decide)) ?_
  refine rr rfl (s_icT (by decide)) ?_
  refine rr rfl (s_aload_n rfl) ?_
  refine rr rfl (s_getf rfl rfl) ?_
  refine rr rfl (s_getf rfl rfl) ?_
  refine rr rfl (s_aload rfl) ?_
  have e7 : a_m MT [] 100000 10 miX3_take [.ref 2, .ref 61] (hF ++ [.inr (.inr (2, [.int x1, .int x2, .int x3, .int x4, .int x4, .int x6, .int x7, .int ((1 <<< (x4 &&& 31) : Int32) ||| (1 <<< (x4 &&& 31) : Int32)), .int (1 <<< (x6 &&& 31) : Int32), .int (-1)]))]) = some (none, ((hF.set 3 (.inr (.inr (0, [.int 1, .ref 62, .int 1])))) ++ [.inr (.inr (2, [.int x1, .int x2, .int x3, .int x4, .int x4, .int x6, .int x7, .int ((1 <<< (x4 &&& 31) : Int32) ||| (1 <<< (x4 &&& 31) : Int32)), .int (1 <<< (x6 &&& 31) : Int32), .int (-1)])), .inr (.inl [some 61, none, none, none, none, none, none, none, none, none])]), 1, 10) := by
    refine me (d := 9) g_X3_take (Nat.le_of_ble_eq_true rfl) ?_
    refine rr rfl (s_aload_n rfl) ?_
    refine rr rfl (s_getf rfl rfl) ?_
    refine rr rfl (s_aload_n rfl) ?_
    have e8 : a_m MT [] 100000 9 miJx4a65c_add_9ea2d [.ref 3, .ref 61] (hF ++ [.inr (.inr (2, [.int x1, .int x2, .int x3, .int x4, .int x4, .int x6, .int x7, .int ((1 <<< (x4 &&& 31) : Int32) ||| (1 <<< (x4 &&& 31) : Int32)), .int (1 <<< (x6 &&& 31) : Int32), .int (-1)]))]) = some ((some (.int 1)), ((hF.set 3 (.inr (.inr (0, [.int 1, .ref 62, .int 1])))) ++ [.inr (.inr (2, [.int x1, .int x2, .int x3, .int x4, .int x4, .int x6, .int x7, .int ((1 <<< (x4 &&& 31) : Int32) ||| (1 <<< (x4 &&& 31) : Int32)), .int (1 <<< (x6 &&& 31) : Int32), .int (-1)])), .inr (.inl [some 61, none, none, none, none, none, none, none, none, none])]), 1, 10) := by
      refine me (d := 8) g_Jx4a65c_add_9ea2d (Nat.le_of_ble_eq_true rfl) ?_
      refine rr rfl (s_aload_n rfl) ?_
      refine rr rfl rfl ?_
      refine rr rfl (s_getf rfl rfl) ?_
      refine rr rfl (s_iconst (v := 1) (by decide)) ?_
      refine rr rfl (s_iadd (v := 1) (by decide)) ?_
      refine rr rfl (s_putf rfl rfl (Nat.le_of_ble_eq_true rfl) rfl (Nat.le_of_ble_eq_true rfl) rfl (h' := ((hF.set 3 (.inr (.inr (0, [.int 1, .long 0, .int 0])))) ++ [.inr (.inr (2, [.int x1, .int x2, .int x3, .int x4, .int x4, .int x6, .int x7, .int ((1 <<< (x4 &&& 31) : Int32) ||| (1 <<< (x4 &&& 31) : Int32)), .int (1 <<< (x6 &&& 31) : Int32), .int (-1)]))]))) ?_
      refine rr rfl (s_aload_n rfl) ?_
      refine rr rfl (s_aload_n rfl) ?_
      refine rr rfl (s_aload_n rfl) ?_
      refine rr rfl (s_getf rfl rfl) ?_
      refine rr rfl (s_aload_n rfl) ?_
      refine rr rfl (s_getf rfl rfl) ?_
      have e9 : a_m MT [] 100000 8 miJx4a65c_add_72be8 [.ref 3, .ref 61, .long 0, .int 0] ((hF.set 3 (.inr (.inr (0, [.int 1, .long 0, .int 0])))) ++ [.inr (.inr (2, [.int x1, .int x2, .int x3, .int x4, .int x4, .int x6, .int x7, .int ((1 <<< (x4 &&& 31) : Int32) ||| (1 <<< (x4 &&& 31) : Int32)), .int (1 <<< (x6 &&& 31) : Int32), .int (-1)]))]) = some (none, ((hF.set 3 (.inr (.inr (0, [.int 1, .ref 62, .int 1])))) ++ [.inr (.inr (2, [.int x1, .int x2, .int x3, .int x4, .int x4, .int x6, .int x7, .int ((1 <<< (x4 &&& 31) : Int32) ||| (1 <<< (x4 &&& 31) : Int32)), .int (1 <<< (x6 &&& 31) : Int32), .int (-1)])), .inr (.inl [some 61, none, none, none, none, none, none, none, none, none])]), 1, 10) := by
        refine me (d := 7) g_Jx4a65c_add_72be8 (Nat.le_of_ble_eq_true rfl) ?_
        refine rr rfl (s_iload_n rfl) ?_
        refine rr rfl (s_aloadL rfl) ?_
        refine rr rfl (s_alen0) ?_
        refine rr rfl (s_icF (by decide)) ?_
        refine rr rfl (s_aload_n rfl) ?_
        have e10 : a_m MT [] 100000 7 miJx4a65c_grow_d5877 [.ref 3] ((hF.set 3 (.inr (.inr (0, [.int 1, .long 0, .int 0])))) ++ [.inr (.inr (2, [.int x1, .int x2, .int x3, .int x4, .int x4, .int x6, .int x7, .int ((1 <<< (x4 &&& 31) : Int32) ||| (1 <<< (x4 &&& 31) : Int32)), .int (1 <<< (x6 &&& 31) : Int32), .int (-1)]))]) = some ((some (.ref 62)), ((hF.set 3 (.inr (.inr (0, [.int 1, .ref 62, .int 0])))) ++ [.inr (.inr (2, [.int x1, .int x2, .int x3, .int x4, .int x4, .int x6, .int x7, .int ((1 <<< (x4 &&& 31) : Int32) ||| (1 <<< (x4 &&& 31) : Int32)), .int (1 <<< (x6 &&& 31) : Int32), .int (-1)])), .inr (.inl (List.replicate 10 none))]), 1, 10) := by
          refine me (d := 6) g_Jx4a65c_grow_d5877 (Nat.le_of_ble_eq_true rfl) ?_
          refine rr rfl (s_aload_n rfl) ?_
          refine rr rfl (s_aload_n rfl) ?_
          refine rr rfl (s_getf rfl rfl) ?_
          refine rr rfl (s_iconst (v := 1) (by decide)) ?_
          refine rr rfl (s_iadd (v := 1) (by decide)) ?_
          have e11 : a_m MT [] 100000 6 miJx4a65c_grow_92f84 [.ref 3, .int 1] ((hF.set 3 (.inr (.inr (0, [.int 1, .long 0, .int 0])))) ++ [.inr (.inr (2, [.int x1, .int x2, .int x3, .int x4, .int x4, .int x6, .int x7, .int ((1 <<< (x4 &&& 31) : Int32) ||| (1 <<< (x4 &&& 31) : Int32)), .int (1 <<< (x6 &&& 31) : Int32), .int (-1)]))]) = some ((some (.ref 62)), ((hF.set 3 (.inr (.inr (0, [.int 1, .ref 62, .int 0])))) ++ [.inr (.inr (2, [.int x1, .int x2, .int x3, .int x4, .int x4, .int x6, .int x7, .int ((1 <<< (x4 &&& 31) : Int32) ||| (1 <<< (x4 &&& 31) : Int32)), .int (1 <<< (x6 &&& 31) : Int32), .int (-1)])), .inr (.inl (List.replicate 10 none))]), 1, 10) := by
            refine me (d := 5) g_Jx4a65c_grow_92f84 (Nat.le_of_ble_eq_true rfl) ?_
            refine rr rfl (s_aload_n rfl) ?_
            refine rr rfl (s_getf rfl rfl) ?_
            refine rr rfl (s_alen0) ?_
            refine rr rfl (s_istore_n rfl) ?_
            refine rr rfl (s_iload_n rfl) ?_
            refine rr rfl (s_ifF (by decide)) ?_
            refine rr rfl (s_aload_n rfl) ?_
            refine rr rfl (s_getf rfl rfl) ?_
            refine rr rfl rfl ?_
            refine rr rfl rfl ?_
            refine rr rfl (s_aload_n rfl) ?_
            refine rr rfl (s_bipush (v := 10) (by decide)) ?_
            refine rr rfl (s_iload_n rfl) ?_
            refine rr rfl (s_max (v := 10) rfl (Nat.le_of_ble_eq_true rfl) (by decide)) ?_
            refine rr rfl (s_anew (q := 62) (j := 10) rfl rfl rfl rfl (h' := ((hF.set 3 (.inr (.inr (0, [.int 1, .long 0, .int 0])))) ++ [.inr (.inr (2, [.int x1, .int x2, .int x3, .int x4, .int x4, .int x6, .int x7, .int ((1 <<< (x4 &&& 31) : Int32) ||| (1 <<< (x4 &&& 31) : Int32)), .int (1 <<< (x6 &&& 31) : Int32), .int (-1)])), .inr (.inl (List.replicate 10 none))]))) ?_
            refine rr rfl rfl ?_
            refine rr rfl (s_putf rfl rfl (Nat.le_of_ble_eq_true rfl) rfl (Nat.le_of_ble_eq_true rfl) rfl (h' := ((hF.set 3 (.inr (.inr (0, [.int 1, .ref 62, .int 0])))) ++ [.inr (.inr (2, [.int x1, .int x2, .int x3, .int x4, .int x4, .int x6, .int x7, .int ((1 <<< (x4 &&& 31) : Int32) ||| (1 <<< (x4 &&& 31) : Int32)), .int (1 <<< (x6 &&& 31) : Int32), .int (-1)])), .inr (.inl (List.replicate 10 none))]))) ?_
            exact rrt rfl rfl rfl rfl
          refine rrc rfl rfl rfl (do_of g_Jx4a65c_grow_92f84 rfl rfl e11) ?_
          exact rrt rfl rfl rfl rfl
        refine rrc rfl rfl rfl (do_of g_Jx4a65c_grow_d5877 rfl rfl e10) ?_
        refine rr rfl (s_astore_n rfl) ?_
        refine rr rfl (s_aload_n rfl) ?_
        refine rr rfl (s_iload_n rfl) ?_
        refine rr rfl (s_aload_n rfl) ?_
        refine rr rfl (s_aastore (j := 0) rfl rfl rfl (Nat.le_of_ble_eq_true rfl) rfl (Nat.le_of_ble_eq_true rfl) rfl (h' := ((hF.set 3 (.inr (.inr (0, [.int 1, .ref 62, .int 0])))) ++ [.inr (.inr (2, [.int x1, .int x2, .int x3, .int x4, .int x4, .int x6, .int x7, .int ((1 <<< (x4 &&& 31) : Int32) ||| (1 <<< (x4 &&& 31) : Int32)), .int (1 <<< (x6 &&& 31) : Int32), .int (-1)])), .inr (.inl [some 61, none, none, none, none, none, none, none, none, none])]))) ?_
        refine rr rfl (s_aload_n rfl) ?_
        refine rr rfl (s_iload_n rfl) ?_
        refine rr rfl (s_iconst (v := 1) (by decide)) ?_
        refine rr rfl (s_iadd (v := 1) (by decide)) ?_
        refine rr rfl (s_putf rfl rfl (Nat.le_of_ble_eq_true rfl) rfl (Nat.le_of_ble_eq_true rfl) rfl (h' := ((hF.set 3 (.inr (.inr (0, [.int 1, .ref 62, .int 1])))) ++ [.inr (.inr (2, [.int x1, .int x2, .int x3, .int x4, .int x4, .int x6, .int x7, .int ((1 <<< (x4 &&& 31) : Int32) ||| (1 <<< (x4 &&& 31) : Int32)), .int (1 <<< (x6 &&& 31) : Int32), .int (-1)])), .inr (.inl [some 61, none, none, none, none, none, none, none, none, none])]))) ?_
        exact rrt rfl rfl rfl rfl
      refine rrc rfl rfl rfl (do_of g_Jx4a65c_add_72be8 rfl rfl e9) ?_
      refine rr rfl (s_iconst (v := 1) (by decide)) ?_
      exact rrt rfl rfl rfl rfl
    refine rrc rfl rfl rfl (do_of g_Jx4a65c_add_9ea2d rfl rfl e8) ?_
    refine rr rfl rfl ?_
    refine rr rfl (s_aload_n rfl) ?_
    refine rr rfl (s_getf rfl rfl) ?_
    refine rr rfl (s_iconst (v := 0) (by decide)) ?_
    refine rr rfl (s_aload_n rfl) ?_
    refine rr rfl (s_getf rfl rfl) ?_
    refine rr rfl (s_iconst (v := 0) (by decide)) ?_
    refine rr rfl (s_bipush (v := 8) (by decide)) ?_
    refine rr rfl (s_copy8 rfl (Nat.le_of_ble_eq_true rfl) rfl rfl rfl rfl (Nat.le_of_ble_eq_true rfl) rfl (h' := ((hF.set 3 (.inr (.inr (0, [.int 1, .ref 62, .int 1])))) ++ [.inr (.inr (2, [.int x1, .int x2, .int x3, .int x4, .int x4, .int x6, .int x7, .int ((1 <<< (x4 &&& 31) : Int32) ||| (1 <<< (x4 &&& 31) : Int32)), .int (1 <<< (x6 &&& 31) : Int32), .int (-1)])), .inr (.inl [some 61, none, none, none, none, none, none, none, none, none])]))) ?_
    exact rrt rfl rfl rfl rfl
  refine rrc rfl rfl rfl (do_of g_X3_take rfl rfl e7) ?_
  refine rr rfl (s_aload_n rfl) ?_
  have e12 : a_m MT [] 100000 10 miX8_forgetRules [.ref 0] ((hF.set 3 (.inr (.inr (0, [.int 1, .ref 62, .int 1])))) ++ [.inr (.inr (2, [.int x1, .int x2, .int x3, .int x4, .int x4, .int x6, .int x7, .int ((1 <<< (x4 &&& 31) : Int32) ||| (1 <<< (x4 &&& 31) : Int32)), .int (1 <<< (x6 &&& 31) : Int32), .int (-1)])), .inr (.inl [some 61, none, none, none, none, none, none, none, none, none])]) = some (none, (((hF.set 3 (.inr (.inr (0, [.int 1, .ref 62, .int 1])))).set 6 (.inr (.inr (6, [.ref 2, .ref 7, .ref 8, .ref 9, .int 1])))) ++ [.inr (.inr (2, [.int x1, .int x2, .int x3, .int x4, .int x4, .int x6, .int x7, .int ((1 <<< (x4 &&& 31) : Int32) ||| (1 <<< (x4 &&& 31) : Int32)), .int (1 <<< (x6 &&& 31) : Int32), .int (-1)])), .inr (.inl [some 61, none, none, none, none, none, none, none, none, none])]), 0, 0) := by
    refine me (d := 9) g_X8_forgetRules (Nat.le_of_ble_eq_true rfl) ?_
    refine rr rfl (s_aload_n rfl) ?_
    refine rr rfl (s_getf rfl rfl) ?_
    refine rr rfl (s_getf rfl rfl) ?_
    refine rr rfl (s_aload_n rfl) ?_
    refine rr rfl (s_getf rfl rfl) ?_
    refine rr rfl (s_getf rfl rfl) ?_
    have e13 : a_m MT [] 100000 9 miX3_notSpare [.ref 2] ((hF.set 3 (.inr (.inr (0, [.int 1, .ref 62, .int 1])))) ++ [.inr (.inr (2, [.int x1, .int x2, .int x3, .int x4, .int x4, .int x6, .int x7, .int ((1 <<< (x4 &&& 31) : Int32) ||| (1 <<< (x4 &&& 31) : Int32)), .int (1 <<< (x6 &&& 31) : Int32), .int (-1)])), .inr (.inl [some 61, none, none, none, none, none, none, none, none, none])]) = some ((some (.int 1)), ((hF.set 3 (.inr (.inr (0, [.int 1, .ref 62, .int 1])))) ++ [.inr (.inr (2, [.int x1, .int x2, .int x3, .int x4, .int x4, .int x6, .int x7, .int ((1 <<< (x4 &&& 31) : Int32) ||| (1 <<< (x4 &&& 31) : Int32)), .int (1 <<< (x6 &&& 31) : Int32), .int (-1)])), .inr (.inl [some 61, none, none, none, none, none, none, none, none, none])]), 0, 0) := by
      refine me (d := 8) g_X3_notSpare (Nat.le_of_ble_eq_true rfl) ?_
      refine rr rfl (s_iconst (v := 0) (by decide)) ?_
      refine rr rfl (s_istore_n rfl) ?_
      refine rr rfl (s_iconst (v := 0) (by decide)) ?_
      refine rr rfl (s_istore_n rfl) ?_
      refine rr rfl (s_iload_n rfl) ?_
      refine rr rfl (s_aload_n rfl) ?_
      refine rr rfl (s_getf rfl rfl) ?_
      have e14 : a_m MT [] 100000 8 miJx4a65c_size_8abf5 [.ref 3] ((hF.set 3 (.inr (.inr (0, [.int 1, .ref 62, .int 1])))) ++ [.inr (.inr (2, [.int x1, .int x2, .int x3, .int x4, .int x4, .int x6, .int x7, .int ((1 <<< (x4 &&& 31) : Int32) ||| (1 <<< (x4 &&& 31) : Int32)), .int (1 <<< (x6 &&& 31) : Int32), .int (-1)])), .inr (.inl [some 61, none, none, none, none, none, none, none, none, none])]) = some ((some (.int 1)), ((hF.set 3 (.inr (.inr (0, [.int 1, .ref 62, .int 1])))) ++ [.inr (.inr (2, [.int x1, .int x2, .int x3, .int x4, .int x4, .int x6, .int x7, .int ((1 <<< (x4 &&& 31) : Int32) ||| (1 <<< (x4 &&& 31) : Int32)), .int (1 <<< (x6 &&& 31) : Int32), .int (-1)])), .inr (.inl [some 61, none, none, none, none, none, none, none, none, none])]), 0, 0) := by
        refine me (d := 7) g_Jx4a65c_size_8abf5 (Nat.le_of_ble_eq_true rfl) ?_
        refine rr rfl (s_aload_n rfl) ?_
        refine rr rfl (s_getf rfl rfl) ?_
        exact rrt rfl rfl rfl rfl
      refine rrc rfl rfl rfl (do_of g_Jx4a65c_size_8abf5 rfl rfl e14) ?_
      refine rr rfl (s_icF (by decide)) ?_
      refine rr rfl (s_aload_n rfl) ?_
      refine rr rfl (s_getf rfl rfl) ?_
      refine rr rfl (s_iload_n rfl) ?_
      have e15 : a_m MT [] 100000 8 miJx4a65c_get_915e3 [.ref 3, .int 0] ((hF.set 3 (.inr (.inr (0, [.int 1, .ref 62, .int 1])))) ++ [.inr (.inr (2, [.int x1, .int x2, .int x3, .int x4, .int x4, .int x6, .int x7, .int ((1 <<< (x4 &&& 31) : Int32) ||| (1 <<< (x4 &&& 31) : Int32)), .int (1 <<< (x6 &&& 31) : Int32), .int (-1)])), .inr (.inl [some 61, none, none, none, none, none, none, none, none, none])]) = some ((some (.ref 61)), ((hF.set 3 (.inr (.inr (0, [.int 1, .ref 62, .int 1])))) ++ [.inr (.inr (2, [.int x1, .int x2, .int x3, .int x4, .int x4, .int x6, .int x7, .int ((1 <<< (x4 &&& 31) : Int32) ||| (1 <<< (x4 &&& 31) : Int32)), .int (1 <<< (x6 &&& 31) : Int32), .int (-1)])), .inr (.inl [some 61, none, none, none, none, none, none, none, none, none])]), 0, 0) := by
        refine me (d := 7) g_Jx4a65c_get_915e3 (Nat.le_of_ble_eq_true rfl) ?_
        refine rr rfl (s_iload_n rfl) ?_
        refine rr rfl (s_aload_n rfl) ?_
        refine rr rfl (s_getf rfl rfl) ?_
        have e16 : a_m MT [] 100000 7 miJ15_checkIndex_7cf53 [.int 0, .int 1] ((hF.set 3 (.inr (.inr (0, [.int 1, .ref 62, .int 1])))) ++ [.inr (.inr (2, [.int x1, .int x2, .int x3, .int x4, .int x4, .int x6, .int x7, .int ((1 <<< (x4 &&& 31) : Int32) ||| (1 <<< (x4 &&& 31) : Int32)), .int (1 <<< (x6 &&& 31) : Int32), .int (-1)])), .inr (.inl [some 61, none, none, none, none, none, none, none, none, none])]) = some ((some (.int 0)), ((hF.set 3 (.inr (.inr (0, [.int 1, .ref 62, .int 1])))) ++ [.inr (.inr (2, [.int x1, .int x2, .int x3, .int x4, .int x4, .int x6, .int x7, .int ((1 <<< (x4 &&& 31) : Int32) ||| (1 <<< (x4 &&& 31) : Int32)), .int (1 <<< (x6 &&& 31) : Int32), .int (-1)])), .inr (.inl [some 61, none, none, none, none, none, none, none, none, none])]), 0, 0) := by
          refine me (d := 6) g_J15_checkIndex_7cf53 (Nat.le_of_ble_eq_true rfl) ?_
          refine rr rfl (s_iload_n rfl) ?_
          refine rr rfl (s_iload_n rfl) ?_
          refine rr rfl rfl ?_
          have e17 : a_m MT [] 100000 6 miJ3_checkIndex_8e157 [.int 0, .int 1, .null] ((hF.set 3 (.inr (.inr (0, [.int 1, .ref 62, .int 1])))) ++ [.inr (.inr (2, [.int x1, .int x2, .int x3, .int x4, .int x4, .int x6, .int x7, .int ((1 <<< (x4 &&& 31) : Int32) ||| (1 <<< (x4 &&& 31) : Int32)), .int (1 <<< (x6 &&& 31) : Int32), .int (-1)])), .inr (.inl [some 61, none, none, none, none, none, none, none, none, none])]) = some ((some (.int 0)), ((hF.set 3 (.inr (.inr (0, [.int 1, .ref 62, .int 1])))) ++ [.inr (.inr (2, [.int x1, .int x2, .int x3, .int x4, .int x4, .int x6, .int x7, .int ((1 <<< (x4 &&& 31) : Int32) ||| (1 <<< (x4 &&& 31) : Int32)), .int (1 <<< (x6 &&& 31) : Int32), .int (-1)])), .inr (.inl [some 61, none, none, none, none, none, none, none, none, none])]), 0, 0) := by
            refine me (d := 5) g_J3_checkIndex_8e157 (Nat.le_of_ble_eq_true rfl) ?_
            refine rr rfl (s_iload_n rfl) ?_
            refine rr rfl (s_ifF (by decide)) ?_
            refine rr rfl (s_iload_n rfl) ?_
            refine rr rfl (s_iload_n rfl) ?_
            refine rr rfl (s_icT (by decide)) ?_
            refine rr rfl (s_iload_n rfl) ?_
            exact rrt rfl rfl rfl rfl
          refine rrc rfl rfl rfl (do_of g_J3_checkIndex_8e157 rfl rfl e17) ?_
          exact rrt rfl rfl rfl rfl
        refine rrc rfl rfl rfl (do_of g_J15_checkIndex_7cf53 rfl rfl e16) ?_
        refine rr rfl rfl ?_
        refine rr rfl (s_aload_n rfl) ?_
        refine rr rfl (s_iload_n rfl) ?_
        have e18 : a_m MT [] 100000 7 miJx4a65c_elementData_915e3 [.ref 3, .int 0] ((hF.set 3 (.inr (.inr (0, [.int 1, .ref 62, .int 1])))) ++ [.inr (.inr (2, [.int x1, .int x2, .int x3, .int x4, .int x4, .int x6, .int x7, .int ((1 <<< (x4 &&& 31) : Int32) ||| (1 <<< (x4 &&& 31) : Int32)), .int (1 <<< (x6 &&& 31) : Int32), .int (-1)])), .inr (.inl [some 61, none, none, none, none, none, none, none, none, none])]) = some ((some (.ref 61)), ((hF.set 3 (.inr (.inr (0, [.int 1, .ref 62, .int 1])))) ++ [.inr (.inr (2, [.int x1, .int x2, .int x3, .int x4, .int x4, .int x6, .int x7, .int ((1 <<< (x4 &&& 31) : Int32) ||| (1 <<< (x4 &&& 31) : Int32)), .int (1 <<< (x6 &&& 31) : Int32), .int (-1)])), .inr (.inl [some 61, none, none, none, none, none, none, none, none, none])]), 0, 0) := by
          refine me (d := 6) g_Jx4a65c_elementData_915e3 (Nat.le_of_ble_eq_true rfl) ?_
          refine rr rfl (s_aload_n rfl) ?_
          refine rr rfl (s_getf rfl rfl) ?_
          refine rr rfl (s_iload_n rfl) ?_
          refine rr rfl (s_aaload (j := 0) (z := 61) rfl rfl rfl) ?_
          exact rrt rfl rfl rfl rfl
        refine rrc rfl rfl rfl (do_of g_Jx4a65c_elementData_915e3 rfl rfl e18) ?_
        exact rrt rfl rfl rfl rfl
      refine rrc rfl rfl rfl (do_of g_Jx4a65c_get_915e3 rfl rfl e15) ?_
      refine rr rfl rfl ?_
      have e19 : a_m MT [] 100000 8 miX2_isSpare [.ref 61] ((hF.set 3 (.inr (.inr (0, [.int 1, .ref 62, .int 1])))) ++ [.inr (.inr (2, [.int x1, .int x2, .int x3, .int x4, .int x4, .int x6, .int x7, .int ((1 <<< (x4 &&& 31) : Int32) ||| (1 <<< (x4 &&& 31) : Int32)), .int (1 <<< (x6 &&& 31) : Int32), .int (-1)])), .inr (.inl [some 61, none, none, none, none, none, none, none, none, none])]) = some ((some (.int 0)), ((hF.set 3 (.inr (.inr (0, [.int 1, .ref 62, .int 1])))) ++ [.inr (.inr (2, [.int x1, .int x2, .int x3, .int x4, .int x4, .int x6, .int x7, .int ((1 <<< (x4 &&& 31) : Int32) ||| (1 <<< (x4 &&& 31) : Int32)), .int (1 <<< (x6 &&& 31) : Int32), .int (-1)])), .inr (.inl [some 61, none, none, none, none, none, none, none, none, none])]), 0, 0) := by
        refine me (d := 7) g_X2_isSpare (Nat.le_of_ble_eq_true rfl) ?_
        refine rr rfl (s_aload_n rfl) ?_
        refine rr rfl (s_getf rfl rfl) ?_
        refine rr rfl (s_iconst (v := (-1)) (by decide)) ?_
        refine rr rfl (s_icT (by decide)) ?_
        refine rr rfl (s_iconst (v := 0) (by decide)) ?_
        exact rrt rfl rfl rfl rfl
      refine rrc rfl rfl rfl (do_of g_X2_isSpare rfl rfl e19) ?_
      refine rr rfl (s_ifF (by decide)) ?_
      refine rr rfl (s_iload_n rfl) ?_
      refine rr rfl (s_iconst (v := 1) (by decide)) ?_
      refine rr rfl (s_iload_n rfl) ?_
      refine rr rfl (s_ishl (v := 1) (by decide)) ?_
      refine rr rfl (s_ior (v := 1) (by decide)) ?_
      refine rr rfl (s_istore_n rfl) ?_
      refine rr rfl (s_iinc (v := 1) rfl (by decide) rfl) ?_
      refine rr rfl s_goto ?_
      refine rr rfl (s_iload_n rfl) ?_
      refine rr rfl (s_aload_n rfl) ?_
      refine rr rfl (s_getf rfl rfl) ?_
      have e20 : a_m MT [] 100000 8 miJx4a65c_size_8abf5 [.ref 3] ((hF.set 3 (.inr (.inr (0, [.int 1, .ref 62, .int 1])))) ++ [.inr (.inr (2, [.int x1, .int x2, .int x3, .int x4, .int x4, .int x6, .int x7, .int ((1 <<< (x4 &&& 31) : Int32) ||| (1 <<< (x4 &&& 31) : Int32)), .int (1 <<< (x6 &&& 31) : Int32), .int (-1)])), .inr (.inl [some 61, none, none, none, none, none, none, none, none, none])]) = some ((some (.int 1)), ((hF.set 3 (.inr (.inr (0, [.int 1, .ref 62, .int 1])))) ++ [.inr (.inr (2, [.int x1, .int x2, .int x3, .int x4, .int x4, .int x6, .int x7, .int ((1 <<< (x4 &&& 31) : Int32) ||| (1 <<< (x4 &&& 31) : Int32)), .int (1 <<< (x6 &&& 31) : Int32), .int (-1)])), .inr (.inl [some 61, none, none, none, none, none, none, none, none, none])]), 0, 0) := by
        refine me (d := 7) g_Jx4a65c_size_8abf5 (Nat.le_of_ble_eq_true rfl) ?_
        refine rr rfl (s_aload_n rfl) ?_
        refine rr rfl (s_getf rfl rfl) ?_
        exact rrt rfl rfl rfl rfl
      refine rrc rfl rfl rfl (do_of g_Jx4a65c_size_8abf5 rfl rfl e20) ?_
      refine rr rfl (s_icT (by decide)) ?_
      refine rr rfl (s_iload_n rfl) ?_
      exact rrt rfl rfl rfl rfl
    refine rrc rfl rfl rfl (do_of g_X3_notSpare rfl rfl e13) ?_
    have e21 : a_m MT [] 100000 9 miX6_countOnly [.ref 6, .int 1] ((hF.set 3 (.inr (.inr (0, [.int 1, .ref 62, .int 1])))) ++ [.inr (.inr (2, [.int x1, .int x2, .int x3, .int x4, .int x4, .int x6, .int x7, .int ((1 <<< (x4 &&& 31) : Int32) ||| (1 <<< (x4 &&& 31) : Int32)), .int (1 <<< (x6 &&& 31) : Int32), .int (-1)])), .inr (.inl [some 61, none, none, none, none, none, none, none, none, none])]) = some (none, (((hF.set 3 (.inr (.inr (0, [.int 1, .ref 62, .int 1])))).set 6 (.inr (.inr (6, [.ref 2, .ref 7, .ref 8, .ref 9, .int 1])))) ++ [.inr (.inr (2, [.int x1, .int x2, .int x3, .int x4, .int x4, .int x6, .int x7, .int ((1 <<< (x4 &&& 31) : Int32) ||| (1 <<< (x4 &&& 31) : Int32)), .int (1 <<< (x6 &&& 31) : Int32), .int (-1)])), .inr (.inl [some 61, none, none, none, none, none, none, none, none, none])]), 0, 0) := by
      refine me (d := 8) g_X6_countOnly (Nat.le_of_ble_eq_true rfl) ?_
      refine rr rfl (s_aload_n rfl) ?_
      refine rr rfl (s_iload_n rfl) ?_
      refine rr rfl (s_putf rfl rfl (Nat.le_of_ble_eq_true rfl) rfl (Nat.le_of_ble_eq_true rfl) rfl (h' := (((hF.set 3 (.inr (.inr (0, [.int 1, .ref 62, .int 1])))).set 6 (.inr (.inr (6, [.ref 2, .ref 7, .ref 8, .ref 9, .int 1])))) ++ [.inr (.inr (2, [.int x1, .int x2, .int x3, .int x4, .int x4, .int x6, .int x7, .int ((1 <<< (x4 &&& 31) : Int32) ||| (1 <<< (x4 &&& 31) : Int32)), .int (1 <<< (x6 &&& 31) : Int32), .int (-1)])), .inr (.inl [some 61, none, none, none, none, none, none, none, none, none])]))) ?_
      refine rr rfl (s_aload_n rfl) ?_
      refine rr rfl (s_getf rfl rfl) ?_
      refine rr rfl (s_iconst (v := (-1)) (by decide)) ?_
      have e22 : a_m MT [] 100000 8 miJ7_fill_53178 [.ref 7, .int (-1)] (((hF.set 3 (.inr (.inr (0, [.int 1, .ref 62, .int 1])))).set 6 (.inr (.inr (6, [.ref 2, .ref 7, .ref 8, .ref 9, .int 1])))) ++ [.inr (.inr (2, [.int x1, .int x2, .int x3, .int x4, .int x4, .int x6, .int x7, .int ((1 <<< (x4 &&& 31) : Int32) ||| (1 <<< (x4 &&& 31) : Int32)), .int (1 <<< (x6 &&& 31) : Int32), .int (-1)])), .inr (.inl [some 61, none, none, none, none, none, none, none, none, none])]) = some (none, (((hF.set 3 (.inr (.inr (0, [.int 1, .ref 62, .int 1])))).set 6 (.inr (.inr (6, [.ref 2, .ref 7, .ref 8, .ref 9, .int 1])))) ++ [.inr (.inr (2, [.int x1, .int x2, .int x3, .int x4, .int x4, .int x6, .int x7, .int ((1 <<< (x4 &&& 31) : Int32) ||| (1 <<< (x4 &&& 31) : Int32)), .int (1 <<< (x6 &&& 31) : Int32), .int (-1)])), .inr (.inl [some 61, none, none, none, none, none, none, none, none, none])]), 0, 0) := fill_n rfl (Nat.le_of_ble_eq_true rfl) rfl
      refine rrc rfl rfl rfl (do_of g_J7_fill_53178 rfl rfl e22) ?_
      exact rrt rfl rfl rfl rfl
    refine rrc rfl rfl rfl (do_of g_X6_countOnly rfl rfl e21) ?_
    refine rr rfl (s_aload_n rfl) ?_
    have e23 : a_m MT [] 100000 9 miX8_forgetRuns [.ref 0] (((hF.set 3 (.inr (.inr (0, [.int 1, .ref 62, .int 1])))).set 6 (.inr (.inr (6, [.ref 2, .ref 7, .ref 8, .ref 9, .int 1])))) ++ [.inr (.inr (2, [.int x1, .int x2, .int x3, .int x4, .int x4, .int x6, .int x7, .int ((1 <<< (x4 &&& 31) : Int32) ||| (1 <<< (x4 &&& 31) : Int32)), .int (1 <<< (x6 &&& 31) : Int32), .int (-1)])), .inr (.inl [some 61, none, none, none, none, none, none, none, none, none])]) = some (none, (((hF.set 3 (.inr (.inr (0, [.int 1, .ref 62, .int 1])))).set 6 (.inr (.inr (6, [.ref 2, .ref 7, .ref 8, .ref 9, .int 1])))) ++ [.inr (.inr (2, [.int x1, .int x2, .int x3, .int x4, .int x4, .int x6, .int x7, .int ((1 <<< (x4 &&& 31) : Int32) ||| (1 <<< (x4 &&& 31) : Int32)), .int (1 <<< (x6 &&& 31) : Int32), .int (-1)])), .inr (.inl [some 61, none, none, none, none, none, none, none, none, none])]), 0, 0) := by
      refine me (d := 8) g_X8_forgetRuns (Nat.le_of_ble_eq_true rfl) ?_
      refine rr rfl (s_aload_n rfl) ?_
      refine rr rfl (s_iconst (v := 0) (by decide)) ?_
      refine rr rfl (s_putf rfl rfl (Nat.le_of_ble_eq_true rfl) rfl (Nat.le_of_ble_eq_true rfl) rfl (h' := (((hF.set 3 (.inr (.inr (0, [.int 1, .ref 62, .int 1])))).set 6 (.inr (.inr (6, [.ref 2, .ref 7, .ref 8, .ref 9, .int 1])))) ++ [.inr (.inr (2, [.int x1, .int x2, .int x3, .int x4, .int x4, .int x6, .int x7, .int ((1 <<< (x4 &&& 31) : Int32) ||| (1 <<< (x4 &&& 31) : Int32)), .int (1 <<< (x6 &&& 31) : Int32), .int (-1)])), .inr (.inl [some 61, none, none, none, none, none, none, none, none, none])]))) ?_
      refine rr rfl (s_aload_n rfl) ?_
      refine rr rfl (s_getf rfl rfl) ?_
      refine rr rfl (s_iconst (v := 0) (by decide)) ?_
      refine rr rfl (s_putf rfl rfl (Nat.le_of_ble_eq_true rfl) rfl (Nat.le_of_ble_eq_true rfl) rfl (h' := (((hF.set 3 (.inr (.inr (0, [.int 1, .ref 62, .int 1])))).set 6 (.inr (.inr (6, [.ref 2, .ref 7, .ref 8, .ref 9, .int 1])))) ++ [.inr (.inr (2, [.int x1, .int x2, .int x3, .int x4, .int x4, .int x6, .int x7, .int ((1 <<< (x4 &&& 31) : Int32) ||| (1 <<< (x4 &&& 31) : Int32)), .int (1 <<< (x6 &&& 31) : Int32), .int (-1)])), .inr (.inl [some 61, none, none, none, none, none, none, none, none, none])]))) ?_
      exact rrt rfl rfl rfl rfl
    refine rrc rfl rfl rfl (do_of g_X8_forgetRuns rfl rfl e23) ?_
    exact rrt rfl rfl rfl rfl
  refine rrc rfl rfl rfl (do_of g_X8_forgetRules rfl rfl e12) ?_
  refine rr rfl (s_aload_n rfl) ?_
  refine rr rfl (s_getf rfl rfl) ?_
  refine rr rfl (s_getf rfl rfl) ?_
  refine rr rfl (s_getf rfl rfl) ?_
  have e24 : a_m MT [] 100000 10 miJx4a65c_size_8abf5 [.ref 3] (((hF.set 3 (.inr (.inr (0, [.int 1, .ref 62, .int 1])))).set 6 (.inr (.inr (6, [.ref 2, .ref 7, .ref 8, .ref 9, .int 1])))) ++ [.inr (.inr (2, [.int x1, .int x2, .int x3, .int x4, .int x4, .int x6, .int x7, .int ((1 <<< (x4 &&& 31) : Int32) ||| (1 <<< (x4 &&& 31) : Int32)), .int (1 <<< (x6 &&& 31) : Int32), .int (-1)])), .inr (.inl [some 61, none, none, none, none, none, none, none, none, none])]) = some ((some (.int 1)), (((hF.set 3 (.inr (.inr (0, [.int 1, .ref 62, .int 1])))).set 6 (.inr (.inr (6, [.ref 2, .ref 7, .ref 8, .ref 9, .int 1])))) ++ [.inr (.inr (2, [.int x1, .int x2, .int x3, .int x4, .int x4, .int x6, .int x7, .int ((1 <<< (x4 &&& 31) : Int32) ||| (1 <<< (x4 &&& 31) : Int32)), .int (1 <<< (x6 &&& 31) : Int32), .int (-1)])), .inr (.inl [some 61, none, none, none, none, none, none, none, none, none])]), 0, 0) := by
    refine me (d := 9) g_Jx4a65c_size_8abf5 (Nat.le_of_ble_eq_true rfl) ?_
    refine rr rfl (s_aload_n rfl) ?_
    refine rr rfl (s_getf rfl rfl) ?_
    exact rrt rfl rfl rfl rfl
  refine rrc rfl rfl rfl (do_of g_Jx4a65c_size_8abf5 rfl rfl e24) ?_
  refine rr rfl (s_iconst (v := 1) (by decide)) ?_
  refine rr rfl (s_isub (v := 0) (by decide)) ?_
  exact rrt rfl rfl rfl rfl
set_option maxHeartbeats 4000000 in
set_option maxRecDepth 10000 in
theorem rx_Kim {x1 x2 x3 x4 x5 x6 x7 : Int32} (g1 : ¬ x5 = (-1)) (g2 : x6 = (-1)) (g3 : ¬ x2 = 0) : a_run MT [] (a_m MT [] 100000 10) 11 (some .int) tabX8_rule 90000 140 (alR x1 x2 x3 x4 x5 x6 x7) [] hF 0 0 = some (some (.int 0), (((hF.set 3 (.inr (.inr (0, [.int 1, .ref 62, .int 1])))).set 6 (.inr (.inr (6, [.ref 2, .ref 7, .ref 8, .ref 9, .int 1])))) ++ [.inr (.inr (2, [.int x1, .int x2, .int x3, .int x4, .int x5, .int x6, .int x7, .int ((1 <<< (x4 &&& 31) : Int32) ||| (1 <<< (x5 &&& 31) : Int32)), .int 0, .int (-1)])), .inr (.inl [some 61, none, none, none, none, none, none, none, none, none])]), 2, 20) := by
  refine rr rfl (s_new (q := 61) rfl rfl (h' := (hF ++ [.inr (.inr (2, [.int 0, .int 0, .int 0, .int 0, .int 0, .int 0, .int 0, .int 0, .int 0, .int 0]))]))) ?_
  refine rr rfl rfl ?_
  refine rr rfl (s_iload_n rfl) ?_
  refine rr rfl (s_iload_n rfl) ?_
  refine rr rfl (s_iload_n rfl) ?_
  refine rr rfl (s_iload rfl) ?_
  refine rr rfl (s_iload rfl) ?_
  refine rr rfl (s_iload rfl) ?_
  refine rr rfl (s_iload rfl) ?_
  have e1 : a_m MT [] 100000 10 miX2_init [.ref 61, .int x1, .int x2, .int x3, .int x4, .int x5, .int x6, .int x7] (hF ++ [.inr (.inr (2, [.int 0, .int 0, .int 0, .int 0, .int 0, .int 0, .int 0, .int 0, .int 0, .int 0]))]) = some (none, (hF ++ [.inr (.inr (2, [.int x1, .int x2, .int x3, .int x4, .int x5, .int x6, .int x7, .int ((1 <<< (x4 &&& 31) : Int32) ||| (1 <<< (x5 &&& 31) : Int32)), .int 0, .int (-1)]))]), 0, 0) := by
    refine me (d := 9) g_X2_init (Nat.le_of_ble_eq_true rfl) ?_
    refine rr rfl (s_aload_n rfl) ?_
    refine rr rfl rfl ?_
    refine rr rfl (s_aload_n rfl) ?_
    refine rr rfl (s_iconst (v := (-1)) (by decide)) ?_
    refine rr rfl (s_putf rfl rfl (Nat.le_of_ble_eq_true rfl) rfl (Nat.le_of_ble_eq_true rfl) rfl (h' := (hF ++ [.inr (.inr (2, [.int 0, .int 0, .int 0, .int 0, .int 0, .int 0, .int 0, .int 0, .int 0, .int (-1)]))]))) ?_
    refine rr rfl (s_aload_n rfl) ?_
    refine rr rfl (s_iload_n rfl) ?_
    refine rr rfl (s_putf rfl rfl (Nat.le_of_ble_eq_true rfl) rfl (Nat.le_of_ble_eq_true rfl) rfl (h' := (hF ++ [.inr (.inr (2, [.int x1, .int 0, .int 0, .int 0, .int 0, .int 0, .int 0, .int 0, .int 0, .int (-1)]))]))) ?_
    refine rr rfl (s_aload_n rfl) ?_
    refine rr rfl (s_iload_n rfl) ?_
    refine rr rfl (s_putf rfl rfl (Nat.le_of_ble_eq_true rfl) rfl (Nat.le_of_ble_eq_true rfl) rfl (h' := (hF ++ [.inr (.inr (2, [.int x1, .int x2, .int 0, .int 0, .int 0, .int 0, .int 0, .int 0, .int 0, .int (-1)]))]))) ?_
    refine rr rfl (s_aload_n rfl) ?_
    refine rr rfl (s_iload_n rfl) ?_
    refine rr rfl (s_putf rfl rfl (Nat.le_of_ble_eq_true rfl) rfl (Nat.le_of_ble_eq_true rfl) rfl (h' := (hF ++ [.inr (.inr (2, [.int x1, .int x2, .int x3, .int 0, .int 0, .int 0, .int 0, .int 0, .int 0, .int (-1)]))]))) ?_
    refine rr rfl (s_aload_n rfl) ?_
    refine rr rfl (s_iload rfl) ?_
    refine rr rfl (s_putf rfl rfl (Nat.le_of_ble_eq_true rfl) rfl (Nat.le_of_ble_eq_true rfl) rfl (h' := (hF ++ [.inr (.inr (2, [.int x1, .int x2, .int x3, .int x4, .int 0, .int 0, .int 0, .int 0, .int 0, .int (-1)]))]))) ?_
    refine rr rfl (s_aload_n rfl) ?_
    refine rr rfl (s_iload rfl) ?_
    refine rr rfl (s_iconst (v := (-1)) (by decide)) ?_
    refine rr rfl (s_icT (ic_ne g1)) ?_
    refine rr rfl (s_iload rfl) ?_
    refine rr rfl (s_putf rfl rfl (Nat.le_of_ble_eq_true rfl) rfl (Nat.le_of_ble_eq_true rfl) rfl (h' := (hF ++ [.inr (.inr (2, [.int x1, .int x2, .int x3, .int x4, .int x5, .int 0, .int 0, .int 0, .int 0, .int (-1)]))]))) ?_
    refine rr rfl (s_aload_n rfl) ?_
    refine rr rfl (s_iload rfl) ?_
    refine rr rfl (s_putf rfl rfl (Nat.le_of_ble_eq_true rfl) rfl (Nat.le_of_ble_eq_true rfl) rfl (h' := (hF ++ [.inr (.inr (2, [.int x1, .int x2, .int x3, .int x4, .int x5, .int x6, .int 0, .int 0, .int 0, .int (-1)]))]))) ?_
    refine rr rfl (s_aload_n rfl) ?_
    refine rr rfl (s_iload rfl) ?_
    refine rr rfl (s_putf rfl rfl (Nat.le_of_ble_eq_true rfl) rfl (Nat.le_of_ble_eq_true rfl) rfl (h' := (hF ++ [.inr (.inr (2, [.int x1, .int x2, .int x3, .int x4, .int x5, .int x6, .int x7, .int 0, .int 0, .int (-1)]))]))) ?_
    refine rr rfl (s_aload_n rfl) ?_
    refine rr rfl (s_iconst (v := 1) (by decide)) ?_
    refine rr rfl (s_aload_n rfl) ?_
    refine rr rfl (s_getf rfl rfl) ?_
    refine rr rfl (s_ishl (v := (1 <<< (x4 &&& 31) : Int32)) rfl) ?_
    refine rr rfl (s_iconst (v := 1) (by decide)) ?_
    refine rr rfl (s_aload_n rfl) ?_
    refine rr rfl (s_getf rfl rfl) ?_
    refine rr rfl (s_ishl (v := (1 <<< (x5 &&& 31) : Int32)) rfl) ?_
    refine rr rfl (s_ior (v := ((1 <<< (x4 &&& 31) : Int32) ||| (1 <<< (x5 &&& 31) : Int32))) rfl) ?_
    refine rr rfl (s_putf rfl rfl (Nat.le_of_ble_eq_true rfl) rfl (Nat.le_of_ble_eq_true rfl) rfl (h' := (hF ++ [.inr (.inr (2, [.int x1, .int x2, .int x3, .int x4, .int x5, .int x6, .int x7, .int ((1 <<< (x4 &&& 31) : Int32) ||| (1 <<< (x5 &&& 31) : Int32)), .int 0, .int (-1)]))]))) ?_
    refine rr rfl (s_aload_n rfl) ?_
    refine rr rfl (s_iload rfl) ?_
    refine rr rfl (s_iconst (v := (-1)) (by decide)) ?_
    refine rr rfl (s_icF (ic_nne g2)) ?_
    refine rr rfl (s_iconst (v := 0) (by decide)) ?_
    refine rr rfl s_goto ?_
    refine rr rfl (s_putf rfl rfl (Nat.le_of_ble_eq_true rfl) rfl (Nat.le_of_ble_eq_true rfl) rfl (h' := (hF ++ [.inr (.inr (2, [.int x1, .int x2, .int x3, .int x4, .int x5, .int x6, .int x7, .int ((1 <<< (x4 &&& 31) : Int32) ||| (1 <<< (x5 &&& 31) : Int32)), .int 0, .int (-1)]))]))) ?_
    exact rrt rfl rfl rfl rfl
  refine rrc rfl rfl rfl (do_of g_X2_init rfl rfl e1) ?_
  refine rr rfl (s_astore rfl) ?_
  refine rr rfl (s_aload_n rfl) ?_
  refine rr rfl (s_getf rfl rfl) ?_
  refine rr rfl (s_getf rfl rfl) ?_
  refine rr rfl (s_aload rfl) ?_
  have e2 : a_m MT [] 100000 10 miX3_hasLayersWith [.ref 2, .ref 61] (hF ++ [.inr (.inr (2, [.int x1, .int x2, .int x3, .int x4, .int x5, .int x6, .int x7, .int ((1 <<< (x4 &&& 31) : Int32) ||| (1 <<< (x5 &&& 31) : Int32)), .int 0, .int (-1)]))]) = some ((some (.int 1)), (hF ++ [.inr (.inr (2, [.int x1, .int x2, .int x3, .int x4, .int x5, .int x6, .int x7, .int ((1 <<< (x4 &&& 31) : Int32) ||| (1 <<< (x5 &&& 31) : Int32)), .int 0, .int (-1)]))]), 0, 0) := by
    refine me (d := 9) g_X3_hasLayersWith (Nat.le_of_ble_eq_true rfl) ?_
    refine rr rfl (s_aload_n rfl) ?_
    refine rr rfl (s_getf rfl rfl) ?_
    refine rr rfl (s_iconst (v := 0) (by decide)) ?_
    have e3 : a_m MT [] 100000 9 miJ7_fill_53178 [.ref 5, .int 0] (hF ++ [.inr (.inr (2, [.int x1, .int x2, .int x3, .int x4, .int x5, .int x6, .int x7, .int ((1 <<< (x4 &&& 31) : Int32) ||| (1 <<< (x5 &&& 31) : Int32)), .int 0, .int (-1)]))]) = some (none, (hF ++ [.inr (.inr (2, [.int x1, .int x2, .int x3, .int x4, .int x5, .int x6, .int x7, .int ((1 <<< (x4 &&& 31) : Int32) ||| (1 <<< (x5 &&& 31) : Int32)), .int 0, .int (-1)]))]), 0, 0) := fill_n rfl (Nat.le_of_ble_eq_true rfl) rfl
    refine rrc rfl rfl rfl (do_of g_J7_fill_53178 rfl rfl e3) ?_
    refine rr rfl (s_iconst (v := 1) (by decide)) ?_
    refine rr rfl (s_istore_n rfl) ?_
    refine rr rfl (s_iconst (v := 0) (by decide)) ?_
    refine rr rfl (s_istore_n rfl) ?_
    refine rr rfl (s_iload_n rfl) ?_
    refine rr rfl (s_ifF (by decide)) ?_
    refine rr rfl (s_iload_n rfl) ?_
    refine rr rfl (s_bipush (v := 8) (by decide)) ?_
    refine rr rfl (s_icF (by decide)) ?_
    refine rr rfl (s_aload_n rfl) ?_
    refine rr rfl (s_aload_n rfl) ?_
    have e4 : a_m MT [] 100000 9 miX3_lift [.ref 2, .ref 61] (hF ++ [.inr (.inr (2, [.int x1, .int x2, .int x3, .int x4, .int x5, .int x6, .int x7, .int ((1 <<< (x4 &&& 31) : Int32) ||| (1 <<< (x5 &&& 31) : Int32)), .int 0, .int (-1)]))]) = some ((some (.int 0)), (hF ++ [.inr (.inr (2, [.int x1, .int x2, .int x3, .int x4, .int x5, .int x6, .int x7, .int ((1 <<< (x4 &&& 31) : Int32) ||| (1 <<< (x5 &&& 31) : Int32)), .int 0, .int (-1)]))]), 0, 0) := by
      refine me (d := 8) g_X3_lift (Nat.le_of_ble_eq_true rfl) ?_
      refine rr rfl (s_aload_n rfl) ?_
      refine rr rfl (s_getf rfl rfl) ?_
      refine rr rfl (s_ifF (ic_neq g3)) ?_
      refine rr rfl (s_iconst (v := 0) (by decide)) ?_
      exact rrt rfl rfl rfl rfl
    refine rrc rfl rfl rfl (do_of g_X3_lift rfl rfl e4) ?_
    refine rr rfl (s_istore_n rfl) ?_
    refine rr rfl (s_iconst (v := 0) (by decide)) ?_
    refine rr rfl (s_istore rfl) ?_
    refine rr rfl (s_iload rfl) ?_
    refine rr rfl (s_aload_n rfl) ?_
    refine rr rfl (s_getf rfl rfl) ?_
    have e5 : a_m MT [] 100000 9 miJx4a65c_size_8abf5 [.ref 3] (hF ++ [.inr (.inr (2, [.int x1, .int x2, .int x3, .int x4, .int x5, .int x6, .int x7, .int ((1 <<< (x4 &&& 31) : Int32) ||| (1 <<< (x5 &&& 31) : Int32)), .int 0, .int (-1)]))]) = some ((some (.int 0)), (hF ++ [.inr (.inr (2, [.int x1, .int x2, .int x3, .int x4, .int x5, .int x6, .int x7, .int ((1 <<< (x4 &&& 31) : Int32) ||| (1 <<< (x5 &&& 31) : Int32)), .int 0, .int (-1)]))]), 0, 0) := by
      refine me (d := 8) g_Jx4a65c_size_8abf5 (Nat.le_of_ble_eq_true rfl) ?_
      refine rr rfl (s_aload_n rfl) ?_
      refine rr rfl (s_getf rfl rfl) ?_
      exact rrt rfl rfl rfl rfl
    refine rrc rfl rfl rfl (do_of g_Jx4a65c_size_8abf5 rfl rfl e5) ?_
    refine rr rfl (s_icT (by decide)) ?_
    refine rr rfl (s_iinc (v := 1) rfl (by decide) rfl) ?_
    refine rr rfl s_goto ?_
    refine rr rfl (s_iload_n rfl) ?_
    refine rr rfl (s_ifT (by decide)) ?_
    refine rr rfl (s_iload_n rfl) ?_
    refine rr rfl (s_ifF (by decide)) ?_
    refine rr rfl (s_iconst (v := 1) (by decide)) ?_
    refine rr rfl s_goto ?_
    exact rrt rfl rfl rfl rfl
  refine rrc rfl rfl rfl (do_of g_X3_hasLayersWith rfl rfl e2) ?_
  refine rr rfl (s_ifT (by decide)) ?_
  refine rr rfl (s_aload_n rfl) ?_
  refine rr rfl (s_getf rfl rfl) ?_
  refine rr rfl (s_getf rfl rfl) ?_
  refine rr rfl (s_getf rfl rfl) ?_
  have e6 : a_m MT [] 100000 10 miJx4a65c_size_8abf5 [.ref 3] (hF ++ [.inr (.inr (2, [.int x1, .int x2, .int x3, .int x4, .int x5, .int x6, .int x7, .int ((1 <<< (x4 &&& 31) : Int32) ||| (1 <<< (x5 &&& 31) : Int32)), .int 0, .int (-1)]))]) = some ((some (.int 0)), (hF ++ [.inr (.inr (2, [.int x1, .int x2, .int x3, .int x4, .int x5, .int x6, .int x7, .int ((1 <<< (x4 &&& 31) : Int32) ||| (1 <<< (x5 &&& 31) : Int32)), .int 0, .int (-1)]))]), 0, 0) := by
    refine me (d := 9) g_Jx4a65c_size_8abf5 (Nat.le_of_ble_eq_true rfl) ?_
    refine rr rfl (s_aload_n rfl) ?_
    refine rr rfl (s_getf rfl rfl) ?_
    exact rrt rfl rfl rfl rfl
  refine rrc rfl rfl rfl (do_of g_Jx4a65c_size_8abf5 rfl rfl e6) ?_
  refine rr rfl (s_bipush (v := 12) (by decide)) ?_
  refine rr rfl (s_icT (by decide)) ?_
  refine rr rfl (s_aload_n rfl) ?_
  refine rr rfl (s_getf rfl rfl) ?_
  refine rr rfl (s_getf rfl rfl) ?_
  refine rr rfl (s_aload rfl) ?_
  have e7 : a_m MT [] 100000 10 miX3_take [.ref 2, .ref 61] (hF ++ [.inr (.inr (2, [.int x1, .int x2, .int x3, .int x4, .int x5, .int x6, .int x7, .int ((1 <<< (x4 &&& 31) : Int32) ||| (1 <<< (x5 &&& 31) : Int32)), .int 0, .int (-1)]))]) = some (none, ((hF.set 3 (.inr (.inr (0, [.int 1, .ref 62, .int 1])))) ++ [.inr (.inr (2, [.int x1, .int x2, .int x3, .int x4, .int x5, .int x6, .int x7, .int ((1 <<< (x4 &&& 31) : Int32) ||| (1 <<< (x5 &&& 31) : Int32)), .int 0, .int (-1)])), .inr (.inl [some 61, none, none, none, none, none, none, none, none, none])]), 1, 10) := by
    refine me (d := 9) g_X3_take (Nat.le_of_ble_eq_true rfl) ?_
    refine rr rfl (s_aload_n rfl) ?_
    refine rr rfl (s_getf rfl rfl) ?_
    refine rr rfl (s_aload_n rfl) ?_
    have e8 : a_m MT [] 100000 9 miJx4a65c_add_9ea2d [.ref 3, .ref 61] (hF ++ [.inr (.inr (2, [.int x1, .int x2, .int x3, .int x4, .int x5, .int x6, .int x7, .int ((1 <<< (x4 &&& 31) : Int32) ||| (1 <<< (x5 &&& 31) : Int32)), .int 0, .int (-1)]))]) = some ((some (.int 1)), ((hF.set 3 (.inr (.inr (0, [.int 1, .ref 62, .int 1])))) ++ [.inr (.inr (2, [.int x1, .int x2, .int x3, .int x4, .int x5, .int x6, .int x7, .int ((1 <<< (x4 &&& 31) : Int32) ||| (1 <<< (x5 &&& 31) : Int32)), .int 0, .int (-1)])), .inr (.inl [some 61, none, none, none, none, none, none, none, none, none])]), 1, 10) := by
      refine me (d := 8) g_Jx4a65c_add_9ea2d (Nat.le_of_ble_eq_true rfl) ?_
      refine rr rfl (s_aload_n rfl) ?_
      refine rr rfl rfl ?_
      refine rr rfl (s_getf rfl rfl) ?_
      refine rr rfl (s_iconst (v := 1) (by decide)) ?_
      refine rr rfl (s_iadd (v := 1) (by decide)) ?_
      refine rr rfl (s_putf rfl rfl (Nat.le_of_ble_eq_true rfl) rfl (Nat.le_of_ble_eq_true rfl) rfl (h' := ((hF.set 3 (.inr (.inr (0, [.int 1, .long 0, .int 0])))) ++ [.inr (.inr (2, [.int x1, .int x2, .int x3, .int x4, .int x5, .int x6, .int x7, .int ((1 <<< (x4 &&& 31) : Int32) ||| (1 <<< (x5 &&& 31) : Int32)), .int 0, .int (-1)]))]))) ?_
      refine rr rfl (s_aload_n rfl) ?_
      refine rr rfl (s_aload_n rfl) ?_
      refine rr rfl (s_aload_n rfl) ?_
      refine rr rfl (s_getf rfl rfl) ?_
      refine rr rfl (s_aload_n rfl) ?_
      refine rr rfl (s_getf rfl rfl) ?_
      have e9 : a_m MT [] 100000 8 miJx4a65c_add_72be8 [.ref 3, .ref 61, .long 0, .int 0] ((hF.set 3 (.inr (.inr (0, [.int 1, .long 0, .int 0])))) ++ [.inr (.inr (2, [.int x1, .int x2, .int x3, .int x4, .int x5, .int x6, .int x7, .int ((1 <<< (x4 &&& 31) : Int32) ||| (1 <<< (x5 &&& 31) : Int32)), .int 0, .int (-1)]))]) = some (none, ((hF.set 3 (.inr (.inr (0, [.int 1, .ref 62, .int 1])))) ++ [.inr (.inr (2, [.int x1, .int x2, .int x3, .int x4, .int x5, .int x6, .int x7, .int ((1 <<< (x4 &&& 31) : Int32) ||| (1 <<< (x5 &&& 31) : Int32)), .int 0, .int (-1)])), .inr (.inl [some 61, none, none, none, none, none, none, none, none, none])]), 1, 10) := by
        refine me (d := 7) g_Jx4a65c_add_72be8 (Nat.le_of_ble_eq_true rfl) ?_
        refine rr rfl (s_iload_n rfl) ?_
        refine rr rfl (s_aloadL rfl) ?_
        refine rr rfl (s_alen0) ?_
        refine rr rfl (s_icF (by decide)) ?_
        refine rr rfl (s_aload_n rfl) ?_
        have e10 : a_m MT [] 100000 7 miJx4a65c_grow_d5877 [.ref 3] ((hF.set 3 (.inr (.inr (0, [.int 1, .long 0, .int 0])))) ++ [.inr (.inr (2, [.int x1, .int x2, .int x3, .int x4, .int x5, .int x6, .int x7, .int ((1 <<< (x4 &&& 31) : Int32) ||| (1 <<< (x5 &&& 31) : Int32)), .int 0, .int (-1)]))]) = some ((some (.ref 62)), ((hF.set 3 (.inr (.inr (0, [.int 1, .ref 62, .int 0])))) ++ [.inr (.inr (2, [.int x1, .int x2, .int x3, .int x4, .int x5, .int x6, .int x7, .int ((1 <<< (x4 &&& 31) : Int32) ||| (1 <<< (x5 &&& 31) : Int32)), .int 0, .int (-1)])), .inr (.inl (List.replicate 10 none))]), 1, 10) := by
          refine me (d := 6) g_Jx4a65c_grow_d5877 (Nat.le_of_ble_eq_true rfl) ?_
          refine rr rfl (s_aload_n rfl) ?_
          refine rr rfl (s_aload_n rfl) ?_
          refine rr rfl (s_getf rfl rfl) ?_
          refine rr rfl (s_iconst (v := 1) (by decide)) ?_
          refine rr rfl (s_iadd (v := 1) (by decide)) ?_
          have e11 : a_m MT [] 100000 6 miJx4a65c_grow_92f84 [.ref 3, .int 1] ((hF.set 3 (.inr (.inr (0, [.int 1, .long 0, .int 0])))) ++ [.inr (.inr (2, [.int x1, .int x2, .int x3, .int x4, .int x5, .int x6, .int x7, .int ((1 <<< (x4 &&& 31) : Int32) ||| (1 <<< (x5 &&& 31) : Int32)), .int 0, .int (-1)]))]) = some ((some (.ref 62)), ((hF.set 3 (.inr (.inr (0, [.int 1, .ref 62, .int 0])))) ++ [.inr (.inr (2, [.int x1, .int x2, .int x3, .int x4, .int x5, .int x6, .int x7, .int ((1 <<< (x4 &&& 31) : Int32) ||| (1 <<< (x5 &&& 31) : Int32)), .int 0, .int (-1)])), .inr (.inl (List.replicate 10 none))]), 1, 10) := by
            refine me (d := 5) g_Jx4a65c_grow_92f84 (Nat.le_of_ble_eq_true rfl) ?_
            refine rr rfl (s_aload_n rfl) ?_
            refine rr rfl (s_getf rfl rfl) ?_
            refine rr rfl (s_alen0) ?_
            refine rr rfl (s_istore_n rfl) ?_
            refine rr rfl (s_iload_n rfl) ?_
            refine rr rfl (s_ifF (by decide)) ?_
            refine rr rfl (s_aload_n rfl) ?_
            refine rr rfl (s_getf rfl rfl) ?_
            refine rr rfl rfl ?_
            refine rr rfl rfl ?_
            refine rr rfl (s_aload_n rfl) ?_
            refine rr rfl (s_bipush (v := 10) (by decide)) ?_
            refine rr rfl (s_iload_n rfl) ?_
            refine rr rfl (s_max (v := 10) rfl (Nat.le_of_ble_eq_true rfl) (by decide)) ?_
            refine rr rfl (s_anew (q := 62) (j := 10) rfl rfl rfl rfl (h' := ((hF.set 3 (.inr (.inr (0, [.int 1, .long 0, .int 0])))) ++ [.inr (.inr (2, [.int x1, .int x2, .int x3, .int x4, .int x5, .int x6, .int x7, .int ((1 <<< (x4 &&& 31) : Int32) ||| (1 <<< (x5 &&& 31) : Int32)), .int 0, .int (-1)])), .inr (.inl (List.replicate 10 none))]))) ?_
            refine rr rfl rfl ?_
            refine rr rfl (s_putf rfl rfl (Nat.le_of_ble_eq_true rfl) rfl (Nat.le_of_ble_eq_true rfl) rfl (h' := ((hF.set 3 (.inr (.inr (0, [.int 1, .ref 62, .int 0])))) ++ [.inr (.inr (2, [.int x1, .int x2, .int x3, .int x4, .int x5, .int x6, .int x7, .int ((1 <<< (x4 &&& 31) : Int32) ||| (1 <<< (x5 &&& 31) : Int32)), .int 0, .int (-1)])), .inr (.inl (List.replicate 10 none))]))) ?_
            exact rrt rfl rfl rfl rfl
          refine rrc rfl rfl rfl (do_of g_Jx4a65c_grow_92f84 rfl rfl e11) ?_
          exact rrt rfl rfl rfl rfl
        refine rrc rfl rfl rfl (do_of g_Jx4a65c_grow_d5877 rfl rfl e10) ?_
        refine rr rfl (s_astore_n rfl) ?_
        refine rr rfl (s_aload_n rfl) ?_
        refine rr rfl (s_iload_n rfl) ?_
        refine rr rfl (s_aload_n rfl) ?_
        refine rr rfl (s_aastore (j := 0) rfl rfl rfl (Nat.le_of_ble_eq_true rfl) rfl (Nat.le_of_ble_eq_true rfl) rfl (h' := ((hF.set 3 (.inr (.inr (0, [.int 1, .ref 62, .int 0])))) ++ [.inr (.inr (2, [.int x1, .int x2, .int x3, .int x4, .int x5, .int x6, .int x7, .int ((1 <<< (x4 &&& 31) : Int32) ||| (1 <<< (x5 &&& 31) : Int32)), .int 0, .int (-1)])), .inr (.inl [some 61, none, none, none, none, none, none, none, none, none])]))) ?_
        refine rr rfl (s_aload_n rfl) ?_
        refine rr rfl (s_iload_n rfl) ?_
        refine rr rfl (s_iconst (v := 1) (by decide)) ?_
        refine rr rfl (s_iadd (v := 1) (by decide)) ?_
        refine rr rfl (s_putf rfl rfl (Nat.le_of_ble_eq_true rfl) rfl (Nat.le_of_ble_eq_true rfl) rfl (h' := ((hF.set 3 (.inr (.inr (0, [.int 1, .ref 62, .int 1])))) ++ [.inr (.inr (2, [.int x1, .int x2, .int x3, .int x4, .int x5, .int x6, .int x7, .int ((1 <<< (x4 &&& 31) : Int32) ||| (1 <<< (x5 &&& 31) : Int32)), .int 0, .int (-1)])), .inr (.inl [some 61, none, none, none, none, none, none, none, none, none])]))) ?_
        exact rrt rfl rfl rfl rfl
      refine rrc rfl rfl rfl (do_of g_Jx4a65c_add_72be8 rfl rfl e9) ?_
      refine rr rfl (s_iconst (v := 1) (by decide)) ?_
      exact rrt rfl rfl rfl rfl
    refine rrc rfl rfl rfl (do_of g_Jx4a65c_add_9ea2d rfl rfl e8) ?_
    refine rr rfl rfl ?_
    refine rr rfl (s_aload_n rfl) ?_
    refine rr rfl (s_getf rfl rfl) ?_
    refine rr rfl (s_iconst (v := 0) (by decide)) ?_
    refine rr rfl (s_aload_n rfl) ?_
    refine rr rfl (s_getf rfl rfl) ?_
    refine rr rfl (s_iconst (v := 0) (by decide)) ?_
    refine rr rfl (s_bipush (v := 8) (by decide)) ?_
    refine rr rfl (s_copy8 rfl (Nat.le_of_ble_eq_true rfl) rfl rfl rfl rfl (Nat.le_of_ble_eq_true rfl) rfl (h' := ((hF.set 3 (.inr (.inr (0, [.int 1, .ref 62, .int 1])))) ++ [.inr (.inr (2, [.int x1, .int x2, .int x3, .int x4, .int x5, .int x6, .int x7, .int ((1 <<< (x4 &&& 31) : Int32) ||| (1 <<< (x5 &&& 31) : Int32)), .int 0, .int (-1)])), .inr (.inl [some 61, none, none, none, none, none, none, none, none, none])]))) ?_
    exact rrt rfl rfl rfl rfl
  refine rrc rfl rfl rfl (do_of g_X3_take rfl rfl e7) ?_
  refine rr rfl (s_aload_n rfl) ?_
  have e12 : a_m MT [] 100000 10 miX8_forgetRules [.ref 0] ((hF.set 3 (.inr (.inr (0, [.int 1, .ref 62, .int 1])))) ++ [.inr (.inr (2, [.int x1, .int x2, .int x3, .int x4, .int x5, .int x6, .int x7, .int ((1 <<< (x4 &&& 31) : Int32) ||| (1 <<< (x5 &&& 31) : Int32)), .int 0, .int (-1)])), .inr (.inl [some 61, none, none, none, none, none, none, none, none, none])]) = some (none, (((hF.set 3 (.inr (.inr (0, [.int 1, .ref 62, .int 1])))).set 6 (.inr (.inr (6, [.ref 2, .ref 7, .ref 8, .ref 9, .int 1])))) ++ [.inr (.inr (2, [.int x1, .int x2, .int x3, .int x4, .int x5, .int x6, .int x7, .int ((1 <<< (x4 &&& 31) : Int32) ||| (1 <<< (x5 &&& 31) : Int32)), .int 0, .int (-1)])), .inr (.inl [some 61, none, none, none, none, none, none, none, none, none])]), 0, 0) := by
    refine me (d := 9) g_X8_forgetRules (Nat.le_of_ble_eq_true rfl) ?_
    refine rr rfl (s_aload_n rfl) ?_
    refine rr rfl (s_getf rfl rfl) ?_
    refine rr rfl (s_getf rfl rfl) ?_
    refine rr rfl (s_aload_n rfl) ?_
    refine rr rfl (s_getf rfl rfl) ?_
    refine rr rfl (s_getf rfl rfl) ?_
    have e13 : a_m MT [] 100000 9 miX3_notSpare [.ref 2] ((hF.set 3 (.inr (.inr (0, [.int 1, .ref 62, .int 1])))) ++ [.inr (.inr (2, [.int x1, .int x2, .int x3, .int x4, .int x5, .int x6, .int x7, .int ((1 <<< (x4 &&& 31) : Int32) ||| (1 <<< (x5 &&& 31) : Int32)), .int 0, .int (-1)])), .inr (.inl [some 61, none, none, none, none, none, none, none, none, none])]) = some ((some (.int 1)), ((hF.set 3 (.inr (.inr (0, [.int 1, .ref 62, .int 1])))) ++ [.inr (.inr (2, [.int x1, .int x2, .int x3, .int x4, .int x5, .int x6, .int x7, .int ((1 <<< (x4 &&& 31) : Int32) ||| (1 <<< (x5 &&& 31) : Int32)), .int 0, .int (-1)])), .inr (.inl [some 61, none, none, none, none, none, none, none, none, none])]), 0, 0) := by
      refine me (d := 8) g_X3_notSpare (Nat.le_of_ble_eq_true rfl) ?_
      refine rr rfl (s_iconst (v := 0) (by decide)) ?_
      refine rr rfl (s_istore_n rfl) ?_
      refine rr rfl (s_iconst (v := 0) (by decide)) ?_
      refine rr rfl (s_istore_n rfl) ?_
      refine rr rfl (s_iload_n rfl) ?_
      refine rr rfl (s_aload_n rfl) ?_
      refine rr rfl (s_getf rfl rfl) ?_
      have e14 : a_m MT [] 100000 8 miJx4a65c_size_8abf5 [.ref 3] ((hF.set 3 (.inr (.inr (0, [.int 1, .ref 62, .int 1])))) ++ [.inr (.inr (2, [.int x1, .int x2, .int x3, .int x4, .int x5, .int x6, .int x7, .int ((1 <<< (x4 &&& 31) : Int32) ||| (1 <<< (x5 &&& 31) : Int32)), .int 0, .int (-1)])), .inr (.inl [some 61, none, none, none, none, none, none, none, none, none])]) = some ((some (.int 1)), ((hF.set 3 (.inr (.inr (0, [.int 1, .ref 62, .int 1])))) ++ [.inr (.inr (2, [.int x1, .int x2, .int x3, .int x4, .int x5, .int x6, .int x7, .int ((1 <<< (x4 &&& 31) : Int32) ||| (1 <<< (x5 &&& 31) : Int32)), .int 0, .int (-1)])), .inr (.inl [some 61, none, none, none, none, none, none, none, none, none])]), 0, 0) := by
        refine me (d := 7) g_Jx4a65c_size_8abf5 (Nat.le_of_ble_eq_true rfl) ?_
        refine rr rfl (s_aload_n rfl) ?_
        refine rr rfl (s_getf rfl rfl) ?_
        exact rrt rfl rfl rfl rfl
      refine rrc rfl rfl rfl (do_of g_Jx4a65c_size_8abf5 rfl rfl e14) ?_
      refine rr rfl (s_icF (by decide)) ?_
      refine rr rfl (s_aload_n rfl) ?_
      refine rr rfl (s_getf rfl rfl) ?_
      refine rr rfl (s_iload_n rfl) ?_
      have e15 : a_m MT [] 100000 8 miJx4a65c_get_915e3 [.ref 3, .int 0] ((hF.set 3 (.inr (.inr (0, [.int 1, .ref 62, .int 1])))) ++ [.inr (.inr (2, [.int x1, .int x2, .int x3, .int x4, .int x5, .int x6, .int x7, .int ((1 <<< (x4 &&& 31) : Int32) ||| (1 <<< (x5 &&& 31) : Int32)), .int 0, .int (-1)])), .inr (.inl [some 61, none, none, none, none, none, none, none, none, none])]) = some ((some (.ref 61)), ((hF.set 3 (.inr (.inr (0, [.int 1, .ref 62, .int 1])))) ++ [.inr (.inr (2, [.int x1, .int x2, .int x3, .int x4, .int x5, .int x6, .int x7, .int ((1 <<< (x4 &&& 31) : Int32) ||| (1 <<< (x5 &&& 31) : Int32)), .int 0, .int (-1)])), .inr (.inl [some 61, none, none, none, none, none, none, none, none, none])]), 0, 0) := by
        refine me (d := 7) g_Jx4a65c_get_915e3 (Nat.le_of_ble_eq_true rfl) ?_
        refine rr rfl (s_iload_n rfl) ?_
        refine rr rfl (s_aload_n rfl) ?_
        refine rr rfl (s_getf rfl rfl) ?_
        have e16 : a_m MT [] 100000 7 miJ15_checkIndex_7cf53 [.int 0, .int 1] ((hF.set 3 (.inr (.inr (0, [.int 1, .ref 62, .int 1])))) ++ [.inr (.inr (2, [.int x1, .int x2, .int x3, .int x4, .int x5, .int x6, .int x7, .int ((1 <<< (x4 &&& 31) : Int32) ||| (1 <<< (x5 &&& 31) : Int32)), .int 0, .int (-1)])), .inr (.inl [some 61, none, none, none, none, none, none, none, none, none])]) = some ((some (.int 0)), ((hF.set 3 (.inr (.inr (0, [.int 1, .ref 62, .int 1])))) ++ [.inr (.inr (2, [.int x1, .int x2, .int x3, .int x4, .int x5, .int x6, .int x7, .int ((1 <<< (x4 &&& 31) : Int32) ||| (1 <<< (x5 &&& 31) : Int32)), .int 0, .int (-1)])), .inr (.inl [some 61, none, none, none, none, none, none, none, none, none])]), 0, 0) := by
          refine me (d := 6) g_J15_checkIndex_7cf53 (Nat.le_of_ble_eq_true rfl) ?_
          refine rr rfl (s_iload_n rfl) ?_
          refine rr rfl (s_iload_n rfl) ?_
          refine rr rfl rfl ?_
          have e17 : a_m MT [] 100000 6 miJ3_checkIndex_8e157 [.int 0, .int 1, .null] ((hF.set 3 (.inr (.inr (0, [.int 1, .ref 62, .int 1])))) ++ [.inr (.inr (2, [.int x1, .int x2, .int x3, .int x4, .int x5, .int x6, .int x7, .int ((1 <<< (x4 &&& 31) : Int32) ||| (1 <<< (x5 &&& 31) : Int32)), .int 0, .int (-1)])), .inr (.inl [some 61, none, none, none, none, none, none, none, none, none])]) = some ((some (.int 0)), ((hF.set 3 (.inr (.inr (0, [.int 1, .ref 62, .int 1])))) ++ [.inr (.inr (2, [.int x1, .int x2, .int x3, .int x4, .int x5, .int x6, .int x7, .int ((1 <<< (x4 &&& 31) : Int32) ||| (1 <<< (x5 &&& 31) : Int32)), .int 0, .int (-1)])), .inr (.inl [some 61, none, none, none, none, none, none, none, none, none])]), 0, 0) := by
            refine me (d := 5) g_J3_checkIndex_8e157 (Nat.le_of_ble_eq_true rfl) ?_
            refine rr rfl (s_iload_n rfl) ?_
            refine rr rfl (s_ifF (by decide)) ?_
            refine rr rfl (s_iload_n rfl) ?_
            refine rr rfl (s_iload_n rfl) ?_
            refine rr rfl (s_icT (by decide)) ?_
            refine rr rfl (s_iload_n rfl) ?_
            exact rrt rfl rfl rfl rfl
          refine rrc rfl rfl rfl (do_of g_J3_checkIndex_8e157 rfl rfl e17) ?_
          exact rrt rfl rfl rfl rfl
        refine rrc rfl rfl rfl (do_of g_J15_checkIndex_7cf53 rfl rfl e16) ?_
        refine rr rfl rfl ?_
        refine rr rfl (s_aload_n rfl) ?_
        refine rr rfl (s_iload_n rfl) ?_
        have e18 : a_m MT [] 100000 7 miJx4a65c_elementData_915e3 [.ref 3, .int 0] ((hF.set 3 (.inr (.inr (0, [.int 1, .ref 62, .int 1])))) ++ [.inr (.inr (2, [.int x1, .int x2, .int x3, .int x4, .int x5, .int x6, .int x7, .int ((1 <<< (x4 &&& 31) : Int32) ||| (1 <<< (x5 &&& 31) : Int32)), .int 0, .int (-1)])), .inr (.inl [some 61, none, none, none, none, none, none, none, none, none])]) = some ((some (.ref 61)), ((hF.set 3 (.inr (.inr (0, [.int 1, .ref 62, .int 1])))) ++ [.inr (.inr (2, [.int x1, .int x2, .int x3, .int x4, .int x5, .int x6, .int x7, .int ((1 <<< (x4 &&& 31) : Int32) ||| (1 <<< (x5 &&& 31) : Int32)), .int 0, .int (-1)])), .inr (.inl [some 61, none, none, none, none, none, none, none, none, none])]), 0, 0) := by
          refine me (d := 6) g_Jx4a65c_elementData_915e3 (Nat.le_of_ble_eq_true rfl) ?_
          refine rr rfl (s_aload_n rfl) ?_
          refine rr rfl (s_getf rfl rfl) ?_
          refine rr rfl (s_iload_n rfl) ?_
          refine rr rfl (s_aaload (j := 0) (z := 61) rfl rfl rfl) ?_
          exact rrt rfl rfl rfl rfl
        refine rrc rfl rfl rfl (do_of g_Jx4a65c_elementData_915e3 rfl rfl e18) ?_
        exact rrt rfl rfl rfl rfl
      refine rrc rfl rfl rfl (do_of g_Jx4a65c_get_915e3 rfl rfl e15) ?_
      refine rr rfl rfl ?_
      have e19 : a_m MT [] 100000 8 miX2_isSpare [.ref 61] ((hF.set 3 (.inr (.inr (0, [.int 1, .ref 62, .int 1])))) ++ [.inr (.inr (2, [.int x1, .int x2, .int x3, .int x4, .int x5, .int x6, .int x7, .int ((1 <<< (x4 &&& 31) : Int32) ||| (1 <<< (x5 &&& 31) : Int32)), .int 0, .int (-1)])), .inr (.inl [some 61, none, none, none, none, none, none, none, none, none])]) = some ((some (.int 0)), ((hF.set 3 (.inr (.inr (0, [.int 1, .ref 62, .int 1])))) ++ [.inr (.inr (2, [.int x1, .int x2, .int x3, .int x4, .int x5, .int x6, .int x7, .int ((1 <<< (x4 &&& 31) : Int32) ||| (1 <<< (x5 &&& 31) : Int32)), .int 0, .int (-1)])), .inr (.inl [some 61, none, none, none, none, none, none, none, none, none])]), 0, 0) := by
        refine me (d := 7) g_X2_isSpare (Nat.le_of_ble_eq_true rfl) ?_
        refine rr rfl (s_aload_n rfl) ?_
        refine rr rfl (s_getf rfl rfl) ?_
        refine rr rfl (s_iconst (v := (-1)) (by decide)) ?_
        refine rr rfl (s_icT (by decide)) ?_
        refine rr rfl (s_iconst (v := 0) (by decide)) ?_
        exact rrt rfl rfl rfl rfl
      refine rrc rfl rfl rfl (do_of g_X2_isSpare rfl rfl e19) ?_
      refine rr rfl (s_ifF (by decide)) ?_
      refine rr rfl (s_iload_n rfl) ?_
      refine rr rfl (s_iconst (v := 1) (by decide)) ?_
      refine rr rfl (s_iload_n rfl) ?_
      refine rr rfl (s_ishl (v := 1) (by decide)) ?_
      refine rr rfl (s_ior (v := 1) (by decide)) ?_
      refine rr rfl (s_istore_n rfl) ?_
      refine rr rfl (s_iinc (v := 1) rfl (by decide) rfl) ?_
      refine rr rfl s_goto ?_
      refine rr rfl (s_iload_n rfl) ?_
      refine rr rfl (s_aload_n rfl) ?_
      refine rr rfl (s_getf rfl rfl) ?_
      have e20 : a_m MT [] 100000 8 miJx4a65c_size_8abf5 [.ref 3] ((hF.set 3 (.inr (.inr (0, [.int 1, .ref 62, .int 1])))) ++ [.inr (.inr (2, [.int x1, .int x2, .int x3, .int x4, .int x5, .int x6, .int x7, .int ((1 <<< (x4 &&& 31) : Int32) ||| (1 <<< (x5 &&& 31) : Int32)), .int 0, .int (-1)])), .inr (.inl [some 61, none, none, none, none, none, none, none, none, none])]) = some ((some (.int 1)), ((hF.set 3 (.inr (.inr (0, [.int 1, .ref 62, .int 1])))) ++ [.inr (.inr (2, [.int x1, .int x2, .int x3, .int x4, .int x5, .int x6, .int x7, .int ((1 <<< (x4 &&& 31) : Int32) ||| (1 <<< (x5 &&& 31) : Int32)), .int 0, .int (-1)])), .inr (.inl [some 61, none, none, none, none, none, none, none, none, none])]), 0, 0) := by
        refine me (d := 7) g_Jx4a65c_size_8abf5 (Nat.le_of_ble_eq_true rfl) ?_
        refine rr rfl (s_aload_n rfl) ?_
        refine rr rfl (s_getf rfl rfl) ?_
        exact rrt rfl rfl rfl rfl
      refine rrc rfl rfl rfl (do_of g_Jx4a65c_size_8abf5 rfl rfl e20) ?_
      refine rr rfl (s_icT (by decide)) ?_
      refine rr rfl (s_iload_n rfl) ?_
      exact rrt rfl rfl rfl rfl
    refine rrc rfl rfl rfl (do_of g_X3_notSpare rfl rfl e13) ?_
    have e21 : a_m MT [] 100000 9 miX6_countOnly [.ref 6, .int 1] ((hF.set 3 (.inr (.inr (0, [.int 1, .ref 62, .int 1])))) ++ [.inr (.inr (2, [.int x1, .int x2, .int x3, .int x4, .int x5, .int x6, .int x7, .int ((1 <<< (x4 &&& 31) : Int32) ||| (1 <<< (x5 &&& 31) : Int32)), .int 0, .int (-1)])), .inr (.inl [some 61, none, none, none, none, none, none, none, none, none])]) = some (none, (((hF.set 3 (.inr (.inr (0, [.int 1, .ref 62, .int 1])))).set 6 (.inr (.inr (6, [.ref 2, .ref 7, .ref 8, .ref 9, .int 1])))) ++ [.inr (.inr (2, [.int x1, .int x2, .int x3, .int x4, .int x5, .int x6, .int x7, .int ((1 <<< (x4 &&& 31) : Int32) ||| (1 <<< (x5 &&& 31) : Int32)), .int 0, .int (-1)])), .inr (.inl [some 61, none, none, none, none, none, none, none, none, none])]), 0, 0) := by
      refine me (d := 8) g_X6_countOnly (Nat.le_of_ble_eq_true rfl) ?_
      refine rr rfl (s_aload_n rfl) ?_
      refine rr rfl (s_iload_n rfl) ?_
      refine rr rfl (s_putf rfl rfl (Nat.le_of_ble_eq_true rfl) rfl (Nat.le_of_ble_eq_true rfl) rfl (h' := (((hF.set 3 (.inr (.inr (0, [.int 1, .ref 62, .int 1])))).set 6 (.inr (.inr (6, [.ref 2, .ref 7, .ref 8, .ref 9, .int 1])))) ++ [.inr (.inr (2, [.int x1, .int x2, .int x3, .int x4, .int x5, .int x6, .int x7, .int ((1 <<< (x4 &&& 31) : Int32) ||| (1 <<< (x5 &&& 31) : Int32)), .int 0, .int (-1)])), .inr (.inl [some 61, none, none, none, none, none, none, none, none, none])]))) ?_
      refine rr rfl (s_aload_n rfl) ?_
      refine rr rfl (s_getf rfl rfl) ?_
      refine rr rfl (s_iconst (v := (-1)) (by decide)) ?_
      have e22 : a_m MT [] 100000 8 miJ7_fill_53178 [.ref 7, .int (-1)] (((hF.set 3 (.inr (.inr (0, [.int 1, .ref 62, .int 1])))).set 6 (.inr (.inr (6, [.ref 2, .ref 7, .ref 8, .ref 9, .int 1])))) ++ [.inr (.inr (2, [.int x1, .int x2, .int x3, .int x4, .int x5, .int x6, .int x7, .int ((1 <<< (x4 &&& 31) : Int32) ||| (1 <<< (x5 &&& 31) : Int32)), .int 0, .int (-1)])), .inr (.inl [some 61, none, none, none, none, none, none, none, none, none])]) = some (none, (((hF.set 3 (.inr (.inr (0, [.int 1, .ref 62, .int 1])))).set 6 (.inr (.inr (6, [.ref 2, .ref 7, .ref 8, .ref 9, .int 1])))) ++ [.inr (.inr (2, [.int x1, .int x2, .int x3, .int x4, .int x5, .int x6, .int x7, .int ((1 <<< (x4 &&& 31) : Int32) ||| (1 <<< (x5 &&& 31) : Int32)), .int 0, .int (-1)])), .inr (.inl [some 61, none, none, none, none, none, none, none, none, none])]), 0, 0) := fill_n rfl (Nat.le_of_ble_eq_true rfl) rfl
      refine rrc rfl rfl rfl (do_of g_J7_fill_53178 rfl rfl e22) ?_
      exact rrt rfl rfl rfl rfl
    refine rrc rfl rfl rfl (do_of g_X6_countOnly rfl rfl e21) ?_
    refine rr rfl (s_aload_n rfl) ?_
    have e23 : a_m MT [] 100000 9 miX8_forgetRuns [.ref 0] (((hF.set 3 (.inr (.inr (0, [.int 1, .ref 62, .int 1])))).set 6 (.inr (.inr (6, [.ref 2, .ref 7, .ref 8, .ref 9, .int 1])))) ++ [.inr (.inr (2, [.int x1, .int x2, .int x3, .int x4, .int x5, .int x6, .int x7, .int ((1 <<< (x4 &&& 31) : Int32) ||| (1 <<< (x5 &&& 31) : Int32)), .int 0, .int (-1)])), .inr (.inl [some 61, none, none, none, none, none, none, none, none, none])]) = some (none, (((hF.set 3 (.inr (.inr (0, [.int 1, .ref 62, .int 1])))).set 6 (.inr (.inr (6, [.ref 2, .ref 7, .ref 8, .ref 9, .int 1])))) ++ [.inr (.inr (2, [.int x1, .int x2, .int x3, .int x4, .int x5, .int x6, .int x7, .int ((1 <<< (x4 &&& 31) : Int32) ||| (1 <<< (x5 &&& 31) : Int32)), .int 0, .int (-1)])), .inr (.inl [some 61, none, none, none, none, none, none, none, none, none])]), 0, 0) := by
      refine me (d := 8) g_X8_forgetRuns (Nat.le_of_ble_eq_true rfl) ?_
      refine rr rfl (s_aload_n rfl) ?_
      refine rr rfl (s_iconst (v := 0) (by decide)) ?_
      refine rr rfl (s_putf rfl rfl (Nat.le_of_ble_eq_true rfl) rfl (Nat.le_of_ble_eq_true rfl) rfl (h' := (((hF.set 3 (.inr (.inr (0, [.int 1, .ref 62, .int 1])))).set 6 (.inr (.inr (6, [.ref 2, .ref 7, .ref 8, .ref 9, .int 1])))) ++ [.inr (.inr (2, [.int x1, .int x2, .int x3, .int x4, .int x5, .int x6, .int x7, .int ((1 <<< (x4 &&& 31) : Int32) ||| (1 <<< (x5 &&& 31) : Int32)), .int 0, .int (-1)])), .inr (.inl [some 61, none, none, none, none, none, none, none, none, none])]))) ?_
      refine rr rfl (s_aload_n rfl) ?_
      refine rr rfl (s_getf rfl rfl) ?_
      refine rr rfl (s_iconst (v := 0) (by decide)) ?_
      refine rr rfl (s_putf rfl rfl (Nat.le_of_ble_eq_true rfl) rfl (Nat.le_of_ble_eq_true rfl) rfl (h' := (((hF.set 3 (.inr (.inr (0, [.int 1, .ref 62, .int 1])))).set 6 (.inr (.inr (6, [.ref 2, .ref 7, .ref 8, .ref 9, .int 1])))) ++ [.inr (.inr (2, [.int x1, .int x2, .int x3, .int x4, .int x5, .int x6, .int x7, .int ((1 <<< (x4 &&& 31) : Int32) ||| (1 <<< (x5 &&& 31) : Int32)), .int 0, .int (-1)])), .inr (.inl [some 61, none, none, none, none, none, none, none, none, none])]))) ?_
      exact rrt rfl rfl rfl rfl
    refine rrc rfl rfl rfl (do_of g_X8_forgetRuns rfl rfl e23) ?_
    exact rrt rfl rfl rfl rfl
  refine rrc rfl rfl rfl (do_of g_X8_forgetRules rfl rfl e12) ?_
  refine rr rfl (s_aload_n rfl) ?_
  refine rr rfl (s_getf rfl rfl) ?_
  refine rr rfl (s_getf rfl rfl) ?_
  refine rr rfl (s_getf rfl rfl) ?_
  have e24 : a_m MT [] 100000 10 miJx4a65c_size_8abf5 [.ref 3] (((hF.set 3 (.inr (.inr (0, [.int 1, .ref 62, .int 1])))).set 6 (.inr (.inr (6, [.ref 2, .ref 7, .ref 8, .ref 9, .int 1])))) ++ [.inr (.inr (2, [.int x1, .int x2, .int x3, .int x4, .int x5, .int x6, .int x7, .int ((1 <<< (x4 &&& 31) : Int32) ||| (1 <<< (x5 &&& 31) : Int32)), .int 0, .int (-1)])), .inr (.inl [some 61, none, none, none, none, none, none, none, none, none])]) = some ((some (.int 1)), (((hF.set 3 (.inr (.inr (0, [.int 1, .ref 62, .int 1])))).set 6 (.inr (.inr (6, [.ref 2, .ref 7, .ref 8, .ref 9, .int 1])))) ++ [.inr (.inr (2, [.int x1, .int x2, .int x3, .int x4, .int x5, .int x6, .int x7, .int ((1 <<< (x4 &&& 31) : Int32) ||| (1 <<< (x5 &&& 31) : Int32)), .int 0, .int (-1)])), .inr (.inl [some 61, none, none, none, none, none, none, none, none, none])]), 0, 0) := by
    refine me (d := 9) g_Jx4a65c_size_8abf5 (Nat.le_of_ble_eq_true rfl) ?_
    refine rr rfl (s_aload_n rfl) ?_
    refine rr rfl (s_getf rfl rfl) ?_
    exact rrt rfl rfl rfl rfl
  refine rrc rfl rfl rfl (do_of g_Jx4a65c_size_8abf5 rfl rfl e24) ?_
  refine rr rfl (s_iconst (v := 1) (by decide)) ?_
  refine rr rfl (s_isub (v := 0) (by decide)) ?_
  exact rrt rfl rfl rfl rfl
set_option maxHeartbeats 4000000 in
set_option maxRecDepth 10000 in
theorem rx_Kii {x1 x2 x3 x4 x5 x6 x7 : Int32} (g1 : ¬ x5 = (-1)) (g2 : ¬ x6 = (-1)) (g3 : ¬ x2 = 0) : a_run MT [] (a_m MT [] 100000 10) 11 (some .int) tabX8_rule 90000 140 (alR x1 x2 x3 x4 x5 x6 x7) [] hF 0 0 = some (some (.int 0), (((hF.set 3 (.inr (.inr (0, [.int 1, .ref 62, .int 1])))).set 6 (.inr (.inr (6, [.ref 2, .ref 7, .ref 8, .ref 9, .int 1])))) ++ [.inr (.inr (2, [.int x1, .int x2, .int x3, .int x4, .int x5, .int x6, .int x7, .int ((1 <<< (x4 &&& 31) : Int32) ||| (1 <<< (x5 &&& 31) : Int32)), .int (1 <<< (x6 &&& 31) : Int32), .int (-1)])), .inr (.inl [some 61, none, none, none, none, none, none, none, none, none])]), 2, 20) := by
  refine rr rfl (s_new (q := 61) rfl rfl (h' := (hF ++ [.inr (.inr (2, [.int 0, .int 0, .int 0, .int 0, .int 0, .int 0, .int 0, .int 0, .int 0, .int 0]))]))) ?_
  refine rr rfl rfl ?_
  refine rr rfl (s_iload_n rfl) ?_
  refine rr rfl (s_iload_n rfl) ?_
  refine rr rfl (s_iload_n rfl) ?_
  refine rr rfl (s_iload rfl) ?_
  refine rr rfl (s_iload rfl) ?_
  refine rr rfl (s_iload rfl) ?_
  refine rr rfl (s_iload rfl) ?_
  have e1 : a_m MT [] 100000 10 miX2_init [.ref 61, .int x1, .int x2, .int x3, .int x4, .int x5, .int x6, .int x7] (hF ++ [.inr (.inr (2, [.int 0, .int 0, .int 0, .int 0, .int 0, .int 0, .int 0, .int 0, .int 0, .int 0]))]) = some (none, (hF ++ [.inr (.inr (2, [.int x1, .int x2, .int x3, .int x4, .int x5, .int x6, .int x7, .int ((1 <<< (x4 &&& 31) : Int32) ||| (1 <<< (x5 &&& 31) : Int32)), .int (1 <<< (x6 &&& 31) : Int32), .int (-1)]))]), 0, 0) := by
    refine me (d := 9) g_X2_init (Nat.le_of_ble_eq_true rfl) ?_
    refine rr rfl (s_aload_n rfl) ?_
    refine rr rfl rfl ?_
    refine rr rfl (s_aload_n rfl) ?_
    refine rr rfl (s_iconst (v := (-1)) (by decide)) ?_
    refine rr rfl (s_putf rfl rfl (Nat.le_of_ble_eq_true rfl) rfl (Nat.le_of_ble_eq_true rfl) rfl (h' := (hF ++ [.inr (.inr (2, [.int 0, .int 0, .int 0, .int 0, .int 0, .int 0, .int 0, .int 0, .int 0, .int (-1)]))]))) ?_
    refine rr rfl (s_aload_n rfl) ?_
    refine rr rfl (s_iload_n rfl) ?_
    refine rr rfl (s_putf rfl rfl (Nat.le_of_ble_eq_true rfl) rfl (Nat.le_of_ble_eq_true rfl) rfl (h' := (hF ++ [.inr (.inr (2, [.int x1, .int 0, .int 0, .int 0, .int 0, .int 0, .int 0, .int 0, .int 0, .int (-1)]))]))) ?_
    refine rr rfl (s_aload_n rfl) ?_
    refine rr rfl (s_iload_n rfl) ?_
    refine rr rfl (s_putf rfl rfl (Nat.le_of_ble_eq_true rfl) rfl (Nat.le_of_ble_eq_true rfl) rfl (h' := (hF ++ [.inr (.inr (2, [.int x1, .int x2, .int 0, .int 0, .int 0, .int 0, .int 0, .int 0, .int 0, .int (-1)]))]))) ?_
    refine rr rfl (s_aload_n rfl) ?_
    refine rr rfl (s_iload_n rfl) ?_
    refine rr rfl (s_putf rfl rfl (Nat.le_of_ble_eq_true rfl) rfl (Nat.le_of_ble_eq_true rfl) rfl (h' := (hF ++ [.inr (.inr (2, [.int x1, .int x2, .int x3, .int 0, .int 0, .int 0, .int 0, .int 0, .int 0, .int (-1)]))]))) ?_
    refine rr rfl (s_aload_n rfl) ?_
    refine rr rfl (s_iload rfl) ?_
    refine rr rfl (s_putf rfl rfl (Nat.le_of_ble_eq_true rfl) rfl (Nat.le_of_ble_eq_true rfl) rfl (h' := (hF ++ [.inr (.inr (2, [.int x1, .int x2, .int x3, .int x4, .int 0, .int 0, .int 0, .int 0, .int 0, .int (-1)]))]))) ?_
    refine rr rfl (s_aload_n rfl) ?_
    refine rr rfl (s_iload rfl) ?_
    refine rr rfl (s_iconst (v := (-1)) (by decide)) ?_
    refine rr rfl (s_icT (ic_ne g1)) ?_
    refine rr rfl (s_iload rfl) ?_
    refine rr rfl (s_putf rfl rfl (Nat.le_of_ble_eq_true rfl) rfl (Nat.le_of_ble_eq_true rfl) rfl (h' := (hF ++ [.inr (.inr (2, [.int x1, .int x2, .int x3, .int x4, .int x5, .int 0, .int 0, .int 0, .int 0, .int (-1)]))]))) ?_
    refine rr rfl (s_aload_n rfl) ?_
    refine rr rfl (s_iload rfl) ?_
    refine rr rfl (s_putf rfl rfl (Nat.le_of_ble_eq_true rfl) rfl (Nat.le_of_ble_eq_true rfl) rfl (h' := (hF ++ [.inr (.inr (2, [.int x1, .int x2, .int x3, .int x4, .int x5, .int x6, .int 0, .int 0, .int 0, .int (-1)]))]))) ?_
    refine rr rfl (s_aload_n rfl) ?_
    refine rr rfl (s_iload rfl) ?_
    refine rr rfl (s_putf rfl rfl (Nat.le_of_ble_eq_true rfl) rfl (Nat.le_of_ble_eq_true rfl) rfl (h' := (hF ++ [.inr (.inr (2, [.int x1, .int x2, .int x3, .int x4, .int x5, .int x6, .int x7, .int 0, .int 0, .int (-1)]))]))) ?_
    refine rr rfl (s_aload_n rfl) ?_
    refine rr rfl (s_iconst (v := 1) (by decide)) ?_
    refine rr rfl (s_aload_n rfl) ?_
    refine rr rfl (s_getf rfl rfl) ?_
    refine rr rfl (s_ishl (v := (1 <<< (x4 &&& 31) : Int32)) rfl) ?_
    refine rr rfl (s_iconst (v := 1) (by decide)) ?_
    refine rr rfl (s_aload_n rfl) ?_
    refine rr rfl (s_getf rfl rfl) ?_
    refine rr rfl (s_ishl (v := (1 <<< (x5 &&& 31) : Int32)) rfl) ?_
    refine rr rfl (s_ior (v := ((1 <<< (x4 &&& 31) : Int32) ||| (1 <<< (x5 &&& 31) : Int32))) rfl) ?_
    refine rr rfl (s_putf rfl rfl (Nat.le_of_ble_eq_true rfl) rfl (Nat.le_of_ble_eq_true rfl) rfl (h' := (hF ++ [.inr (.inr (2, [.int x1, .int x2, .int x3, .int x4, .int x5, .int x6, .int x7, .int ((1 <<< (x4 &&& 31) : Int32) ||| (1 <<< (x5 &&& 31) : Int32)), .int 0, .int (-1)]))]))) ?_
    refine rr rfl (s_aload_n rfl) ?_
    refine rr rfl (s_iload rfl) ?_
    refine rr rfl (s_iconst (v := (-1)) (by decide)) ?_
    refine rr rfl (s_icT (ic_ne g2)) ?_
    refine rr rfl (s_iconst (v := 1) (by decide)) ?_
    refine rr rfl (s_iload rfl) ?_
    refine rr rfl (s_ishl (v := (1 <<< (x6 &&& 31) : Int32)) rfl) ?_
    refine rr rfl (s_putf rfl rfl (Nat.le_of_ble_eq_true rfl) rfl (Nat.le_of_ble_eq_true rfl) rfl (h' := (hF ++ [.inr (.inr (2, [.int x1, .int x2, .int x3, .int x4, .int x5, .int x6, .int x7, .int ((1 <<< (x4 &&& 31) : Int32) ||| (1 <<< (x5 &&& 31) : Int32)), .int (1 <<< (x6 &&& 31) : Int32), .int (-1)]))]))) ?_
    exact rrt rfl rfl rfl rfl
  refine rrc rfl rfl rfl (do_of g_X2_init rfl rfl e1) ?_
  refine rr rfl (s_astore rfl) ?_
  refine rr rfl (s_aload_n rfl) ?_
  refine rr rfl (s_getf rfl rfl) ?_
  refine rr rfl (s_getf rfl rfl) ?_
  refine rr rfl (s_aload rfl) ?_
  have e2 : a_m MT [] 100000 10 miX3_hasLayersWith [.ref 2, .ref 61] (hF ++ [.inr (.inr (2, [.int x1, .int x2, .int x3, .int x4, .int x5, .int x6, .int x7, .int ((1 <<< (x4 &&& 31) : Int32) ||| (1 <<< (x5 &&& 31) : Int32)), .int (1 <<< (x6 &&& 31) : Int32), .int (-1)]))]) = some ((some (.int 1)), (hF ++ [.inr (.inr (2, [.int x1, .int x2, .int x3, .int x4, .int x5, .int x6, .int x7, .int ((1 <<< (x4 &&& 31) : Int32) ||| (1 <<< (x5 &&& 31) : Int32)), .int (1 <<< (x6 &&& 31) : Int32), .int (-1)]))]), 0, 0) := by
    refine me (d := 9) g_X3_hasLayersWith (Nat.le_of_ble_eq_true rfl) ?_
    refine rr rfl (s_aload_n rfl) ?_
    refine rr rfl (s_getf rfl rfl) ?_
    refine rr rfl (s_iconst (v := 0) (by decide)) ?_
    have e3 : a_m MT [] 100000 9 miJ7_fill_53178 [.ref 5, .int 0] (hF ++ [.inr (.inr (2, [.int x1, .int x2, .int x3, .int x4, .int x5, .int x6, .int x7, .int ((1 <<< (x4 &&& 31) : Int32) ||| (1 <<< (x5 &&& 31) : Int32)), .int (1 <<< (x6 &&& 31) : Int32), .int (-1)]))]) = some (none, (hF ++ [.inr (.inr (2, [.int x1, .int x2, .int x3, .int x4, .int x5, .int x6, .int x7, .int ((1 <<< (x4 &&& 31) : Int32) ||| (1 <<< (x5 &&& 31) : Int32)), .int (1 <<< (x6 &&& 31) : Int32), .int (-1)]))]), 0, 0) := fill_n rfl (Nat.le_of_ble_eq_true rfl) rfl
    refine rrc rfl rfl rfl (do_of g_J7_fill_53178 rfl rfl e3) ?_
    refine rr rfl (s_iconst (v := 1) (by decide)) ?_
    refine rr rfl (s_istore_n rfl) ?_
    refine rr rfl (s_iconst (v := 0) (by decide)) ?_
    refine rr rfl (s_istore_n rfl) ?_
    refine rr rfl (s_iload_n rfl) ?_
    refine rr rfl (s_ifF (by decide)) ?_
    refine rr rfl (s_iload_n rfl) ?_
    refine rr rfl (s_bipush (v := 8) (by decide)) ?_
    refine rr rfl (s_icF (by decide)) ?_
    refine rr rfl (s_aload_n rfl) ?_
    refine rr rfl (s_aload_n rfl) ?_
    have e4 : a_m MT [] 100000 9 miX3_lift [.ref 2, .ref 61] (hF ++ [.inr (.inr (2, [.int x1, .int x2, .int x3, .int x4, .int x5, .int x6, .int x7, .int ((1 <<< (x4 &&& 31) : Int32) ||| (1 <<< (x5 &&& 31) : Int32)), .int (1 <<< (x6 &&& 31) : Int32), .int (-1)]))]) = some ((some (.int 0)), (hF ++ [.inr (.inr (2, [.int x1, .int x2, .int x3, .int x4, .int x5, .int x6, .int x7, .int ((1 <<< (x4 &&& 31) : Int32) ||| (1 <<< (x5 &&& 31) : Int32)), .int (1 <<< (x6 &&& 31) : Int32), .int (-1)]))]), 0, 0) := by
      refine me (d := 8) g_X3_lift (Nat.le_of_ble_eq_true rfl) ?_
      refine rr rfl (s_aload_n rfl) ?_
      refine rr rfl (s_getf rfl rfl) ?_
      refine rr rfl (s_ifF (ic_neq g3)) ?_
      refine rr rfl (s_iconst (v := 0) (by decide)) ?_
      exact rrt rfl rfl rfl rfl
    refine rrc rfl rfl rfl (do_of g_X3_lift rfl rfl e4) ?_
    refine rr rfl (s_istore_n rfl) ?_
    refine rr rfl (s_iconst (v := 0) (by decide)) ?_
    refine rr rfl (s_istore rfl) ?_
    refine rr rfl (s_iload rfl) ?_
    refine rr rfl (s_aload_n rfl) ?_
    refine rr rfl (s_getf rfl rfl) ?_
    have e5 : a_m MT [] 100000 9 miJx4a65c_size_8abf5 [.ref 3] (hF ++ [.inr (.inr (2, [.int x1, .int x2, .int x3, .int x4, .int x5, .int x6, .int x7, .int ((1 <<< (x4 &&& 31) : Int32) ||| (1 <<< (x5 &&& 31) : Int32)), .int (1 <<< (x6 &&& 31) : Int32), .int (-1)]))]) = some ((some (.int 0)), (hF ++ [.inr (.inr (2, [.int x1, .int x2, .int x3, .int x4, .int x5, .int x6, .int x7, .int ((1 <<< (x4 &&& 31) : Int32) ||| (1 <<< (x5 &&& 31) : Int32)), .int (1 <<< (x6 &&& 31) : Int32), .int (-1)]))]), 0, 0) := by
      refine me (d := 8) g_Jx4a65c_size_8abf5 (Nat.le_of_ble_eq_true rfl) ?_
      refine rr rfl (s_aload_n rfl) ?_
      refine rr rfl (s_getf rfl rfl) ?_
      exact rrt rfl rfl rfl rfl
    refine rrc rfl rfl rfl (do_of g_Jx4a65c_size_8abf5 rfl rfl e5) ?_
    refine rr rfl (s_icT (by decide)) ?_
    refine rr rfl (s_iinc (v := 1) rfl (by decide) rfl) ?_
    refine rr rfl s_goto ?_
    refine rr rfl (s_iload_n rfl) ?_
    refine rr rfl (s_ifT (by decide)) ?_
    refine rr rfl (s_iload_n rfl) ?_
    refine rr rfl (s_ifF (by decide)) ?_
    refine rr rfl (s_iconst (v := 1) (by decide)) ?_
    refine rr rfl s_goto ?_
    exact rrt rfl rfl rfl rfl
  refine rrc rfl rfl rfl (do_of g_X3_hasLayersWith rfl rfl e2) ?_
  refine rr rfl (s_ifT (by decide)) ?_
  refine rr rfl (s_aload_n rfl) ?_
  refine rr rfl (s_getf rfl rfl) ?_
  refine rr rfl (s_getf rfl rfl) ?_
  refine rr rfl (s_getf rfl rfl) ?_
  have e6 : a_m MT [] 100000 10 miJx4a65c_size_8abf5 [.ref 3] (hF ++ [.inr (.inr (2, [.int x1, .int x2, .int x3, .int x4, .int x5, .int x6, .int x7, .int ((1 <<< (x4 &&& 31) : Int32) ||| (1 <<< (x5 &&& 31) : Int32)), .int (1 <<< (x6 &&& 31) : Int32), .int (-1)]))]) = some ((some (.int 0)), (hF ++ [.inr (.inr (2, [.int x1, .int x2, .int x3, .int x4, .int x5, .int x6, .int x7, .int ((1 <<< (x4 &&& 31) : Int32) ||| (1 <<< (x5 &&& 31) : Int32)), .int (1 <<< (x6 &&& 31) : Int32), .int (-1)]))]), 0, 0) := by
    refine me (d := 9) g_Jx4a65c_size_8abf5 (Nat.le_of_ble_eq_true rfl) ?_
    refine rr rfl (s_aload_n rfl) ?_
    refine rr rfl (s_getf rfl rfl) ?_
    exact rrt rfl rfl rfl rfl
  refine rrc rfl rfl rfl (do_of g_Jx4a65c_size_8abf5 rfl rfl e6) ?_
  refine rr rfl (s_bipush (v := 12) (by decide)) ?_
  refine rr rfl (s_icT (by decide)) ?_
  refine rr rfl (s_aload_n rfl) ?_
  refine rr rfl (s_getf rfl rfl) ?_
  refine rr rfl (s_getf rfl rfl) ?_
  refine rr rfl (s_aload rfl) ?_
  have e7 : a_m MT [] 100000 10 miX3_take [.ref 2, .ref 61] (hF ++ [.inr (.inr (2, [.int x1, .int x2, .int x3, .int x4, .int x5, .int x6, .int x7, .int ((1 <<< (x4 &&& 31) : Int32) ||| (1 <<< (x5 &&& 31) : Int32)), .int (1 <<< (x6 &&& 31) : Int32), .int (-1)]))]) = some (none, ((hF.set 3 (.inr (.inr (0, [.int 1, .ref 62, .int 1])))) ++ [.inr (.inr (2, [.int x1, .int x2, .int x3, .int x4, .int x5, .int x6, .int x7, .int ((1 <<< (x4 &&& 31) : Int32) ||| (1 <<< (x5 &&& 31) : Int32)), .int (1 <<< (x6 &&& 31) : Int32), .int (-1)])), .inr (.inl [some 61, none, none, none, none, none, none, none, none, none])]), 1, 10) := by
    refine me (d := 9) g_X3_take (Nat.le_of_ble_eq_true rfl) ?_
    refine rr rfl (s_aload_n rfl) ?_
    refine rr rfl (s_getf rfl rfl) ?_
    refine rr rfl (s_aload_n rfl) ?_
    have e8 : a_m MT [] 100000 9 miJx4a65c_add_9ea2d [.ref 3, .ref 61] (hF ++ [.inr (.inr (2, [.int x1, .int x2, .int x3, .int x4, .int x5, .int x6, .int x7, .int ((1 <<< (x4 &&& 31) : Int32) ||| (1 <<< (x5 &&& 31) : Int32)), .int (1 <<< (x6 &&& 31) : Int32), .int (-1)]))]) = some ((some (.int 1)), ((hF.set 3 (.inr (.inr (0, [.int 1, .ref 62, .int 1])))) ++ [.inr (.inr (2, [.int x1, .int x2, .int x3, .int x4, .int x5, .int x6, .int x7, .int ((1 <<< (x4 &&& 31) : Int32) ||| (1 <<< (x5 &&& 31) : Int32)), .int (1 <<< (x6 &&& 31) : Int32), .int (-1)])), .inr (.inl [some 61, none, none, none, none, none, none, none, none, none])]), 1, 10) := by
      refine me (d := 8) g_Jx4a65c_add_9ea2d (Nat.le_of_ble_eq_true rfl) ?_
      refine rr rfl (s_aload_n rfl) ?_
      refine rr rfl rfl ?_
      refine rr rfl (s_getf rfl rfl) ?_
      refine rr rfl (s_iconst (v := 1) (by decide)) ?_
      refine rr rfl (s_iadd (v := 1) (by decide)) ?_
      refine rr rfl (s_putf rfl rfl (Nat.le_of_ble_eq_true rfl) rfl (Nat.le_of_ble_eq_true rfl) rfl (h' := ((hF.set 3 (.inr (.inr (0, [.int 1, .long 0, .int 0])))) ++ [.inr (.inr (2, [.int x1, .int x2, .int x3, .int x4, .int x5, .int x6, .int x7, .int ((1 <<< (x4 &&& 31) : Int32) ||| (1 <<< (x5 &&& 31) : Int32)), .int (1 <<< (x6 &&& 31) : Int32), .int (-1)]))]))) ?_
      refine rr rfl (s_aload_n rfl) ?_
      refine rr rfl (s_aload_n rfl) ?_
      refine rr rfl (s_aload_n rfl) ?_
      refine rr rfl (s_getf rfl rfl) ?_
      refine rr rfl (s_aload_n rfl) ?_
      refine rr rfl (s_getf rfl rfl) ?_
      have e9 : a_m MT [] 100000 8 miJx4a65c_add_72be8 [.ref 3, .ref 61, .long 0, .int 0] ((hF.set 3 (.inr (.inr (0, [.int 1, .long 0, .int 0])))) ++ [.inr (.inr (2, [.int x1, .int x2, .int x3, .int x4, .int x5, .int x6, .int x7, .int ((1 <<< (x4 &&& 31) : Int32) ||| (1 <<< (x5 &&& 31) : Int32)), .int (1 <<< (x6 &&& 31) : Int32), .int (-1)]))]) = some (none, ((hF.set 3 (.inr (.inr (0, [.int 1, .ref 62, .int 1])))) ++ [.inr (.inr (2, [.int x1, .int x2, .int x3, .int x4, .int x5, .int x6, .int x7, .int ((1 <<< (x4 &&& 31) : Int32) ||| (1 <<< (x5 &&& 31) : Int32)), .int (1 <<< (x6 &&& 31) : Int32), .int (-1)])), .inr (.inl [some 61, none, none, none, none, none, none, none, none, none])]), 1, 10) := by
        refine me (d := 7) g_Jx4a65c_add_72be8 (Nat.le_of_ble_eq_true rfl) ?_
        refine rr rfl (s_iload_n rfl) ?_
        refine rr rfl (s_aloadL rfl) ?_
        refine rr rfl (s_alen0) ?_
        refine rr rfl (s_icF (by decide)) ?_
        refine rr rfl (s_aload_n rfl) ?_
        have e10 : a_m MT [] 100000 7 miJx4a65c_grow_d5877 [.ref 3] ((hF.set 3 (.inr (.inr (0, [.int 1, .long 0, .int 0])))) ++ [.inr (.inr (2, [.int x1, .int x2, .int x3, .int x4, .int x5, .int x6, .int x7, .int ((1 <<< (x4 &&& 31) : Int32) ||| (1 <<< (x5 &&& 31) : Int32)), .int (1 <<< (x6 &&& 31) : Int32), .int (-1)]))]) = some ((some (.ref 62)), ((hF.set 3 (.inr (.inr (0, [.int 1, .ref 62, .int 0])))) ++ [.inr (.inr (2, [.int x1, .int x2, .int x3, .int x4, .int x5, .int x6, .int x7, .int ((1 <<< (x4 &&& 31) : Int32) ||| (1 <<< (x5 &&& 31) : Int32)), .int (1 <<< (x6 &&& 31) : Int32), .int (-1)])), .inr (.inl (List.replicate 10 none))]), 1, 10) := by
          refine me (d := 6) g_Jx4a65c_grow_d5877 (Nat.le_of_ble_eq_true rfl) ?_
          refine rr rfl (s_aload_n rfl) ?_
          refine rr rfl (s_aload_n rfl) ?_
          refine rr rfl (s_getf rfl rfl) ?_
          refine rr rfl (s_iconst (v := 1) (by decide)) ?_
          refine rr rfl (s_iadd (v := 1) (by decide)) ?_
          have e11 : a_m MT [] 100000 6 miJx4a65c_grow_92f84 [.ref 3, .int 1] ((hF.set 3 (.inr (.inr (0, [.int 1, .long 0, .int 0])))) ++ [.inr (.inr (2, [.int x1, .int x2, .int x3, .int x4, .int x5, .int x6, .int x7, .int ((1 <<< (x4 &&& 31) : Int32) ||| (1 <<< (x5 &&& 31) : Int32)), .int (1 <<< (x6 &&& 31) : Int32), .int (-1)]))]) = some ((some (.ref 62)), ((hF.set 3 (.inr (.inr (0, [.int 1, .ref 62, .int 0])))) ++ [.inr (.inr (2, [.int x1, .int x2, .int x3, .int x4, .int x5, .int x6, .int x7, .int ((1 <<< (x4 &&& 31) : Int32) ||| (1 <<< (x5 &&& 31) : Int32)), .int (1 <<< (x6 &&& 31) : Int32), .int (-1)])), .inr (.inl (List.replicate 10 none))]), 1, 10) := by
            refine me (d := 5) g_Jx4a65c_grow_92f84 (Nat.le_of_ble_eq_true rfl) ?_
            refine rr rfl (s_aload_n rfl) ?_
            refine rr rfl (s_getf rfl rfl) ?_
            refine rr rfl (s_alen0) ?_
            refine rr rfl (s_istore_n rfl) ?_
            refine rr rfl (s_iload_n rfl) ?_
            refine rr rfl (s_ifF (by decide)) ?_
            refine rr rfl (s_aload_n rfl) ?_
            refine rr rfl (s_getf rfl rfl) ?_
            refine rr rfl rfl ?_
            refine rr rfl rfl ?_
            refine rr rfl (s_aload_n rfl) ?_
            refine rr rfl (s_bipush (v := 10) (by decide)) ?_
            refine rr rfl (s_iload_n rfl) ?_
            refine rr rfl (s_max (v := 10) rfl (Nat.le_of_ble_eq_true rfl) (by decide)) ?_
            refine rr rfl (s_anew (q := 62) (j := 10) rfl rfl rfl rfl (h' := ((hF.set 3 (.inr (.inr (0, [.int 1, .long 0, .int 0])))) ++ [.inr (.inr (2, [.int x1, .int x2, .int x3, .int x4, .int x5, .int x6, .int x7, .int ((1 <<< (x4 &&& 31) : Int32) ||| (1 <<< (x5 &&& 31) : Int32)), .int (1 <<< (x6 &&& 31) : Int32), .int (-1)])), .inr (.inl (List.replicate 10 none))]))) ?_
            refine rr rfl rfl ?_
            refine rr rfl (s_putf rfl rfl (Nat.le_of_ble_eq_true rfl) rfl (Nat.le_of_ble_eq_true rfl) rfl (h' := ((hF.set 3 (.inr (.inr (0, [.int 1, .ref 62, .int 0])))) ++ [.inr (.inr (2, [.int x1, .int x2, .int x3, .int x4, .int x5, .int x6, .int x7, .int ((1 <<< (x4 &&& 31) : Int32) ||| (1 <<< (x5 &&& 31) : Int32)), .int (1 <<< (x6 &&& 31) : Int32), .int (-1)])), .inr (.inl (List.replicate 10 none))]))) ?_
            exact rrt rfl rfl rfl rfl
          refine rrc rfl rfl rfl (do_of g_Jx4a65c_grow_92f84 rfl rfl e11) ?_
          exact rrt rfl rfl rfl rfl
        refine rrc rfl rfl rfl (do_of g_Jx4a65c_grow_d5877 rfl rfl e10) ?_
        refine rr rfl (s_astore_n rfl) ?_
        refine rr rfl (s_aload_n rfl) ?_
        refine rr rfl (s_iload_n rfl) ?_
        refine rr rfl (s_aload_n rfl) ?_
        refine rr rfl (s_aastore (j := 0) rfl rfl rfl (Nat.le_of_ble_eq_true rfl) rfl (Nat.le_of_ble_eq_true rfl) rfl (h' := ((hF.set 3 (.inr (.inr (0, [.int 1, .ref 62, .int 0])))) ++ [.inr (.inr (2, [.int x1, .int x2, .int x3, .int x4, .int x5, .int x6, .int x7, .int ((1 <<< (x4 &&& 31) : Int32) ||| (1 <<< (x5 &&& 31) : Int32)), .int (1 <<< (x6 &&& 31) : Int32), .int (-1)])), .inr (.inl [some 61, none, none, none, none, none, none, none, none, none])]))) ?_
        refine rr rfl (s_aload_n rfl) ?_
        refine rr rfl (s_iload_n rfl) ?_
        refine rr rfl (s_iconst (v := 1) (by decide)) ?_
        refine rr rfl (s_iadd (v := 1) (by decide)) ?_
        refine rr rfl (s_putf rfl rfl (Nat.le_of_ble_eq_true rfl) rfl (Nat.le_of_ble_eq_true rfl) rfl (h' := ((hF.set 3 (.inr (.inr (0, [.int 1, .ref 62, .int 1])))) ++ [.inr (.inr (2, [.int x1, .int x2, .int x3, .int x4, .int x5, .int x6, .int x7, .int ((1 <<< (x4 &&& 31) : Int32) ||| (1 <<< (x5 &&& 31) : Int32)), .int (1 <<< (x6 &&& 31) : Int32), .int (-1)])), .inr (.inl [some 61, none, none, none, none, none, none, none, none, none])]))) ?_
        exact rrt rfl rfl rfl rfl
      refine rrc rfl rfl rfl (do_of g_Jx4a65c_add_72be8 rfl rfl e9) ?_
      refine rr rfl (s_iconst (v := 1) (by decide)) ?_
      exact rrt rfl rfl rfl rfl
    refine rrc rfl rfl rfl (do_of g_Jx4a65c_add_9ea2d rfl rfl e8) ?_
    refine rr rfl rfl ?_
    refine rr rfl (s_aload_n rfl) ?_
    refine rr rfl (s_getf rfl rfl) ?_
    refine rr rfl (s_iconst (v := 0) (by decide)) ?_
    refine rr rfl (s_aload_n rfl) ?_
    refine rr rfl (s_getf rfl rfl) ?_
    refine rr rfl (s_iconst (v := 0) (by decide)) ?_
    refine rr rfl (s_bipush (v := 8) (by decide)) ?_
    refine rr rfl (s_copy8 rfl (Nat.le_of_ble_eq_true rfl) rfl rfl rfl rfl (Nat.le_of_ble_eq_true rfl) rfl (h' := ((hF.set 3 (.inr (.inr (0, [.int 1, .ref 62, .int 1])))) ++ [.inr (.inr (2, [.int x1, .int x2, .int x3, .int x4, .int x5, .int x6, .int x7, .int ((1 <<< (x4 &&& 31) : Int32) ||| (1 <<< (x5 &&& 31) : Int32)), .int (1 <<< (x6 &&& 31) : Int32), .int (-1)])), .inr (.inl [some 61, none, none, none, none, none, none, none, none, none])]))) ?_
    exact rrt rfl rfl rfl rfl
  refine rrc rfl rfl rfl (do_of g_X3_take rfl rfl e7) ?_
  refine rr rfl (s_aload_n rfl) ?_
  have e12 : a_m MT [] 100000 10 miX8_forgetRules [.ref 0] ((hF.set 3 (.inr (.inr (0, [.int 1, .ref 62, .int 1])))) ++ [.inr (.inr (2, [.int x1, .int x2, .int x3, .int x4, .int x5, .int x6, .int x7, .int ((1 <<< (x4 &&& 31) : Int32) ||| (1 <<< (x5 &&& 31) : Int32)), .int (1 <<< (x6 &&& 31) : Int32), .int (-1)])), .inr (.inl [some 61, none, none, none, none, none, none, none, none, none])]) = some (none, (((hF.set 3 (.inr (.inr (0, [.int 1, .ref 62, .int 1])))).set 6 (.inr (.inr (6, [.ref 2, .ref 7, .ref 8, .ref 9, .int 1])))) ++ [.inr (.inr (2, [.int x1, .int x2, .int x3, .int x4, .int x5, .int x6, .int x7, .int ((1 <<< (x4 &&& 31) : Int32) ||| (1 <<< (x5 &&& 31) : Int32)), .int (1 <<< (x6 &&& 31) : Int32), .int (-1)])), .inr (.inl [some 61, none, none, none, none, none, none, none, none, none])]), 0, 0) := by
    refine me (d := 9) g_X8_forgetRules (Nat.le_of_ble_eq_true rfl) ?_
    refine rr rfl (s_aload_n rfl) ?_
    refine rr rfl (s_getf rfl rfl) ?_
    refine rr rfl (s_getf rfl rfl) ?_
    refine rr rfl (s_aload_n rfl) ?_
    refine rr rfl (s_getf rfl rfl) ?_
    refine rr rfl (s_getf rfl rfl) ?_
    have e13 : a_m MT [] 100000 9 miX3_notSpare [.ref 2] ((hF.set 3 (.inr (.inr (0, [.int 1, .ref 62, .int 1])))) ++ [.inr (.inr (2, [.int x1, .int x2, .int x3, .int x4, .int x5, .int x6, .int x7, .int ((1 <<< (x4 &&& 31) : Int32) ||| (1 <<< (x5 &&& 31) : Int32)), .int (1 <<< (x6 &&& 31) : Int32), .int (-1)])), .inr (.inl [some 61, none, none, none, none, none, none, none, none, none])]) = some ((some (.int 1)), ((hF.set 3 (.inr (.inr (0, [.int 1, .ref 62, .int 1])))) ++ [.inr (.inr (2, [.int x1, .int x2, .int x3, .int x4, .int x5, .int x6, .int x7, .int ((1 <<< (x4 &&& 31) : Int32) ||| (1 <<< (x5 &&& 31) : Int32)), .int (1 <<< (x6 &&& 31) : Int32), .int (-1)])), .inr (.inl [some 61, none, none, none, none, none, none, none, none, none])]), 0, 0) := by
      refine me (d := 8) g_X3_notSpare (Nat.le_of_ble_eq_true rfl) ?_
      refine rr rfl (s_iconst (v := 0) (by decide)) ?_
      refine rr rfl (s_istore_n rfl) ?_
      refine rr rfl (s_iconst (v := 0) (by decide)) ?_
      refine rr rfl (s_istore_n rfl) ?_
      refine rr rfl (s_iload_n rfl) ?_
      refine rr rfl (s_aload_n rfl) ?_
      refine rr rfl (s_getf rfl rfl) ?_
      have e14 : a_m MT [] 100000 8 miJx4a65c_size_8abf5 [.ref 3] ((hF.set 3 (.inr (.inr (0, [.int 1, .ref 62, .int 1])))) ++ [.inr (.inr (2, [.int x1, .int x2, .int x3, .int x4, .int x5, .int x6, .int x7, .int ((1 <<< (x4 &&& 31) : Int32) ||| (1 <<< (x5 &&& 31) : Int32)), .int (1 <<< (x6 &&& 31) : Int32), .int (-1)])), .inr (.inl [some 61, none, none, none, none, none, none, none, none, none])]) = some ((some (.int 1)), ((hF.set 3 (.inr (.inr (0, [.int 1, .ref 62, .int 1])))) ++ [.inr (.inr (2, [.int x1, .int x2, .int x3, .int x4, .int x5, .int x6, .int x7, .int ((1 <<< (x4 &&& 31) : Int32) ||| (1 <<< (x5 &&& 31) : Int32)), .int (1 <<< (x6 &&& 31) : Int32), .int (-1)])), .inr (.inl [some 61, none, none, none, none, none, none, none, none, none])]), 0, 0) := by
        refine me (d := 7) g_Jx4a65c_size_8abf5 (Nat.le_of_ble_eq_true rfl) ?_
        refine rr rfl (s_aload_n rfl) ?_
        refine rr rfl (s_getf rfl rfl) ?_
        exact rrt rfl rfl rfl rfl
      refine rrc rfl rfl rfl (do_of g_Jx4a65c_size_8abf5 rfl rfl e14) ?_
      refine rr rfl (s_icF (by decide)) ?_
      refine rr rfl (s_aload_n rfl) ?_
      refine rr rfl (s_getf rfl rfl) ?_
      refine rr rfl (s_iload_n rfl) ?_
      have e15 : a_m MT [] 100000 8 miJx4a65c_get_915e3 [.ref 3, .int 0] ((hF.set 3 (.inr (.inr (0, [.int 1, .ref 62, .int 1])))) ++ [.inr (.inr (2, [.int x1, .int x2, .int x3, .int x4, .int x5, .int x6, .int x7, .int ((1 <<< (x4 &&& 31) : Int32) ||| (1 <<< (x5 &&& 31) : Int32)), .int (1 <<< (x6 &&& 31) : Int32), .int (-1)])), .inr (.inl [some 61, none, none, none, none, none, none, none, none, none])]) = some ((some (.ref 61)), ((hF.set 3 (.inr (.inr (0, [.int 1, .ref 62, .int 1])))) ++ [.inr (.inr (2, [.int x1, .int x2, .int x3, .int x4, .int x5, .int x6, .int x7, .int ((1 <<< (x4 &&& 31) : Int32) ||| (1 <<< (x5 &&& 31) : Int32)), .int (1 <<< (x6 &&& 31) : Int32), .int (-1)])), .inr (.inl [some 61, none, none, none, none, none, none, none, none, none])]), 0, 0) := by
        refine me (d := 7) g_Jx4a65c_get_915e3 (Nat.le_of_ble_eq_true rfl) ?_
        refine rr rfl (s_iload_n rfl) ?_
        refine rr rfl (s_aload_n rfl) ?_
        refine rr rfl (s_getf rfl rfl) ?_
        have e16 : a_m MT [] 100000 7 miJ15_checkIndex_7cf53 [.int 0, .int 1] ((hF.set 3 (.inr (.inr (0, [.int 1, .ref 62, .int 1])))) ++ [.inr (.inr (2, [.int x1, .int x2, .int x3, .int x4, .int x5, .int x6, .int x7, .int ((1 <<< (x4 &&& 31) : Int32) ||| (1 <<< (x5 &&& 31) : Int32)), .int (1 <<< (x6 &&& 31) : Int32), .int (-1)])), .inr (.inl [some 61, none, none, none, none, none, none, none, none, none])]) = some ((some (.int 0)), ((hF.set 3 (.inr (.inr (0, [.int 1, .ref 62, .int 1])))) ++ [.inr (.inr (2, [.int x1, .int x2, .int x3, .int x4, .int x5, .int x6, .int x7, .int ((1 <<< (x4 &&& 31) : Int32) ||| (1 <<< (x5 &&& 31) : Int32)), .int (1 <<< (x6 &&& 31) : Int32), .int (-1)])), .inr (.inl [some 61, none, none, none, none, none, none, none, none, none])]), 0, 0) := by
          refine me (d := 6) g_J15_checkIndex_7cf53 (Nat.le_of_ble_eq_true rfl) ?_
          refine rr rfl (s_iload_n rfl) ?_
          refine rr rfl (s_iload_n rfl) ?_
          refine rr rfl rfl ?_
          have e17 : a_m MT [] 100000 6 miJ3_checkIndex_8e157 [.int 0, .int 1, .null] ((hF.set 3 (.inr (.inr (0, [.int 1, .ref 62, .int 1])))) ++ [.inr (.inr (2, [.int x1, .int x2, .int x3, .int x4, .int x5, .int x6, .int x7, .int ((1 <<< (x4 &&& 31) : Int32) ||| (1 <<< (x5 &&& 31) : Int32)), .int (1 <<< (x6 &&& 31) : Int32), .int (-1)])), .inr (.inl [some 61, none, none, none, none, none, none, none, none, none])]) = some ((some (.int 0)), ((hF.set 3 (.inr (.inr (0, [.int 1, .ref 62, .int 1])))) ++ [.inr (.inr (2, [.int x1, .int x2, .int x3, .int x4, .int x5, .int x6, .int x7, .int ((1 <<< (x4 &&& 31) : Int32) ||| (1 <<< (x5 &&& 31) : Int32)), .int (1 <<< (x6 &&& 31) : Int32), .int (-1)])), .inr (.inl [some 61, none, none, none, none, none, none, none, none, none])]), 0, 0) := by
            refine me (d := 5) g_J3_checkIndex_8e157 (Nat.le_of_ble_eq_true rfl) ?_
            refine rr rfl (s_iload_n rfl) ?_
            refine rr rfl (s_ifF (by decide)) ?_
            refine rr rfl (s_iload_n rfl) ?_
            refine rr rfl (s_iload_n rfl) ?_
            refine rr rfl (s_icT (by decide)) ?_
            refine rr rfl (s_iload_n rfl) ?_
            exact rrt rfl rfl rfl rfl
          refine rrc rfl rfl rfl (do_of g_J3_checkIndex_8e157 rfl rfl e17) ?_
          exact rrt rfl rfl rfl rfl
        refine rrc rfl rfl rfl (do_of g_J15_checkIndex_7cf53 rfl rfl e16) ?_
        refine rr rfl rfl ?_
        refine rr rfl (s_aload_n rfl) ?_
        refine rr rfl (s_iload_n rfl) ?_
        have e18 : a_m MT [] 100000 7 miJx4a65c_elementData_915e3 [.ref 3, .int 0] ((hF.set 3 (.inr (.inr (0, [.int 1, .ref 62, .int 1])))) ++ [.inr (.inr (2, [.int x1, .int x2, .int x3, .int x4, .int x5, .int x6, .int x7, .int ((1 <<< (x4 &&& 31) : Int32) ||| (1 <<< (x5 &&& 31) : Int32)), .int (1 <<< (x6 &&& 31) : Int32), .int (-1)])), .inr (.inl [some 61, none, none, none, none, none, none, none, none, none])]) = some ((some (.ref 61)), ((hF.set 3 (.inr (.inr (0, [.int 1, .ref 62, .int 1])))) ++ [.inr (.inr (2, [.int x1, .int x2, .int x3, .int x4, .int x5, .int x6, .int x7, .int ((1 <<< (x4 &&& 31) : Int32) ||| (1 <<< (x5 &&& 31) : Int32)), .int (1 <<< (x6 &&& 31) : Int32), .int (-1)])), .inr (.inl [some 61, none, none, none, none, none, none, none, none, none])]), 0, 0) := by
          refine me (d := 6) g_Jx4a65c_elementData_915e3 (Nat.le_of_ble_eq_true rfl) ?_
          refine rr rfl (s_aload_n rfl) ?_
          refine rr rfl (s_getf rfl rfl) ?_
          refine rr rfl (s_iload_n rfl) ?_
          refine rr rfl (s_aaload (j := 0) (z := 61) rfl rfl rfl) ?_
          exact rrt rfl rfl rfl rfl
        refine rrc rfl rfl rfl (do_of g_Jx4a65c_elementData_915e3 rfl rfl e18) ?_
        exact rrt rfl rfl rfl rfl
      refine rrc rfl rfl rfl (do_of g_Jx4a65c_get_915e3 rfl rfl e15) ?_
      refine rr rfl rfl ?_
      have e19 : a_m MT [] 100000 8 miX2_isSpare [.ref 61] ((hF.set 3 (.inr (.inr (0, [.int 1, .ref 62, .int 1])))) ++ [.inr (.inr (2, [.int x1, .int x2, .int x3, .int x4, .int x5, .int x6, .int x7, .int ((1 <<< (x4 &&& 31) : Int32) ||| (1 <<< (x5 &&& 31) : Int32)), .int (1 <<< (x6 &&& 31) : Int32), .int (-1)])), .inr (.inl [some 61, none, none, none, none, none, none, none, none, none])]) = some ((some (.int 0)), ((hF.set 3 (.inr (.inr (0, [.int 1, .ref 62, .int 1])))) ++ [.inr (.inr (2, [.int x1, .int x2, .int x3, .int x4, .int x5, .int x6, .int x7, .int ((1 <<< (x4 &&& 31) : Int32) ||| (1 <<< (x5 &&& 31) : Int32)), .int (1 <<< (x6 &&& 31) : Int32), .int (-1)])), .inr (.inl [some 61, none, none, none, none, none, none, none, none, none])]), 0, 0) := by
        refine me (d := 7) g_X2_isSpare (Nat.le_of_ble_eq_true rfl) ?_
        refine rr rfl (s_aload_n rfl) ?_
        refine rr rfl (s_getf rfl rfl) ?_
        refine rr rfl (s_iconst (v := (-1)) (by decide)) ?_
        refine rr rfl (s_icT (by decide)) ?_
        refine rr rfl (s_iconst (v := 0) (by decide)) ?_
        exact rrt rfl rfl rfl rfl
      refine rrc rfl rfl rfl (do_of g_X2_isSpare rfl rfl e19) ?_
      refine rr rfl (s_ifF (by decide)) ?_
      refine rr rfl (s_iload_n rfl) ?_
      refine rr rfl (s_iconst (v := 1) (by decide)) ?_
      refine rr rfl (s_iload_n rfl) ?_
      refine rr rfl (s_ishl (v := 1) (by decide)) ?_
      refine rr rfl (s_ior (v := 1) (by decide)) ?_
      refine rr rfl (s_istore_n rfl) ?_
      refine rr rfl (s_iinc (v := 1) rfl (by decide) rfl) ?_
      refine rr rfl s_goto ?_
      refine rr rfl (s_iload_n rfl) ?_
      refine rr rfl (s_aload_n rfl) ?_
      refine rr rfl (s_getf rfl rfl) ?_
      have e20 : a_m MT [] 100000 8 miJx4a65c_size_8abf5 [.ref 3] ((hF.set 3 (.inr (.inr (0, [.int 1, .ref 62, .int 1])))) ++ [.inr (.inr (2, [.int x1, .int x2, .int x3, .int x4, .int x5, .int x6, .int x7, .int ((1 <<< (x4 &&& 31) : Int32) ||| (1 <<< (x5 &&& 31) : Int32)), .int (1 <<< (x6 &&& 31) : Int32), .int (-1)])), .inr (.inl [some 61, none, none, none, none, none, none, none, none, none])]) = some ((some (.int 1)), ((hF.set 3 (.inr (.inr (0, [.int 1, .ref 62, .int 1])))) ++ [.inr (.inr (2, [.int x1, .int x2, .int x3, .int x4, .int x5, .int x6, .int x7, .int ((1 <<< (x4 &&& 31) : Int32) ||| (1 <<< (x5 &&& 31) : Int32)), .int (1 <<< (x6 &&& 31) : Int32), .int (-1)])), .inr (.inl [some 61, none, none, none, none, none, none, none, none, none])]), 0, 0) := by
        refine me (d := 7) g_Jx4a65c_size_8abf5 (Nat.le_of_ble_eq_true rfl) ?_
        refine rr rfl (s_aload_n rfl) ?_
        refine rr rfl (s_getf rfl rfl) ?_
        exact rrt rfl rfl rfl rfl
      refine rrc rfl rfl rfl (do_of g_Jx4a65c_size_8abf5 rfl rfl e20) ?_
      refine rr rfl (s_icT (by decide)) ?_
      refine rr rfl (s_iload_n rfl) ?_
      exact rrt rfl rfl rfl rfl
    refine rrc rfl rfl rfl (do_of g_X3_notSpare rfl rfl e13) ?_
    have e21 : a_m MT [] 100000 9 miX6_countOnly [.ref 6, .int 1] ((hF.set 3 (.inr (.inr (0, [.int 1, .ref 62, .int 1])))) ++ [.inr (.inr (2, [.int x1, .int x2, .int x3, .int x4, .int x5, .int x6, .int x7, .int ((1 <<< (x4 &&& 31) : Int32) ||| (1 <<< (x5 &&& 31) : Int32)), .int (1 <<< (x6 &&& 31) : Int32), .int (-1)])), .inr (.inl [some 61, none, none, none, none, none, none, none, none, none])]) = some (none, (((hF.set 3 (.inr (.inr (0, [.int 1, .ref 62, .int 1])))).set 6 (.inr (.inr (6, [.ref 2, .ref 7, .ref 8, .ref 9, .int 1])))) ++ [.inr (.inr (2, [.int x1, .int x2, .int x3, .int x4, .int x5, .int x6, .int x7, .int ((1 <<< (x4 &&& 31) : Int32) ||| (1 <<< (x5 &&& 31) : Int32)), .int (1 <<< (x6 &&& 31) : Int32), .int (-1)])), .inr (.inl [some 61, none, none, none, none, none, none, none, none, none])]), 0, 0) := by
      refine me (d := 8) g_X6_countOnly (Nat.le_of_ble_eq_true rfl) ?_
      refine rr rfl (s_aload_n rfl) ?_
      refine rr rfl (s_iload_n rfl) ?_
      refine rr rfl (s_putf rfl rfl (Nat.le_of_ble_eq_true rfl) rfl (Nat.le_of_ble_eq_true rfl) rfl (h' := (((hF.set 3 (.inr (.inr (0, [.int 1, .ref 62, .int 1])))).set 6 (.inr (.inr (6, [.ref 2, .ref 7, .ref 8, .ref 9, .int 1])))) ++ [.inr (.inr (2, [.int x1, .int x2, .int x3, .int x4, .int x5, .int x6, .int x7, .int ((1 <<< (x4 &&& 31) : Int32) ||| (1 <<< (x5 &&& 31) : Int32)), .int (1 <<< (x6 &&& 31) : Int32), .int (-1)])), .inr (.inl [some 61, none, none, none, none, none, none, none, none, none])]))) ?_
      refine rr rfl (s_aload_n rfl) ?_
      refine rr rfl (s_getf rfl rfl) ?_
      refine rr rfl (s_iconst (v := (-1)) (by decide)) ?_
      have e22 : a_m MT [] 100000 8 miJ7_fill_53178 [.ref 7, .int (-1)] (((hF.set 3 (.inr (.inr (0, [.int 1, .ref 62, .int 1])))).set 6 (.inr (.inr (6, [.ref 2, .ref 7, .ref 8, .ref 9, .int 1])))) ++ [.inr (.inr (2, [.int x1, .int x2, .int x3, .int x4, .int x5, .int x6, .int x7, .int ((1 <<< (x4 &&& 31) : Int32) ||| (1 <<< (x5 &&& 31) : Int32)), .int (1 <<< (x6 &&& 31) : Int32), .int (-1)])), .inr (.inl [some 61, none, none, none, none, none, none, none, none, none])]) = some (none, (((hF.set 3 (.inr (.inr (0, [.int 1, .ref 62, .int 1])))).set 6 (.inr (.inr (6, [.ref 2, .ref 7, .ref 8, .ref 9, .int 1])))) ++ [.inr (.inr (2, [.int x1, .int x2, .int x3, .int x4, .int x5, .int x6, .int x7, .int ((1 <<< (x4 &&& 31) : Int32) ||| (1 <<< (x5 &&& 31) : Int32)), .int (1 <<< (x6 &&& 31) : Int32), .int (-1)])), .inr (.inl [some 61, none, none, none, none, none, none, none, none, none])]), 0, 0) := fill_n rfl (Nat.le_of_ble_eq_true rfl) rfl
      refine rrc rfl rfl rfl (do_of g_J7_fill_53178 rfl rfl e22) ?_
      exact rrt rfl rfl rfl rfl
    refine rrc rfl rfl rfl (do_of g_X6_countOnly rfl rfl e21) ?_
    refine rr rfl (s_aload_n rfl) ?_
    have e23 : a_m MT [] 100000 9 miX8_forgetRuns [.ref 0] (((hF.set 3 (.inr (.inr (0, [.int 1, .ref 62, .int 1])))).set 6 (.inr (.inr (6, [.ref 2, .ref 7, .ref 8, .ref 9, .int 1])))) ++ [.inr (.inr (2, [.int x1, .int x2, .int x3, .int x4, .int x5, .int x6, .int x7, .int ((1 <<< (x4 &&& 31) : Int32) ||| (1 <<< (x5 &&& 31) : Int32)), .int (1 <<< (x6 &&& 31) : Int32), .int (-1)])), .inr (.inl [some 61, none, none, none, none, none, none, none, none, none])]) = some (none, (((hF.set 3 (.inr (.inr (0, [.int 1, .ref 62, .int 1])))).set 6 (.inr (.inr (6, [.ref 2, .ref 7, .ref 8, .ref 9, .int 1])))) ++ [.inr (.inr (2, [.int x1, .int x2, .int x3, .int x4, .int x5, .int x6, .int x7, .int ((1 <<< (x4 &&& 31) : Int32) ||| (1 <<< (x5 &&& 31) : Int32)), .int (1 <<< (x6 &&& 31) : Int32), .int (-1)])), .inr (.inl [some 61, none, none, none, none, none, none, none, none, none])]), 0, 0) := by
      refine me (d := 8) g_X8_forgetRuns (Nat.le_of_ble_eq_true rfl) ?_
      refine rr rfl (s_aload_n rfl) ?_
      refine rr rfl (s_iconst (v := 0) (by decide)) ?_
      refine rr rfl (s_putf rfl rfl (Nat.le_of_ble_eq_true rfl) rfl (Nat.le_of_ble_eq_true rfl) rfl (h' := (((hF.set 3 (.inr (.inr (0, [.int 1, .ref 62, .int 1])))).set 6 (.inr (.inr (6, [.ref 2, .ref 7, .ref 8, .ref 9, .int 1])))) ++ [.inr (.inr (2, [.int x1, .int x2, .int x3, .int x4, .int x5, .int x6, .int x7, .int ((1 <<< (x4 &&& 31) : Int32) ||| (1 <<< (x5 &&& 31) : Int32)), .int (1 <<< (x6 &&& 31) : Int32), .int (-1)])), .inr (.inl [some 61, none, none, none, none, none, none, none, none, none])]))) ?_
      refine rr rfl (s_aload_n rfl) ?_
      refine rr rfl (s_getf rfl rfl) ?_
      refine rr rfl (s_iconst (v := 0) (by decide)) ?_
      refine rr rfl (s_putf rfl rfl (Nat.le_of_ble_eq_true rfl) rfl (Nat.le_of_ble_eq_true rfl) rfl (h' := (((hF.set 3 (.inr (.inr (0, [.int 1, .ref 62, .int 1])))).set 6 (.inr (.inr (6, [.ref 2, .ref 7, .ref 8, .ref 9, .int 1])))) ++ [.inr (.inr (2, [.int x1, .int x2, .int x3, .int x4, .int x5, .int x6, .int x7, .int ((1 <<< (x4 &&& 31) : Int32) ||| (1 <<< (x5 &&& 31) : Int32)), .int (1 <<< (x6 &&& 31) : Int32), .int (-1)])), .inr (.inl [some 61, none, none, none, none, none, none, none, none, none])]))) ?_
      exact rrt rfl rfl rfl rfl
    refine rrc rfl rfl rfl (do_of g_X8_forgetRuns rfl rfl e23) ?_
    exact rrt rfl rfl rfl rfl
  refine rrc rfl rfl rfl (do_of g_X8_forgetRules rfl rfl e12) ?_
  refine rr rfl (s_aload_n rfl) ?_
  refine rr rfl (s_getf rfl rfl) ?_
  refine rr rfl (s_getf rfl rfl) ?_
  refine rr rfl (s_getf rfl rfl) ?_
  have e24 : a_m MT [] 100000 10 miJx4a65c_size_8abf5 [.ref 3] (((hF.set 3 (.inr (.inr (0, [.int 1, .ref 62, .int 1])))).set 6 (.inr (.inr (6, [.ref 2, .ref 7, .ref 8, .ref 9, .int 1])))) ++ [.inr (.inr (2, [.int x1, .int x2, .int x3, .int x4, .int x5, .int x6, .int x7, .int ((1 <<< (x4 &&& 31) : Int32) ||| (1 <<< (x5 &&& 31) : Int32)), .int (1 <<< (x6 &&& 31) : Int32), .int (-1)])), .inr (.inl [some 61, none, none, none, none, none, none, none, none, none])]) = some ((some (.int 1)), (((hF.set 3 (.inr (.inr (0, [.int 1, .ref 62, .int 1])))).set 6 (.inr (.inr (6, [.ref 2, .ref 7, .ref 8, .ref 9, .int 1])))) ++ [.inr (.inr (2, [.int x1, .int x2, .int x3, .int x4, .int x5, .int x6, .int x7, .int ((1 <<< (x4 &&& 31) : Int32) ||| (1 <<< (x5 &&& 31) : Int32)), .int (1 <<< (x6 &&& 31) : Int32), .int (-1)])), .inr (.inl [some 61, none, none, none, none, none, none, none, none, none])]), 0, 0) := by
    refine me (d := 9) g_Jx4a65c_size_8abf5 (Nat.le_of_ble_eq_true rfl) ?_
    refine rr rfl (s_aload_n rfl) ?_
    refine rr rfl (s_getf rfl rfl) ?_
    exact rrt rfl rfl rfl rfl
  refine rrc rfl rfl rfl (do_of g_Jx4a65c_size_8abf5 rfl rfl e24) ?_
  refine rr rfl (s_iconst (v := 1) (by decide)) ?_
  refine rr rfl (s_isub (v := 0) (by decide)) ?_
  exact rrt rfl rfl rfl rfl
set_option maxHeartbeats 4000000 in
set_option maxRecDepth 10000 in
theorem rx_Nmm {x1 x2 x3 x4 x5 x6 x7 : Int32} (g1 : x5 = (-1)) (g2 : x6 = (-1)) (g3 : x2 = 0) (g4 : ¬ x4 < 0) (g5 : x4 < nI 8) (g6 : ¬ x3 < 0) (g7 : x3 < nI 8) : a_run MT [] (a_m MT [] 100000 10) 11 (some .int) tabX8_rule 90000 140 (alR x1 x2 x3 x4 x5 x6 x7) [] hF 0 0 = some (some (.int 0), (((hF.set 3 (.inr (.inr (0, [.int 1, .ref 62, .int 1])))).set 6 (.inr (.inr (6, [.ref 2, .ref 7, .ref 8, .ref 9, .int 1])))) ++ [.inr (.inr (2, [.int x1, .int x2, .int x3, .int x4, .int x4, .int x6, .int x7, .int ((1 <<< (x4 &&& 31) : Int32) ||| (1 <<< (x4 &&& 31) : Int32)), .int 0, .int (-1)])), .inr (.inl [some 61, none, none, none, none, none, none, none, none, none])]), 2, 20) := by
  refine rr rfl (s_new (q := 61) rfl rfl (h' := (hF ++ [.inr (.inr (2, [.int 0, .int 0, .int 0, .int 0, .int 0, .int 0, .int 0, .int 0, .int 0, .int 0]))]))) ?_
  refine rr rfl rfl ?_
  refine rr rfl (s_iload_n rfl) ?_
  refine rr rfl (s_iload_n rfl) ?_
  refine rr rfl (s_iload_n rfl) ?_
  refine rr rfl (s_iload rfl) ?_
  refine rr rfl (s_iload rfl) ?_
  refine rr rfl (s_iload rfl) ?_
  refine rr rfl (s_iload rfl) ?_
  have e1 : a_m MT [] 100000 10 miX2_init [.ref 61, .int x1, .int x2, .int x3, .int x4, .int x5, .int x6, .int x7] (hF ++ [.inr (.inr (2, [.int 0, .int 0, .int 0, .int 0, .int 0, .int 0, .int 0, .int 0, .int 0, .int 0]))]) = some (none, (hF ++ [.inr (.inr (2, [.int x1, .int x2, .int x3, .int x4, .int x4, .int x6, .int x7, .int ((1 <<< (x4 &&& 31) : Int32) ||| (1 <<< (x4 &&& 31) : Int32)), .int 0, .int (-1)]))]), 0, 0) := by
    refine me (d := 9) g_X2_init (Nat.le_of_ble_eq_true rfl) ?_
    refine rr rfl (s_aload_n rfl) ?_
    refine rr rfl rfl ?_
    refine rr rfl (s_aload_n rfl) ?_
    refine rr rfl (s_iconst (v := (-1)) (by decide)) ?_
    refine rr rfl (s_putf rfl rfl (Nat.le_of_ble_eq_true rfl) rfl (Nat.le_of_ble_eq_true rfl) rfl (h' := (hF ++ [.inr (.inr (2, [.int 0, .int 0, .int 0, .int 0, .int 0, .int 0, .int 0, .int 0, .int 0, .int (-1)]))]))) ?_
    refine rr rfl (s_aload_n rfl) ?_
    refine rr rfl (s_iload_n rfl) ?_
    refine rr rfl (s_putf rfl rfl (Nat.le_of_ble_eq_true rfl) rfl (Nat.le_of_ble_eq_true rfl) rfl (h' := (hF ++ [.inr (.inr (2, [.int x1, .int 0, .int 0, .int 0, .int 0, .int 0, .int 0, .int 0, .int 0, .int (-1)]))]))) ?_
    refine rr rfl (s_aload_n rfl) ?_
    refine rr rfl (s_iload_n rfl) ?_
    refine rr rfl (s_putf rfl rfl (Nat.le_of_ble_eq_true rfl) rfl (Nat.le_of_ble_eq_true rfl) rfl (h' := (hF ++ [.inr (.inr (2, [.int x1, .int x2, .int 0, .int 0, .int 0, .int 0, .int 0, .int 0, .int 0, .int (-1)]))]))) ?_
    refine rr rfl (s_aload_n rfl) ?_
    refine rr rfl (s_iload_n rfl) ?_
    refine rr rfl (s_putf rfl rfl (Nat.le_of_ble_eq_true rfl) rfl (Nat.le_of_ble_eq_true rfl) rfl (h' := (hF ++ [.inr (.inr (2, [.int x1, .int x2, .int x3, .int 0, .int 0, .int 0, .int 0, .int 0, .int 0, .int (-1)]))]))) ?_
    refine rr rfl (s_aload_n rfl) ?_
    refine rr rfl (s_iload rfl) ?_
    refine rr rfl (s_putf rfl rfl (Nat.le_of_ble_eq_true rfl) rfl (Nat.le_of_ble_eq_true rfl) rfl (h' := (hF ++ [.inr (.inr (2, [.int x1, .int x2, .int x3, .int x4, .int 0, .int 0, .int 0, .int 0, .int 0, .int (-1)]))]))) ?_
    refine rr rfl (s_aload_n rfl) ?_
    refine rr rfl (s_iload rfl) ?_
    refine rr rfl (s_iconst (v := (-1)) (by decide)) ?_
    refine rr rfl (s_icF (ic_nne g1)) ?_
    refine rr rfl (s_iload rfl) ?_
    refine rr rfl s_goto ?_
    refine rr rfl (s_putf rfl rfl (Nat.le_of_ble_eq_true rfl) rfl (Nat.le_of_ble_eq_true rfl) rfl (h' := (hF ++ [.inr (.inr (2, [.int x1, .int x2, .int x3, .int x4, .int x4, .int 0, .int 0, .int 0, .int 0, .int (-1)]))]))) ?_
    refine rr rfl (s_aload_n rfl) ?_
    refine rr rfl (s_iload rfl) ?_
    refine rr rfl (s_putf rfl rfl (Nat.le_of_ble_eq_true rfl) rfl (Nat.le_of_ble_eq_true rfl) rfl (h' := (hF ++ [.inr (.inr (2, [.int x1, .int x2, .int x3, .int x4, .int x4, .int x6, .int 0, .int 0, .int 0, .int (-1)]))]))) ?_
    refine rr rfl (s_aload_n rfl) ?_
    refine rr rfl (s_iload rfl) ?_
    refine rr rfl (s_putf rfl rfl (Nat.le_of_ble_eq_true rfl) rfl (Nat.le_of_ble_eq_true rfl) rfl (h' := (hF ++ [.inr (.inr (2, [.int x1, .int x2, .int x3, .int x4, .int x4, .int x6, .int x7, .int 0, .int 0, .int (-1)]))]))) ?_
    refine rr rfl (s_aload_n rfl) ?_
    refine rr rfl (s_iconst (v := 1) (by decide)) ?_
    refine rr rfl (s_aload_n rfl) ?_
    refine rr rfl (s_getf rfl rfl) ?_
    refine rr rfl (s_ishl (v := (1 <<< (x4 &&& 31) : Int32)) rfl) ?_
    refine rr rfl (s_iconst (v := 1) (by decide)) ?_
    refine rr rfl (s_aload_n rfl) ?_
    refine rr rfl (s_getf rfl rfl) ?_
    refine rr rfl (s_ishl (v := (1 <<< (x4 &&& 31) : Int32)) rfl) ?_
    refine rr rfl (s_ior (v := ((1 <<< (x4 &&& 31) : Int32) ||| (1 <<< (x4 &&& 31) : Int32))) rfl) ?_
    refine rr rfl (s_putf rfl rfl (Nat.le_of_ble_eq_true rfl) rfl (Nat.le_of_ble_eq_true rfl) rfl (h' := (hF ++ [.inr (.inr (2, [.int x1, .int x2, .int x3, .int x4, .int x4, .int x6, .int x7, .int ((1 <<< (x4 &&& 31) : Int32) ||| (1 <<< (x4 &&& 31) : Int32)), .int 0, .int (-1)]))]))) ?_
    refine rr rfl (s_aload_n rfl) ?_
    refine rr rfl (s_iload rfl) ?_
    refine rr rfl (s_iconst (v := (-1)) (by decide)) ?_
    refine rr rfl (s_icF (ic_nne g2)) ?_
    refine rr rfl (s_iconst (v := 0) (by decide)) ?_
    refine rr rfl s_goto ?_
    refine rr rfl (s_putf rfl rfl (Nat.le_of_ble_eq_true rfl) rfl (Nat.le_of_ble_eq_true rfl) rfl (h' := (hF ++ [.inr (.inr (2, [.int x1, .int x2, .int x3, .int x4, .int x4, .int x6, .int x7, .int ((1 <<< (x4 &&& 31) : Int32) ||| (1 <<< (x4 &&& 31) : Int32)), .int 0, .int (-1)]))]))) ?_
    exact rrt rfl rfl rfl rfl
  refine rrc rfl rfl rfl (do_of g_X2_init rfl rfl e1) ?_
  refine rr rfl (s_astore rfl) ?_
  refine rr rfl (s_aload_n rfl) ?_
  refine rr rfl (s_getf rfl rfl) ?_
  refine rr rfl (s_getf rfl rfl) ?_
  refine rr rfl (s_aload rfl) ?_
  have e2 : a_m MT [] 100000 10 miX3_hasLayersWith [.ref 2, .ref 61] (hF ++ [.inr (.inr (2, [.int x1, .int x2, .int x3, .int x4, .int x4, .int x6, .int x7, .int ((1 <<< (x4 &&& 31) : Int32) ||| (1 <<< (x4 &&& 31) : Int32)), .int 0, .int (-1)]))]) = some ((some (.int 1)), (hF ++ [.inr (.inr (2, [.int x1, .int x2, .int x3, .int x4, .int x4, .int x6, .int x7, .int ((1 <<< (x4 &&& 31) : Int32) ||| (1 <<< (x4 &&& 31) : Int32)), .int 0, .int (-1)]))]), 0, 0) := by
    refine me (d := 9) g_X3_hasLayersWith (Nat.le_of_ble_eq_true rfl) ?_
    refine rr rfl (s_aload_n rfl) ?_
    refine rr rfl (s_getf rfl rfl) ?_
    refine rr rfl (s_iconst (v := 0) (by decide)) ?_
    have e3 : a_m MT [] 100000 9 miJ7_fill_53178 [.ref 5, .int 0] (hF ++ [.inr (.inr (2, [.int x1, .int x2, .int x3, .int x4, .int x4, .int x6, .int x7, .int ((1 <<< (x4 &&& 31) : Int32) ||| (1 <<< (x4 &&& 31) : Int32)), .int 0, .int (-1)]))]) = some (none, (hF ++ [.inr (.inr (2, [.int x1, .int x2, .int x3, .int x4, .int x4, .int x6, .int x7, .int ((1 <<< (x4 &&& 31) : Int32) ||| (1 <<< (x4 &&& 31) : Int32)), .int 0, .int (-1)]))]), 0, 0) := fill_n rfl (Nat.le_of_ble_eq_true rfl) rfl
    refine rrc rfl rfl rfl (do_of g_J7_fill_53178 rfl rfl e3) ?_
    refine rr rfl (s_iconst (v := 1) (by decide)) ?_
    refine rr rfl (s_istore_n rfl) ?_
    refine rr rfl (s_iconst (v := 0) (by decide)) ?_
    refine rr rfl (s_istore_n rfl) ?_
    refine rr rfl (s_iload_n rfl) ?_
    refine rr rfl (s_ifF (by decide)) ?_
    refine rr rfl (s_iload_n rfl) ?_
    refine rr rfl (s_bipush (v := 8) (by decide)) ?_
    refine rr rfl (s_icF (by decide)) ?_
    refine rr rfl (s_aload_n rfl) ?_
    refine rr rfl (s_aload_n rfl) ?_
    have e4 : a_m MT [] 100000 9 miX3_lift [.ref 2, .ref 61] (hF ++ [.inr (.inr (2, [.int x1, .int x2, .int x3, .int x4, .int x4, .int x6, .int x7, .int ((1 <<< (x4 &&& 31) : Int32) ||| (1 <<< (x4 &&& 31) : Int32)), .int 0, .int (-1)]))]) = some ((some (.int 0)), (hF ++ [.inr (.inr (2, [.int x1, .int x2, .int x3, .int x4, .int x4, .int x6, .int x7, .int ((1 <<< (x4 &&& 31) : Int32) ||| (1 <<< (x4 &&& 31) : Int32)), .int 0, .int (-1)]))]), 0, 0) := by
      refine me (d := 8) g_X3_lift (Nat.le_of_ble_eq_true rfl) ?_
      refine rr rfl (s_aload_n rfl) ?_
      refine rr rfl (s_getf rfl rfl) ?_
      refine rr rfl (s_ifT (ic_eq g3)) ?_
      refine rr rfl (s_aload_n rfl) ?_
      refine rr rfl (s_getf rfl rfl) ?_
      refine rr rfl (s_aload_n rfl) ?_
      refine rr rfl (s_getf rfl rfl) ?_
      refine rr rfl (s_ialdR (n := 8) (x := 0) rfl g4 g5) ?_
      refine rr rfl (s_aload_n rfl) ?_
      refine rr rfl (s_getf rfl rfl) ?_
      refine rr rfl (s_aload_n rfl) ?_
      refine rr rfl (s_getf rfl rfl) ?_
      refine rr rfl (s_ialdR (n := 8) (x := 0) rfl g4 g5) ?_
      refine rr rfl (s_max (v := 0) rfl (Nat.le_of_ble_eq_true rfl) (by decide)) ?_
      refine rr rfl (s_istore_n rfl) ?_
      refine rr rfl (s_aload_n rfl) ?_
      refine rr rfl (s_getf rfl rfl) ?_
      refine rr rfl (s_iconst (v := (-1)) (by decide)) ?_
      refine rr rfl (s_icT (ic_eq g2)) ?_
      refine rr rfl (s_aload_n rfl) ?_
      refine rr rfl (s_getf rfl rfl) ?_
      refine rr rfl (s_aload_n rfl) ?_
      refine rr rfl (s_getf rfl rfl) ?_
      refine rr rfl (s_ialdR (n := 8) (x := 0) rfl g6 g7) ?_
      refine rr rfl (s_iload_n rfl) ?_
      refine rr rfl (s_icF (by decide)) ?_
      refine rr rfl (s_iconst (v := 0) (by decide)) ?_
      exact rrt rfl rfl rfl rfl
    refine rrc rfl rfl rfl (do_of g_X3_lift rfl rfl e4) ?_
    refine rr rfl (s_istore_n rfl) ?_
    refine rr rfl (s_iconst (v := 0) (by decide)) ?_
    refine rr rfl (s_istore rfl) ?_
    refine rr rfl (s_iload rfl) ?_
    refine rr rfl (s_aload_n rfl) ?_
    refine rr rfl (s_getf rfl rfl) ?_
    have e5 : a_m MT [] 100000 9 miJx4a65c_size_8abf5 [.ref 3] (hF ++ [.inr (.inr (2, [.int x1, .int x2, .int x3, .int x4, .int x4, .int x6, .int x7, .int ((1 <<< (x4 &&& 31) : Int32) ||| (1 <<< (x4 &&& 31) : Int32)), .int 0, .int (-1)]))]) = some ((some (.int 0)), (hF ++ [.inr (.inr (2, [.int x1, .int x2, .int x3, .int x4, .int x4, .int x6, .int x7, .int ((1 <<< (x4 &&& 31) : Int32) ||| (1 <<< (x4 &&& 31) : Int32)), .int 0, .int (-1)]))]), 0, 0) := by
      refine me (d := 8) g_Jx4a65c_size_8abf5 (Nat.le_of_ble_eq_true rfl) ?_
      refine rr rfl (s_aload_n rfl) ?_
      refine rr rfl (s_getf rfl rfl) ?_
      exact rrt rfl rfl rfl rfl
    refine rrc rfl rfl rfl (do_of g_Jx4a65c_size_8abf5 rfl rfl e5) ?_
    refine rr rfl (s_icT (by decide)) ?_
    refine rr rfl (s_iinc (v := 1) rfl (by decide) rfl) ?_
    refine rr rfl s_goto ?_
    refine rr rfl (s_iload_n rfl) ?_
    refine rr rfl (s_ifT (by decide)) ?_
    refine rr rfl (s_iload_n rfl) ?_
    refine rr rfl (s_ifF (by decide)) ?_
    refine rr rfl (s_iconst (v := 1) (by decide)) ?_
    refine rr rfl s_goto ?_
    exact rrt rfl rfl rfl rfl
  refine rrc rfl rfl rfl (do_of g_X3_hasLayersWith rfl rfl e2) ?_
  refine rr rfl (s_ifT (by decide)) ?_
  refine rr rfl (s_aload_n rfl) ?_
  refine rr rfl (s_getf rfl rfl) ?_
  refine rr rfl (s_getf rfl rfl) ?_
  refine rr rfl (s_getf rfl rfl) ?_
  have e6 : a_m MT [] 100000 10 miJx4a65c_size_8abf5 [.ref 3] (hF ++ [.inr (.inr (2, [.int x1, .int x2, .int x3, .int x4, .int x4, .int x6, .int x7, .int ((1 <<< (x4 &&& 31) : Int32) ||| (1 <<< (x4 &&& 31) : Int32)), .int 0, .int (-1)]))]) = some ((some (.int 0)), (hF ++ [.inr (.inr (2, [.int x1, .int x2, .int x3, .int x4, .int x4, .int x6, .int x7, .int ((1 <<< (x4 &&& 31) : Int32) ||| (1 <<< (x4 &&& 31) : Int32)), .int 0, .int (-1)]))]), 0, 0) := by
    refine me (d := 9) g_Jx4a65c_size_8abf5 (Nat.le_of_ble_eq_true rfl) ?_
    refine rr rfl (s_aload_n rfl) ?_
    refine rr rfl (s_getf rfl rfl) ?_
    exact rrt rfl rfl rfl rfl
  refine rrc rfl rfl rfl (do_of g_Jx4a65c_size_8abf5 rfl rfl e6) ?_
  refine rr rfl (s_bipush (v := 12) (by decide)) ?_
  refine rr rfl (s_icT (by decide)) ?_
  refine rr rfl (s_aload_n rfl) ?_
  refine rr rfl (s_getf rfl rfl) ?_
  refine rr rfl (s_getf rfl rfl) ?_
  refine rr rfl (s_aload rfl) ?_
  have e7 : a_m MT [] 100000 10 miX3_take [.ref 2, .ref 61] (hF ++ [.inr (.inr (2, [.int x1, .int x2, .int x3, .int x4, .int x4, .int x6, .int x7, .int ((1 <<< (x4 &&& 31) : Int32) ||| (1 <<< (x4 &&& 31) : Int32)), .int 0, .int (-1)]))]) = some (none, ((hF.set 3 (.inr (.inr (0, [.int 1, .ref 62, .int 1])))) ++ [.inr (.inr (2, [.int x1, .int x2, .int x3, .int x4, .int x4, .int x6, .int x7, .int ((1 <<< (x4 &&& 31) : Int32) ||| (1 <<< (x4 &&& 31) : Int32)), .int 0, .int (-1)])), .inr (.inl [some 61, none, none, none, none, none, none, none, none, none])]), 1, 10) := by
    refine me (d := 9) g_X3_take (Nat.le_of_ble_eq_true rfl) ?_
    refine rr rfl (s_aload_n rfl) ?_
    refine rr rfl (s_getf rfl rfl) ?_
    refine rr rfl (s_aload_n rfl) ?_
    have e8 : a_m MT [] 100000 9 miJx4a65c_add_9ea2d [.ref 3, .ref 61] (hF ++ [.inr (.inr (2, [.int x1, .int x2, .int x3, .int x4, .int x4, .int x6, .int x7, .int ((1 <<< (x4 &&& 31) : Int32) ||| (1 <<< (x4 &&& 31) : Int32)), .int 0, .int (-1)]))]) = some ((some (.int 1)), ((hF.set 3 (.inr (.inr (0, [.int 1, .ref 62, .int 1])))) ++ [.inr (.inr (2, [.int x1, .int x2, .int x3, .int x4, .int x4, .int x6, .int x7, .int ((1 <<< (x4 &&& 31) : Int32) ||| (1 <<< (x4 &&& 31) : Int32)), .int 0, .int (-1)])), .inr (.inl [some 61, none, none, none, none, none, none, none, none, none])]), 1, 10) := by
      refine me (d := 8) g_Jx4a65c_add_9ea2d (Nat.le_of_ble_eq_true rfl) ?_
      refine rr rfl (s_aload_n rfl) ?_
      refine rr rfl rfl ?_
      refine rr rfl (s_getf rfl rfl) ?_
      refine rr rfl (s_iconst (v := 1) (by decide)) ?_
      refine rr rfl (s_iadd (v := 1) (by decide)) ?_
      refine rr rfl (s_putf rfl rfl (Nat.le_of_ble_eq_true rfl) rfl (Nat.le_of_ble_eq_true rfl) rfl (h' := ((hF.set 3 (.inr (.inr (0, [.int 1, .long 0, .int 0])))) ++ [.inr (.inr (2, [.int x1, .int x2, .int x3, .int x4, .int x4, .int x6, .int x7, .int ((1 <<< (x4 &&& 31) : Int32) ||| (1 <<< (x4 &&& 31) : Int32)), .int 0, .int (-1)]))]))) ?_
      refine rr rfl (s_aload_n rfl) ?_
      refine rr rfl (s_aload_n rfl) ?_
      refine rr rfl (s_aload_n rfl) ?_
      refine rr rfl (s_getf rfl rfl) ?_
      refine rr rfl (s_aload_n rfl) ?_
      refine rr rfl (s_getf rfl rfl) ?_
      have e9 : a_m MT [] 100000 8 miJx4a65c_add_72be8 [.ref 3, .ref 61, .long 0, .int 0] ((hF.set 3 (.inr (.inr (0, [.int 1, .long 0, .int 0])))) ++ [.inr (.inr (2, [.int x1, .int x2, .int x3, .int x4, .int x4, .int x6, .int x7, .int ((1 <<< (x4 &&& 31) : Int32) ||| (1 <<< (x4 &&& 31) : Int32)), .int 0, .int (-1)]))]) = some (none, ((hF.set 3 (.inr (.inr (0, [.int 1, .ref 62, .int 1])))) ++ [.inr (.inr (2, [.int x1, .int x2, .int x3, .int x4, .int x4, .int x6, .int x7, .int ((1 <<< (x4 &&& 31) : Int32) ||| (1 <<< (x4 &&& 31) : Int32)), .int 0, .int (-1)])), .inr (.inl [some 61, none, none, none, none, none, none, none, none, none])]), 1, 10) := by
        refine me (d := 7) g_Jx4a65c_add_72be8 (Nat.le_of_ble_eq_true rfl) ?_
        refine rr rfl (s_iload_n rfl) ?_
        refine rr rfl (s_aloadL rfl) ?_
        refine rr rfl (s_alen0) ?_
        refine rr rfl (s_icF (by decide)) ?_
        refine rr rfl (s_aload_n rfl) ?_
        have e10 : a_m MT [] 100000 7 miJx4a65c_grow_d5877 [.ref 3] ((hF.set 3 (.inr (.inr (0, [.int 1, .long 0, .int 0])))) ++ [.inr (.inr (2, [.int x1, .int x2, .int x3, .int x4, .int x4, .int x6, .int x7, .int ((1 <<< (x4 &&& 31) : Int32) ||| (1 <<< (x4 &&& 31) : Int32)), .int 0, .int (-1)]))]) = some ((some (.ref 62)), ((hF.set 3 (.inr (.inr (0, [.int 1, .ref 62, .int 0])))) ++ [.inr (.inr (2, [.int x1, .int x2, .int x3, .int x4, .int x4, .int x6, .int x7, .int ((1 <<< (x4 &&& 31) : Int32) ||| (1 <<< (x4 &&& 31) : Int32)), .int 0, .int (-1)])), .inr (.inl (List.replicate 10 none))]), 1, 10) := by
          refine me (d := 6) g_Jx4a65c_grow_d5877 (Nat.le_of_ble_eq_true rfl) ?_
          refine rr rfl (s_aload_n rfl) ?_
          refine rr rfl (s_aload_n rfl) ?_
          refine rr rfl (s_getf rfl rfl) ?_
          refine rr rfl (s_iconst (v := 1) (by decide)) ?_
          refine rr rfl (s_iadd (v := 1) (by decide)) ?_
          have e11 : a_m MT [] 100000 6 miJx4a65c_grow_92f84 [.ref 3, .int 1] ((hF.set 3 (.inr (.inr (0, [.int 1, .long 0, .int 0])))) ++ [.inr (.inr (2, [.int x1, .int x2, .int x3, .int x4, .int x4, .int x6, .int x7, .int ((1 <<< (x4 &&& 31) : Int32) ||| (1 <<< (x4 &&& 31) : Int32)), .int 0, .int (-1)]))]) = some ((some (.ref 62)), ((hF.set 3 (.inr (.inr (0, [.int 1, .ref 62, .int 0])))) ++ [.inr (.inr (2, [.int x1, .int x2, .int x3, .int x4, .int x4, .int x6, .int x7, .int ((1 <<< (x4 &&& 31) : Int32) ||| (1 <<< (x4 &&& 31) : Int32)), .int 0, .int (-1)])), .inr (.inl (List.replicate 10 none))]), 1, 10) := by
            refine me (d := 5) g_Jx4a65c_grow_92f84 (Nat.le_of_ble_eq_true rfl) ?_
            refine rr rfl (s_aload_n rfl) ?_
            refine rr rfl (s_getf rfl rfl) ?_
            refine rr rfl (s_alen0) ?_
            refine rr rfl (s_istore_n rfl) ?_
            refine rr rfl (s_iload_n rfl) ?_
            refine rr rfl (s_ifF (by decide)) ?_
            refine rr rfl (s_aload_n rfl) ?_
            refine rr rfl (s_getf rfl rfl) ?_
            refine rr rfl rfl ?_
            refine rr rfl rfl ?_
            refine rr rfl (s_aload_n rfl) ?_
            refine rr rfl (s_bipush (v := 10) (by decide)) ?_
            refine rr rfl (s_iload_n rfl) ?_
            refine rr rfl (s_max (v := 10) rfl (Nat.le_of_ble_eq_true rfl) (by decide)) ?_
            refine rr rfl (s_anew (q := 62) (j := 10) rfl rfl rfl rfl (h' := ((hF.set 3 (.inr (.inr (0, [.int 1, .long 0, .int 0])))) ++ [.inr (.inr (2, [.int x1, .int x2, .int x3, .int x4, .int x4, .int x6, .int x7, .int ((1 <<< (x4 &&& 31) : Int32) ||| (1 <<< (x4 &&& 31) : Int32)), .int 0, .int (-1)])), .inr (.inl (List.replicate 10 none))]))) ?_
            refine rr rfl rfl ?_
            refine rr rfl (s_putf rfl rfl (Nat.le_of_ble_eq_true rfl) rfl (Nat.le_of_ble_eq_true rfl) rfl (h' := ((hF.set 3 (.inr (.inr (0, [.int 1, .ref 62, .int 0])))) ++ [.inr (.inr (2, [.int x1, .int x2, .int x3, .int x4, .int x4, .int x6, .int x7, .int ((1 <<< (x4 &&& 31) : Int32) ||| (1 <<< (x4 &&& 31) : Int32)), .int 0, .int (-1)])), .inr (.inl (List.replicate 10 none))]))) ?_
            exact rrt rfl rfl rfl rfl
          refine rrc rfl rfl rfl (do_of g_Jx4a65c_grow_92f84 rfl rfl e11) ?_
          exact rrt rfl rfl rfl rfl
        refine rrc rfl rfl rfl (do_of g_Jx4a65c_grow_d5877 rfl rfl e10) ?_
        refine rr rfl (s_astore_n rfl) ?_
        refine rr rfl (s_aload_n rfl) ?_
        refine rr rfl (s_iload_n rfl) ?_
        refine rr rfl (s_aload_n rfl) ?_
        refine rr rfl (s_aastore (j := 0) rfl rfl rfl (Nat.le_of_ble_eq_true rfl) rfl (Nat.le_of_ble_eq_true rfl) rfl (h' := ((hF.set 3 (.inr (.inr (0, [.int 1, .ref 62, .int 0])))) ++ [.inr (.inr (2, [.int x1, .int x2, .int x3, .int x4, .int x4, .int x6, .int x7, .int ((1 <<< (x4 &&& 31) : Int32) ||| (1 <<< (x4 &&& 31) : Int32)), .int 0, .int (-1)])), .inr (.inl [some 61, none, none, none, none, none, none, none, none, none])]))) ?_
        refine rr rfl (s_aload_n rfl) ?_
        refine rr rfl (s_iload_n rfl) ?_
        refine rr rfl (s_iconst (v := 1) (by decide)) ?_
        refine rr rfl (s_iadd (v := 1) (by decide)) ?_
        refine rr rfl (s_putf rfl rfl (Nat.le_of_ble_eq_true rfl) rfl (Nat.le_of_ble_eq_true rfl) rfl (h' := ((hF.set 3 (.inr (.inr (0, [.int 1, .ref 62, .int 1])))) ++ [.inr (.inr (2, [.int x1, .int x2, .int x3, .int x4, .int x4, .int x6, .int x7, .int ((1 <<< (x4 &&& 31) : Int32) ||| (1 <<< (x4 &&& 31) : Int32)), .int 0, .int (-1)])), .inr (.inl [some 61, none, none, none, none, none, none, none, none, none])]))) ?_
        exact rrt rfl rfl rfl rfl
      refine rrc rfl rfl rfl (do_of g_Jx4a65c_add_72be8 rfl rfl e9) ?_
      refine rr rfl (s_iconst (v := 1) (by decide)) ?_
      exact rrt rfl rfl rfl rfl
    refine rrc rfl rfl rfl (do_of g_Jx4a65c_add_9ea2d rfl rfl e8) ?_
    refine rr rfl rfl ?_
    refine rr rfl (s_aload_n rfl) ?_
    refine rr rfl (s_getf rfl rfl) ?_
    refine rr rfl (s_iconst (v := 0) (by decide)) ?_
    refine rr rfl (s_aload_n rfl) ?_
    refine rr rfl (s_getf rfl rfl) ?_
    refine rr rfl (s_iconst (v := 0) (by decide)) ?_
    refine rr rfl (s_bipush (v := 8) (by decide)) ?_
    refine rr rfl (s_copy8 rfl (Nat.le_of_ble_eq_true rfl) rfl rfl rfl rfl (Nat.le_of_ble_eq_true rfl) rfl (h' := ((hF.set 3 (.inr (.inr (0, [.int 1, .ref 62, .int 1])))) ++ [.inr (.inr (2, [.int x1, .int x2, .int x3, .int x4, .int x4, .int x6, .int x7, .int ((1 <<< (x4 &&& 31) : Int32) ||| (1 <<< (x4 &&& 31) : Int32)), .int 0, .int (-1)])), .inr (.inl [some 61, none, none, none, none, none, none, none, none, none])]))) ?_
    exact rrt rfl rfl rfl rfl
  refine rrc rfl rfl rfl (do_of g_X3_take rfl rfl e7) ?_
  refine rr rfl (s_aload_n rfl) ?_
  have e12 : a_m MT [] 100000 10 miX8_forgetRules [.ref 0] ((hF.set 3 (.inr (.inr (0, [.int 1, .ref 62, .int 1])))) ++ [.inr (.inr (2, [.int x1, .int x2, .int x3, .int x4, .int x4, .int x6, .int x7, .int ((1 <<< (x4 &&& 31) : Int32) ||| (1 <<< (x4 &&& 31) : Int32)), .int 0, .int (-1)])), .inr (.inl [some 61, none, none, none, none, none, none, none, none, none])]) = some (none, (((hF.set 3 (.inr (.inr (0, [.int 1, .ref 62, .int 1])))).set 6 (.inr (.inr (6, [.ref 2, .ref 7, .ref 8, .ref 9, .int 1])))) ++ [.inr (.inr (2, [.int x1, .int x2, .int x3, .int x4, .int x4, .int x6, .int x7, .int ((1 <<< (x4 &&& 31) : Int32) ||| (1 <<< (x4 &&& 31) : Int32)), .int 0, .int (-1)])), .inr (.inl [some 61, none, none, none, none, none, none, none, none, none])]), 0, 0) := by
    refine me (d := 9) g_X8_forgetRules (Nat.le_of_ble_eq_true rfl) ?_
    refine rr rfl (s_aload_n rfl) ?_
    refine rr rfl (s_getf rfl rfl) ?_
    refine rr rfl (s_getf rfl rfl) ?_
    refine rr rfl (s_aload_n rfl) ?_
    refine rr rfl (s_getf rfl rfl) ?_
    refine rr rfl (s_getf rfl rfl) ?_
    have e13 : a_m MT [] 100000 9 miX3_notSpare [.ref 2] ((hF.set 3 (.inr (.inr (0, [.int 1, .ref 62, .int 1])))) ++ [.inr (.inr (2, [.int x1, .int x2, .int x3, .int x4, .int x4, .int x6, .int x7, .int ((1 <<< (x4 &&& 31) : Int32) ||| (1 <<< (x4 &&& 31) : Int32)), .int 0, .int (-1)])), .inr (.inl [some 61, none, none, none, none, none, none, none, none, none])]) = some ((some (.int 1)), ((hF.set 3 (.inr (.inr (0, [.int 1, .ref 62, .int 1])))) ++ [.inr (.inr (2, [.int x1, .int x2, .int x3, .int x4, .int x4, .int x6, .int x7, .int ((1 <<< (x4 &&& 31) : Int32) ||| (1 <<< (x4 &&& 31) : Int32)), .int 0, .int (-1)])), .inr (.inl [some 61, none, none, none, none, none, none, none, none, none])]), 0, 0) := by
      refine me (d := 8) g_X3_notSpare (Nat.le_of_ble_eq_true rfl) ?_
      refine rr rfl (s_iconst (v := 0) (by decide)) ?_
      refine rr rfl (s_istore_n rfl) ?_
      refine rr rfl (s_iconst (v := 0) (by decide)) ?_
      refine rr rfl (s_istore_n rfl) ?_
      refine rr rfl (s_iload_n rfl) ?_
      refine rr rfl (s_aload_n rfl) ?_
      refine rr rfl (s_getf rfl rfl) ?_
      have e14 : a_m MT [] 100000 8 miJx4a65c_size_8abf5 [.ref 3] ((hF.set 3 (.inr (.inr (0, [.int 1, .ref 62, .int 1])))) ++ [.inr (.inr (2, [.int x1, .int x2, .int x3, .int x4, .int x4, .int x6, .int x7, .int ((1 <<< (x4 &&& 31) : Int32) ||| (1 <<< (x4 &&& 31) : Int32)), .int 0, .int (-1)])), .inr (.inl [some 61, none, none, none, none, none, none, none, none, none])]) = some ((some (.int 1)), ((hF.set 3 (.inr (.inr (0, [.int 1, .ref 62, .int 1])))) ++ [.inr (.inr (2, [.int x1, .int x2, .int x3, .int x4, .int x4, .int x6, .int x7, .int ((1 <<< (x4 &&& 31) : Int32) ||| (1 <<< (x4 &&& 31) : Int32)), .int 0, .int (-1)])), .inr (.inl [some 61, none, none, none, none, none, none, none, none, none])]), 0, 0) := by
        refine me (d := 7) g_Jx4a65c_size_8abf5 (Nat.le_of_ble_eq_true rfl) ?_
        refine rr rfl (s_aload_n rfl) ?_
        refine rr rfl (s_getf rfl rfl) ?_
        exact rrt rfl rfl rfl rfl
      refine rrc rfl rfl rfl (do_of g_Jx4a65c_size_8abf5 rfl rfl e14) ?_
      refine rr rfl (s_icF (by decide)) ?_
      refine rr rfl (s_aload_n rfl) ?_
      refine rr rfl (s_getf rfl rfl) ?_
      refine rr rfl (s_iload_n rfl) ?_
      have e15 : a_m MT [] 100000 8 miJx4a65c_get_915e3 [.ref 3, .int 0] ((hF.set 3 (.inr (.inr (0, [.int 1, .ref 62, .int 1])))) ++ [.inr (.inr (2, [.int x1, .int x2, .int x3, .int x4, .int x4, .int x6, .int x7, .int ((1 <<< (x4 &&& 31) : Int32) ||| (1 <<< (x4 &&& 31) : Int32)), .int 0, .int (-1)])), .inr (.inl [some 61, none, none, none, none, none, none, none, none, none])]) = some ((some (.ref 61)), ((hF.set 3 (.inr (.inr (0, [.int 1, .ref 62, .int 1])))) ++ [.inr (.inr (2, [.int x1, .int x2, .int x3, .int x4, .int x4, .int x6, .int x7, .int ((1 <<< (x4 &&& 31) : Int32) ||| (1 <<< (x4 &&& 31) : Int32)), .int 0, .int (-1)])), .inr (.inl [some 61, none, none, none, none, none, none, none, none, none])]), 0, 0) := by
        refine me (d := 7) g_Jx4a65c_get_915e3 (Nat.le_of_ble_eq_true rfl) ?_
        refine rr rfl (s_iload_n rfl) ?_
        refine rr rfl (s_aload_n rfl) ?_
        refine rr rfl (s_getf rfl rfl) ?_
        have e16 : a_m MT [] 100000 7 miJ15_checkIndex_7cf53 [.int 0, .int 1] ((hF.set 3 (.inr (.inr (0, [.int 1, .ref 62, .int 1])))) ++ [.inr (.inr (2, [.int x1, .int x2, .int x3, .int x4, .int x4, .int x6, .int x7, .int ((1 <<< (x4 &&& 31) : Int32) ||| (1 <<< (x4 &&& 31) : Int32)), .int 0, .int (-1)])), .inr (.inl [some 61, none, none, none, none, none, none, none, none, none])]) = some ((some (.int 0)), ((hF.set 3 (.inr (.inr (0, [.int 1, .ref 62, .int 1])))) ++ [.inr (.inr (2, [.int x1, .int x2, .int x3, .int x4, .int x4, .int x6, .int x7, .int ((1 <<< (x4 &&& 31) : Int32) ||| (1 <<< (x4 &&& 31) : Int32)), .int 0, .int (-1)])), .inr (.inl [some 61, none, none, none, none, none, none, none, none, none])]), 0, 0) := by
          refine me (d := 6) g_J15_checkIndex_7cf53 (Nat.le_of_ble_eq_true rfl) ?_
          refine rr rfl (s_iload_n rfl) ?_
          refine rr rfl (s_iload_n rfl) ?_
          refine rr rfl rfl ?_
          have e17 : a_m MT [] 100000 6 miJ3_checkIndex_8e157 [.int 0, .int 1, .null] ((hF.set 3 (.inr (.inr (0, [.int 1, .ref 62, .int 1])))) ++ [.inr (.inr (2, [.int x1, .int x2, .int x3, .int x4, .int x4, .int x6, .int x7, .int ((1 <<< (x4 &&& 31) : Int32) ||| (1 <<< (x4 &&& 31) : Int32)), .int 0, .int (-1)])), .inr (.inl [some 61, none, none, none, none, none, none, none, none, none])]) = some ((some (.int 0)), ((hF.set 3 (.inr (.inr (0, [.int 1, .ref 62, .int 1])))) ++ [.inr (.inr (2, [.int x1, .int x2, .int x3, .int x4, .int x4, .int x6, .int x7, .int ((1 <<< (x4 &&& 31) : Int32) ||| (1 <<< (x4 &&& 31) : Int32)), .int 0, .int (-1)])), .inr (.inl [some 61, none, none, none, none, none, none, none, none, none])]), 0, 0) := by
            refine me (d := 5) g_J3_checkIndex_8e157 (Nat.le_of_ble_eq_true rfl) ?_
            refine rr rfl (s_iload_n rfl) ?_
            refine rr rfl (s_ifF (by decide)) ?_
            refine rr rfl (s_iload_n rfl) ?_
            refine rr rfl (s_iload_n rfl) ?_
            refine rr rfl (s_icT (by decide)) ?_
            refine rr rfl (s_iload_n rfl) ?_
            exact rrt rfl rfl rfl rfl
          refine rrc rfl rfl rfl (do_of g_J3_checkIndex_8e157 rfl rfl e17) ?_
          exact rrt rfl rfl rfl rfl
        refine rrc rfl rfl rfl (do_of g_J15_checkIndex_7cf53 rfl rfl e16) ?_
        refine rr rfl rfl ?_
        refine rr rfl (s_aload_n rfl) ?_
        refine rr rfl (s_iload_n rfl) ?_
        have e18 : a_m MT [] 100000 7 miJx4a65c_elementData_915e3 [.ref 3, .int 0] ((hF.set 3 (.inr (.inr (0, [.int 1, .ref 62, .int 1])))) ++ [.inr (.inr (2, [.int x1, .int x2, .int x3, .int x4, .int x4, .int x6, .int x7, .int ((1 <<< (x4 &&& 31) : Int32) ||| (1 <<< (x4 &&& 31) : Int32)), .int 0, .int (-1)])), .inr (.inl [some 61, none, none, none, none, none, none, none, none, none])]) = some ((some (.ref 61)), ((hF.set 3 (.inr (.inr (0, [.int 1, .ref 62, .int 1])))) ++ [.inr (.inr (2, [.int x1, .int x2, .int x3, .int x4, .int x4, .int x6, .int x7, .int ((1 <<< (x4 &&& 31) : Int32) ||| (1 <<< (x4 &&& 31) : Int32)), .int 0, .int (-1)])), .inr (.inl [some 61, none, none, none, none, none, none, none, none, none])]), 0, 0) := by
          refine me (d := 6) g_Jx4a65c_elementData_915e3 (Nat.le_of_ble_eq_true rfl) ?_
          refine rr rfl (s_aload_n rfl) ?_
          refine rr rfl (s_getf rfl rfl) ?_
          refine rr rfl (s_iload_n rfl) ?_
          refine rr rfl (s_aaload (j := 0) (z := 61) rfl rfl rfl) ?_
          exact rrt rfl rfl rfl rfl
        refine rrc rfl rfl rfl (do_of g_Jx4a65c_elementData_915e3 rfl rfl e18) ?_
        exact rrt rfl rfl rfl rfl
      refine rrc rfl rfl rfl (do_of g_Jx4a65c_get_915e3 rfl rfl e15) ?_
      refine rr rfl rfl ?_
      have e19 : a_m MT [] 100000 8 miX2_isSpare [.ref 61] ((hF.set 3 (.inr (.inr (0, [.int 1, .ref 62, .int 1])))) ++ [.inr (.inr (2, [.int x1, .int x2, .int x3, .int x4, .int x4, .int x6, .int x7, .int ((1 <<< (x4 &&& 31) : Int32) ||| (1 <<< (x4 &&& 31) : Int32)), .int 0, .int (-1)])), .inr (.inl [some 61, none, none, none, none, none, none, none, none, none])]) = some ((some (.int 0)), ((hF.set 3 (.inr (.inr (0, [.int 1, .ref 62, .int 1])))) ++ [.inr (.inr (2, [.int x1, .int x2, .int x3, .int x4, .int x4, .int x6, .int x7, .int ((1 <<< (x4 &&& 31) : Int32) ||| (1 <<< (x4 &&& 31) : Int32)), .int 0, .int (-1)])), .inr (.inl [some 61, none, none, none, none, none, none, none, none, none])]), 0, 0) := by
        refine me (d := 7) g_X2_isSpare (Nat.le_of_ble_eq_true rfl) ?_
        refine rr rfl (s_aload_n rfl) ?_
        refine rr rfl (s_getf rfl rfl) ?_
        refine rr rfl (s_iconst (v := (-1)) (by decide)) ?_
        refine rr rfl (s_icT (by decide)) ?_
        refine rr rfl (s_iconst (v := 0) (by decide)) ?_
        exact rrt rfl rfl rfl rfl
      refine rrc rfl rfl rfl (do_of g_X2_isSpare rfl rfl e19) ?_
      refine rr rfl (s_ifF (by decide)) ?_
      refine rr rfl (s_iload_n rfl) ?_
      refine rr rfl (s_iconst (v := 1) (by decide)) ?_
      refine rr rfl (s_iload_n rfl) ?_
      refine rr rfl (s_ishl (v := 1) (by decide)) ?_
      refine rr rfl (s_ior (v := 1) (by decide)) ?_
      refine rr rfl (s_istore_n rfl) ?_
      refine rr rfl (s_iinc (v := 1) rfl (by decide) rfl) ?_
      refine rr rfl s_goto ?_
      refine rr rfl (s_iload_n rfl) ?_
      refine rr rfl (s_aload_n rfl) ?_
      refine rr rfl (s_getf rfl rfl) ?_
      have e20 : a_m MT [] 100000 8 miJx4a65c_size_8abf5 [.ref 3] ((hF.set 3 (.inr (.inr (0, [.int 1, .ref 62, .int 1])))) ++ [.inr (.inr (2, [.int x1, .int x2, .int x3, .int x4, .int x4, .int x6, .int x7, .int ((1 <<< (x4 &&& 31) : Int32) ||| (1 <<< (x4 &&& 31) : Int32)), .int 0, .int (-1)])), .inr (.inl [some 61, none, none, none, none, none, none, none, none, none])]) = some ((some (.int 1)), ((hF.set 3 (.inr (.inr (0, [.int 1, .ref 62, .int 1])))) ++ [.inr (.inr (2, [.int x1, .int x2, .int x3, .int x4, .int x4, .int x6, .int x7, .int ((1 <<< (x4 &&& 31) : Int32) ||| (1 <<< (x4 &&& 31) : Int32)), .int 0, .int (-1)])), .inr (.inl [some 61, none, none, none, none, none, none, none, none, none])]), 0, 0) := by
        refine me (d := 7) g_Jx4a65c_size_8abf5 (Nat.le_of_ble_eq_true rfl) ?_
        refine rr rfl (s_aload_n rfl) ?_
        refine rr rfl (s_getf rfl rfl) ?_
        exact rrt rfl rfl rfl rfl
      refine rrc rfl rfl rfl (do_of g_Jx4a65c_size_8abf5 rfl rfl e20) ?_
      refine rr rfl (s_icT (by decide)) ?_
      refine rr rfl (s_iload_n rfl) ?_
      exact rrt rfl rfl rfl rfl
    refine rrc rfl rfl rfl (do_of g_X3_notSpare rfl rfl e13) ?_
    have e21 : a_m MT [] 100000 9 miX6_countOnly [.ref 6, .int 1] ((hF.set 3 (.inr (.inr (0, [.int 1, .ref 62, .int 1])))) ++ [.inr (.inr (2, [.int x1, .int x2, .int x3, .int x4, .int x4, .int x6, .int x7, .int ((1 <<< (x4 &&& 31) : Int32) ||| (1 <<< (x4 &&& 31) : Int32)), .int 0, .int (-1)])), .inr (.inl [some 61, none, none, none, none, none, none, none, none, none])]) = some (none, (((hF.set 3 (.inr (.inr (0, [.int 1, .ref 62, .int 1])))).set 6 (.inr (.inr (6, [.ref 2, .ref 7, .ref 8, .ref 9, .int 1])))) ++ [.inr (.inr (2, [.int x1, .int x2, .int x3, .int x4, .int x4, .int x6, .int x7, .int ((1 <<< (x4 &&& 31) : Int32) ||| (1 <<< (x4 &&& 31) : Int32)), .int 0, .int (-1)])), .inr (.inl [some 61, none, none, none, none, none, none, none, none, none])]), 0, 0) := by
      refine me (d := 8) g_X6_countOnly (Nat.le_of_ble_eq_true rfl) ?_
      refine rr rfl (s_aload_n rfl) ?_
      refine rr rfl (s_iload_n rfl) ?_
      refine rr rfl (s_putf rfl rfl (Nat.le_of_ble_eq_true rfl) rfl (Nat.le_of_ble_eq_true rfl) rfl (h' := (((hF.set 3 (.inr (.inr (0, [.int 1, .ref 62, .int 1])))).set 6 (.inr (.inr (6, [.ref 2, .ref 7, .ref 8, .ref 9, .int 1])))) ++ [.inr (.inr (2, [.int x1, .int x2, .int x3, .int x4, .int x4, .int x6, .int x7, .int ((1 <<< (x4 &&& 31) : Int32) ||| (1 <<< (x4 &&& 31) : Int32)), .int 0, .int (-1)])), .inr (.inl [some 61, none, none, none, none, none, none, none, none, none])]))) ?_
      refine rr rfl (s_aload_n rfl) ?_
      refine rr rfl (s_getf rfl rfl) ?_
      refine rr rfl (s_iconst (v := (-1)) (by decide)) ?_
      have e22 : a_m MT [] 100000 8 miJ7_fill_53178 [.ref 7, .int (-1)] (((hF.set 3 (.inr (.inr (0, [.int 1, .ref 62, .int 1])))).set 6 (.inr (.inr (6, [.ref 2, .ref 7, .ref 8, .ref 9, .int 1])))) ++ [.inr (.inr (2, [.int x1, .int x2, .int x3, .int x4, .int x4, .int x6, .int x7, .int ((1 <<< (x4 &&& 31) : Int32) ||| (1 <<< (x4 &&& 31) : Int32)), .int 0, .int (-1)])), .inr (.inl [some 61, none, none, none, none, none, none, none, none, none])]) = some (none, (((hF.set 3 (.inr (.inr (0, [.int 1, .ref 62, .int 1])))).set 6 (.inr (.inr (6, [.ref 2, .ref 7, .ref 8, .ref 9, .int 1])))) ++ [.inr (.inr (2, [.int x1, .int x2, .int x3, .int x4, .int x4, .int x6, .int x7, .int ((1 <<< (x4 &&& 31) : Int32) ||| (1 <<< (x4 &&& 31) : Int32)), .int 0, .int (-1)])), .inr (.inl [some 61, none, none, none, none, none, none, none, none, none])]), 0, 0) := fill_n rfl (Nat.le_of_ble_eq_true rfl) rfl
      refine rrc rfl rfl rfl (do_of g_J7_fill_53178 rfl rfl e22) ?_
      exact rrt rfl rfl rfl rfl
    refine rrc rfl rfl rfl (do_of g_X6_countOnly rfl rfl e21) ?_
    refine rr rfl (s_aload_n rfl) ?_
    have e23 : a_m MT [] 100000 9 miX8_forgetRuns [.ref 0] (((hF.set 3 (.inr (.inr (0, [.int 1, .ref 62, .int 1])))).set 6 (.inr (.inr (6, [.ref 2, .ref 7, .ref 8, .ref 9, .int 1])))) ++ [.inr (.inr (2, [.int x1, .int x2, .int x3, .int x4, .int x4, .int x6, .int x7, .int ((1 <<< (x4 &&& 31) : Int32) ||| (1 <<< (x4 &&& 31) : Int32)), .int 0, .int (-1)])), .inr (.inl [some 61, none, none, none, none, none, none, none, none, none])]) = some (none, (((hF.set 3 (.inr (.inr (0, [.int 1, .ref 62, .int 1])))).set 6 (.inr (.inr (6, [.ref 2, .ref 7, .ref 8, .ref 9, .int 1])))) ++ [.inr (.inr (2, [.int x1, .int x2, .int x3, .int x4, .int x4, .int x6, .int x7, .int ((1 <<< (x4 &&& 31) : Int32) ||| (1 <<< (x4 &&& 31) : Int32)), .int 0, .int (-1)])), .inr (.inl [some 61, none, none, none, none, none, none, none, none, none])]), 0, 0) := by
      refine me (d := 8) g_X8_forgetRuns (Nat.le_of_ble_eq_true rfl) ?_
      refine rr rfl (s_aload_n rfl) ?_
      refine rr rfl (s_iconst (v := 0) (by decide)) ?_
      refine rr rfl (s_putf rfl rfl (Nat.le_of_ble_eq_true rfl) rfl (Nat.le_of_ble_eq_true rfl) rfl (h' := (((hF.set 3 (.inr (.inr (0, [.int 1, .ref 62, .int 1])))).set 6 (.inr (.inr (6, [.ref 2, .ref 7, .ref 8, .ref 9, .int 1])))) ++ [.inr (.inr (2, [.int x1, .int x2, .int x3, .int x4, .int x4, .int x6, .int x7, .int ((1 <<< (x4 &&& 31) : Int32) ||| (1 <<< (x4 &&& 31) : Int32)), .int 0, .int (-1)])), .inr (.inl [some 61, none, none, none, none, none, none, none, none, none])]))) ?_
      refine rr rfl (s_aload_n rfl) ?_
      refine rr rfl (s_getf rfl rfl) ?_
      refine rr rfl (s_iconst (v := 0) (by decide)) ?_
      refine rr rfl (s_putf rfl rfl (Nat.le_of_ble_eq_true rfl) rfl (Nat.le_of_ble_eq_true rfl) rfl (h' := (((hF.set 3 (.inr (.inr (0, [.int 1, .ref 62, .int 1])))).set 6 (.inr (.inr (6, [.ref 2, .ref 7, .ref 8, .ref 9, .int 1])))) ++ [.inr (.inr (2, [.int x1, .int x2, .int x3, .int x4, .int x4, .int x6, .int x7, .int ((1 <<< (x4 &&& 31) : Int32) ||| (1 <<< (x4 &&& 31) : Int32)), .int 0, .int (-1)])), .inr (.inl [some 61, none, none, none, none, none, none, none, none, none])]))) ?_
      exact rrt rfl rfl rfl rfl
    refine rrc rfl rfl rfl (do_of g_X8_forgetRuns rfl rfl e23) ?_
    exact rrt rfl rfl rfl rfl
  refine rrc rfl rfl rfl (do_of g_X8_forgetRules rfl rfl e12) ?_
  refine rr rfl (s_aload_n rfl) ?_
  refine rr rfl (s_getf rfl rfl) ?_
  refine rr rfl (s_getf rfl rfl) ?_
  refine rr rfl (s_getf rfl rfl) ?_
  have e24 : a_m MT [] 100000 10 miJx4a65c_size_8abf5 [.ref 3] (((hF.set 3 (.inr (.inr (0, [.int 1, .ref 62, .int 1])))).set 6 (.inr (.inr (6, [.ref 2, .ref 7, .ref 8, .ref 9, .int 1])))) ++ [.inr (.inr (2, [.int x1, .int x2, .int x3, .int x4, .int x4, .int x6, .int x7, .int ((1 <<< (x4 &&& 31) : Int32) ||| (1 <<< (x4 &&& 31) : Int32)), .int 0, .int (-1)])), .inr (.inl [some 61, none, none, none, none, none, none, none, none, none])]) = some ((some (.int 1)), (((hF.set 3 (.inr (.inr (0, [.int 1, .ref 62, .int 1])))).set 6 (.inr (.inr (6, [.ref 2, .ref 7, .ref 8, .ref 9, .int 1])))) ++ [.inr (.inr (2, [.int x1, .int x2, .int x3, .int x4, .int x4, .int x6, .int x7, .int ((1 <<< (x4 &&& 31) : Int32) ||| (1 <<< (x4 &&& 31) : Int32)), .int 0, .int (-1)])), .inr (.inl [some 61, none, none, none, none, none, none, none, none, none])]), 0, 0) := by
    refine me (d := 9) g_Jx4a65c_size_8abf5 (Nat.le_of_ble_eq_true rfl) ?_
    refine rr rfl (s_aload_n rfl) ?_
    refine rr rfl (s_getf rfl rfl) ?_
    exact rrt rfl rfl rfl rfl
  refine rrc rfl rfl rfl (do_of g_Jx4a65c_size_8abf5 rfl rfl e24) ?_
  refine rr rfl (s_iconst (v := 1) (by decide)) ?_
  refine rr rfl (s_isub (v := 0) (by decide)) ?_
  exact rrt rfl rfl rfl rfl
set_option maxHeartbeats 4000000 in
set_option maxRecDepth 10000 in
theorem rx_Nim {x1 x2 x3 x4 x5 x6 x7 : Int32} (g1 : ¬ x5 = (-1)) (g2 : x6 = (-1)) (g3 : x2 = 0) (g4 : ¬ x4 < 0) (g5 : x4 < nI 8) (g6 : ¬ x5 < 0) (g7 : x5 < nI 8) (g8 : ¬ x3 < 0) (g9 : x3 < nI 8) : a_run MT [] (a_m MT [] 100000 10) 11 (some .int) tabX8_rule 90000 140 (alR x1 x2 x3 x4 x5 x6 x7) [] hF 0 0 = some (some (.int 0), (((hF.set 3 (.inr (.inr (0, [.int 1, .ref 62, .int 1])))).set 6 (.inr (.inr (6, [.ref 2, .ref 7, .ref 8, .ref 9, .int 1])))) ++ [.inr (.inr (2, [.int x1, .int x2, .int x3, .int x4, .int x5, .int x6, .int x7, .int ((1 <<< (x4 &&& 31) : Int32) ||| (1 <<< (x5 &&& 31) : Int32)), .int 0, .int (-1)])), .inr (.inl [some 61, none, none, none, none, none, none, none, none, none])]), 2, 20) := by
  refine rr rfl (s_new (q := 61) rfl rfl (h' := (hF ++ [.inr (.inr (2, [.int 0, .int 0, .int 0, .int 0, .int 0, .int 0, .int 0, .int 0, .int 0, .int 0]))]))) ?_
  refine rr rfl rfl ?_
  refine rr rfl (s_iload_n rfl) ?_
  refine rr rfl (s_iload_n rfl) ?_
  refine rr rfl (s_iload_n rfl) ?_
  refine rr rfl (s_iload rfl) ?_
  refine rr rfl (s_iload rfl) ?_
  refine rr rfl (s_iload rfl) ?_
  refine rr rfl (s_iload rfl) ?_
  have e1 : a_m MT [] 100000 10 miX2_init [.ref 61, .int x1, .int x2, .int x3, .int x4, .int x5, .int x6, .int x7] (hF ++ [.inr (.inr (2, [.int 0, .int 0, .int 0, .int 0, .int 0, .int 0, .int 0, .int 0, .int 0, .int 0]))]) = some (none, (hF ++ [.inr (.inr (2, [.int x1, .int x2, .int x3, .int x4, .int x5, .int x6, .int x7, .int ((1 <<< (x4 &&& 31) : Int32) ||| (1 <<< (x5 &&& 31) : Int32)), .int 0, .int (-1)]))]), 0, 0) := by
    refine me (d := 9) g_X2_init (Nat.le_of_ble_eq_true rfl) ?_
    refine rr rfl (s_aload_n rfl) ?_
    refine rr rfl rfl ?_
    refine rr rfl (s_aload_n rfl) ?_
    refine rr rfl (s_iconst (v := (-1)) (by decide)) ?_
    refine rr rfl (s_putf rfl rfl (Nat.le_of_ble_eq_true rfl) rfl (Nat.le_of_ble_eq_true rfl) rfl (h' := (hF ++ [.inr (.inr (2, [.int 0, .int 0, .int 0, .int 0, .int 0, .int 0, .int 0, .int 0, .int 0, .int (-1)]))]))) ?_
    refine rr rfl (s_aload_n rfl) ?_
    refine rr rfl (s_iload_n rfl) ?_
    refine rr rfl (s_putf rfl rfl (Nat.le_of_ble_eq_true rfl) rfl (Nat.le_of_ble_eq_true rfl) rfl (h' := (hF ++ [.inr (.inr (2, [.int x1, .int 0, .int 0, .int 0, .int 0, .int 0, .int 0, .int 0, .int 0, .int (-1)]))]))) ?_
    refine rr rfl (s_aload_n rfl) ?_
    refine rr rfl (s_iload_n rfl) ?_
    refine rr rfl (s_putf rfl rfl (Nat.le_of_ble_eq_true rfl) rfl (Nat.le_of_ble_eq_true rfl) rfl (h' := (hF ++ [.inr (.inr (2, [.int x1, .int x2, .int 0, .int 0, .int 0, .int 0, .int 0, .int 0, .int 0, .int (-1)]))]))) ?_
    refine rr rfl (s_aload_n rfl) ?_
    refine rr rfl (s_iload_n rfl) ?_
    refine rr rfl (s_putf rfl rfl (Nat.le_of_ble_eq_true rfl) rfl (Nat.le_of_ble_eq_true rfl) rfl (h' := (hF ++ [.inr (.inr (2, [.int x1, .int x2, .int x3, .int 0, .int 0, .int 0, .int 0, .int 0, .int 0, .int (-1)]))]))) ?_
    refine rr rfl (s_aload_n rfl) ?_
    refine rr rfl (s_iload rfl) ?_
    refine rr rfl (s_putf rfl rfl (Nat.le_of_ble_eq_true rfl) rfl (Nat.le_of_ble_eq_true rfl) rfl (h' := (hF ++ [.inr (.inr (2, [.int x1, .int x2, .int x3, .int x4, .int 0, .int 0, .int 0, .int 0, .int 0, .int (-1)]))]))) ?_
    refine rr rfl (s_aload_n rfl) ?_
    refine rr rfl (s_iload rfl) ?_
    refine rr rfl (s_iconst (v := (-1)) (by decide)) ?_
    refine rr rfl (s_icT (ic_ne g1)) ?_
    refine rr rfl (s_iload rfl) ?_
    refine rr rfl (s_putf rfl rfl (Nat.le_of_ble_eq_true rfl) rfl (Nat.le_of_ble_eq_true rfl) rfl (h' := (hF ++ [.inr (.inr (2, [.int x1, .int x2, .int x3, .int x4, .int x5, .int 0, .int 0, .int 0, .int 0, .int (-1)]))]))) ?_
    refine rr rfl (s_aload_n rfl) ?_
    refine rr rfl (s_iload rfl) ?_
    refine rr rfl (s_putf rfl rfl (Nat.le_of_ble_eq_true rfl) rfl (Nat.le_of_ble_eq_true rfl) rfl (h' := (hF ++ [.inr (.inr (2, [.int x1, .int x2, .int x3, .int x4, .int x5, .int x6, .int 0, .int 0, .int 0, .int (-1)]))]))) ?_
    refine rr rfl (s_aload_n rfl) ?_
    refine rr rfl (s_iload rfl) ?_
    refine rr rfl (s_putf rfl rfl (Nat.le_of_ble_eq_true rfl) rfl (Nat.le_of_ble_eq_true rfl) rfl (h' := (hF ++ [.inr (.inr (2, [.int x1, .int x2, .int x3, .int x4, .int x5, .int x6, .int x7, .int 0, .int 0, .int (-1)]))]))) ?_
    refine rr rfl (s_aload_n rfl) ?_
    refine rr rfl (s_iconst (v := 1) (by decide)) ?_
    refine rr rfl (s_aload_n rfl) ?_
    refine rr rfl (s_getf rfl rfl) ?_
    refine rr rfl (s_ishl (v := (1 <<< (x4 &&& 31) : Int32)) rfl) ?_
    refine rr rfl (s_iconst (v := 1) (by decide)) ?_
    refine rr rfl (s_aload_n rfl) ?_
    refine rr rfl (s_getf rfl rfl) ?_
    refine rr rfl (s_ishl (v := (1 <<< (x5 &&& 31) : Int32)) rfl) ?_
    refine rr rfl (s_ior (v := ((1 <<< (x4 &&& 31) : Int32) ||| (1 <<< (x5 &&& 31) : Int32))) rfl) ?_
    refine rr rfl (s_putf rfl rfl (Nat.le_of_ble_eq_true rfl) rfl (Nat.le_of_ble_eq_true rfl) rfl (h' := (hF ++ [.inr (.inr (2, [.int x1, .int x2, .int x3, .int x4, .int x5, .int x6, .int x7, .int ((1 <<< (x4 &&& 31) : Int32) ||| (1 <<< (x5 &&& 31) : Int32)), .int 0, .int (-1)]))]))) ?_
    refine rr rfl (s_aload_n rfl) ?_
    refine rr rfl (s_iload rfl) ?_
    refine rr rfl (s_iconst (v := (-1)) (by decide)) ?_
    refine rr rfl (s_icF (ic_nne g2)) ?_
    refine rr rfl (s_iconst (v := 0) (by decide)) ?_
    refine rr rfl s_goto ?_
    refine rr rfl (s_putf rfl rfl (Nat.le_of_ble_eq_true rfl) rfl (Nat.le_of_ble_eq_true rfl) rfl (h' := (hF ++ [.inr (.inr (2, [.int x1, .int x2, .int x3, .int x4, .int x5, .int x6, .int x7, .int ((1 <<< (x4 &&& 31) : Int32) ||| (1 <<< (x5 &&& 31) : Int32)), .int 0, .int (-1)]))]))) ?_
    exact rrt rfl rfl rfl rfl
  refine rrc rfl rfl rfl (do_of g_X2_init rfl rfl e1) ?_
  refine rr rfl (s_astore rfl) ?_
  refine rr rfl (s_aload_n rfl) ?_
  refine rr rfl (s_getf rfl rfl) ?_
  refine rr rfl (s_getf rfl rfl) ?_
  refine rr rfl (s_aload rfl) ?_
  have e2 : a_m MT [] 100000 10 miX3_hasLayersWith [.ref 2, .ref 61] (hF ++ [.inr (.inr (2, [.int x1, .int x2, .int x3, .int x4, .int x5, .int x6, .int x7, .int ((1 <<< (x4 &&& 31) : Int32) ||| (1 <<< (x5 &&& 31) : Int32)), .int 0, .int (-1)]))]) = some ((some (.int 1)), (hF ++ [.inr (.inr (2, [.int x1, .int x2, .int x3, .int x4, .int x5, .int x6, .int x7, .int ((1 <<< (x4 &&& 31) : Int32) ||| (1 <<< (x5 &&& 31) : Int32)), .int 0, .int (-1)]))]), 0, 0) := by
    refine me (d := 9) g_X3_hasLayersWith (Nat.le_of_ble_eq_true rfl) ?_
    refine rr rfl (s_aload_n rfl) ?_
    refine rr rfl (s_getf rfl rfl) ?_
    refine rr rfl (s_iconst (v := 0) (by decide)) ?_
    have e3 : a_m MT [] 100000 9 miJ7_fill_53178 [.ref 5, .int 0] (hF ++ [.inr (.inr (2, [.int x1, .int x2, .int x3, .int x4, .int x5, .int x6, .int x7, .int ((1 <<< (x4 &&& 31) : Int32) ||| (1 <<< (x5 &&& 31) : Int32)), .int 0, .int (-1)]))]) = some (none, (hF ++ [.inr (.inr (2, [.int x1, .int x2, .int x3, .int x4, .int x5, .int x6, .int x7, .int ((1 <<< (x4 &&& 31) : Int32) ||| (1 <<< (x5 &&& 31) : Int32)), .int 0, .int (-1)]))]), 0, 0) := fill_n rfl (Nat.le_of_ble_eq_true rfl) rfl
    refine rrc rfl rfl rfl (do_of g_J7_fill_53178 rfl rfl e3) ?_
    refine rr rfl (s_iconst (v := 1) (by decide)) ?_
    refine rr rfl (s_istore_n rfl) ?_
    refine rr rfl (s_iconst (v := 0) (by decide)) ?_
    refine rr rfl (s_istore_n rfl) ?_
    refine rr rfl (s_iload_n rfl) ?_
    refine rr rfl (s_ifF (by decide)) ?_
    refine rr rfl (s_iload_n rfl) ?_
    refine rr rfl (s_bipush (v := 8) (by decide)) ?_
    refine rr rfl (s_icF (by decide)) ?_
    refine rr rfl (s_aload_n rfl) ?_
    refine rr rfl (s_aload_n rfl) ?_
    have e4 : a_m MT [] 100000 9 miX3_lift [.ref 2, .ref 61] (hF ++ [.inr (.inr (2, [.int x1, .int x2, .int x3, .int x4, .int x5, .int x6, .int x7, .int ((1 <<< (x4 &&& 31) : Int32) ||| (1 <<< (x5 &&& 31) : Int32)), .int 0, .int (-1)]))]) = some ((some (.int 0)), (hF ++ [.inr (.inr (2, [.int x1, .int x2, .int x3, .int x4, .int x5, .int x6, .int x7, .int ((1 <<< (x4 &&& 31) : Int32) ||| (1 <<< (x5 &&& 31) : Int32)), .int 0, .int (-1)]))]), 0, 0) := by
      refine me (d := 8) g_X3_lift (Nat.le_of_ble_eq_true rfl) ?_
      refine rr rfl (s_aload_n rfl) ?_
      refine rr rfl (s_getf rfl rfl) ?_
      refine rr rfl (s_ifT (ic_eq g3)) ?_
      refine rr rfl (s_aload_n rfl) ?_
      refine rr rfl (s_getf rfl rfl) ?_
      refine rr rfl (s_aload_n rfl) ?_
      refine rr rfl (s_getf rfl rfl) ?_
      refine rr rfl (s_ialdR (n := 8) (x := 0) rfl g4 g5) ?_
      refine rr rfl (s_aload_n rfl) ?_
      refine rr rfl (s_getf rfl rfl) ?_
      refine rr rfl (s_aload_n rfl) ?_
      refine rr rfl (s_getf rfl rfl) ?_
      refine rr rfl (s_ialdR (n := 8) (x := 0) rfl g6 g7) ?_
      refine rr rfl (s_max (v := 0) rfl (Nat.le_of_ble_eq_true rfl) (by decide)) ?_
      refine rr rfl (s_istore_n rfl) ?_
      refine rr rfl (s_aload_n rfl) ?_
      refine rr rfl (s_getf rfl rfl) ?_
      refine rr rfl (s_iconst (v := (-1)) (by decide)) ?_
      refine rr rfl (s_icT (ic_eq g2)) ?_
      refine rr rfl (s_aload_n rfl) ?_
      refine rr rfl (s_getf rfl rfl) ?_
      refine rr rfl (s_aload_n rfl) ?_
      refine rr rfl (s_getf rfl rfl) ?_
      refine rr rfl (s_ialdR (n := 8) (x := 0) rfl g8 g9) ?_
      refine rr rfl (s_iload_n rfl) ?_
      refine rr rfl (s_icF (by decide)) ?_
      refine rr rfl (s_iconst (v := 0) (by decide)) ?_
      exact rrt rfl rfl rfl rfl
    refine rrc rfl rfl rfl (do_of g_X3_lift rfl rfl e4) ?_
    refine rr rfl (s_istore_n rfl) ?_
    refine rr rfl (s_iconst (v := 0) (by decide)) ?_
    refine rr rfl (s_istore rfl) ?_
    refine rr rfl (s_iload rfl) ?_
    refine rr rfl (s_aload_n rfl) ?_
    refine rr rfl (s_getf rfl rfl) ?_
    have e5 : a_m MT [] 100000 9 miJx4a65c_size_8abf5 [.ref 3] (hF ++ [.inr (.inr (2, [.int x1, .int x2, .int x3, .int x4, .int x5, .int x6, .int x7, .int ((1 <<< (x4 &&& 31) : Int32) ||| (1 <<< (x5 &&& 31) : Int32)), .int 0, .int (-1)]))]) = some ((some (.int 0)), (hF ++ [.inr (.inr (2, [.int x1, .int x2, .int x3, .int x4, .int x5, .int x6, .int x7, .int ((1 <<< (x4 &&& 31) : Int32) ||| (1 <<< (x5 &&& 31) : Int32)), .int 0, .int (-1)]))]), 0, 0) := by
      refine me (d := 8) g_Jx4a65c_size_8abf5 (Nat.le_of_ble_eq_true rfl) ?_
      refine rr rfl (s_aload_n rfl) ?_
      refine rr rfl (s_getf rfl rfl) ?_
      exact rrt rfl rfl rfl rfl
    refine rrc rfl rfl rfl (do_of g_Jx4a65c_size_8abf5 rfl rfl e5) ?_
    refine rr rfl (s_icT (by decide)) ?_
    refine rr rfl (s_iinc (v := 1) rfl (by decide) rfl) ?_
    refine rr rfl s_goto ?_
    refine rr rfl (s_iload_n rfl) ?_
    refine rr rfl (s_ifT (by decide)) ?_
    refine rr rfl (s_iload_n rfl) ?_
    refine rr rfl (s_ifF (by decide)) ?_
    refine rr rfl (s_iconst (v := 1) (by decide)) ?_
    refine rr rfl s_goto ?_
    exact rrt rfl rfl rfl rfl
  refine rrc rfl rfl rfl (do_of g_X3_hasLayersWith rfl rfl e2) ?_
  refine rr rfl (s_ifT (by decide)) ?_
  refine rr rfl (s_aload_n rfl) ?_
  refine rr rfl (s_getf rfl rfl) ?_
  refine rr rfl (s_getf rfl rfl) ?_
  refine rr rfl (s_getf rfl rfl) ?_
  have e6 : a_m MT [] 100000 10 miJx4a65c_size_8abf5 [.ref 3] (hF ++ [.inr (.inr (2, [.int x1, .int x2, .int x3, .int x4, .int x5, .int x6, .int x7, .int ((1 <<< (x4 &&& 31) : Int32) ||| (1 <<< (x5 &&& 31) : Int32)), .int 0, .int (-1)]))]) = some ((some (.int 0)), (hF ++ [.inr (.inr (2, [.int x1, .int x2, .int x3, .int x4, .int x5, .int x6, .int x7, .int ((1 <<< (x4 &&& 31) : Int32) ||| (1 <<< (x5 &&& 31) : Int32)), .int 0, .int (-1)]))]), 0, 0) := by
    refine me (d := 9) g_Jx4a65c_size_8abf5 (Nat.le_of_ble_eq_true rfl) ?_
    refine rr rfl (s_aload_n rfl) ?_
    refine rr rfl (s_getf rfl rfl) ?_
    exact rrt rfl rfl rfl rfl
  refine rrc rfl rfl rfl (do_of g_Jx4a65c_size_8abf5 rfl rfl e6) ?_
  refine rr rfl (s_bipush (v := 12) (by decide)) ?_
  refine rr rfl (s_icT (by decide)) ?_
  refine rr rfl (s_aload_n rfl) ?_
  refine rr rfl (s_getf rfl rfl) ?_
  refine rr rfl (s_getf rfl rfl) ?_
  refine rr rfl (s_aload rfl) ?_
  have e7 : a_m MT [] 100000 10 miX3_take [.ref 2, .ref 61] (hF ++ [.inr (.inr (2, [.int x1, .int x2, .int x3, .int x4, .int x5, .int x6, .int x7, .int ((1 <<< (x4 &&& 31) : Int32) ||| (1 <<< (x5 &&& 31) : Int32)), .int 0, .int (-1)]))]) = some (none, ((hF.set 3 (.inr (.inr (0, [.int 1, .ref 62, .int 1])))) ++ [.inr (.inr (2, [.int x1, .int x2, .int x3, .int x4, .int x5, .int x6, .int x7, .int ((1 <<< (x4 &&& 31) : Int32) ||| (1 <<< (x5 &&& 31) : Int32)), .int 0, .int (-1)])), .inr (.inl [some 61, none, none, none, none, none, none, none, none, none])]), 1, 10) := by
    refine me (d := 9) g_X3_take (Nat.le_of_ble_eq_true rfl) ?_
    refine rr rfl (s_aload_n rfl) ?_
    refine rr rfl (s_getf rfl rfl) ?_
    refine rr rfl (s_aload_n rfl) ?_
    have e8 : a_m MT [] 100000 9 miJx4a65c_add_9ea2d [.ref 3, .ref 61] (hF ++ [.inr (.inr (2, [.int x1, .int x2, .int x3, .int x4, .int x5, .int x6, .int x7, .int ((1 <<< (x4 &&& 31) : Int32) ||| (1 <<< (x5 &&& 31) : Int32)), .int 0, .int (-1)]))]) = some ((some (.int 1)), ((hF.set 3 (.inr (.inr (0, [.int 1, .ref 62, .int 1])))) ++ [.inr (.inr (2, [.int x1, .int x2, .int x3, .int x4, .int x5, .int x6, .int x7, .int ((1 <<< (x4 &&& 31) : Int32) ||| (1 <<< (x5 &&& 31) : Int32)), .int 0, .int (-1)])), .inr (.inl [some 61, none, none, none, none, none, none, none, none, none])]), 1, 10) := by
      refine me (d := 8) g_Jx4a65c_add_9ea2d (Nat.le_of_ble_eq_true rfl) ?_
      refine rr rfl (s_aload_n rfl) ?_
      refine rr rfl rfl ?_
      refine rr rfl (s_getf rfl rfl) ?_
      refine rr rfl (s_iconst (v := 1) (by decide)) ?_
      refine rr rfl (s_iadd (v := 1) (by decide)) ?_
      refine rr rfl (s_putf rfl rfl (Nat.le_of_ble_eq_true rfl) rfl (Nat.le_of_ble_eq_true rfl) rfl (h' := ((hF.set 3 (.inr (.inr (0, [.int 1, .long 0, .int 0])))) ++ [.inr (.inr (2, [.int x1, .int x2, .int x3, .int x4, .int x5, .int x6, .int x7, .int ((1 <<< (x4 &&& 31) : Int32) ||| (1 <<< (x5 &&& 31) : Int32)), .int 0, .int (-1)]))]))) ?_
      refine rr rfl (s_aload_n rfl) ?_
      refine rr rfl (s_aload_n rfl) ?_
      refine rr rfl (s_aload_n rfl) ?_
      refine rr rfl (s_getf rfl rfl) ?_
      refine rr rfl (s_aload_n rfl) ?_
      refine rr rfl (s_getf rfl rfl) ?_
      have e9 : a_m MT [] 100000 8 miJx4a65c_add_72be8 [.ref 3, .ref 61, .long 0, .int 0] ((hF.set 3 (.inr (.inr (0, [.int 1, .long 0, .int 0])))) ++ [.inr (.inr (2, [.int x1, .int x2, .int x3, .int x4, .int x5, .int x6, .int x7, .int ((1 <<< (x4 &&& 31) : Int32) ||| (1 <<< (x5 &&& 31) : Int32)), .int 0, .int (-1)]))]) = some (none, ((hF.set 3 (.inr (.inr (0, [.int 1, .ref 62, .int 1])))) ++ [.inr (.inr (2, [.int x1, .int x2, .int x3, .int x4, .int x5, .int x6, .int x7, .int ((1 <<< (x4 &&& 31) : Int32) ||| (1 <<< (x5 &&& 31) : Int32)), .int 0, .int (-1)])), .inr (.inl [some 61, none, none, none, none, none, none, none, none, none])]), 1, 10) := by
        refine me (d := 7) g_Jx4a65c_add_72be8 (Nat.le_of_ble_eq_true rfl) ?_
        refine rr rfl (s_iload_n rfl) ?_
        refine rr rfl (s_aloadL rfl) ?_
        refine rr rfl (s_alen0) ?_
        refine rr rfl (s_icF (by decide)) ?_
        refine rr rfl (s_aload_n rfl) ?_
        have e10 : a_m MT [] 100000 7 miJx4a65c_grow_d5877 [.ref 3] ((hF.set 3 (.inr (.inr (0, [.int 1, .long 0, .int 0])))) ++ [.inr (.inr (2, [.int x1, .int x2, .int x3, .int x4, .int x5, .int x6, .int x7, .int ((1 <<< (x4 &&& 31) : Int32) ||| (1 <<< (x5 &&& 31) : Int32)), .int 0, .int (-1)]))]) = some ((some (.ref 62)), ((hF.set 3 (.inr (.inr (0, [.int 1, .ref 62, .int 0])))) ++ [.inr (.inr (2, [.int x1, .int x2, .int x3, .int x4, .int x5, .int x6, .int x7, .int ((1 <<< (x4 &&& 31) : Int32) ||| (1 <<< (x5 &&& 31) : Int32)), .int 0, .int (-1)])), .inr (.inl (List.replicate 10 none))]), 1, 10) := by
          refine me (d := 6) g_Jx4a65c_grow_d5877 (Nat.le_of_ble_eq_true rfl) ?_
          refine rr rfl (s_aload_n rfl) ?_
          refine rr rfl (s_aload_n rfl) ?_
          refine rr rfl (s_getf rfl rfl) ?_
          refine rr rfl (s_iconst (v := 1) (by decide)) ?_
          refine rr rfl (s_iadd (v := 1) (by decide)) ?_
          have e11 : a_m MT [] 100000 6 miJx4a65c_grow_92f84 [.ref 3, .int 1] ((hF.set 3 (.inr (.inr (0, [.int 1, .long 0, .int 0])))) ++ [.inr (.inr (2, [.int x1, .int x2, .int x3, .int x4, .int x5, .int x6, .int x7, .int ((1 <<< (x4 &&& 31) : Int32) ||| (1 <<< (x5 &&& 31) : Int32)), .int 0, .int (-1)]))]) = some ((some (.ref 62)), ((hF.set 3 (.inr (.inr (0, [.int 1, .ref 62, .int 0])))) ++ [.inr (.inr (2, [.int x1, .int x2, .int x3, .int x4, .int x5, .int x6, .int x7, .int ((1 <<< (x4 &&& 31) : Int32) ||| (1 <<< (x5 &&& 31) : Int32)), .int 0, .int (-1)])), .inr (.inl (List.replicate 10 none))]), 1, 10) := by
            refine me (d := 5) g_Jx4a65c_grow_92f84 (Nat.le_of_ble_eq_true rfl) ?_
            refine rr rfl (s_aload_n rfl) ?_
            refine rr rfl (s_getf rfl rfl) ?_
            refine rr rfl (s_alen0) ?_
            refine rr rfl (s_istore_n rfl) ?_
            refine rr rfl (s_iload_n rfl) ?_
            refine rr rfl (s_ifF (by decide)) ?_
            refine rr rfl (s_aload_n rfl) ?_
            refine rr rfl (s_getf rfl rfl) ?_
            refine rr rfl rfl ?_
            refine rr rfl rfl ?_
            refine rr rfl (s_aload_n rfl) ?_
            refine rr rfl (s_bipush (v := 10) (by decide)) ?_
            refine rr rfl (s_iload_n rfl) ?_
            refine rr rfl (s_max (v := 10) rfl (Nat.le_of_ble_eq_true rfl) (by decide)) ?_
            refine rr rfl (s_anew (q := 62) (j := 10) rfl rfl rfl rfl (h' := ((hF.set 3 (.inr (.inr (0, [.int 1, .long 0, .int 0])))) ++ [.inr (.inr (2, [.int x1, .int x2, .int x3, .int x4, .int x5, .int x6, .int x7, .int ((1 <<< (x4 &&& 31) : Int32) ||| (1 <<< (x5 &&& 31) : Int32)), .int 0, .int (-1)])), .inr (.inl (List.replicate 10 none))]))) ?_
            refine rr rfl rfl ?_
            refine rr rfl (s_putf rfl rfl (Nat.le_of_ble_eq_true rfl) rfl (Nat.le_of_ble_eq_true rfl) rfl (h' := ((hF.set 3 (.inr (.inr (0, [.int 1, .ref 62, .int 0])))) ++ [.inr (.inr (2, [.int x1, .int x2, .int x3, .int x4, .int x5, .int x6, .int x7, .int ((1 <<< (x4 &&& 31) : Int32) ||| (1 <<< (x5 &&& 31) : Int32)), .int 0, .int (-1)])), .inr (.inl (List.replicate 10 none))]))) ?_
            exact rrt rfl rfl rfl rfl
          refine rrc rfl rfl rfl (do_of g_Jx4a65c_grow_92f84 rfl rfl e11) ?_
          exact rrt rfl rfl rfl rfl
        refine rrc rfl rfl rfl (do_of g_Jx4a65c_grow_d5877 rfl rfl e10) ?_
        refine rr rfl (s_astore_n rfl) ?_
        refine rr rfl (s_aload_n rfl) ?_
        refine rr rfl (s_iload_n rfl) ?_
        refine rr rfl (s_aload_n rfl) ?_
        refine rr rfl (s_aastore (j := 0) rfl rfl rfl (Nat.le_of_ble_eq_true rfl) rfl (Nat.le_of_ble_eq_true rfl) rfl (h' := ((hF.set 3 (.inr (.inr (0, [.int 1, .ref 62, .int 0])))) ++ [.inr (.inr (2, [.int x1, .int x2, .int x3, .int x4, .int x5, .int x6, .int x7, .int ((1 <<< (x4 &&& 31) : Int32) ||| (1 <<< (x5 &&& 31) : Int32)), .int 0, .int (-1)])), .inr (.inl [some 61, none, none, none, none, none, none, none, none, none])]))) ?_
        refine rr rfl (s_aload_n rfl) ?_
        refine rr rfl (s_iload_n rfl) ?_
        refine rr rfl (s_iconst (v := 1) (by decide)) ?_
        refine rr rfl (s_iadd (v := 1) (by decide)) ?_
        refine rr rfl (s_putf rfl rfl (Nat.le_of_ble_eq_true rfl) rfl (Nat.le_of_ble_eq_true rfl) rfl (h' := ((hF.set 3 (.inr (.inr (0, [.int 1, .ref 62, .int 1])))) ++ [.inr (.inr (2, [.int x1, .int x2, .int x3, .int x4, .int x5, .int x6, .int x7, .int ((1 <<< (x4 &&& 31) : Int32) ||| (1 <<< (x5 &&& 31) : Int32)), .int 0, .int (-1)])), .inr (.inl [some 61, none, none, none, none, none, none, none, none, none])]))) ?_
        exact rrt rfl rfl rfl rfl
      refine rrc rfl rfl rfl (do_of g_Jx4a65c_add_72be8 rfl rfl e9) ?_
      refine rr rfl (s_iconst (v := 1) (by decide)) ?_
      exact rrt rfl rfl rfl rfl
    refine rrc rfl rfl rfl (do_of g_Jx4a65c_add_9ea2d rfl rfl e8) ?_
    refine rr rfl rfl ?_
    refine rr rfl (s_aload_n rfl) ?_
    refine rr rfl (s_getf rfl rfl) ?_
    refine rr rfl (s_iconst (v := 0) (by decide)) ?_
    refine rr rfl (s_aload_n rfl) ?_
    refine rr rfl (s_getf rfl rfl) ?_
    refine rr rfl (s_iconst (v := 0) (by decide)) ?_
    refine rr rfl (s_bipush (v := 8) (by decide)) ?_
    refine rr rfl (s_copy8 rfl (Nat.le_of_ble_eq_true rfl) rfl rfl rfl rfl (Nat.le_of_ble_eq_true rfl) rfl (h' := ((hF.set 3 (.inr (.inr (0, [.int 1, .ref 62, .int 1])))) ++ [.inr (.inr (2, [.int x1, .int x2, .int x3, .int x4, .int x5, .int x6, .int x7, .int ((1 <<< (x4 &&& 31) : Int32) ||| (1 <<< (x5 &&& 31) : Int32)), .int 0, .int (-1)])), .inr (.inl [some 61, none, none, none, none, none, none, none, none, none])]))) ?_
    exact rrt rfl rfl rfl rfl
  refine rrc rfl rfl rfl (do_of g_X3_take rfl rfl e7) ?_
  refine rr rfl (s_aload_n rfl) ?_
  have e12 : a_m MT [] 100000 10 miX8_forgetRules [.ref 0] ((hF.set 3 (.inr (.inr (0, [.int 1, .ref 62, .int 1])))) ++ [.inr (.inr (2, [.int x1, .int x2, .int x3, .int x4, .int x5, .int x6, .int x7, .int ((1 <<< (x4 &&& 31) : Int32) ||| (1 <<< (x5 &&& 31) : Int32)), .int 0, .int (-1)])), .inr (.inl [some 61, none, none, none, none, none, none, none, none, none])]) = some (none, (((hF.set 3 (.inr (.inr (0, [.int 1, .ref 62, .int 1])))).set 6 (.inr (.inr (6, [.ref 2, .ref 7, .ref 8, .ref 9, .int 1])))) ++ [.inr (.inr (2, [.int x1, .int x2, .int x3, .int x4, .int x5, .int x6, .int x7, .int ((1 <<< (x4 &&& 31) : Int32) ||| (1 <<< (x5 &&& 31) : Int32)), .int 0, .int (-1)])), .inr (.inl [some 61, none, none, none, none, none, none, none, none, none])]), 0, 0) := by
    refine me (d := 9) g_X8_forgetRules (Nat.le_of_ble_eq_true rfl) ?_
    refine rr rfl (s_aload_n rfl) ?_
    refine rr rfl (s_getf rfl rfl) ?_
    refine rr rfl (s_getf rfl rfl) ?_
    refine rr rfl (s_aload_n rfl) ?_
    refine rr rfl (s_getf rfl rfl) ?_
    refine rr rfl (s_getf rfl rfl) ?_
    have e13 : a_m MT [] 100000 9 miX3_notSpare [.ref 2] ((hF.set 3 (.inr (.inr (0, [.int 1, .ref 62, .int 1])))) ++ [.inr (.inr (2, [.int x1, .int x2, .int x3, .int x4, .int x5, .int x6, .int x7, .int ((1 <<< (x4 &&& 31) : Int32) ||| (1 <<< (x5 &&& 31) : Int32)), .int 0, .int (-1)])), .inr (.inl [some 61, none, none, none, none, none, none, none, none, none])]) = some ((some (.int 1)), ((hF.set 3 (.inr (.inr (0, [.int 1, .ref 62, .int 1])))) ++ [.inr (.inr (2, [.int x1, .int x2, .int x3, .int x4, .int x5, .int x6, .int x7, .int ((1 <<< (x4 &&& 31) : Int32) ||| (1 <<< (x5 &&& 31) : Int32)), .int 0, .int (-1)])), .inr (.inl [some 61, none, none, none, none, none, none, none, none, none])]), 0, 0) := by
      refine me (d := 8) g_X3_notSpare (Nat.le_of_ble_eq_true rfl) ?_
      refine rr rfl (s_iconst (v := 0) (by decide)) ?_
      refine rr rfl (s_istore_n rfl) ?_
      refine rr rfl (s_iconst (v := 0) (by decide)) ?_
      refine rr rfl (s_istore_n rfl) ?_
      refine rr rfl (s_iload_n rfl) ?_
      refine rr rfl (s_aload_n rfl) ?_
      refine rr rfl (s_getf rfl rfl) ?_
      have e14 : a_m MT [] 100000 8 miJx4a65c_size_8abf5 [.ref 3] ((hF.set 3 (.inr (.inr (0, [.int 1, .ref 62, .int 1])))) ++ [.inr (.inr (2, [.int x1, .int x2, .int x3, .int x4, .int x5, .int x6, .int x7, .int ((1 <<< (x4 &&& 31) : Int32) ||| (1 <<< (x5 &&& 31) : Int32)), .int 0, .int (-1)])), .inr (.inl [some 61, none, none, none, none, none, none, none, none, none])]) = some ((some (.int 1)), ((hF.set 3 (.inr (.inr (0, [.int 1, .ref 62, .int 1])))) ++ [.inr (.inr (2, [.int x1, .int x2, .int x3, .int x4, .int x5, .int x6, .int x7, .int ((1 <<< (x4 &&& 31) : Int32) ||| (1 <<< (x5 &&& 31) : Int32)), .int 0, .int (-1)])), .inr (.inl [some 61, none, none, none, none, none, none, none, none, none])]), 0, 0) := by
        refine me (d := 7) g_Jx4a65c_size_8abf5 (Nat.le_of_ble_eq_true rfl) ?_
        refine rr rfl (s_aload_n rfl) ?_
        refine rr rfl (s_getf rfl rfl) ?_
        exact rrt rfl rfl rfl rfl
      refine rrc rfl rfl rfl (do_of g_Jx4a65c_size_8abf5 rfl rfl e14) ?_
      refine rr rfl (s_icF (by decide)) ?_
      refine rr rfl (s_aload_n rfl) ?_
      refine rr rfl (s_getf rfl rfl) ?_
      refine rr rfl (s_iload_n rfl) ?_
      have e15 : a_m MT [] 100000 8 miJx4a65c_get_915e3 [.ref 3, .int 0] ((hF.set 3 (.inr (.inr (0, [.int 1, .ref 62, .int 1])))) ++ [.inr (.inr (2, [.int x1, .int x2, .int x3, .int x4, .int x5, .int x6, .int x7, .int ((1 <<< (x4 &&& 31) : Int32) ||| (1 <<< (x5 &&& 31) : Int32)), .int 0, .int (-1)])), .inr (.inl [some 61, none, none, none, none, none, none, none, none, none])]) = some ((some (.ref 61)), ((hF.set 3 (.inr (.inr (0, [.int 1, .ref 62, .int 1])))) ++ [.inr (.inr (2, [.int x1, .int x2, .int x3, .int x4, .int x5, .int x6, .int x7, .int ((1 <<< (x4 &&& 31) : Int32) ||| (1 <<< (x5 &&& 31) : Int32)), .int 0, .int (-1)])), .inr (.inl [some 61, none, none, none, none, none, none, none, none, none])]), 0, 0) := by
        refine me (d := 7) g_Jx4a65c_get_915e3 (Nat.le_of_ble_eq_true rfl) ?_
        refine rr rfl (s_iload_n rfl) ?_
        refine rr rfl (s_aload_n rfl) ?_
        refine rr rfl (s_getf rfl rfl) ?_
        have e16 : a_m MT [] 100000 7 miJ15_checkIndex_7cf53 [.int 0, .int 1] ((hF.set 3 (.inr (.inr (0, [.int 1, .ref 62, .int 1])))) ++ [.inr (.inr (2, [.int x1, .int x2, .int x3, .int x4, .int x5, .int x6, .int x7, .int ((1 <<< (x4 &&& 31) : Int32) ||| (1 <<< (x5 &&& 31) : Int32)), .int 0, .int (-1)])), .inr (.inl [some 61, none, none, none, none, none, none, none, none, none])]) = some ((some (.int 0)), ((hF.set 3 (.inr (.inr (0, [.int 1, .ref 62, .int 1])))) ++ [.inr (.inr (2, [.int x1, .int x2, .int x3, .int x4, .int x5, .int x6, .int x7, .int ((1 <<< (x4 &&& 31) : Int32) ||| (1 <<< (x5 &&& 31) : Int32)), .int 0, .int (-1)])), .inr (.inl [some 61, none, none, none, none, none, none, none, none, none])]), 0, 0) := by
          refine me (d := 6) g_J15_checkIndex_7cf53 (Nat.le_of_ble_eq_true rfl) ?_
          refine rr rfl (s_iload_n rfl) ?_
          refine rr rfl (s_iload_n rfl) ?_
          refine rr rfl rfl ?_
          have e17 : a_m MT [] 100000 6 miJ3_checkIndex_8e157 [.int 0, .int 1, .null] ((hF.set 3 (.inr (.inr (0, [.int 1, .ref 62, .int 1])))) ++ [.inr (.inr (2, [.int x1, .int x2, .int x3, .int x4, .int x5, .int x6, .int x7, .int ((1 <<< (x4 &&& 31) : Int32) ||| (1 <<< (x5 &&& 31) : Int32)), .int 0, .int (-1)])), .inr (.inl [some 61, none, none, none, none, none, none, none, none, none])]) = some ((some (.int 0)), ((hF.set 3 (.inr (.inr (0, [.int 1, .ref 62, .int 1])))) ++ [.inr (.inr (2, [.int x1, .int x2, .int x3, .int x4, .int x5, .int x6, .int x7, .int ((1 <<< (x4 &&& 31) : Int32) ||| (1 <<< (x5 &&& 31) : Int32)), .int 0, .int (-1)])), .inr (.inl [some 61, none, none, none, none, none, none, none, none, none])]), 0, 0) := by
            refine me (d := 5) g_J3_checkIndex_8e157 (Nat.le_of_ble_eq_true rfl) ?_
            refine rr rfl (s_iload_n rfl) ?_
            refine rr rfl (s_ifF (by decide)) ?_
            refine rr rfl (s_iload_n rfl) ?_
            refine rr rfl (s_iload_n rfl) ?_
            refine rr rfl (s_icT (by decide)) ?_
            refine rr rfl (s_iload_n rfl) ?_
            exact rrt rfl rfl rfl rfl
          refine rrc rfl rfl rfl (do_of g_J3_checkIndex_8e157 rfl rfl e17) ?_
          exact rrt rfl rfl rfl rfl
        refine rrc rfl rfl rfl (do_of g_J15_checkIndex_7cf53 rfl rfl e16) ?_
        refine rr rfl rfl ?_
        refine rr rfl (s_aload_n rfl) ?_
        refine rr rfl (s_iload_n rfl) ?_
        have e18 : a_m MT [] 100000 7 miJx4a65c_elementData_915e3 [.ref 3, .int 0] ((hF.set 3 (.inr (.inr (0, [.int 1, .ref 62, .int 1])))) ++ [.inr (.inr (2, [.int x1, .int x2, .int x3, .int x4, .int x5, .int x6, .int x7, .int ((1 <<< (x4 &&& 31) : Int32) ||| (1 <<< (x5 &&& 31) : Int32)), .int 0, .int (-1)])), .inr (.inl [some 61, none, none, none, none, none, none, none, none, none])]) = some ((some (.ref 61)), ((hF.set 3 (.inr (.inr (0, [.int 1, .ref 62, .int 1])))) ++ [.inr (.inr (2, [.int x1, .int x2, .int x3, .int x4, .int x5, .int x6, .int x7, .int ((1 <<< (x4 &&& 31) : Int32) ||| (1 <<< (x5 &&& 31) : Int32)), .int 0, .int (-1)])), .inr (.inl [some 61, none, none, none, none, none, none, none, none, none])]), 0, 0) := by
          refine me (d := 6) g_Jx4a65c_elementData_915e3 (Nat.le_of_ble_eq_true rfl) ?_
          refine rr rfl (s_aload_n rfl) ?_
          refine rr rfl (s_getf rfl rfl) ?_
          refine rr rfl (s_iload_n rfl) ?_
          refine rr rfl (s_aaload (j := 0) (z := 61) rfl rfl rfl) ?_
          exact rrt rfl rfl rfl rfl
        refine rrc rfl rfl rfl (do_of g_Jx4a65c_elementData_915e3 rfl rfl e18) ?_
        exact rrt rfl rfl rfl rfl
      refine rrc rfl rfl rfl (do_of g_Jx4a65c_get_915e3 rfl rfl e15) ?_
      refine rr rfl rfl ?_
      have e19 : a_m MT [] 100000 8 miX2_isSpare [.ref 61] ((hF.set 3 (.inr (.inr (0, [.int 1, .ref 62, .int 1])))) ++ [.inr (.inr (2, [.int x1, .int x2, .int x3, .int x4, .int x5, .int x6, .int x7, .int ((1 <<< (x4 &&& 31) : Int32) ||| (1 <<< (x5 &&& 31) : Int32)), .int 0, .int (-1)])), .inr (.inl [some 61, none, none, none, none, none, none, none, none, none])]) = some ((some (.int 0)), ((hF.set 3 (.inr (.inr (0, [.int 1, .ref 62, .int 1])))) ++ [.inr (.inr (2, [.int x1, .int x2, .int x3, .int x4, .int x5, .int x6, .int x7, .int ((1 <<< (x4 &&& 31) : Int32) ||| (1 <<< (x5 &&& 31) : Int32)), .int 0, .int (-1)])), .inr (.inl [some 61, none, none, none, none, none, none, none, none, none])]), 0, 0) := by
        refine me (d := 7) g_X2_isSpare (Nat.le_of_ble_eq_true rfl) ?_
        refine rr rfl (s_aload_n rfl) ?_
        refine rr rfl (s_getf rfl rfl) ?_
        refine rr rfl (s_iconst (v := (-1)) (by decide)) ?_
        refine rr rfl (s_icT (by decide)) ?_
        refine rr rfl (s_iconst (v := 0) (by decide)) ?_
        exact rrt rfl rfl rfl rfl
      refine rrc rfl rfl rfl (do_of g_X2_isSpare rfl rfl e19) ?_
      refine rr rfl (s_ifF (by decide)) ?_
      refine rr rfl (s_iload_n rfl) ?_
      refine rr rfl (s_iconst (v := 1) (by decide)) ?_
      refine rr rfl (s_iload_n rfl) ?_
      refine rr rfl (s_ishl (v := 1) (by decide)) ?_
      refine rr rfl (s_ior (v := 1) (by decide)) ?_
      refine rr rfl (s_istore_n rfl) ?_
      refine rr rfl (s_iinc (v := 1) rfl (by decide) rfl) ?_
      refine rr rfl s_goto ?_
      refine rr rfl (s_iload_n rfl) ?_
      refine rr rfl (s_aload_n rfl) ?_
      refine rr rfl (s_getf rfl rfl) ?_
      have e20 : a_m MT [] 100000 8 miJx4a65c_size_8abf5 [.ref 3] ((hF.set 3 (.inr (.inr (0, [.int 1, .ref 62, .int 1])))) ++ [.inr (.inr (2, [.int x1, .int x2, .int x3, .int x4, .int x5, .int x6, .int x7, .int ((1 <<< (x4 &&& 31) : Int32) ||| (1 <<< (x5 &&& 31) : Int32)), .int 0, .int (-1)])), .inr (.inl [some 61, none, none, none, none, none, none, none, none, none])]) = some ((some (.int 1)), ((hF.set 3 (.inr (.inr (0, [.int 1, .ref 62, .int 1])))) ++ [.inr (.inr (2, [.int x1, .int x2, .int x3, .int x4, .int x5, .int x6, .int x7, .int ((1 <<< (x4 &&& 31) : Int32) ||| (1 <<< (x5 &&& 31) : Int32)), .int 0, .int (-1)])), .inr (.inl [some 61, none, none, none, none, none, none, none, none, none])]), 0, 0) := by
        refine me (d := 7) g_Jx4a65c_size_8abf5 (Nat.le_of_ble_eq_true rfl) ?_
        refine rr rfl (s_aload_n rfl) ?_
        refine rr rfl (s_getf rfl rfl) ?_
        exact rrt rfl rfl rfl rfl
      refine rrc rfl rfl rfl (do_of g_Jx4a65c_size_8abf5 rfl rfl e20) ?_
      refine rr rfl (s_icT (by decide)) ?_
      refine rr rfl (s_iload_n rfl) ?_
      exact rrt rfl rfl rfl rfl
    refine rrc rfl rfl rfl (do_of g_X3_notSpare rfl rfl e13) ?_
    have e21 : a_m MT [] 100000 9 miX6_countOnly [.ref 6, .int 1] ((hF.set 3 (.inr (.inr (0, [.int 1, .ref 62, .int 1])))) ++ [.inr (.inr (2, [.int x1, .int x2, .int x3, .int x4, .int x5, .int x6, .int x7, .int ((1 <<< (x4 &&& 31) : Int32) ||| (1 <<< (x5 &&& 31) : Int32)), .int 0, .int (-1)])), .inr (.inl [some 61, none, none, none, none, none, none, none, none, none])]) = some (none, (((hF.set 3 (.inr (.inr (0, [.int 1, .ref 62, .int 1])))).set 6 (.inr (.inr (6, [.ref 2, .ref 7, .ref 8, .ref 9, .int 1])))) ++ [.inr (.inr (2, [.int x1, .int x2, .int x3, .int x4, .int x5, .int x6, .int x7, .int ((1 <<< (x4 &&& 31) : Int32) ||| (1 <<< (x5 &&& 31) : Int32)), .int 0, .int (-1)])), .inr (.inl [some 61, none, none, none, none, none, none, none, none, none])]), 0, 0) := by
      refine me (d := 8) g_X6_countOnly (Nat.le_of_ble_eq_true rfl) ?_
      refine rr rfl (s_aload_n rfl) ?_
      refine rr rfl (s_iload_n rfl) ?_
      refine rr rfl (s_putf rfl rfl (Nat.le_of_ble_eq_true rfl) rfl (Nat.le_of_ble_eq_true rfl) rfl (h' := (((hF.set 3 (.inr (.inr (0, [.int 1, .ref 62, .int 1])))).set 6 (.inr (.inr (6, [.ref 2, .ref 7, .ref 8, .ref 9, .int 1])))) ++ [.inr (.inr (2, [.int x1, .int x2, .int x3, .int x4, .int x5, .int x6, .int x7, .int ((1 <<< (x4 &&& 31) : Int32) ||| (1 <<< (x5 &&& 31) : Int32)), .int 0, .int (-1)])), .inr (.inl [some 61, none, none, none, none, none, none, none, none, none])]))) ?_
      refine rr rfl (s_aload_n rfl) ?_
      refine rr rfl (s_getf rfl rfl) ?_
      refine rr rfl (s_iconst (v := (-1)) (by decide)) ?_
      have e22 : a_m MT [] 100000 8 miJ7_fill_53178 [.ref 7, .int (-1)] (((hF.set 3 (.inr (.inr (0, [.int 1, .ref 62, .int 1])))).set 6 (.inr (.inr (6, [.ref 2, .ref 7, .ref 8, .ref 9, .int 1])))) ++ [.inr (.inr (2, [.int x1, .int x2, .int x3, .int x4, .int x5, .int x6, .int x7, .int ((1 <<< (x4 &&& 31) : Int32) ||| (1 <<< (x5 &&& 31) : Int32)), .int 0, .int (-1)])), .inr (.inl [some 61, none, none, none, none, none, none, none, none, none])]) = some (none, (((hF.set 3 (.inr (.inr (0, [.int 1, .ref 62, .int 1])))).set 6 (.inr (.inr (6, [.ref 2, .ref 7, .ref 8, .ref 9, .int 1])))) ++ [.inr (.inr (2, [.int x1, .int x2, .int x3, .int x4, .int x5, .int x6, .int x7, .int ((1 <<< (x4 &&& 31) : Int32) ||| (1 <<< (x5 &&& 31) : Int32)), .int 0, .int (-1)])), .inr (.inl [some 61, none, none, none, none, none, none, none, none, none])]), 0, 0) := fill_n rfl (Nat.le_of_ble_eq_true rfl) rfl
      refine rrc rfl rfl rfl (do_of g_J7_fill_53178 rfl rfl e22) ?_
      exact rrt rfl rfl rfl rfl
    refine rrc rfl rfl rfl (do_of g_X6_countOnly rfl rfl e21) ?_
    refine rr rfl (s_aload_n rfl) ?_
    have e23 : a_m MT [] 100000 9 miX8_forgetRuns [.ref 0] (((hF.set 3 (.inr (.inr (0, [.int 1, .ref 62, .int 1])))).set 6 (.inr (.inr (6, [.ref 2, .ref 7, .ref 8, .ref 9, .int 1])))) ++ [.inr (.inr (2, [.int x1, .int x2, .int x3, .int x4, .int x5, .int x6, .int x7, .int ((1 <<< (x4 &&& 31) : Int32) ||| (1 <<< (x5 &&& 31) : Int32)), .int 0, .int (-1)])), .inr (.inl [some 61, none, none, none, none, none, none, none, none, none])]) = some (none, (((hF.set 3 (.inr (.inr (0, [.int 1, .ref 62, .int 1])))).set 6 (.inr (.inr (6, [.ref 2, .ref 7, .ref 8, .ref 9, .int 1])))) ++ [.inr (.inr (2, [.int x1, .int x2, .int x3, .int x4, .int x5, .int x6, .int x7, .int ((1 <<< (x4 &&& 31) : Int32) ||| (1 <<< (x5 &&& 31) : Int32)), .int 0, .int (-1)])), .inr (.inl [some 61, none, none, none, none, none, none, none, none, none])]), 0, 0) := by
      refine me (d := 8) g_X8_forgetRuns (Nat.le_of_ble_eq_true rfl) ?_
      refine rr rfl (s_aload_n rfl) ?_
      refine rr rfl (s_iconst (v := 0) (by decide)) ?_
      refine rr rfl (s_putf rfl rfl (Nat.le_of_ble_eq_true rfl) rfl (Nat.le_of_ble_eq_true rfl) rfl (h' := (((hF.set 3 (.inr (.inr (0, [.int 1, .ref 62, .int 1])))).set 6 (.inr (.inr (6, [.ref 2, .ref 7, .ref 8, .ref 9, .int 1])))) ++ [.inr (.inr (2, [.int x1, .int x2, .int x3, .int x4, .int x5, .int x6, .int x7, .int ((1 <<< (x4 &&& 31) : Int32) ||| (1 <<< (x5 &&& 31) : Int32)), .int 0, .int (-1)])), .inr (.inl [some 61, none, none, none, none, none, none, none, none, none])]))) ?_
      refine rr rfl (s_aload_n rfl) ?_
      refine rr rfl (s_getf rfl rfl) ?_
      refine rr rfl (s_iconst (v := 0) (by decide)) ?_
      refine rr rfl (s_putf rfl rfl (Nat.le_of_ble_eq_true rfl) rfl (Nat.le_of_ble_eq_true rfl) rfl (h' := (((hF.set 3 (.inr (.inr (0, [.int 1, .ref 62, .int 1])))).set 6 (.inr (.inr (6, [.ref 2, .ref 7, .ref 8, .ref 9, .int 1])))) ++ [.inr (.inr (2, [.int x1, .int x2, .int x3, .int x4, .int x5, .int x6, .int x7, .int ((1 <<< (x4 &&& 31) : Int32) ||| (1 <<< (x5 &&& 31) : Int32)), .int 0, .int (-1)])), .inr (.inl [some 61, none, none, none, none, none, none, none, none, none])]))) ?_
      exact rrt rfl rfl rfl rfl
    refine rrc rfl rfl rfl (do_of g_X8_forgetRuns rfl rfl e23) ?_
    exact rrt rfl rfl rfl rfl
  refine rrc rfl rfl rfl (do_of g_X8_forgetRules rfl rfl e12) ?_
  refine rr rfl (s_aload_n rfl) ?_
  refine rr rfl (s_getf rfl rfl) ?_
  refine rr rfl (s_getf rfl rfl) ?_
  refine rr rfl (s_getf rfl rfl) ?_
  have e24 : a_m MT [] 100000 10 miJx4a65c_size_8abf5 [.ref 3] (((hF.set 3 (.inr (.inr (0, [.int 1, .ref 62, .int 1])))).set 6 (.inr (.inr (6, [.ref 2, .ref 7, .ref 8, .ref 9, .int 1])))) ++ [.inr (.inr (2, [.int x1, .int x2, .int x3, .int x4, .int x5, .int x6, .int x7, .int ((1 <<< (x4 &&& 31) : Int32) ||| (1 <<< (x5 &&& 31) : Int32)), .int 0, .int (-1)])), .inr (.inl [some 61, none, none, none, none, none, none, none, none, none])]) = some ((some (.int 1)), (((hF.set 3 (.inr (.inr (0, [.int 1, .ref 62, .int 1])))).set 6 (.inr (.inr (6, [.ref 2, .ref 7, .ref 8, .ref 9, .int 1])))) ++ [.inr (.inr (2, [.int x1, .int x2, .int x3, .int x4, .int x5, .int x6, .int x7, .int ((1 <<< (x4 &&& 31) : Int32) ||| (1 <<< (x5 &&& 31) : Int32)), .int 0, .int (-1)])), .inr (.inl [some 61, none, none, none, none, none, none, none, none, none])]), 0, 0) := by
    refine me (d := 9) g_Jx4a65c_size_8abf5 (Nat.le_of_ble_eq_true rfl) ?_
    refine rr rfl (s_aload_n rfl) ?_
    refine rr rfl (s_getf rfl rfl) ?_
    exact rrt rfl rfl rfl rfl
  refine rrc rfl rfl rfl (do_of g_Jx4a65c_size_8abf5 rfl rfl e24) ?_
  refine rr rfl (s_iconst (v := 1) (by decide)) ?_
  refine rr rfl (s_isub (v := 0) (by decide)) ?_
  exact rrt rfl rfl rfl rfl
set_option maxHeartbeats 4000000 in
set_option maxRecDepth 10000 in
theorem rx_Nmoo {x1 x2 x3 x4 x5 x6 x7 : Int32} (g1 : x5 = (-1)) (g2 : ¬ x6 = (-1)) (g3 : x2 = 0) (g4 : ¬ x4 < 0) (g5 : x4 < nI 8) (g6 : ¬ x6 < 0) (g7 : x6 < nI 8) (g8 : ¬ x3 < 0) (g9 : x3 < nI 8) (g10 : ¬ x4 = x3) (g11 : ¬ x6 = x3) : a_run MT [] (a_m MT [] 100000 10) 11 (some .int) tabX8_rule 90000 140 (alR x1 x2 x3 x4 x5 x6 x7) [] hF 0 0 = some (some (.int 0), (((((hF.set 3 (.inr (.inr (0, [.int 1, .ref 62, .int 1])))).set 4 (.inl ((List.replicate 8 (0 : Int32)).set (Int32.toNatClampNeg x3) 1))).set 5 (.inl ((List.replicate 8 (0 : Int32)).set (Int32.toNatClampNeg x3) 1))).set 6 (.inr (.inr (6, [.ref 2, .ref 7, .ref 8, .ref 9, .int 1])))) ++ [.inr (.inr (2, [.int x1, .int x2, .int x3, .int x4, .int x4, .int x6, .int x7, .int ((1 <<< (x4 &&& 31) : Int32) ||| (1 <<< (x4 &&& 31) : Int32)), .int (1 <<< (x6 &&& 31) : Int32), .int (-1)])), .inr (.inl [some 61, none, none, none, none, none, none, none, none, none])]), 2, 20) := by
  refine rr rfl (s_new (q := 61) rfl rfl (h' := (hF ++ [.inr (.inr (2, [.int 0, .int 0, .int 0, .int 0, .int 0, .int 0, .int 0, .int 0, .int 0, .int 0]))]))) ?_
  refine rr rfl rfl ?_
  refine rr rfl (s_iload_n rfl) ?_
  refine rr rfl (s_iload_n rfl) ?_
  refine rr rfl (s_iload_n rfl) ?_
  refine rr rfl (s_iload rfl) ?_
  refine rr rfl (s_iload rfl) ?_
  refine rr rfl (s_iload rfl) ?_
  refine rr rfl (s_iload rfl) ?_
  have e1 : a_m MT [] 100000 10 miX2_init [.ref 61, .int x1, .int x2, .int x3, .int x4, .int x5, .int x6, .int x7] (hF ++ [.inr (.inr (2, [.int 0, .int 0, .int 0, .int 0, .int 0, .int 0, .int 0, .int 0, .int 0, .int 0]))]) = some (none, (hF ++ [.inr (.inr (2, [.int x1, .int x2, .int x3, .int x4, .int x4, .int x6, .int x7, .int ((1 <<< (x4 &&& 31) : Int32) ||| (1 <<< (x4 &&& 31) : Int32)), .int (1 <<< (x6 &&& 31) : Int32), .int (-1)]))]), 0, 0) := by
    refine me (d := 9) g_X2_init (Nat.le_of_ble_eq_true rfl) ?_
    refine rr rfl (s_aload_n rfl) ?_
    refine rr rfl rfl ?_
    refine rr rfl (s_aload_n rfl) ?_
    refine rr rfl (s_iconst (v := (-1)) (by decide)) ?_
    refine rr rfl (s_putf rfl rfl (Nat.le_of_ble_eq_true rfl) rfl (Nat.le_of_ble_eq_true rfl) rfl (h' := (hF ++ [.inr (.inr (2, [.int 0, .int 0, .int 0, .int 0, .int 0, .int 0, .int 0, .int 0, .int 0, .int (-1)]))]))) ?_
    refine rr rfl (s_aload_n rfl) ?_
    refine rr rfl (s_iload_n rfl) ?_
    refine rr rfl (s_putf rfl rfl (Nat.le_of_ble_eq_true rfl) rfl (Nat.le_of_ble_eq_true rfl) rfl (h' := (hF ++ [.inr (.inr (2, [.int x1, .int 0, .int 0, .int 0, .int 0, .int 0, .int 0, .int 0, .int 0, .int (-1)]))]))) ?_
    refine rr rfl (s_aload_n rfl) ?_
    refine rr rfl (s_iload_n rfl) ?_
    refine rr rfl (s_putf rfl rfl (Nat.le_of_ble_eq_true rfl) rfl (Nat.le_of_ble_eq_true rfl) rfl (h' := (hF ++ [.inr (.inr (2, [.int x1, .int x2, .int 0, .int 0, .int 0, .int 0, .int 0, .int 0, .int 0, .int (-1)]))]))) ?_
    refine rr rfl (s_aload_n rfl) ?_
    refine rr rfl (s_iload_n rfl) ?_
    refine rr rfl (s_putf rfl rfl (Nat.le_of_ble_eq_true rfl) rfl (Nat.le_of_ble_eq_true rfl) rfl (h' := (hF ++ [.inr (.inr (2, [.int x1, .int x2, .int x3, .int 0, .int 0, .int 0, .int 0, .int 0, .int 0, .int (-1)]))]))) ?_
    refine rr rfl (s_aload_n rfl) ?_
    refine rr rfl (s_iload rfl) ?_
    refine rr rfl (s_putf rfl rfl (Nat.le_of_ble_eq_true rfl) rfl (Nat.le_of_ble_eq_true rfl) rfl (h' := (hF ++ [.inr (.inr (2, [.int x1, .int x2, .int x3, .int x4, .int 0, .int 0, .int 0, .int 0, .int 0, .int (-1)]))]))) ?_
    refine rr rfl (s_aload_n rfl) ?_
    refine rr rfl (s_iload rfl) ?_
    refine rr rfl (s_iconst (v := (-1)) (by decide)) ?_
    refine rr rfl (s_icF (ic_nne g1)) ?_
    refine rr rfl (s_iload rfl) ?_
    refine rr rfl s_goto ?_
    refine rr rfl (s_putf rfl rfl (Nat.le_of_ble_eq_true rfl) rfl (Nat.le_of_ble_eq_true rfl) rfl (h' := (hF ++ [.inr (.inr (2, [.int x1, .int x2, .int x3, .int x4, .int x4, .int 0, .int 0, .int 0, .int 0, .int (-1)]))]))) ?_
    refine rr rfl (s_aload_n rfl) ?_
    refine rr rfl (s_iload rfl) ?_
    refine rr rfl (s_putf rfl rfl (Nat.le_of_ble_eq_true rfl) rfl (Nat.le_of_ble_eq_true rfl) rfl (h' := (hF ++ [.inr (.inr (2, [.int x1, .int x2, .int x3, .int x4, .int x4, .int x6, .int 0, .int 0, .int 0, .int (-1)]))]))) ?_
    refine rr rfl (s_aload_n rfl) ?_
    refine rr rfl (s_iload rfl) ?_
    refine rr rfl (s_putf rfl rfl (Nat.le_of_ble_eq_true rfl) rfl (Nat.le_of_ble_eq_true rfl) rfl (h' := (hF ++ [.inr (.inr (2, [.int x1, .int x2, .int x3, .int x4, .int x4, .int x6, .int x7, .int 0, .int 0, .int (-1)]))]))) ?_
    refine rr rfl (s_aload_n rfl) ?_
    refine rr rfl (s_iconst (v := 1) (by decide)) ?_
    refine rr rfl (s_aload_n rfl) ?_
    refine rr rfl (s_getf rfl rfl) ?_
    refine rr rfl (s_ishl (v := (1 <<< (x4 &&& 31) : Int32)) rfl) ?_
    refine rr rfl (s_iconst (v := 1) (by decide)) ?_
    refine rr rfl (s_aload_n rfl) ?_
    refine rr rfl (s_getf rfl rfl) ?_
    refine rr rfl (s_ishl (v := (1 <<< (x4 &&& 31) : Int32)) rfl) ?_
    refine rr rfl (s_ior (v := ((1 <<< (x4 &&& 31) : Int32) ||| (1 <<< (x4 &&& 31) : Int32))) rfl) ?_
    refine rr rfl (s_putf rfl rfl (Nat.le_of_ble_eq_true rfl) rfl (Nat.le_of_ble_eq_true rfl) rfl (h' := (hF ++ [.inr (.inr (2, [.int x1, .int x2, .int x3, .int x4, .int x4, .int x6, .int x7, .int ((1 <<< (x4 &&& 31) : Int32) ||| (1 <<< (x4 &&& 31) : Int32)), .int 0, .int (-1)]))]))) ?_
    refine rr rfl (s_aload_n rfl) ?_
    refine rr rfl (s_iload rfl) ?_
    refine rr rfl (s_iconst (v := (-1)) (by decide)) ?_
    refine rr rfl (s_icT (ic_ne g2)) ?_
    refine rr rfl (s_iconst (v := 1) (by decide)) ?_
    refine rr rfl (s_iload rfl) ?_
    refine rr rfl (s_ishl (v := (1 <<< (x6 &&& 31) : Int32)) rfl) ?_
    refine rr rfl (s_putf rfl rfl (Nat.le_of_ble_eq_true rfl) rfl (Nat.le_of_ble_eq_true rfl) rfl (h' := (hF ++ [.inr (.inr (2, [.int x1, .int x2, .int x3, .int x4, .int x4, .int x6, .int x7, .int ((1 <<< (x4 &&& 31) : Int32) ||| (1 <<< (x4 &&& 31) : Int32)), .int (1 <<< (x6 &&& 31) : Int32), .int (-1)]))]))) ?_
    exact rrt rfl rfl rfl rfl
  refine rrc rfl rfl rfl (do_of g_X2_init rfl rfl e1) ?_
  refine rr rfl (s_astore rfl) ?_
  refine rr rfl (s_aload_n rfl) ?_
  refine rr rfl (s_getf rfl rfl) ?_
  refine rr rfl (s_getf rfl rfl) ?_
  refine rr rfl (s_aload rfl) ?_
  have e2 : a_m MT [] 100000 10 miX3_hasLayersWith [.ref 2, .ref 61] (hF ++ [.inr (.inr (2, [.int x1, .int x2, .int x3, .int x4, .int x4, .int x6, .int x7, .int ((1 <<< (x4 &&& 31) : Int32) ||| (1 <<< (x4 &&& 31) : Int32)), .int (1 <<< (x6 &&& 31) : Int32), .int (-1)]))]) = some ((some (.int 1)), ((hF.set 5 (.inl ((List.replicate 8 (0 : Int32)).set (Int32.toNatClampNeg x3) 1))) ++ [.inr (.inr (2, [.int x1, .int x2, .int x3, .int x4, .int x4, .int x6, .int x7, .int ((1 <<< (x4 &&& 31) : Int32) ||| (1 <<< (x4 &&& 31) : Int32)), .int (1 <<< (x6 &&& 31) : Int32), .int (-1)]))]), 0, 0) := by
    refine me (d := 9) g_X3_hasLayersWith (Nat.le_of_ble_eq_true rfl) ?_
    refine rr rfl (s_aload_n rfl) ?_
    refine rr rfl (s_getf rfl rfl) ?_
    refine rr rfl (s_iconst (v := 0) (by decide)) ?_
    have e3 : a_m MT [] 100000 9 miJ7_fill_53178 [.ref 5, .int 0] (hF ++ [.inr (.inr (2, [.int x1, .int x2, .int x3, .int x4, .int x4, .int x6, .int x7, .int ((1 <<< (x4 &&& 31) : Int32) ||| (1 <<< (x4 &&& 31) : Int32)), .int (1 <<< (x6 &&& 31) : Int32), .int (-1)]))]) = some (none, (hF ++ [.inr (.inr (2, [.int x1, .int x2, .int x3, .int x4, .int x4, .int x6, .int x7, .int ((1 <<< (x4 &&& 31) : Int32) ||| (1 <<< (x4 &&& 31) : Int32)), .int (1 <<< (x6 &&& 31) : Int32), .int (-1)]))]), 0, 0) := fill_n rfl (Nat.le_of_ble_eq_true rfl) rfl
    refine rrc rfl rfl rfl (do_of g_J7_fill_53178 rfl rfl e3) ?_
    refine rr rfl (s_iconst (v := 1) (by decide)) ?_
    refine rr rfl (s_istore_n rfl) ?_
    refine rr rfl (s_iconst (v := 0) (by decide)) ?_
    refine rr rfl (s_istore_n rfl) ?_
    refine rr rfl (s_iload_n rfl) ?_
    refine rr rfl (s_ifF (by decide)) ?_
    refine rr rfl (s_iload_n rfl) ?_
    refine rr rfl (s_bipush (v := 8) (by decide)) ?_
    refine rr rfl (s_icF (by decide)) ?_
    refine rr rfl (s_aload_n rfl) ?_
    refine rr rfl (s_aload_n rfl) ?_
    have e4 : a_m MT [] 100000 9 miX3_lift [.ref 2, .ref 61] (hF ++ [.inr (.inr (2, [.int x1, .int x2, .int x3, .int x4, .int x4, .int x6, .int x7, .int ((1 <<< (x4 &&& 31) : Int32) ||| (1 <<< (x4 &&& 31) : Int32)), .int (1 <<< (x6 &&& 31) : Int32), .int (-1)]))]) = some ((some (.int 1)), ((hF.set 5 (.inl ((List.replicate 8 (0 : Int32)).set (Int32.toNatClampNeg x3) 1))) ++ [.inr (.inr (2, [.int x1, .int x2, .int x3, .int x4, .int x4, .int x6, .int x7, .int ((1 <<< (x4 &&& 31) : Int32) ||| (1 <<< (x4 &&& 31) : Int32)), .int (1 <<< (x6 &&& 31) : Int32), .int (-1)]))]), 0, 0) := by
      refine me (d := 8) g_X3_lift (Nat.le_of_ble_eq_true rfl) ?_
      refine rr rfl (s_aload_n rfl) ?_
      refine rr rfl (s_getf rfl rfl) ?_
      refine rr rfl (s_ifT (ic_eq g3)) ?_
      refine rr rfl (s_aload_n rfl) ?_
      refine rr rfl (s_getf rfl rfl) ?_
      refine rr rfl (s_aload_n rfl) ?_
      refine rr rfl (s_getf rfl rfl) ?_
      refine rr rfl (s_ialdR (n := 8) (x := 0) rfl g4 g5) ?_
      refine rr rfl (s_aload_n rfl) ?_
      refine rr rfl (s_getf rfl rfl) ?_
      refine rr rfl (s_aload_n rfl) ?_
      refine rr rfl (s_getf rfl rfl) ?_
      refine rr rfl (s_ialdR (n := 8) (x := 0) rfl g4 g5) ?_
      refine rr rfl (s_max (v := 0) rfl (Nat.le_of_ble_eq_true rfl) (by decide)) ?_
      refine rr rfl (s_istore_n rfl) ?_
      refine rr rfl (s_aload_n rfl) ?_
      refine rr rfl (s_getf rfl rfl) ?_
      refine rr rfl (s_iconst (v := (-1)) (by decide)) ?_
      refine rr rfl (s_icF (ic_neq g2)) ?_
      refine rr rfl (s_iload_n rfl) ?_
      refine rr rfl (s_aload_n rfl) ?_
      refine rr rfl (s_getf rfl rfl) ?_
      refine rr rfl (s_aload_n rfl) ?_
      refine rr rfl (s_getf rfl rfl) ?_
      refine rr rfl (s_ialdR (n := 8) (x := 0) rfl g6 g7) ?_
      refine rr rfl (s_iconst (v := 1) (by decide)) ?_
      refine rr rfl (s_iadd (v := 1) (by decide)) ?_
      refine rr rfl (s_max (v := 1) rfl (Nat.le_of_ble_eq_true rfl) (by decide)) ?_
      refine rr rfl (s_istore_n rfl) ?_
      refine rr rfl (s_aload_n rfl) ?_
      refine rr rfl (s_getf rfl rfl) ?_
      refine rr rfl (s_aload_n rfl) ?_
      refine rr rfl (s_getf rfl rfl) ?_
      refine rr rfl (s_ialdR (n := 8) (x := 0) rfl g8 g9) ?_
      refine rr rfl (s_iload_n rfl) ?_
      refine rr rfl (s_icT (by decide)) ?_
      refine rr rfl (s_aload_n rfl) ?_
      refine rr rfl (s_getf rfl rfl) ?_
      refine rr rfl (s_aload_n rfl) ?_
      refine rr rfl (s_getf rfl rfl) ?_
      refine rr rfl (s_iload_n rfl) ?_
      refine rr rfl (s_iastR (n := 8) rfl g8 g9 (Nat.le_of_ble_eq_true rfl) rfl (h' := ((hF.set 5 (.inl ((List.replicate 8 (0 : Int32)).set (Int32.toNatClampNeg x3) 1))) ++ [.inr (.inr (2, [.int x1, .int x2, .int x3, .int x4, .int x4, .int x6, .int x7, .int ((1 <<< (x4 &&& 31) : Int32) ||| (1 <<< (x4 &&& 31) : Int32)), .int (1 <<< (x6 &&& 31) : Int32), .int (-1)]))]))) ?_
      refine rr rfl (s_iconst (v := 1) (by decide)) ?_
      exact rrt rfl rfl rfl rfl
    refine rrc rfl rfl rfl (do_of g_X3_lift rfl rfl e4) ?_
    refine rr rfl (s_istore_n rfl) ?_
    refine rr rfl (s_iconst (v := 0) (by decide)) ?_
    refine rr rfl (s_istore rfl) ?_
    refine rr rfl (s_iload rfl) ?_
    refine rr rfl (s_aload_n rfl) ?_
    refine rr rfl (s_getf rfl rfl) ?_
    have e5 : a_m MT [] 100000 9 miJx4a65c_size_8abf5 [.ref 3] ((hF.set 5 (.inl ((List.replicate 8 (0 : Int32)).set (Int32.toNatClampNeg x3) 1))) ++ [.inr (.inr (2, [.int x1, .int x2, .int x3, .int x4, .int x4, .int x6, .int x7, .int ((1 <<< (x4 &&& 31) : Int32) ||| (1 <<< (x4 &&& 31) : Int32)), .int (1 <<< (x6 &&& 31) : Int32), .int (-1)]))]) = some ((some (.int 0)), ((hF.set 5 (.inl ((List.replicate 8 (0 : Int32)).set (Int32.toNatClampNeg x3) 1))) ++ [.inr (.inr (2, [.int x1, .int x2, .int x3, .int x4, .int x4, .int x6, .int x7, .int ((1 <<< (x4 &&& 31) : Int32) ||| (1 <<< (x4 &&& 31) : Int32)), .int (1 <<< (x6 &&& 31) : Int32), .int (-1)]))]), 0, 0) := by
      refine me (d := 8) g_Jx4a65c_size_8abf5 (Nat.le_of_ble_eq_true rfl) ?_
      refine rr rfl (s_aload_n rfl) ?_
      refine rr rfl (s_getf rfl rfl) ?_
      exact rrt rfl rfl rfl rfl
    refine rrc rfl rfl rfl (do_of g_Jx4a65c_size_8abf5 rfl rfl e5) ?_
    refine rr rfl (s_icT (by decide)) ?_
    refine rr rfl (s_iinc (v := 1) rfl (by decide) rfl) ?_
    refine rr rfl s_goto ?_
    refine rr rfl (s_iload_n rfl) ?_
    refine rr rfl (s_ifF (by decide)) ?_
    refine rr rfl (s_iload_n rfl) ?_
    refine rr rfl (s_bipush (v := 8) (by decide)) ?_
    refine rr rfl (s_icF (by decide)) ?_
    refine rr rfl (s_aload_n rfl) ?_
    refine rr rfl (s_aload_n rfl) ?_
    have e6 : a_m MT [] 100000 9 miX3_lift [.ref 2, .ref 61] ((hF.set 5 (.inl ((List.replicate 8 (0 : Int32)).set (Int32.toNatClampNeg x3) 1))) ++ [.inr (.inr (2, [.int x1, .int x2, .int x3, .int x4, .int x4, .int x6, .int x7, .int ((1 <<< (x4 &&& 31) : Int32) ||| (1 <<< (x4 &&& 31) : Int32)), .int (1 <<< (x6 &&& 31) : Int32), .int (-1)]))]) = some ((some (.int 0)), ((hF.set 5 (.inl ((List.replicate 8 (0 : Int32)).set (Int32.toNatClampNeg x3) 1))) ++ [.inr (.inr (2, [.int x1, .int x2, .int x3, .int x4, .int x4, .int x6, .int x7, .int ((1 <<< (x4 &&& 31) : Int32) ||| (1 <<< (x4 &&& 31) : Int32)), .int (1 <<< (x6 &&& 31) : Int32), .int (-1)]))]), 0, 0) := by
      refine me (d := 8) g_X3_lift (Nat.le_of_ble_eq_true rfl) ?_
      refine rr rfl (s_aload_n rfl) ?_
      refine rr rfl (s_getf rfl rfl) ?_
      refine rr rfl (s_ifT (ic_eq g3)) ?_
      refine rr rfl (s_aload_n rfl) ?_
      refine rr rfl (s_getf rfl rfl) ?_
      refine rr rfl (s_aload_n rfl) ?_
      refine rr rfl (s_getf rfl rfl) ?_
      refine rr rfl (s_ialdN rfl g10 g4 g5 g8) ?_
      refine rr rfl (s_aload_n rfl) ?_
      refine rr rfl (s_getf rfl rfl) ?_
      refine rr rfl (s_aload_n rfl) ?_
      refine rr rfl (s_getf rfl rfl) ?_
      refine rr rfl (s_ialdN rfl g10 g4 g5 g8) ?_
      refine rr rfl (s_max (v := 0) rfl (Nat.le_of_ble_eq_true rfl) (by decide)) ?_
      refine rr rfl (s_istore_n rfl) ?_
      refine rr rfl (s_aload_n rfl) ?_
      refine rr rfl (s_getf rfl rfl) ?_
      refine rr rfl (s_iconst (v := (-1)) (by decide)) ?_
      refine rr rfl (s_icF (ic_neq g2)) ?_
      refine rr rfl (s_iload_n rfl) ?_
      refine rr rfl (s_aload_n rfl) ?_
      refine rr rfl (s_getf rfl rfl) ?_
      refine rr rfl (s_aload_n rfl) ?_
      refine rr rfl (s_getf rfl rfl) ?_
      refine rr rfl (s_ialdN rfl g11 g6 g7 g8) ?_
      refine rr rfl (s_iconst (v := 1) (by decide)) ?_
      refine rr rfl (s_iadd (v := 1) (by decide)) ?_
      refine rr rfl (s_max (v := 1) rfl (Nat.le_of_ble_eq_true rfl) (by decide)) ?_
      refine rr rfl (s_istore_n rfl) ?_
      refine rr rfl (s_aload_n rfl) ?_
      refine rr rfl (s_getf rfl rfl) ?_
      refine rr rfl (s_aload_n rfl) ?_
      refine rr rfl (s_getf rfl rfl) ?_
      refine rr rfl (s_ialdH rfl rfl g8 g9) ?_
      refine rr rfl (s_iload_n rfl) ?_
      refine rr rfl (s_icF (by decide)) ?_
      refine rr rfl (s_iconst (v := 0) (by decide)) ?_
      exact rrt rfl rfl rfl rfl
    refine rrc rfl rfl rfl (do_of g_X3_lift rfl rfl e6) ?_
    refine rr rfl (s_istore_n rfl) ?_
    refine rr rfl (s_iconst (v := 0) (by decide)) ?_
    refine rr rfl (s_istore rfl) ?_
    refine rr rfl (s_iload rfl) ?_
    refine rr rfl (s_aload_n rfl) ?_
    refine rr rfl (s_getf rfl rfl) ?_
    have e7 : a_m MT [] 100000 9 miJx4a65c_size_8abf5 [.ref 3] ((hF.set 5 (.inl ((List.replicate 8 (0 : Int32)).set (Int32.toNatClampNeg x3) 1))) ++ [.inr (.inr (2, [.int x1, .int x2, .int x3, .int x4, .int x4, .int x6, .int x7, .int ((1 <<< (x4 &&& 31) : Int32) ||| (1 <<< (x4 &&& 31) : Int32)), .int (1 <<< (x6 &&& 31) : Int32), .int (-1)]))]) = some ((some (.int 0)), ((hF.set 5 (.inl ((List.replicate 8 (0 : Int32)).set (Int32.toNatClampNeg x3) 1))) ++ [.inr (.inr (2, [.int x1, .int x2, .int x3, .int x4, .int x4, .int x6, .int x7, .int ((1 <<< (x4 &&& 31) : Int32) ||| (1 <<< (x4 &&& 31) : Int32)), .int (1 <<< (x6 &&& 31) : Int32), .int (-1)]))]), 0, 0) := by
      refine me (d := 8) g_Jx4a65c_size_8abf5 (Nat.le_of_ble_eq_true rfl) ?_
      refine rr rfl (s_aload_n rfl) ?_
      refine rr rfl (s_getf rfl rfl) ?_
      exact rrt rfl rfl rfl rfl
    refine rrc rfl rfl rfl (do_of g_Jx4a65c_size_8abf5 rfl rfl e7) ?_
    refine rr rfl (s_icT (by decide)) ?_
    refine rr rfl (s_iinc (v := 2) rfl (by decide) rfl) ?_
    refine rr rfl s_goto ?_
    refine rr rfl (s_iload_n rfl) ?_
    refine rr rfl (s_ifT (by decide)) ?_
    refine rr rfl (s_iload_n rfl) ?_
    refine rr rfl (s_ifF (by decide)) ?_
    refine rr rfl (s_iconst (v := 1) (by decide)) ?_
    refine rr rfl s_goto ?_
    exact rrt rfl rfl rfl rfl
  refine rrc rfl rfl rfl (do_of g_X3_hasLayersWith rfl rfl e2) ?_
  refine rr rfl (s_ifT (by decide)) ?_
  refine rr rfl (s_aload_n rfl) ?_
  refine rr rfl (s_getf rfl rfl) ?_
  refine rr rfl (s_getf rfl rfl) ?_
  refine rr rfl (s_getf rfl rfl) ?_
  have e8 : a_m MT [] 100000 10 miJx4a65c_size_8abf5 [.ref 3] ((hF.set 5 (.inl ((List.replicate 8 (0 : Int32)).set (Int32.toNatClampNeg x3) 1))) ++ [.inr (.inr (2, [.int x1, .int x2, .int x3, .int x4, .int x4, .int x6, .int x7, .int ((1 <<< (x4 &&& 31) : Int32) ||| (1 <<< (x4 &&& 31) : Int32)), .int (1 <<< (x6 &&& 31) : Int32), .int (-1)]))]) = some ((some (.int 0)), ((hF.set 5 (.inl ((List.replicate 8 (0 : Int32)).set (Int32.toNatClampNeg x3) 1))) ++ [.inr (.inr (2, [.int x1, .int x2, .int x3, .int x4, .int x4, .int x6, .int x7, .int ((1 <<< (x4 &&& 31) : Int32) ||| (1 <<< (x4 &&& 31) : Int32)), .int (1 <<< (x6 &&& 31) : Int32), .int (-1)]))]), 0, 0) := by
    refine me (d := 9) g_Jx4a65c_size_8abf5 (Nat.le_of_ble_eq_true rfl) ?_
    refine rr rfl (s_aload_n rfl) ?_
    refine rr rfl (s_getf rfl rfl) ?_
    exact rrt rfl rfl rfl rfl
  refine rrc rfl rfl rfl (do_of g_Jx4a65c_size_8abf5 rfl rfl e8) ?_
  refine rr rfl (s_bipush (v := 12) (by decide)) ?_
  refine rr rfl (s_icT (by decide)) ?_
  refine rr rfl (s_aload_n rfl) ?_
  refine rr rfl (s_getf rfl rfl) ?_
  refine rr rfl (s_getf rfl rfl) ?_
  refine rr rfl (s_aload rfl) ?_
  have e9 : a_m MT [] 100000 10 miX3_take [.ref 2, .ref 61] ((hF.set 5 (.inl ((List.replicate 8 (0 : Int32)).set (Int32.toNatClampNeg x3) 1))) ++ [.inr (.inr (2, [.int x1, .int x2, .int x3, .int x4, .int x4, .int x6, .int x7, .int ((1 <<< (x4 &&& 31) : Int32) ||| (1 <<< (x4 &&& 31) : Int32)), .int (1 <<< (x6 &&& 31) : Int32), .int (-1)]))]) = some (none, ((((hF.set 3 (.inr (.inr (0, [.int 1, .ref 62, .int 1])))).set 4 (.inl ((List.replicate 8 (0 : Int32)).set (Int32.toNatClampNeg x3) 1))).set 5 (.inl ((List.replicate 8 (0 : Int32)).set (Int32.toNatClampNeg x3) 1))) ++ [.inr (.inr (2, [.int x1, .int x2, .int x3, .int x4, .int x4, .int x6, .int x7, .int ((1 <<< (x4 &&& 31) : Int32) ||| (1 <<< (x4 &&& 31) : Int32)), .int (1 <<< (x6 &&& 31) : Int32), .int (-1)])), .inr (.inl [some 61, none, none, none, none, none, none, none, none, none])]), 1, 10) := by
    refine me (d := 9) g_X3_take (Nat.le_of_ble_eq_true rfl) ?_
    refine rr rfl (s_aload_n rfl) ?_
    refine rr rfl (s_getf rfl rfl) ?_
    refine rr rfl (s_aload_n rfl) ?_
    have e10 : a_m MT [] 100000 9 miJx4a65c_add_9ea2d [.ref 3, .ref 61] ((hF.set 5 (.inl ((List.replicate 8 (0 : Int32)).set (Int32.toNatClampNeg x3) 1))) ++ [.inr (.inr (2, [.int x1, .int x2, .int x3, .int x4, .int x4, .int x6, .int x7, .int ((1 <<< (x4 &&& 31) : Int32) ||| (1 <<< (x4 &&& 31) : Int32)), .int (1 <<< (x6 &&& 31) : Int32), .int (-1)]))]) = some ((some (.int 1)), (((hF.set 3 (.inr (.inr (0, [.int 1, .ref 62, .int 1])))).set 5 (.inl ((List.replicate 8 (0 : Int32)).set (Int32.toNatClampNeg x3) 1))) ++ [.inr (.inr (2, [.int x1, .int x2, .int x3, .int x4, .int x4, .int x6, .int x7, .int ((1 <<< (x4 &&& 31) : Int32) ||| (1 <<< (x4 &&& 31) : Int32)), .int (1 <<< (x6 &&& 31) : Int32), .int (-1)])), .inr (.inl [some 61, none, none, none, none, none, none, none, none, none])]), 1, 10) := by
      refine me (d := 8) g_Jx4a65c_add_9ea2d (Nat.le_of_ble_eq_true rfl) ?_
      refine rr rfl (s_aload_n rfl) ?_
      refine rr rfl rfl ?_
      refine rr rfl (s_getf rfl rfl) ?_
      refine rr rfl (s_iconst (v := 1) (by decide)) ?_
      refine rr rfl (s_iadd (v := 1) (by decide)) ?_
      refine rr rfl (s_putf rfl rfl (Nat.le_of_ble_eq_true rfl) rfl (Nat.le_of_ble_eq_true rfl) rfl (h' := (((hF.set 3 (.inr (.inr (0, [.int 1, .long 0, .int 0])))).set 5 (.inl ((List.replicate 8 (0 : Int32)).set (Int32.toNatClampNeg x3) 1))) ++ [.inr (.inr (2, [.int x1, .int x2, .int x3, .int x4, .int x4, .int x6, .int x7, .int ((1 <<< (x4 &&& 31) : Int32) ||| (1 <<< (x4 &&& 31) : Int32)), .int (1 <<< (x6 &&& 31) : Int32), .int (-1)]))]))) ?_
      refine rr rfl (s_aload_n rfl) ?_
      refine rr rfl (s_aload_n rfl) ?_
      refine rr rfl (s_aload_n rfl) ?_
      refine rr rfl (s_getf rfl rfl) ?_
      refine rr rfl (s_aload_n rfl) ?_
      refine rr rfl (s_getf rfl rfl) ?_
      have e11 : a_m MT [] 100000 8 miJx4a65c_add_72be8 [.ref 3, .ref 61, .long 0, .int 0] (((hF.set 3 (.inr (.inr (0, [.int 1, .long 0, .int 0])))).set 5 (.inl ((List.replicate 8 (0 : Int32)).set (Int32.toNatClampNeg x3) 1))) ++ [.inr (.inr (2, [.int x1, .int x2, .int x3, .int x4, .int x4, .int x6, .int x7, .int ((1 <<< (x4 &&& 31) : Int32) ||| (1 <<< (x4 &&& 31) : Int32)), .int (1 <<< (x6 &&& 31) : Int32), .int (-1)]))]) = some (none, (((hF.set 3 (.inr (.inr (0, [.int 1, .ref 62, .int 1])))).set 5 (.inl ((List.replicate 8 (0 : Int32)).set (Int32.toNatClampNeg x3) 1))) ++ [.inr (.inr (2, [.int x1, .int x2, .int x3, .int x4, .int x4, .int x6, .int x7, .int ((1 <<< (x4 &&& 31) : Int32) ||| (1 <<< (x4 &&& 31) : Int32)), .int (1 <<< (x6 &&& 31) : Int32), .int (-1)])), .inr (.inl [some 61, none, none, none, none, none, none, none, none, none])]), 1, 10) := by
        refine me (d := 7) g_Jx4a65c_add_72be8 (Nat.le_of_ble_eq_true rfl) ?_
        refine rr rfl (s_iload_n rfl) ?_
        refine rr rfl (s_aloadL rfl) ?_
        refine rr rfl (s_alen0) ?_
        refine rr rfl (s_icF (by decide)) ?_
        refine rr rfl (s_aload_n rfl) ?_
        have e12 : a_m MT [] 100000 7 miJx4a65c_grow_d5877 [.ref 3] (((hF.set 3 (.inr (.inr (0, [.int 1, .long 0, .int 0])))).set 5 (.inl ((List.replicate 8 (0 : Int32)).set (Int32.toNatClampNeg x3) 1))) ++ [.inr (.inr (2, [.int x1, .int x2, .int x3, .int x4, .int x4, .int x6, .int x7, .int ((1 <<< (x4 &&& 31) : Int32) ||| (1 <<< (x4 &&& 31) : Int32)), .int (1 <<< (x6 &&& 31) : Int32), .int (-1)]))]) = some ((some (.ref 62)), (((hF.set 3 (.inr (.inr (0, [.int 1, .ref 62, .int 0])))).set 5 (.inl ((List.replicate 8 (0 : Int32)).set (Int32.toNatClampNeg x3) 1))) ++ [.inr (.inr (2, [.int x1, .int x2, .int x3, .int x4, .int x4, .int x6, .int x7, .int ((1 <<< (x4 &&& 31) : Int32) ||| (1 <<< (x4 &&& 31) : Int32)), .int (1 <<< (x6 &&& 31) : Int32), .int (-1)])), .inr (.inl (List.replicate 10 none))]), 1, 10) := by
          refine me (d := 6) g_Jx4a65c_grow_d5877 (Nat.le_of_ble_eq_true rfl) ?_
          refine rr rfl (s_aload_n rfl) ?_
          refine rr rfl (s_aload_n rfl) ?_
          refine rr rfl (s_getf rfl rfl) ?_
          refine rr rfl (s_iconst (v := 1) (by decide)) ?_
          refine rr rfl (s_iadd (v := 1) (by decide)) ?_
          have e13 : a_m MT [] 100000 6 miJx4a65c_grow_92f84 [.ref 3, .int 1] (((hF.set 3 (.inr (.inr (0, [.int 1, .long 0, .int 0])))).set 5 (.inl ((List.replicate 8 (0 : Int32)).set (Int32.toNatClampNeg x3) 1))) ++ [.inr (.inr (2, [.int x1, .int x2, .int x3, .int x4, .int x4, .int x6, .int x7, .int ((1 <<< (x4 &&& 31) : Int32) ||| (1 <<< (x4 &&& 31) : Int32)), .int (1 <<< (x6 &&& 31) : Int32), .int (-1)]))]) = some ((some (.ref 62)), (((hF.set 3 (.inr (.inr (0, [.int 1, .ref 62, .int 0])))).set 5 (.inl ((List.replicate 8 (0 : Int32)).set (Int32.toNatClampNeg x3) 1))) ++ [.inr (.inr (2, [.int x1, .int x2, .int x3, .int x4, .int x4, .int x6, .int x7, .int ((1 <<< (x4 &&& 31) : Int32) ||| (1 <<< (x4 &&& 31) : Int32)), .int (1 <<< (x6 &&& 31) : Int32), .int (-1)])), .inr (.inl (List.replicate 10 none))]), 1, 10) := by
            refine me (d := 5) g_Jx4a65c_grow_92f84 (Nat.le_of_ble_eq_true rfl) ?_
            refine rr rfl (s_aload_n rfl) ?_
            refine rr rfl (s_getf rfl rfl) ?_
            refine rr rfl (s_alen0) ?_
            refine rr rfl (s_istore_n rfl) ?_
            refine rr rfl (s_iload_n rfl) ?_
            refine rr rfl (s_ifF (by decide)) ?_
            refine rr rfl (s_aload_n rfl) ?_
            refine rr rfl (s_getf rfl rfl) ?_
            refine rr rfl rfl ?_
            refine rr rfl rfl ?_
            refine rr rfl (s_aload_n rfl) ?_
            refine rr rfl (s_bipush (v := 10) (by decide)) ?_
            refine rr rfl (s_iload_n rfl) ?_
            refine rr rfl (s_max (v := 10) rfl (Nat.le_of_ble_eq_true rfl) (by decide)) ?_
            refine rr rfl (s_anew (q := 62) (j := 10) rfl rfl rfl rfl (h' := (((hF.set 3 (.inr (.inr (0, [.int 1, .long 0, .int 0])))).set 5 (.inl ((List.replicate 8 (0 : Int32)).set (Int32.toNatClampNeg x3) 1))) ++ [.inr (.inr (2, [.int x1, .int x2, .int x3, .int x4, .int x4, .int x6, .int x7, .int ((1 <<< (x4 &&& 31) : Int32) ||| (1 <<< (x4 &&& 31) : Int32)), .int (1 <<< (x6 &&& 31) : Int32), .int (-1)])), .inr (.inl (List.replicate 10 none))]))) ?_
            refine rr rfl rfl ?_
            refine rr rfl (s_putf rfl rfl (Nat.le_of_ble_eq_true rfl) rfl (Nat.le_of_ble_eq_true rfl) rfl (h' := (((hF.set 3 (.inr (.inr (0, [.int 1, .ref 62, .int 0])))).set 5 (.inl ((List.replicate 8 (0 : Int32)).set (Int32.toNatClampNeg x3) 1))) ++ [.inr (.inr (2, [.int x1, .int x2, .int x3, .int x4, .int x4, .int x6, .int x7, .int ((1 <<< (x4 &&& 31) : Int32) ||| (1 <<< (x4 &&& 31) : Int32)), .int (1 <<< (x6 &&& 31) : Int32), .int (-1)])), .inr (.inl (List.replicate 10 none))]))) ?_
            exact rrt rfl rfl rfl rfl
          refine rrc rfl rfl rfl (do_of g_Jx4a65c_grow_92f84 rfl rfl e13) ?_
          exact rrt rfl rfl rfl rfl
        refine rrc rfl rfl rfl (do_of g_Jx4a65c_grow_d5877 rfl rfl e12) ?_
        refine rr rfl (s_astore_n rfl) ?_
        refine rr rfl (s_aload_n rfl) ?_
        refine rr rfl (s_iload_n rfl) ?_
        refine rr rfl (s_aload_n rfl) ?_
        refine rr rfl (s_aastore (j := 0) rfl rfl rfl (Nat.le_of_ble_eq_true rfl) rfl (Nat.le_of_ble_eq_true rfl) rfl (h' := (((hF.set 3 (.inr (.inr (0, [.int 1, .ref 62, .int 0])))).set 5 (.inl ((List.replicate 8 (0 : Int32)).set (Int32.toNatClampNeg x3) 1))) ++ [.inr (.inr (2, [.int x1, .int x2, .int x3, .int x4, .int x4, .int x6, .int x7, .int ((1 <<< (x4 &&& 31) : Int32) ||| (1 <<< (x4 &&& 31) : Int32)), .int (1 <<< (x6 &&& 31) : Int32), .int (-1)])), .inr (.inl [some 61, none, none, none, none, none, none, none, none, none])]))) ?_
        refine rr rfl (s_aload_n rfl) ?_
        refine rr rfl (s_iload_n rfl) ?_
        refine rr rfl (s_iconst (v := 1) (by decide)) ?_
        refine rr rfl (s_iadd (v := 1) (by decide)) ?_
        refine rr rfl (s_putf rfl rfl (Nat.le_of_ble_eq_true rfl) rfl (Nat.le_of_ble_eq_true rfl) rfl (h' := (((hF.set 3 (.inr (.inr (0, [.int 1, .ref 62, .int 1])))).set 5 (.inl ((List.replicate 8 (0 : Int32)).set (Int32.toNatClampNeg x3) 1))) ++ [.inr (.inr (2, [.int x1, .int x2, .int x3, .int x4, .int x4, .int x6, .int x7, .int ((1 <<< (x4 &&& 31) : Int32) ||| (1 <<< (x4 &&& 31) : Int32)), .int (1 <<< (x6 &&& 31) : Int32), .int (-1)])), .inr (.inl [some 61, none, none, none, none, none, none, none, none, none])]))) ?_
        exact rrt rfl rfl rfl rfl
      refine rrc rfl rfl rfl (do_of g_Jx4a65c_add_72be8 rfl rfl e11) ?_
      refine rr rfl (s_iconst (v := 1) (by decide)) ?_
      exact rrt rfl rfl rfl rfl
    refine rrc rfl rfl rfl (do_of g_Jx4a65c_add_9ea2d rfl rfl e10) ?_
    refine rr rfl rfl ?_
    refine rr rfl (s_aload_n rfl) ?_
    refine rr rfl (s_getf rfl rfl) ?_
    refine rr rfl (s_iconst (v := 0) (by decide)) ?_
    refine rr rfl (s_aload_n rfl) ?_
    refine rr rfl (s_getf rfl rfl) ?_
    refine rr rfl (s_iconst (v := 0) (by decide)) ?_
    refine rr rfl (s_bipush (v := 8) (by decide)) ?_
    refine rr rfl (s_copy8 rfl (Nat.le_of_ble_eq_true rfl) rfl rfl (by simp) rfl (Nat.le_of_ble_eq_true rfl) rfl (h' := ((((hF.set 3 (.inr (.inr (0, [.int 1, .ref 62, .int 1])))).set 4 (.inl ((List.replicate 8 (0 : Int32)).set (Int32.toNatClampNeg x3) 1))).set 5 (.inl ((List.replicate 8 (0 : Int32)).set (Int32.toNatClampNeg x3) 1))) ++ [.inr (.inr (2, [.int x1, .int x2, .int x3, .int x4, .int x4, .int x6, .int x7, .int ((1 <<< (x4 &&& 31) : Int32) ||| (1 <<< (x4 &&& 31) : Int32)), .int (1 <<< (x6 &&& 31) : Int32), .int (-1)])), .inr (.inl [some 61, none, none, none, none, none, none, none, none, none])]))) ?_
    exact rrt rfl rfl rfl rfl
  refine rrc rfl rfl rfl (do_of g_X3_take rfl rfl e9) ?_
  refine rr rfl (s_aload_n rfl) ?_
  have e14 : a_m MT [] 100000 10 miX8_forgetRules [.ref 0] ((((hF.set 3 (.inr (.inr (0, [.int 1, .ref 62, .int 1])))).set 4 (.inl ((List.replicate 8 (0 : Int32)).set (Int32.toNatClampNeg x3) 1))).set 5 (.inl ((List.replicate 8 (0 : Int32)).set (Int32.toNatClampNeg x3) 1))) ++ [.inr (.inr (2, [.int x1, .int x2, .int x3, .int x4, .int x4, .int x6, .int x7, .int ((1 <<< (x4 &&& 31) : Int32) ||| (1 <<< (x4 &&& 31) : Int32)), .int (1 <<< (x6 &&& 31) : Int32), .int (-1)])), .inr (.inl [some 61, none, none, none, none, none, none, none, none, none])]) = some (none, (((((hF.set 3 (.inr (.inr (0, [.int 1, .ref 62, .int 1])))).set 4 (.inl ((List.replicate 8 (0 : Int32)).set (Int32.toNatClampNeg x3) 1))).set 5 (.inl ((List.replicate 8 (0 : Int32)).set (Int32.toNatClampNeg x3) 1))).set 6 (.inr (.inr (6, [.ref 2, .ref 7, .ref 8, .ref 9, .int 1])))) ++ [.inr (.inr (2, [.int x1, .int x2, .int x3, .int x4, .int x4, .int x6, .int x7, .int ((1 <<< (x4 &&& 31) : Int32) ||| (1 <<< (x4 &&& 31) : Int32)), .int (1 <<< (x6 &&& 31) : Int32), .int (-1)])), .inr (.inl [some 61, none, none, none, none, none, none, none, none, none])]), 0, 0) := by
    refine me (d := 9) g_X8_forgetRules (Nat.le_of_ble_eq_true rfl) ?_
    refine rr rfl (s_aload_n rfl) ?_
    refine rr rfl (s_getf rfl rfl) ?_
    refine rr rfl (s_getf rfl rfl) ?_
    refine rr rfl (s_aload_n rfl) ?_
    refine rr rfl (s_getf rfl rfl) ?_
    refine rr rfl (s_getf rfl rfl) ?_
    have e15 : a_m MT [] 100000 9 miX3_notSpare [.ref 2] ((((hF.set 3 (.inr (.inr (0, [.int 1, .ref 62, .int 1])))).set 4 (.inl ((List.replicate 8 (0 : Int32)).set (Int32.toNatClampNeg x3) 1))).set 5 (.inl ((List.replicate 8 (0 : Int32)).set (Int32.toNatClampNeg x3) 1))) ++ [.inr (.inr (2, [.int x1, .int x2, .int x3, .int x4, .int x4, .int x6, .int x7, .int ((1 <<< (x4 &&& 31) : Int32) ||| (1 <<< (x4 &&& 31) : Int32)), .int (1 <<< (x6 &&& 31) : Int32), .int (-1)])), .inr (.inl [some 61, none, none, none, none, none, none, none, none, none])]) = some ((some (.int 1)), ((((hF.set 3 (.inr (.inr (0, [.int 1, .ref 62, .int 1])))).set 4 (.inl ((List.replicate 8 (0 : Int32)).set (Int32.toNatClampNeg x3) 1))).set 5 (.inl ((List.replicate 8 (0 : Int32)).set (Int32.toNatClampNeg x3) 1))) ++ [.inr (.inr (2, [.int x1, .int x2, .int x3, .int x4, .int x4, .int x6, .int x7, .int ((1 <<< (x4 &&& 31) : Int32) ||| (1 <<< (x4 &&& 31) : Int32)), .int (1 <<< (x6 &&& 31) : Int32), .int (-1)])), .inr (.inl [some 61, none, none, none, none, none, none, none, none, none])]), 0, 0) := by
      refine me (d := 8) g_X3_notSpare (Nat.le_of_ble_eq_true rfl) ?_
      refine rr rfl (s_iconst (v := 0) (by decide)) ?_
      refine rr rfl (s_istore_n rfl) ?_
      refine rr rfl (s_iconst (v := 0) (by decide)) ?_
      refine rr rfl (s_istore_n rfl) ?_
      refine rr rfl (s_iload_n rfl) ?_
      refine rr rfl (s_aload_n rfl) ?_
      refine rr rfl (s_getf rfl rfl) ?_
      have e16 : a_m MT [] 100000 8 miJx4a65c_size_8abf5 [.ref 3] ((((hF.set 3 (.inr (.inr (0, [.int 1, .ref 62, .int 1])))).set 4 (.inl ((List.replicate 8 (0 : Int32)).set (Int32.toNatClampNeg x3) 1))).set 5 (.inl ((List.replicate 8 (0 : Int32)).set (Int32.toNatClampNeg x3) 1))) ++ [.inr (.inr (2, [.int x1, .int x2, .int x3, .int x4, .int x4, .int x6, .int x7, .int ((1 <<< (x4 &&& 31) : Int32) ||| (1 <<< (x4 &&& 31) : Int32)), .int (1 <<< (x6 &&& 31) : Int32), .int (-1)])), .inr (.inl [some 61, none, none, none, none, none, none, none, none, none])]) = some ((some (.int 1)), ((((hF.set 3 (.inr (.inr (0, [.int 1, .ref 62, .int 1])))).set 4 (.inl ((List.replicate 8 (0 : Int32)).set (Int32.toNatClampNeg x3) 1))).set 5 (.inl ((List.replicate 8 (0 : Int32)).set (Int32.toNatClampNeg x3) 1))) ++ [.inr (.inr (2, [.int x1, .int x2, .int x3, .int x4, .int x4, .int x6, .int x7, .int ((1 <<< (x4 &&& 31) : Int32) ||| (1 <<< (x4 &&& 31) : Int32)), .int (1 <<< (x6 &&& 31) : Int32), .int (-1)])), .inr (.inl [some 61, none, none, none, none, none, none, none, none, none])]), 0, 0) := by
        refine me (d := 7) g_Jx4a65c_size_8abf5 (Nat.le_of_ble_eq_true rfl) ?_
        refine rr rfl (s_aload_n rfl) ?_
        refine rr rfl (s_getf rfl rfl) ?_
        exact rrt rfl rfl rfl rfl
      refine rrc rfl rfl rfl (do_of g_Jx4a65c_size_8abf5 rfl rfl e16) ?_
      refine rr rfl (s_icF (by decide)) ?_
      refine rr rfl (s_aload_n rfl) ?_
      refine rr rfl (s_getf rfl rfl) ?_
      refine rr rfl (s_iload_n rfl) ?_
      have e17 : a_m MT [] 100000 8 miJx4a65c_get_915e3 [.ref 3, .int 0] ((((hF.set 3 (.inr (.inr (0, [.int 1, .ref 62, .int 1])))).set 4 (.inl ((List.replicate 8 (0 : Int32)).set (Int32.toNatClampNeg x3) 1))).set 5 (.inl ((List.replicate 8 (0 : Int32)).set (Int32.toNatClampNeg x3) 1))) ++ [.inr (.inr (2, [.int x1, .int x2, .int x3, .int x4, .int x4, .int x6, .int x7, .int ((1 <<< (x4 &&& 31) : Int32) ||| (1 <<< (x4 &&& 31) : Int32)), .int (1 <<< (x6 &&& 31) : Int32), .int (-1)])), .inr (.inl [some 61, none, none, none, none, none, none, none, none, none])]) = some ((some (.ref 61)), ((((hF.set 3 (.inr (.inr (0, [.int 1, .ref 62, .int 1])))).set 4 (.inl ((List.replicate 8 (0 : Int32)).set (Int32.toNatClampNeg x3) 1))).set 5 (.inl ((List.replicate 8 (0 : Int32)).set (Int32.toNatClampNeg x3) 1))) ++ [.inr (.inr (2, [.int x1, .int x2, .int x3, .int x4, .int x4, .int x6, .int x7, .int ((1 <<< (x4 &&& 31) : Int32) ||| (1 <<< (x4 &&& 31) : Int32)), .int (1 <<< (x6 &&& 31) : Int32), .int (-1)])), .inr (.inl [some 61, none, none, none, none, none, none, none, none, none])]), 0, 0) := by
        refine me (d := 7) g_Jx4a65c_get_915e3 (Nat.le_of_ble_eq_true rfl) ?_
        refine rr rfl (s_iload_n rfl) ?_
        refine rr rfl (s_aload_n rfl) ?_
        refine rr rfl (s_getf rfl rfl) ?_
        have e18 : a_m MT [] 100000 7 miJ15_checkIndex_7cf53 [.int 0, .int 1] ((((hF.set 3 (.inr (.inr (0, [.int 1, .ref 62, .int 1])))).set 4 (.inl ((List.replicate 8 (0 : Int32)).set (Int32.toNatClampNeg x3) 1))).set 5 (.inl ((List.replicate 8 (0 : Int32)).set (Int32.toNatClampNeg x3) 1))) ++ [.inr (.inr (2, [.int x1, .int x2, .int x3, .int x4, .int x4, .int x6, .int x7, .int ((1 <<< (x4 &&& 31) : Int32) ||| (1 <<< (x4 &&& 31) : Int32)), .int (1 <<< (x6 &&& 31) : Int32), .int (-1)])), .inr (.inl [some 61, none, none, none, none, none, none, none, none, none])]) = some ((some (.int 0)), ((((hF.set 3 (.inr (.inr (0, [.int 1, .ref 62, .int 1])))).set 4 (.inl ((List.replicate 8 (0 : Int32)).set (Int32.toNatClampNeg x3) 1))).set 5 (.inl ((List.replicate 8 (0 : Int32)).set (Int32.toNatClampNeg x3) 1))) ++ [.inr (.inr (2, [.int x1, .int x2, .int x3, .int x4, .int x4, .int x6, .int x7, .int ((1 <<< (x4 &&& 31) : Int32) ||| (1 <<< (x4 &&& 31) : Int32)), .int (1 <<< (x6 &&& 31) : Int32), .int (-1)])), .inr (.inl [some 61, none, none, none, none, none, none, none, none, none])]), 0, 0) := by
          refine me (d := 6) g_J15_checkIndex_7cf53 (Nat.le_of_ble_eq_true rfl) ?_
          refine rr rfl (s_iload_n rfl) ?_
          refine rr rfl (s_iload_n rfl) ?_
          refine rr rfl rfl ?_
          have e19 : a_m MT [] 100000 6 miJ3_checkIndex_8e157 [.int 0, .int 1, .null] ((((hF.set 3 (.inr (.inr (0, [.int 1, .ref 62, .int 1])))).set 4 (.inl ((List.replicate 8 (0 : Int32)).set (Int32.toNatClampNeg x3) 1))).set 5 (.inl ((List.replicate 8 (0 : Int32)).set (Int32.toNatClampNeg x3) 1))) ++ [.inr (.inr (2, [.int x1, .int x2, .int x3, .int x4, .int x4, .int x6, .int x7, .int ((1 <<< (x4 &&& 31) : Int32) ||| (1 <<< (x4 &&& 31) : Int32)), .int (1 <<< (x6 &&& 31) : Int32), .int (-1)])), .inr (.inl [some 61, none, none, none, none, none, none, none, none, none])]) = some ((some (.int 0)), ((((hF.set 3 (.inr (.inr (0, [.int 1, .ref 62, .int 1])))).set 4 (.inl ((List.replicate 8 (0 : Int32)).set (Int32.toNatClampNeg x3) 1))).set 5 (.inl ((List.replicate 8 (0 : Int32)).set (Int32.toNatClampNeg x3) 1))) ++ [.inr (.inr (2, [.int x1, .int x2, .int x3, .int x4, .int x4, .int x6, .int x7, .int ((1 <<< (x4 &&& 31) : Int32) ||| (1 <<< (x4 &&& 31) : Int32)), .int (1 <<< (x6 &&& 31) : Int32), .int (-1)])), .inr (.inl [some 61, none, none, none, none, none, none, none, none, none])]), 0, 0) := by
            refine me (d := 5) g_J3_checkIndex_8e157 (Nat.le_of_ble_eq_true rfl) ?_
            refine rr rfl (s_iload_n rfl) ?_
            refine rr rfl (s_ifF (by decide)) ?_
            refine rr rfl (s_iload_n rfl) ?_
            refine rr rfl (s_iload_n rfl) ?_
            refine rr rfl (s_icT (by decide)) ?_
            refine rr rfl (s_iload_n rfl) ?_
            exact rrt rfl rfl rfl rfl
          refine rrc rfl rfl rfl (do_of g_J3_checkIndex_8e157 rfl rfl e19) ?_
          exact rrt rfl rfl rfl rfl
        refine rrc rfl rfl rfl (do_of g_J15_checkIndex_7cf53 rfl rfl e18) ?_
        refine rr rfl rfl ?_
        refine rr rfl (s_aload_n rfl) ?_
        refine rr rfl (s_iload_n rfl) ?_
        have e20 : a_m MT [] 100000 7 miJx4a65c_elementData_915e3 [.ref 3, .int 0] ((((hF.set 3 (.inr (.inr (0, [.int 1, .ref 62, .int 1])))).set 4 (.inl ((List.replicate 8 (0 : Int32)).set (Int32.toNatClampNeg x3) 1))).set 5 (.inl ((List.replicate 8 (0 : Int32)).set (Int32.toNatClampNeg x3) 1))) ++ [.inr (.inr (2, [.int x1, .int x2, .int x3, .int x4, .int x4, .int x6, .int x7, .int ((1 <<< (x4 &&& 31) : Int32) ||| (1 <<< (x4 &&& 31) : Int32)), .int (1 <<< (x6 &&& 31) : Int32), .int (-1)])), .inr (.inl [some 61, none, none, none, none, none, none, none, none, none])]) = some ((some (.ref 61)), ((((hF.set 3 (.inr (.inr (0, [.int 1, .ref 62, .int 1])))).set 4 (.inl ((List.replicate 8 (0 : Int32)).set (Int32.toNatClampNeg x3) 1))).set 5 (.inl ((List.replicate 8 (0 : Int32)).set (Int32.toNatClampNeg x3) 1))) ++ [.inr (.inr (2, [.int x1, .int x2, .int x3, .int x4, .int x4, .int x6, .int x7, .int ((1 <<< (x4 &&& 31) : Int32) ||| (1 <<< (x4 &&& 31) : Int32)), .int (1 <<< (x6 &&& 31) : Int32), .int (-1)])), .inr (.inl [some 61, none, none, none, none, none, none, none, none, none])]), 0, 0) := by
          refine me (d := 6) g_Jx4a65c_elementData_915e3 (Nat.le_of_ble_eq_true rfl) ?_
          refine rr rfl (s_aload_n rfl) ?_
          refine rr rfl (s_getf rfl rfl) ?_
          refine rr rfl (s_iload_n rfl) ?_
          refine rr rfl (s_aaload (j := 0) (z := 61) rfl rfl rfl) ?_
          exact rrt rfl rfl rfl rfl
        refine rrc rfl rfl rfl (do_of g_Jx4a65c_elementData_915e3 rfl rfl e20) ?_
        exact rrt rfl rfl rfl rfl
      refine rrc rfl rfl rfl (do_of g_Jx4a65c_get_915e3 rfl rfl e17) ?_
      refine rr rfl rfl ?_
      have e21 : a_m MT [] 100000 8 miX2_isSpare [.ref 61] ((((hF.set 3 (.inr (.inr (0, [.int 1, .ref 62, .int 1])))).set 4 (.inl ((List.replicate 8 (0 : Int32)).set (Int32.toNatClampNeg x3) 1))).set 5 (.inl ((List.replicate 8 (0 : Int32)).set (Int32.toNatClampNeg x3) 1))) ++ [.inr (.inr (2, [.int x1, .int x2, .int x3, .int x4, .int x4, .int x6, .int x7, .int ((1 <<< (x4 &&& 31) : Int32) ||| (1 <<< (x4 &&& 31) : Int32)), .int (1 <<< (x6 &&& 31) : Int32), .int (-1)])), .inr (.inl [some 61, none, none, none, none, none, none, none, none, none])]) = some ((some (.int 0)), ((((hF.set 3 (.inr (.inr (0, [.int 1, .ref 62, .int 1])))).set 4 (.inl ((List.replicate 8 (0 : Int32)).set (Int32.toNatClampNeg x3) 1))).set 5 (.inl ((List.replicate 8 (0 : Int32)).set (Int32.toNatClampNeg x3) 1))) ++ [.inr (.inr (2, [.int x1, .int x2, .int x3, .int x4, .int x4, .int x6, .int x7, .int ((1 <<< (x4 &&& 31) : Int32) ||| (1 <<< (x4 &&& 31) : Int32)), .int (1 <<< (x6 &&& 31) : Int32), .int (-1)])), .inr (.inl [some 61, none, none, none, none, none, none, none, none, none])]), 0, 0) := by
        refine me (d := 7) g_X2_isSpare (Nat.le_of_ble_eq_true rfl) ?_
        refine rr rfl (s_aload_n rfl) ?_
        refine rr rfl (s_getf rfl rfl) ?_
        refine rr rfl (s_iconst (v := (-1)) (by decide)) ?_
        refine rr rfl (s_icT (by decide)) ?_
        refine rr rfl (s_iconst (v := 0) (by decide)) ?_
        exact rrt rfl rfl rfl rfl
      refine rrc rfl rfl rfl (do_of g_X2_isSpare rfl rfl e21) ?_
      refine rr rfl (s_ifF (by decide)) ?_
      refine rr rfl (s_iload_n rfl) ?_
      refine rr rfl (s_iconst (v := 1) (by decide)) ?_
      refine rr rfl (s_iload_n rfl) ?_
      refine rr rfl (s_ishl (v := 1) (by decide)) ?_
      refine rr rfl (s_ior (v := 1) (by decide)) ?_
      refine rr rfl (s_istore_n rfl) ?_
      refine rr rfl (s_iinc (v := 1) rfl (by decide) rfl) ?_
      refine rr rfl s_goto ?_
      refine rr rfl (s_iload_n rfl) ?_
      refine rr rfl (s_aload_n rfl) ?_
      refine rr rfl (s_getf rfl rfl) ?_
      have e22 : a_m MT [] 100000 8 miJx4a65c_size_8abf5 [.ref 3] ((((hF.set 3 (.inr (.inr (0, [.int 1, .ref 62, .int 1])))).set 4 (.inl ((List.replicate 8 (0 : Int32)).set (Int32.toNatClampNeg x3) 1))).set 5 (.inl ((List.replicate 8 (0 : Int32)).set (Int32.toNatClampNeg x3) 1))) ++ [.inr (.inr (2, [.int x1, .int x2, .int x3, .int x4, .int x4, .int x6, .int x7, .int ((1 <<< (x4 &&& 31) : Int32) ||| (1 <<< (x4 &&& 31) : Int32)), .int (1 <<< (x6 &&& 31) : Int32), .int (-1)])), .inr (.inl [some 61, none, none, none, none, none, none, none, none, none])]) = some ((some (.int 1)), ((((hF.set 3 (.inr (.inr (0, [.int 1, .ref 62, .int 1])))).set 4 (.inl ((List.replicate 8 (0 : Int32)).set (Int32.toNatClampNeg x3) 1))).set 5 (.inl ((List.replicate 8 (0 : Int32)).set (Int32.toNatClampNeg x3) 1))) ++ [.inr (.inr (2, [.int x1, .int x2, .int x3, .int x4, .int x4, .int x6, .int x7, .int ((1 <<< (x4 &&& 31) : Int32) ||| (1 <<< (x4 &&& 31) : Int32)), .int (1 <<< (x6 &&& 31) : Int32), .int (-1)])), .inr (.inl [some 61, none, none, none, none, none, none, none, none, none])]), 0, 0) := by
        refine me (d := 7) g_Jx4a65c_size_8abf5 (Nat.le_of_ble_eq_true rfl) ?_
        refine rr rfl (s_aload_n rfl) ?_
        refine rr rfl (s_getf rfl rfl) ?_
        exact rrt rfl rfl rfl rfl
      refine rrc rfl rfl rfl (do_of g_Jx4a65c_size_8abf5 rfl rfl e22) ?_
      refine rr rfl (s_icT (by decide)) ?_
      refine rr rfl (s_iload_n rfl) ?_
      exact rrt rfl rfl rfl rfl
    refine rrc rfl rfl rfl (do_of g_X3_notSpare rfl rfl e15) ?_
    have e23 : a_m MT [] 100000 9 miX6_countOnly [.ref 6, .int 1] ((((hF.set 3 (.inr (.inr (0, [.int 1, .ref 62, .int 1])))).set 4 (.inl ((List.replicate 8 (0 : Int32)).set (Int32.toNatClampNeg x3) 1))).set 5 (.inl ((List.replicate 8 (0 : Int32)).set (Int32.toNatClampNeg x3) 1))) ++ [.inr (.inr (2, [.int x1, .int x2, .int x3, .int x4, .int x4, .int x6, .int x7, .int ((1 <<< (x4 &&& 31) : Int32) ||| (1 <<< (x4 &&& 31) : Int32)), .int (1 <<< (x6 &&& 31) : Int32), .int (-1)])), .inr (.inl [some 61, none, none, none, none, none, none, none, none, none])]) = some (none, (((((hF.set 3 (.inr (.inr (0, [.int 1, .ref 62, .int 1])))).set 4 (.inl ((List.replicate 8 (0 : Int32)).set (Int32.toNatClampNeg x3) 1))).set 5 (.inl ((List.replicate 8 (0 : Int32)).set (Int32.toNatClampNeg x3) 1))).set 6 (.inr (.inr (6, [.ref 2, .ref 7, .ref 8, .ref 9, .int 1])))) ++ [.inr (.inr (2, [.int x1, .int x2, .int x3, .int x4, .int x4, .int x6, .int x7, .int ((1 <<< (x4 &&& 31) : Int32) ||| (1 <<< (x4 &&& 31) : Int32)), .int (1 <<< (x6 &&& 31) : Int32), .int (-1)])), .inr (.inl [some 61, none, none, none, none, none, none, none, none, none])]), 0, 0) := by
      refine me (d := 8) g_X6_countOnly (Nat.le_of_ble_eq_true rfl) ?_
      refine rr rfl (s_aload_n rfl) ?_
      refine rr rfl (s_iload_n rfl) ?_
      refine rr rfl (s_putf rfl rfl (Nat.le_of_ble_eq_true rfl) rfl (Nat.le_of_ble_eq_true rfl) rfl (h' := (((((hF.set 3 (.inr (.inr (0, [.int 1, .ref 62, .int 1])))).set 4 (.inl ((List.replicate 8 (0 : Int32)).set (Int32.toNatClampNeg x3) 1))).set 5 (.inl ((List.replicate 8 (0 : Int32)).set (Int32.toNatClampNeg x3) 1))).set 6 (.inr (.inr (6, [.ref 2, .ref 7, .ref 8, .ref 9, .int 1])))) ++ [.inr (.inr (2, [.int x1, .int x2, .int x3, .int x4, .int x4, .int x6, .int x7, .int ((1 <<< (x4 &&& 31) : Int32) ||| (1 <<< (x4 &&& 31) : Int32)), .int (1 <<< (x6 &&& 31) : Int32), .int (-1)])), .inr (.inl [some 61, none, none, none, none, none, none, none, none, none])]))) ?_
      refine rr rfl (s_aload_n rfl) ?_
      refine rr rfl (s_getf rfl rfl) ?_
      refine rr rfl (s_iconst (v := (-1)) (by decide)) ?_
      have e24 : a_m MT [] 100000 8 miJ7_fill_53178 [.ref 7, .int (-1)] (((((hF.set 3 (.inr (.inr (0, [.int 1, .ref 62, .int 1])))).set 4 (.inl ((List.replicate 8 (0 : Int32)).set (Int32.toNatClampNeg x3) 1))).set 5 (.inl ((List.replicate 8 (0 : Int32)).set (Int32.toNatClampNeg x3) 1))).set 6 (.inr (.inr (6, [.ref 2, .ref 7, .ref 8, .ref 9, .int 1])))) ++ [.inr (.inr (2, [.int x1, .int x2, .int x3, .int x4, .int x4, .int x6, .int x7, .int ((1 <<< (x4 &&& 31) : Int32) ||| (1 <<< (x4 &&& 31) : Int32)), .int (1 <<< (x6 &&& 31) : Int32), .int (-1)])), .inr (.inl [some 61, none, none, none, none, none, none, none, none, none])]) = some (none, (((((hF.set 3 (.inr (.inr (0, [.int 1, .ref 62, .int 1])))).set 4 (.inl ((List.replicate 8 (0 : Int32)).set (Int32.toNatClampNeg x3) 1))).set 5 (.inl ((List.replicate 8 (0 : Int32)).set (Int32.toNatClampNeg x3) 1))).set 6 (.inr (.inr (6, [.ref 2, .ref 7, .ref 8, .ref 9, .int 1])))) ++ [.inr (.inr (2, [.int x1, .int x2, .int x3, .int x4, .int x4, .int x6, .int x7, .int ((1 <<< (x4 &&& 31) : Int32) ||| (1 <<< (x4 &&& 31) : Int32)), .int (1 <<< (x6 &&& 31) : Int32), .int (-1)])), .inr (.inl [some 61, none, none, none, none, none, none, none, none, none])]), 0, 0) := fill_n rfl (Nat.le_of_ble_eq_true rfl) rfl
      refine rrc rfl rfl rfl (do_of g_J7_fill_53178 rfl rfl e24) ?_
      exact rrt rfl rfl rfl rfl
    refine rrc rfl rfl rfl (do_of g_X6_countOnly rfl rfl e23) ?_
    refine rr rfl (s_aload_n rfl) ?_
    have e25 : a_m MT [] 100000 9 miX8_forgetRuns [.ref 0] (((((hF.set 3 (.inr (.inr (0, [.int 1, .ref 62, .int 1])))).set 4 (.inl ((List.replicate 8 (0 : Int32)).set (Int32.toNatClampNeg x3) 1))).set 5 (.inl ((List.replicate 8 (0 : Int32)).set (Int32.toNatClampNeg x3) 1))).set 6 (.inr (.inr (6, [.ref 2, .ref 7, .ref 8, .ref 9, .int 1])))) ++ [.inr (.inr (2, [.int x1, .int x2, .int x3, .int x4, .int x4, .int x6, .int x7, .int ((1 <<< (x4 &&& 31) : Int32) ||| (1 <<< (x4 &&& 31) : Int32)), .int (1 <<< (x6 &&& 31) : Int32), .int (-1)])), .inr (.inl [some 61, none, none, none, none, none, none, none, none, none])]) = some (none, (((((hF.set 3 (.inr (.inr (0, [.int 1, .ref 62, .int 1])))).set 4 (.inl ((List.replicate 8 (0 : Int32)).set (Int32.toNatClampNeg x3) 1))).set 5 (.inl ((List.replicate 8 (0 : Int32)).set (Int32.toNatClampNeg x3) 1))).set 6 (.inr (.inr (6, [.ref 2, .ref 7, .ref 8, .ref 9, .int 1])))) ++ [.inr (.inr (2, [.int x1, .int x2, .int x3, .int x4, .int x4, .int x6, .int x7, .int ((1 <<< (x4 &&& 31) : Int32) ||| (1 <<< (x4 &&& 31) : Int32)), .int (1 <<< (x6 &&& 31) : Int32), .int (-1)])), .inr (.inl [some 61, none, none, none, none, none, none, none, none, none])]), 0, 0) := by
      refine me (d := 8) g_X8_forgetRuns (Nat.le_of_ble_eq_true rfl) ?_
      refine rr rfl (s_aload_n rfl) ?_
      refine rr rfl (s_iconst (v := 0) (by decide)) ?_
      refine rr rfl (s_putf rfl rfl (Nat.le_of_ble_eq_true rfl) rfl (Nat.le_of_ble_eq_true rfl) rfl (h' := (((((hF.set 3 (.inr (.inr (0, [.int 1, .ref 62, .int 1])))).set 4 (.inl ((List.replicate 8 (0 : Int32)).set (Int32.toNatClampNeg x3) 1))).set 5 (.inl ((List.replicate 8 (0 : Int32)).set (Int32.toNatClampNeg x3) 1))).set 6 (.inr (.inr (6, [.ref 2, .ref 7, .ref 8, .ref 9, .int 1])))) ++ [.inr (.inr (2, [.int x1, .int x2, .int x3, .int x4, .int x4, .int x6, .int x7, .int ((1 <<< (x4 &&& 31) : Int32) ||| (1 <<< (x4 &&& 31) : Int32)), .int (1 <<< (x6 &&& 31) : Int32), .int (-1)])), .inr (.inl [some 61, none, none, none, none, none, none, none, none, none])]))) ?_
      refine rr rfl (s_aload_n rfl) ?_
      refine rr rfl (s_getf rfl rfl) ?_
      refine rr rfl (s_iconst (v := 0) (by decide)) ?_
      refine rr rfl (s_putf rfl rfl (Nat.le_of_ble_eq_true rfl) rfl (Nat.le_of_ble_eq_true rfl) rfl (h' := (((((hF.set 3 (.inr (.inr (0, [.int 1, .ref 62, .int 1])))).set 4 (.inl ((List.replicate 8 (0 : Int32)).set (Int32.toNatClampNeg x3) 1))).set 5 (.inl ((List.replicate 8 (0 : Int32)).set (Int32.toNatClampNeg x3) 1))).set 6 (.inr (.inr (6, [.ref 2, .ref 7, .ref 8, .ref 9, .int 1])))) ++ [.inr (.inr (2, [.int x1, .int x2, .int x3, .int x4, .int x4, .int x6, .int x7, .int ((1 <<< (x4 &&& 31) : Int32) ||| (1 <<< (x4 &&& 31) : Int32)), .int (1 <<< (x6 &&& 31) : Int32), .int (-1)])), .inr (.inl [some 61, none, none, none, none, none, none, none, none, none])]))) ?_
      exact rrt rfl rfl rfl rfl
    refine rrc rfl rfl rfl (do_of g_X8_forgetRuns rfl rfl e25) ?_
    exact rrt rfl rfl rfl rfl
  refine rrc rfl rfl rfl (do_of g_X8_forgetRules rfl rfl e14) ?_
  refine rr rfl (s_aload_n rfl) ?_
  refine rr rfl (s_getf rfl rfl) ?_
  refine rr rfl (s_getf rfl rfl) ?_
  refine rr rfl (s_getf rfl rfl) ?_
  have e26 : a_m MT [] 100000 10 miJx4a65c_size_8abf5 [.ref 3] (((((hF.set 3 (.inr (.inr (0, [.int 1, .ref 62, .int 1])))).set 4 (.inl ((List.replicate 8 (0 : Int32)).set (Int32.toNatClampNeg x3) 1))).set 5 (.inl ((List.replicate 8 (0 : Int32)).set (Int32.toNatClampNeg x3) 1))).set 6 (.inr (.inr (6, [.ref 2, .ref 7, .ref 8, .ref 9, .int 1])))) ++ [.inr (.inr (2, [.int x1, .int x2, .int x3, .int x4, .int x4, .int x6, .int x7, .int ((1 <<< (x4 &&& 31) : Int32) ||| (1 <<< (x4 &&& 31) : Int32)), .int (1 <<< (x6 &&& 31) : Int32), .int (-1)])), .inr (.inl [some 61, none, none, none, none, none, none, none, none, none])]) = some ((some (.int 1)), (((((hF.set 3 (.inr (.inr (0, [.int 1, .ref 62, .int 1])))).set 4 (.inl ((List.replicate 8 (0 : Int32)).set (Int32.toNatClampNeg x3) 1))).set 5 (.inl ((List.replicate 8 (0 : Int32)).set (Int32.toNatClampNeg x3) 1))).set 6 (.inr (.inr (6, [.ref 2, .ref 7, .ref 8, .ref 9, .int 1])))) ++ [.inr (.inr (2, [.int x1, .int x2, .int x3, .int x4, .int x4, .int x6, .int x7, .int ((1 <<< (x4 &&& 31) : Int32) ||| (1 <<< (x4 &&& 31) : Int32)), .int (1 <<< (x6 &&& 31) : Int32), .int (-1)])), .inr (.inl [some 61, none, none, none, none, none, none, none, none, none])]), 0, 0) := by
    refine me (d := 9) g_Jx4a65c_size_8abf5 (Nat.le_of_ble_eq_true rfl) ?_
    refine rr rfl (s_aload_n rfl) ?_
    refine rr rfl (s_getf rfl rfl) ?_
    exact rrt rfl rfl rfl rfl
  refine rrc rfl rfl rfl (do_of g_Jx4a65c_size_8abf5 rfl rfl e26) ?_
  refine rr rfl (s_iconst (v := 1) (by decide)) ?_
  refine rr rfl (s_isub (v := 0) (by decide)) ?_
  exact rrt rfl rfl rfl rfl
set_option maxHeartbeats 4000000 in
set_option maxRecDepth 10000 in
theorem rx_Nooo {x1 x2 x3 x4 x5 x6 x7 : Int32} (g1 : ¬ x5 = (-1)) (g2 : ¬ x6 = (-1)) (g3 : x2 = 0) (g4 : ¬ x4 < 0) (g5 : x4 < nI 8) (g6 : ¬ x5 < 0) (g7 : x5 < nI 8) (g8 : ¬ x6 < 0) (g9 : x6 < nI 8) (g10 : ¬ x3 < 0) (g11 : x3 < nI 8) (g12 : ¬ x4 = x3) (g13 : ¬ x5 = x3) (g14 : ¬ x6 = x3) : a_run MT [] (a_m MT [] 100000 10) 11 (some .int) tabX8_rule 90000 140 (alR x1 x2 x3 x4 x5 x6 x7) [] hF 0 0 = some (some (.int 0), (((((hF.set 3 (.inr (.inr (0, [.int 1, .ref 62, .int 1])))).set 4 (.inl ((List.replicate 8 (0 : Int32)).set (Int32.toNatClampNeg x3) 1))).set 5 (.inl ((List.replicate 8 (0 : Int32)).set (Int32.toNatClampNeg x3) 1))).set 6 (.inr (.inr (6, [.ref 2, .ref 7, .ref 8, .ref 9, .int 1])))) ++ [.inr (.inr (2, [.int x1, .int x2, .int x3, .int x4, .int x5, .int x6, .int x7, .int ((1 <<< (x4 &&& 31) : Int32) ||| (1 <<< (x5 &&& 31) : Int32)), .int (1 <<< (x6 &&& 31) : Int32), .int (-1)])), .inr (.inl [some 61, none, none, none, none, none, none, none, none, none])]), 2, 20) := by
  refine rr rfl (s_new (q := 61) rfl rfl (h' := (hF ++ [.inr (.inr (2, [.int 0, .int 0, .int 0, .int 0, .int 0, .int 0, .int 0, .int 0, .int 0, .int 0]))]))) ?_
  refine rr rfl rfl ?_
  refine rr rfl (s_iload_n rfl) ?_
  refine rr rfl (s_iload_n rfl) ?_
  refine rr rfl (s_iload_n rfl) ?_
  refine rr rfl (s_iload rfl) ?_
  refine rr rfl (s_iload rfl) ?_
  refine rr rfl (s_iload rfl) ?_
  refine rr rfl (s_iload rfl) ?_
  have e1 : a_m MT [] 100000 10 miX2_init [.ref 61, .int x1, .int x2, .int x3, .int x4, .int x5, .int x6, .int x7] (hF ++ [.inr (.inr (2, [.int 0, .int 0, .int 0, .int 0, .int 0, .int 0, .int 0, .int 0, .int 0, .int 0]))]) = some (none, (hF ++ [.inr (.inr (2, [.int x1, .int x2, .int x3, .int x4, .int x5, .int x6, .int x7, .int ((1 <<< (x4 &&& 31) : Int32) ||| (1 <<< (x5 &&& 31) : Int32)), .int (1 <<< (x6 &&& 31) : Int32), .int (-1)]))]), 0, 0) := by
    refine me (d := 9) g_X2_init (Nat.le_of_ble_eq_true rfl) ?_
    refine rr rfl (s_aload_n rfl) ?_
    refine rr rfl rfl ?_
    refine rr rfl (s_aload_n rfl) ?_
    refine rr rfl (s_iconst (v := (-1)) (by decide)) ?_
    refine rr rfl (s_putf rfl rfl (Nat.le_of_ble_eq_true rfl) rfl (Nat.le_of_ble_eq_true rfl) rfl (h' := (hF ++ [.inr (.inr (2, [.int 0, .int 0, .int 0, .int 0, .int 0, .int 0, .int 0, .int 0, .int 0, .int (-1)]))]))) ?_
    refine rr rfl (s_aload_n rfl) ?_
    refine rr rfl (s_iload_n rfl) ?_
    refine rr rfl (s_putf rfl rfl (Nat.le_of_ble_eq_true rfl) rfl (Nat.le_of_ble_eq_true rfl) rfl (h' := (hF ++ [.inr (.inr (2, [.int x1, .int 0, .int 0, .int 0, .int 0, .int 0, .int 0, .int 0, .int 0, .int (-1)]))]))) ?_
    refine rr rfl (s_aload_n rfl) ?_
    refine rr rfl (s_iload_n rfl) ?_
    refine rr rfl (s_putf rfl rfl (Nat.le_of_ble_eq_true rfl) rfl (Nat.le_of_ble_eq_true rfl) rfl (h' := (hF ++ [.inr (.inr (2, [.int x1, .int x2, .int 0, .int 0, .int 0, .int 0, .int 0, .int 0, .int 0, .int (-1)]))]))) ?_
    refine rr rfl (s_aload_n rfl) ?_
    refine rr rfl (s_iload_n rfl) ?_
    refine rr rfl (s_putf rfl rfl (Nat.le_of_ble_eq_true rfl) rfl (Nat.le_of_ble_eq_true rfl) rfl (h' := (hF ++ [.inr (.inr (2, [.int x1, .int x2, .int x3, .int 0, .int 0, .int 0, .int 0, .int 0, .int 0, .int (-1)]))]))) ?_
    refine rr rfl (s_aload_n rfl) ?_
    refine rr rfl (s_iload rfl) ?_
    refine rr rfl (s_putf rfl rfl (Nat.le_of_ble_eq_true rfl) rfl (Nat.le_of_ble_eq_true rfl) rfl (h' := (hF ++ [.inr (.inr (2, [.int x1, .int x2, .int x3, .int x4, .int 0, .int 0, .int 0, .int 0, .int 0, .int (-1)]))]))) ?_
    refine rr rfl (s_aload_n rfl) ?_
    refine rr rfl (s_iload rfl) ?_
    refine rr rfl (s_iconst (v := (-1)) (by decide)) ?_
    refine rr rfl (s_icT (ic_ne g1)) ?_
    refine rr rfl (s_iload rfl) ?_
    refine rr rfl (s_putf rfl rfl (Nat.le_of_ble_eq_true rfl) rfl (Nat.le_of_ble_eq_true rfl) rfl (h' := (hF ++ [.inr (.inr (2, [.int x1, .int x2, .int x3, .int x4, .int x5, .int 0, .int 0, .int 0, .int 0, .int (-1)]))]))) ?_
    refine rr rfl (s_aload_n rfl) ?_
    refine rr rfl (s_iload rfl) ?_
    refine rr rfl (s_putf rfl rfl (Nat.le_of_ble_eq_true rfl) rfl (Nat.le_of_ble_eq_true rfl) rfl (h' := (hF ++ [.inr (.inr (2, [.int x1, .int x2, .int x3, .int x4, .int x5, .int x6, .int 0, .int 0, .int 0, .int (-1)]))]))) ?_
    refine rr rfl (s_aload_n rfl) ?_
    refine rr rfl (s_iload rfl) ?_
    refine rr rfl (s_putf rfl rfl (Nat.le_of_ble_eq_true rfl) rfl (Nat.le_of_ble_eq_true rfl) rfl (h' := (hF ++ [.inr (.inr (2, [.int x1, .int x2, .int x3, .int x4, .int x5, .int x6, .int x7, .int 0, .int 0, .int (-1)]))]))) ?_
    refine rr rfl (s_aload_n rfl) ?_
    refine rr rfl (s_iconst (v := 1) (by decide)) ?_
    refine rr rfl (s_aload_n rfl) ?_
    refine rr rfl (s_getf rfl rfl) ?_
    refine rr rfl (s_ishl (v := (1 <<< (x4 &&& 31) : Int32)) rfl) ?_
    refine rr rfl (s_iconst (v := 1) (by decide)) ?_
    refine rr rfl (s_aload_n rfl) ?_
    refine rr rfl (s_getf rfl rfl) ?_
    refine rr rfl (s_ishl (v := (1 <<< (x5 &&& 31) : Int32)) rfl) ?_
    refine rr rfl (s_ior (v := ((1 <<< (x4 &&& 31) : Int32) ||| (1 <<< (x5 &&& 31) : Int32))) rfl) ?_
    refine rr rfl (s_putf rfl rfl (Nat.le_of_ble_eq_true rfl) rfl (Nat.le_of_ble_eq_true rfl) rfl (h' := (hF ++ [.inr (.inr (2, [.int x1, .int x2, .int x3, .int x4, .int x5, .int x6, .int x7, .int ((1 <<< (x4 &&& 31) : Int32) ||| (1 <<< (x5 &&& 31) : Int32)), .int 0, .int (-1)]))]))) ?_
    refine rr rfl (s_aload_n rfl) ?_
    refine rr rfl (s_iload rfl) ?_
    refine rr rfl (s_iconst (v := (-1)) (by decide)) ?_
    refine rr rfl (s_icT (ic_ne g2)) ?_
    refine rr rfl (s_iconst (v := 1) (by decide)) ?_
    refine rr rfl (s_iload rfl) ?_
    refine rr rfl (s_ishl (v := (1 <<< (x6 &&& 31) : Int32)) rfl) ?_
    refine rr rfl (s_putf rfl rfl (Nat.le_of_ble_eq_true rfl) rfl (Nat.le_of_ble_eq_true rfl) rfl (h' := (hF ++ [.inr (.inr (2, [.int x1, .int x2, .int x3, .int x4, .int x5, .int x6, .int x7, .int ((1 <<< (x4 &&& 31) : Int32) ||| (1 <<< (x5 &&& 31) : Int32)), .int (1 <<< (x6 &&& 31) : Int32), .int (-1)]))]))) ?_
    exact rrt rfl rfl rfl rfl
  refine rrc rfl rfl rfl (do_of g_X2_init rfl rfl e1) ?_
  refine rr rfl (s_astore rfl) ?_
  refine rr rfl (s_aload_n rfl) ?_
  refine rr rfl (s_getf rfl rfl) ?_
  refine rr rfl (s_getf rfl rfl) ?_
  refine rr rfl (s_aload rfl) ?_
  have e2 : a_m MT [] 100000 10 miX3_hasLayersWith [.ref 2, .ref 61] (hF ++ [.inr (.inr (2, [.int x1, .int x2, .int x3, .int x4, .int x5, .int x6, .int x7, .int ((1 <<< (x4 &&& 31) : Int32) ||| (1 <<< (x5 &&& 31) : Int32)), .int (1 <<< (x6 &&& 31) : Int32), .int (-1)]))]) = some ((some (.int 1)), ((hF.set 5 (.inl ((List.replicate 8 (0 : Int32)).set (Int32.toNatClampNeg x3) 1))) ++ [.inr (.inr (2, [.int x1, .int x2, .int x3, .int x4, .int x5, .int x6, .int x7, .int ((1 <<< (x4 &&& 31) : Int32) ||| (1 <<< (x5 &&& 31) : Int32)), .int (1 <<< (x6 &&& 31) : Int32), .int (-1)]))]), 0, 0) := by
    refine me (d := 9) g_X3_hasLayersWith (Nat.le_of_ble_eq_true rfl) ?_
    refine rr rfl (s_aload_n rfl) ?_
    refine rr rfl (s_getf rfl rfl) ?_
    refine rr rfl (s_iconst (v := 0) (by decide)) ?_
    have e3 : a_m MT [] 100000 9 miJ7_fill_53178 [.ref 5, .int 0] (hF ++ [.inr (.inr (2, [.int x1, .int x2, .int x3, .int x4, .int x5, .int x6, .int x7, .int ((1 <<< (x4 &&& 31) : Int32) ||| (1 <<< (x5 &&& 31) : Int32)), .int (1 <<< (x6 &&& 31) : Int32), .int (-1)]))]) = some (none, (hF ++ [.inr (.inr (2, [.int x1, .int x2, .int x3, .int x4, .int x5, .int x6, .int x7, .int ((1 <<< (x4 &&& 31) : Int32) ||| (1 <<< (x5 &&& 31) : Int32)), .int (1 <<< (x6 &&& 31) : Int32), .int (-1)]))]), 0, 0) := fill_n rfl (Nat.le_of_ble_eq_true rfl) rfl
    refine rrc rfl rfl rfl (do_of g_J7_fill_53178 rfl rfl e3) ?_
    refine rr rfl (s_iconst (v := 1) (by decide)) ?_
    refine rr rfl (s_istore_n rfl) ?_
    refine rr rfl (s_iconst (v := 0) (by decide)) ?_
    refine rr rfl (s_istore_n rfl) ?_
    refine rr rfl (s_iload_n rfl) ?_
    refine rr rfl (s_ifF (by decide)) ?_
    refine rr rfl (s_iload_n rfl) ?_
    refine rr rfl (s_bipush (v := 8) (by decide)) ?_
    refine rr rfl (s_icF (by decide)) ?_
    refine rr rfl (s_aload_n rfl) ?_
    refine rr rfl (s_aload_n rfl) ?_
    have e4 : a_m MT [] 100000 9 miX3_lift [.ref 2, .ref 61] (hF ++ [.inr (.inr (2, [.int x1, .int x2, .int x3, .int x4, .int x5, .int x6, .int x7, .int ((1 <<< (x4 &&& 31) : Int32) ||| (1 <<< (x5 &&& 31) : Int32)), .int (1 <<< (x6 &&& 31) : Int32), .int (-1)]))]) = some ((some (.int 1)), ((hF.set 5 (.inl ((List.replicate 8 (0 : Int32)).set (Int32.toNatClampNeg x3) 1))) ++ [.inr (.inr (2, [.int x1, .int x2, .int x3, .int x4, .int x5, .int x6, .int x7, .int ((1 <<< (x4 &&& 31) : Int32) ||| (1 <<< (x5 &&& 31) : Int32)), .int (1 <<< (x6 &&& 31) : Int32), .int (-1)]))]), 0, 0) := by
      refine me (d := 8) g_X3_lift (Nat.le_of_ble_eq_true rfl) ?_
      refine rr rfl (s_aload_n rfl) ?_
      refine rr rfl (s_getf rfl rfl) ?_
      refine rr rfl (s_ifT (ic_eq g3)) ?_
      refine rr rfl (s_aload_n rfl) ?_
      refine rr rfl (s_getf rfl rfl) ?_
      refine rr rfl (s_aload_n rfl) ?_
      refine rr rfl (s_getf rfl rfl) ?_
      refine rr rfl (s_ialdR (n := 8) (x := 0) rfl g4 g5) ?_
      refine rr rfl (s_aload_n rfl) ?_
      refine rr rfl (s_getf rfl rfl) ?_
      refine rr rfl (s_aload_n rfl) ?_
      refine rr rfl (s_getf rfl rfl) ?_
      refine rr rfl (s_ialdR (n := 8) (x := 0) rfl g6 g7) ?_
      refine rr rfl (s_max (v := 0) rfl (Nat.le_of_ble_eq_true rfl) (by decide)) ?_
      refine rr rfl (s_istore_n rfl) ?_
      refine rr rfl (s_aload_n rfl) ?_
      refine rr rfl (s_getf rfl rfl) ?_
      refine rr rfl (s_iconst (v := (-1)) (by decide)) ?_
      refine rr rfl (s_icF (ic_neq g2)) ?_
      refine rr rfl (s_iload_n rfl) ?_
      refine rr rfl (s_aload_n rfl) ?_
      refine rr rfl (s_getf rfl rfl) ?_
      refine rr rfl (s_aload_n rfl) ?_
      refine rr rfl (s_getf rfl rfl) ?_
      refine rr rfl (s_ialdR (n := 8) (x := 0) rfl g8 g9) ?_
      refine rr rfl (s_iconst (v := 1) (by decide)) ?_
      refine rr rfl (s_iadd (v := 1) (by decide)) ?_
      refine rr rfl (s_max (v := 1) rfl (Nat.le_of_ble_eq_true rfl) (by decide)) ?_
      refine rr rfl (s_istore_n rfl) ?_
      refine rr rfl (s_aload_n rfl) ?_
      refine rr rfl (s_getf rfl rfl) ?_
      refine rr rfl (s_aload_n rfl) ?_
      refine rr rfl (s_getf rfl rfl) ?_
      refine rr rfl (s_ialdR (n := 8) (x := 0) rfl g10 g11) ?_
      refine rr rfl (s_iload_n rfl) ?_
      refine rr rfl (s_icT (by decide)) ?_
      refine rr rfl (s_aload_n rfl) ?_
      refine rr rfl (s_getf rfl rfl) ?_
      refine rr rfl (s_aload_n rfl) ?_
      refine rr rfl (s_getf rfl rfl) ?_
      refine rr rfl (s_iload_n rfl) ?_
      refine rr rfl (s_iastR (n := 8) rfl g10 g11 (Nat.le_of_ble_eq_true rfl) rfl (h' := ((hF.set 5 (.inl ((List.replicate 8 (0 : Int32)).set (Int32.toNatClampNeg x3) 1))) ++ [.inr (.inr (2, [.int x1, .int x2, .int x3, .int x4, .int x5, .int x6, .int x7, .int ((1 <<< (x4 &&& 31) : Int32) ||| (1 <<< (x5 &&& 31) : Int32)), .int (1 <<< (x6 &&& 31) : Int32), .int (-1)]))]))) ?_
      refine rr rfl (s_iconst (v := 1) (by decide)) ?_
      exact rrt rfl rfl rfl rfl
    refine rrc rfl rfl rfl (do_of g_X3_lift rfl rfl e4) ?_
    refine rr rfl (s_istore_n rfl) ?_
    refine rr rfl (s_iconst (v := 0) (by decide)) ?_
    refine rr rfl (s_istore rfl) ?_
    refine rr rfl (s_iload rfl) ?_
    refine rr rfl (s_aload_n rfl) ?_
    refine rr rfl (s_getf rfl rfl) ?_
    have e5 : a_m MT [] 100000 9 miJx4a65c_size_8abf5 [.ref 3] ((hF.set 5 (.inl ((List.replicate 8 (0 : Int32)).set (Int32.toNatClampNeg x3) 1))) ++ [.inr (.inr (2, [.int x1, .int x2, .int x3, .int x4, .int x5, .int x6, .int x7, .int ((1 <<< (x4 &&& 31) : Int32) ||| (1 <<< (x5 &&& 31) : Int32)), .int (1 <<< (x6 &&& 31) : Int32), .int (-1)]))]) = some ((some (.int 0)), ((hF.set 5 (.inl ((List.replicate 8 (0 : Int32)).set (Int32.toNatClampNeg x3) 1))) ++ [.inr (.inr (2, [.int x1, .int x2, .int x3, .int x4, .int x5, .int x6, .int x7, .int ((1 <<< (x4 &&& 31) : Int32) ||| (1 <<< (x5 &&& 31) : Int32)), .int (1 <<< (x6 &&& 31) : Int32), .int (-1)]))]), 0, 0) := by
      refine me (d := 8) g_Jx4a65c_size_8abf5 (Nat.le_of_ble_eq_true rfl) ?_
      refine rr rfl (s_aload_n rfl) ?_
      refine rr rfl (s_getf rfl rfl) ?_
      exact rrt rfl rfl rfl rfl
    refine rrc rfl rfl rfl (do_of g_Jx4a65c_size_8abf5 rfl rfl e5) ?_
    refine rr rfl (s_icT (by decide)) ?_
    refine rr rfl (s_iinc (v := 1) rfl (by decide) rfl) ?_
    refine rr rfl s_goto ?_
    refine rr rfl (s_iload_n rfl) ?_
    refine rr rfl (s_ifF (by decide)) ?_
    refine rr rfl (s_iload_n rfl) ?_
    refine rr rfl (s_bipush (v := 8) (by decide)) ?_
    refine rr rfl (s_icF (by decide)) ?_
    refine rr rfl (s_aload_n rfl) ?_
    refine rr rfl (s_aload_n rfl) ?_
    have e6 : a_m MT [] 100000 9 miX3_lift [.ref 2, .ref 61] ((hF.set 5 (.inl ((List.replicate 8 (0 : Int32)).set (Int32.toNatClampNeg x3) 1))) ++ [.inr (.inr (2, [.int x1, .int x2, .int x3, .int x4, .int x5, .int x6, .int x7, .int ((1 <<< (x4 &&& 31) : Int32) ||| (1 <<< (x5 &&& 31) : Int32)), .int (1 <<< (x6 &&& 31) : Int32), .int (-1)]))]) = some ((some (.int 0)), ((hF.set 5 (.inl ((List.replicate 8 (0 : Int32)).set (Int32.toNatClampNeg x3) 1))) ++ [.inr (.inr (2, [.int x1, .int x2, .int x3, .int x4, .int x5, .int x6, .int x7, .int ((1 <<< (x4 &&& 31) : Int32) ||| (1 <<< (x5 &&& 31) : Int32)), .int (1 <<< (x6 &&& 31) : Int32), .int (-1)]))]), 0, 0) := by
      refine me (d := 8) g_X3_lift (Nat.le_of_ble_eq_true rfl) ?_
      refine rr rfl (s_aload_n rfl) ?_
      refine rr rfl (s_getf rfl rfl) ?_
      refine rr rfl (s_ifT (ic_eq g3)) ?_
      refine rr rfl (s_aload_n rfl) ?_
      refine rr rfl (s_getf rfl rfl) ?_
      refine rr rfl (s_aload_n rfl) ?_
      refine rr rfl (s_getf rfl rfl) ?_
      refine rr rfl (s_ialdN rfl g12 g4 g5 g10) ?_
      refine rr rfl (s_aload_n rfl) ?_
      refine rr rfl (s_getf rfl rfl) ?_
      refine rr rfl (s_aload_n rfl) ?_
      refine rr rfl (s_getf rfl rfl) ?_
      refine rr rfl (s_ialdN rfl g13 g6 g7 g10) ?_
      refine rr rfl (s_max (v := 0) rfl (Nat.le_of_ble_eq_true rfl) (by decide)) ?_
      refine rr rfl (s_istore_n rfl) ?_
      refine rr rfl (s_aload_n rfl) ?_
      refine rr rfl (s_getf rfl rfl) ?_
      refine rr rfl (s_iconst (v := (-1)) (by decide)) ?_
      refine rr rfl (s_icF (ic_neq g2)) ?_
      refine rr rfl (s_iload_n rfl) ?_
      refine rr rfl (s_aload_n rfl) ?_
      refine rr rfl (s_getf rfl rfl) ?_
      refine rr rfl (s_aload_n rfl) ?_
      refine rr rfl (s_getf rfl rfl) ?_
      refine rr rfl (s_ialdN rfl g14 g8 g9 g10) ?_
      refine rr rfl (s_iconst (v := 1) (by decide)) ?_
      refine rr rfl (s_iadd (v := 1) (by decide)) ?_
      refine rr rfl (s_max (v := 1) rfl (Nat.le_of_ble_eq_true rfl) (by decide)) ?_
      refine rr rfl (s_istore_n rfl) ?_
      refine rr rfl (s_aload_n rfl) ?_
      refine rr rfl (s_getf rfl rfl) ?_
      refine rr rfl (s_aload_n rfl) ?_
      refine rr rfl (s_getf rfl rfl) ?_
      refine rr rfl (s_ialdH rfl rfl g10 g11) ?_
      refine rr rfl (s_iload_n rfl) ?_
      refine rr rfl (s_icF (by decide)) ?_
      refine rr rfl (s_iconst (v := 0) (by decide)) ?_
      exact rrt rfl rfl rfl rfl
    refine rrc rfl rfl rfl (do_of g_X3_lift rfl rfl e6) ?_
    refine rr rfl (s_istore_n rfl) ?_
    refine rr rfl (s_iconst (v := 0) (by decide)) ?_
    refine rr rfl (s_istore rfl) ?_
    refine rr rfl (s_iload rfl) ?_
    refine rr rfl (s_aload_n rfl) ?_
    refine rr rfl (s_getf rfl rfl) ?_
    have e7 : a_m MT [] 100000 9 miJx4a65c_size_8abf5 [.ref 3] ((hF.set 5 (.inl ((List.replicate 8 (0 : Int32)).set (Int32.toNatClampNeg x3) 1))) ++ [.inr (.inr (2, [.int x1, .int x2, .int x3, .int x4, .int x5, .int x6, .int x7, .int ((1 <<< (x4 &&& 31) : Int32) ||| (1 <<< (x5 &&& 31) : Int32)), .int (1 <<< (x6 &&& 31) : Int32), .int (-1)]))]) = some ((some (.int 0)), ((hF.set 5 (.inl ((List.replicate 8 (0 : Int32)).set (Int32.toNatClampNeg x3) 1))) ++ [.inr (.inr (2, [.int x1, .int x2, .int x3, .int x4, .int x5, .int x6, .int x7, .int ((1 <<< (x4 &&& 31) : Int32) ||| (1 <<< (x5 &&& 31) : Int32)), .int (1 <<< (x6 &&& 31) : Int32), .int (-1)]))]), 0, 0) := by
      refine me (d := 8) g_Jx4a65c_size_8abf5 (Nat.le_of_ble_eq_true rfl) ?_
      refine rr rfl (s_aload_n rfl) ?_
      refine rr rfl (s_getf rfl rfl) ?_
      exact rrt rfl rfl rfl rfl
    refine rrc rfl rfl rfl (do_of g_Jx4a65c_size_8abf5 rfl rfl e7) ?_
    refine rr rfl (s_icT (by decide)) ?_
    refine rr rfl (s_iinc (v := 2) rfl (by decide) rfl) ?_
    refine rr rfl s_goto ?_
    refine rr rfl (s_iload_n rfl) ?_
    refine rr rfl (s_ifT (by decide)) ?_
    refine rr rfl (s_iload_n rfl) ?_
    refine rr rfl (s_ifF (by decide)) ?_
    refine rr rfl (s_iconst (v := 1) (by decide)) ?_
    refine rr rfl s_goto ?_
    exact rrt rfl rfl rfl rfl
  refine rrc rfl rfl rfl (do_of g_X3_hasLayersWith rfl rfl e2) ?_
  refine rr rfl (s_ifT (by decide)) ?_
  refine rr rfl (s_aload_n rfl) ?_
  refine rr rfl (s_getf rfl rfl) ?_
  refine rr rfl (s_getf rfl rfl) ?_
  refine rr rfl (s_getf rfl rfl) ?_
  have e8 : a_m MT [] 100000 10 miJx4a65c_size_8abf5 [.ref 3] ((hF.set 5 (.inl ((List.replicate 8 (0 : Int32)).set (Int32.toNatClampNeg x3) 1))) ++ [.inr (.inr (2, [.int x1, .int x2, .int x3, .int x4, .int x5, .int x6, .int x7, .int ((1 <<< (x4 &&& 31) : Int32) ||| (1 <<< (x5 &&& 31) : Int32)), .int (1 <<< (x6 &&& 31) : Int32), .int (-1)]))]) = some ((some (.int 0)), ((hF.set 5 (.inl ((List.replicate 8 (0 : Int32)).set (Int32.toNatClampNeg x3) 1))) ++ [.inr (.inr (2, [.int x1, .int x2, .int x3, .int x4, .int x5, .int x6, .int x7, .int ((1 <<< (x4 &&& 31) : Int32) ||| (1 <<< (x5 &&& 31) : Int32)), .int (1 <<< (x6 &&& 31) : Int32), .int (-1)]))]), 0, 0) := by
    refine me (d := 9) g_Jx4a65c_size_8abf5 (Nat.le_of_ble_eq_true rfl) ?_
    refine rr rfl (s_aload_n rfl) ?_
    refine rr rfl (s_getf rfl rfl) ?_
    exact rrt rfl rfl rfl rfl
  refine rrc rfl rfl rfl (do_of g_Jx4a65c_size_8abf5 rfl rfl e8) ?_
  refine rr rfl (s_bipush (v := 12) (by decide)) ?_
  refine rr rfl (s_icT (by decide)) ?_
  refine rr rfl (s_aload_n rfl) ?_
  refine rr rfl (s_getf rfl rfl) ?_
  refine rr rfl (s_getf rfl rfl) ?_
  refine rr rfl (s_aload rfl) ?_
  have e9 : a_m MT [] 100000 10 miX3_take [.ref 2, .ref 61] ((hF.set 5 (.inl ((List.replicate 8 (0 : Int32)).set (Int32.toNatClampNeg x3) 1))) ++ [.inr (.inr (2, [.int x1, .int x2, .int x3, .int x4, .int x5, .int x6, .int x7, .int ((1 <<< (x4 &&& 31) : Int32) ||| (1 <<< (x5 &&& 31) : Int32)), .int (1 <<< (x6 &&& 31) : Int32), .int (-1)]))]) = some (none, ((((hF.set 3 (.inr (.inr (0, [.int 1, .ref 62, .int 1])))).set 4 (.inl ((List.replicate 8 (0 : Int32)).set (Int32.toNatClampNeg x3) 1))).set 5 (.inl ((List.replicate 8 (0 : Int32)).set (Int32.toNatClampNeg x3) 1))) ++ [.inr (.inr (2, [.int x1, .int x2, .int x3, .int x4, .int x5, .int x6, .int x7, .int ((1 <<< (x4 &&& 31) : Int32) ||| (1 <<< (x5 &&& 31) : Int32)), .int (1 <<< (x6 &&& 31) : Int32), .int (-1)])), .inr (.inl [some 61, none, none, none, none, none, none, none, none, none])]), 1, 10) := by
    refine me (d := 9) g_X3_take (Nat.le_of_ble_eq_true rfl) ?_
    refine rr rfl (s_aload_n rfl) ?_
    refine rr rfl (s_getf rfl rfl) ?_
    refine rr rfl (s_aload_n rfl) ?_
    have e10 : a_m MT [] 100000 9 miJx4a65c_add_9ea2d [.ref 3, .ref 61] ((hF.set 5 (.inl ((List.replicate 8 (0 : Int32)).set (Int32.toNatClampNeg x3) 1))) ++ [.inr (.inr (2, [.int x1, .int x2, .int x3, .int x4, .int x5, .int x6, .int x7, .int ((1 <<< (x4 &&& 31) : Int32) ||| (1 <<< (x5 &&& 31) : Int32)), .int (1 <<< (x6 &&& 31) : Int32), .int (-1)]))]) = some ((some (.int 1)), (((hF.set 3 (.inr (.inr (0, [.int 1, .ref 62, .int 1])))).set 5 (.inl ((List.replicate 8 (0 : Int32)).set (Int32.toNatClampNeg x3) 1))) ++ [.inr (.inr (2, [.int x1, .int x2, .int x3, .int x4, .int x5, .int x6, .int x7, .int ((1 <<< (x4 &&& 31) : Int32) ||| (1 <<< (x5 &&& 31) : Int32)), .int (1 <<< (x6 &&& 31) : Int32), .int (-1)])), .inr (.inl [some 61, none, none, none, none, none, none, none, none, none])]), 1, 10) := by
      refine me (d := 8) g_Jx4a65c_add_9ea2d (Nat.le_of_ble_eq_true rfl) ?_
      refine rr rfl (s_aload_n rfl) ?_
      refine rr rfl rfl ?_
      refine rr rfl (s_getf rfl rfl) ?_
      refine rr rfl (s_iconst (v := 1) (by decide)) ?_
      refine rr rfl (s_iadd (v := 1) (by decide)) ?_
      refine rr rfl (s_putf rfl rfl (Nat.le_of_ble_eq_true rfl) rfl (Nat.le_of_ble_eq_true rfl) rfl (h' := (((hF.set 3 (.inr (.inr (0, [.int 1, .long 0, .int 0])))).set 5 (.inl ((List.replicate 8 (0 : Int32)).set (Int32.toNatClampNeg x3) 1))) ++ [.inr (.inr (2, [.int x1, .int x2, .int x3, .int x4, .int x5, .int x6, .int x7, .int ((1 <<< (x4 &&& 31) : Int32) ||| (1 <<< (x5 &&& 31) : Int32)), .int (1 <<< (x6 &&& 31) : Int32), .int (-1)]))]))) ?_
      refine rr rfl (s_aload_n rfl) ?_
      refine rr rfl (s_aload_n rfl) ?_
      refine rr rfl (s_aload_n rfl) ?_
      refine rr rfl (s_getf rfl rfl) ?_
      refine rr rfl (s_aload_n rfl) ?_
      refine rr rfl (s_getf rfl rfl) ?_
      have e11 : a_m MT [] 100000 8 miJx4a65c_add_72be8 [.ref 3, .ref 61, .long 0, .int 0] (((hF.set 3 (.inr (.inr (0, [.int 1, .long 0, .int 0])))).set 5 (.inl ((List.replicate 8 (0 : Int32)).set (Int32.toNatClampNeg x3) 1))) ++ [.inr (.inr (2, [.int x1, .int x2, .int x3, .int x4, .int x5, .int x6, .int x7, .int ((1 <<< (x4 &&& 31) : Int32) ||| (1 <<< (x5 &&& 31) : Int32)), .int (1 <<< (x6 &&& 31) : Int32), .int (-1)]))]) = some (none, (((hF.set 3 (.inr (.inr (0, [.int 1, .ref 62, .int 1])))).set 5 (.inl ((List.replicate 8 (0 : Int32)).set (Int32.toNatClampNeg x3) 1))) ++ [.inr (.inr (2, [.int x1, .int x2, .int x3, .int x4, .int x5, .int x6, .int x7, .int ((1 <<< (x4 &&& 31) : Int32) ||| (1 <<< (x5 &&& 31) : Int32)), .int (1 <<< (x6 &&& 31) : Int32), .int (-1)])), .inr (.inl [some 61, none, none, none, none, none, none, none, none, none])]), 1, 10) := by
        refine me (d := 7) g_Jx4a65c_add_72be8 (Nat.le_of_ble_eq_true rfl) ?_
        refine rr rfl (s_iload_n rfl) ?_
        refine rr rfl (s_aloadL rfl) ?_
        refine rr rfl (s_alen0) ?_
        refine rr rfl (s_icF (by decide)) ?_
        refine rr rfl (s_aload_n rfl) ?_
        have e12 : a_m MT [] 100000 7 miJx4a65c_grow_d5877 [.ref 3] (((hF.set 3 (.inr (.inr (0, [.int 1, .long 0, .int 0])))).set 5 (.inl ((List.replicate 8 (0 : Int32)).set (Int32.toNatClampNeg x3) 1))) ++ [.inr (.inr (2, [.int x1, .int x2, .int x3, .int x4, .int x5, .int x6, .int x7, .int ((1 <<< (x4 &&& 31) : Int32) ||| (1 <<< (x5 &&& 31) : Int32)), .int (1 <<< (x6 &&& 31) : Int32), .int (-1)]))]) = some ((some (.ref 62)), (((hF.set 3 (.inr (.inr (0, [.int 1, .ref 62, .int 0])))).set 5 (.inl ((List.replicate 8 (0 : Int32)).set (Int32.toNatClampNeg x3) 1))) ++ [.inr (.inr (2, [.int x1, .int x2, .int x3, .int x4, .int x5, .int x6, .int x7, .int ((1 <<< (x4 &&& 31) : Int32) ||| (1 <<< (x5 &&& 31) : Int32)), .int (1 <<< (x6 &&& 31) : Int32), .int (-1)])), .inr (.inl (List.replicate 10 none))]), 1, 10) := by
          refine me (d := 6) g_Jx4a65c_grow_d5877 (Nat.le_of_ble_eq_true rfl) ?_
          refine rr rfl (s_aload_n rfl) ?_
          refine rr rfl (s_aload_n rfl) ?_
          refine rr rfl (s_getf rfl rfl) ?_
          refine rr rfl (s_iconst (v := 1) (by decide)) ?_
          refine rr rfl (s_iadd (v := 1) (by decide)) ?_
          have e13 : a_m MT [] 100000 6 miJx4a65c_grow_92f84 [.ref 3, .int 1] (((hF.set 3 (.inr (.inr (0, [.int 1, .long 0, .int 0])))).set 5 (.inl ((List.replicate 8 (0 : Int32)).set (Int32.toNatClampNeg x3) 1))) ++ [.inr (.inr (2, [.int x1, .int x2, .int x3, .int x4, .int x5, .int x6, .int x7, .int ((1 <<< (x4 &&& 31) : Int32) ||| (1 <<< (x5 &&& 31) : Int32)), .int (1 <<< (x6 &&& 31) : Int32), .int (-1)]))]) = some ((some (.ref 62)), (((hF.set 3 (.inr (.inr (0, [.int 1, .ref 62, .int 0])))).set 5 (.inl ((List.replicate 8 (0 : Int32)).set (Int32.toNatClampNeg x3) 1))) ++ [.inr (.inr (2, [.int x1, .int x2, .int x3, .int x4, .int x5, .int x6, .int x7, .int ((1 <<< (x4 &&& 31) : Int32) ||| (1 <<< (x5 &&& 31) : Int32)), .int (1 <<< (x6 &&& 31) : Int32), .int (-1)])), .inr (.inl (List.replicate 10 none))]), 1, 10) := by
            refine me (d := 5) g_Jx4a65c_grow_92f84 (Nat.le_of_ble_eq_true rfl) ?_
            refine rr rfl (s_aload_n rfl) ?_
            refine rr rfl (s_getf rfl rfl) ?_
            refine rr rfl (s_alen0) ?_
            refine rr rfl (s_istore_n rfl) ?_
            refine rr rfl (s_iload_n rfl) ?_
            refine rr rfl (s_ifF (by decide)) ?_
            refine rr rfl (s_aload_n rfl) ?_
            refine rr rfl (s_getf rfl rfl) ?_
            refine rr rfl rfl ?_
            refine rr rfl rfl ?_
            refine rr rfl (s_aload_n rfl) ?_
            refine rr rfl (s_bipush (v := 10) (by decide)) ?_
            refine rr rfl (s_iload_n rfl) ?_
            refine rr rfl (s_max (v := 10) rfl (Nat.le_of_ble_eq_true rfl) (by decide)) ?_
            refine rr rfl (s_anew (q := 62) (j := 10) rfl rfl rfl rfl (h' := (((hF.set 3 (.inr (.inr (0, [.int 1, .long 0, .int 0])))).set 5 (.inl ((List.replicate 8 (0 : Int32)).set (Int32.toNatClampNeg x3) 1))) ++ [.inr (.inr (2, [.int x1, .int x2, .int x3, .int x4, .int x5, .int x6, .int x7, .int ((1 <<< (x4 &&& 31) : Int32) ||| (1 <<< (x5 &&& 31) : Int32)), .int (1 <<< (x6 &&& 31) : Int32), .int (-1)])), .inr (.inl (List.replicate 10 none))]))) ?_
            refine rr rfl rfl ?_
            refine rr rfl (s_putf rfl rfl (Nat.le_of_ble_eq_true rfl) rfl (Nat.le_of_ble_eq_true rfl) rfl (h' := (((hF.set 3 (.inr (.inr (0, [.int 1, .ref 62, .int 0])))).set 5 (.inl ((List.replicate 8 (0 : Int32)).set (Int32.toNatClampNeg x3) 1))) ++ [.inr (.inr (2, [.int x1, .int x2, .int x3, .int x4, .int x5, .int x6, .int x7, .int ((1 <<< (x4 &&& 31) : Int32) ||| (1 <<< (x5 &&& 31) : Int32)), .int (1 <<< (x6 &&& 31) : Int32), .int (-1)])), .inr (.inl (List.replicate 10 none))]))) ?_
            exact rrt rfl rfl rfl rfl
          refine rrc rfl rfl rfl (do_of g_Jx4a65c_grow_92f84 rfl rfl e13) ?_
          exact rrt rfl rfl rfl rfl
        refine rrc rfl rfl rfl (do_of g_Jx4a65c_grow_d5877 rfl rfl e12) ?_
        refine rr rfl (s_astore_n rfl) ?_
        refine rr rfl (s_aload_n rfl) ?_
        refine rr rfl (s_iload_n rfl) ?_
        refine rr rfl (s_aload_n rfl) ?_
        refine rr rfl (s_aastore (j := 0) rfl rfl rfl (Nat.le_of_ble_eq_true rfl) rfl (Nat.le_of_ble_eq_true rfl) rfl (h' := (((hF.set 3 (.inr (.inr (0, [.int 1, .ref 62, .int 0])))).set 5 (.inl ((List.replicate 8 (0 : Int32)).set (Int32.toNatClampNeg x3) 1))) ++ [.inr (.inr (2, [.int x1, .int x2, .int x3, .int x4, .int x5, .int x6, .int x7, .int ((1 <<< (x4 &&& 31) : Int32) ||| (1 <<< (x5 &&& 31) : Int32)), .int (1 <<< (x6 &&& 31) : Int32), .int (-1)])), .inr (.inl [some 61, none, none, none, none, none, none, none, none, none])]))) ?_
        refine rr rfl (s_aload_n rfl) ?_
        refine rr rfl (s_iload_n rfl) ?_
        refine rr rfl (s_iconst (v := 1) (by decide)) ?_
        refine rr rfl (s_iadd (v := 1) (by decide)) ?_
        refine rr rfl (s_putf rfl rfl (Nat.le_of_ble_eq_true rfl) rfl (Nat.le_of_ble_eq_true rfl) rfl (h' := (((hF.set 3 (.inr (.inr (0, [.int 1, .ref 62, .int 1])))).set 5 (.inl ((List.replicate 8 (0 : Int32)).set (Int32.toNatClampNeg x3) 1))) ++ [.inr (.inr (2, [.int x1, .int x2, .int x3, .int x4, .int x5, .int x6, .int x7, .int ((1 <<< (x4 &&& 31) : Int32) ||| (1 <<< (x5 &&& 31) : Int32)), .int (1 <<< (x6 &&& 31) : Int32), .int (-1)])), .inr (.inl [some 61, none, none, none, none, none, none, none, none, none])]))) ?_
        exact rrt rfl rfl rfl rfl
      refine rrc rfl rfl rfl (do_of g_Jx4a65c_add_72be8 rfl rfl e11) ?_
      refine rr rfl (s_iconst (v := 1) (by decide)) ?_
      exact rrt rfl rfl rfl rfl
    refine rrc rfl rfl rfl (do_of g_Jx4a65c_add_9ea2d rfl rfl e10) ?_
    refine rr rfl rfl ?_
    refine rr rfl (s_aload_n rfl) ?_
    refine rr rfl (s_getf rfl rfl) ?_
    refine rr rfl (s_iconst (v := 0) (by decide)) ?_
    refine rr rfl (s_aload_n rfl) ?_
    refine rr rfl (s_getf rfl rfl) ?_
    refine rr rfl (s_iconst (v := 0) (by decide)) ?_
    refine rr rfl (s_bipush (v := 8) (by decide)) ?_
    refine rr rfl (s_copy8 rfl (Nat.le_of_ble_eq_true rfl) rfl rfl (by simp) rfl (Nat.le_of_ble_eq_true rfl) rfl (h' := ((((hF.set 3 (.inr (.inr (0, [.int 1, .ref 62, .int 1])))).set 4 (.inl ((List.replicate 8 (0 : Int32)).set (Int32.toNatClampNeg x3) 1))).set 5 (.inl ((List.replicate 8 (0 : Int32)).set (Int32.toNatClampNeg x3) 1))) ++ [.inr (.inr (2, [.int x1, .int x2, .int x3, .int x4, .int x5, .int x6, .int x7, .int ((1 <<< (x4 &&& 31) : Int32) ||| (1 <<< (x5 &&& 31) : Int32)), .int (1 <<< (x6 &&& 31) : Int32), .int (-1)])), .inr (.inl [some 61, none, none, none, none, none, none, none, none, none])]))) ?_
    exact rrt rfl rfl rfl rfl
  refine rrc rfl rfl rfl (do_of g_X3_take rfl rfl e9) ?_
  refine rr rfl (s_aload_n rfl) ?_
  have e14 : a_m MT [] 100000 10 miX8_forgetRules [.ref 0] ((((hF.set 3 (.inr (.inr (0, [.int 1, .ref 62, .int 1])))).set 4 (.inl ((List.replicate 8 (0 : Int32)).set (Int32.toNatClampNeg x3) 1))).set 5 (.inl ((List.replicate 8 (0 : Int32)).set (Int32.toNatClampNeg x3) 1))) ++ [.inr (.inr (2, [.int x1, .int x2, .int x3, .int x4, .int x5, .int x6, .int x7, .int ((1 <<< (x4 &&& 31) : Int32) ||| (1 <<< (x5 &&& 31) : Int32)), .int (1 <<< (x6 &&& 31) : Int32), .int (-1)])), .inr (.inl [some 61, none, none, none, none, none, none, none, none, none])]) = some (none, (((((hF.set 3 (.inr (.inr (0, [.int 1, .ref 62, .int 1])))).set 4 (.inl ((List.replicate 8 (0 : Int32)).set (Int32.toNatClampNeg x3) 1))).set 5 (.inl ((List.replicate 8 (0 : Int32)).set (Int32.toNatClampNeg x3) 1))).set 6 (.inr (.inr (6, [.ref 2, .ref 7, .ref 8, .ref 9, .int 1])))) ++ [.inr (.inr (2, [.int x1, .int x2, .int x3, .int x4, .int x5, .int x6, .int x7, .int ((1 <<< (x4 &&& 31) : Int32) ||| (1 <<< (x5 &&& 31) : Int32)), .int (1 <<< (x6 &&& 31) : Int32), .int (-1)])), .inr (.inl [some 61, none, none, none, none, none, none, none, none, none])]), 0, 0) := by
    refine me (d := 9) g_X8_forgetRules (Nat.le_of_ble_eq_true rfl) ?_
    refine rr rfl (s_aload_n rfl) ?_
    refine rr rfl (s_getf rfl rfl) ?_
    refine rr rfl (s_getf rfl rfl) ?_
    refine rr rfl (s_aload_n rfl) ?_
    refine rr rfl (s_getf rfl rfl) ?_
    refine rr rfl (s_getf rfl rfl) ?_
    have e15 : a_m MT [] 100000 9 miX3_notSpare [.ref 2] ((((hF.set 3 (.inr (.inr (0, [.int 1, .ref 62, .int 1])))).set 4 (.inl ((List.replicate 8 (0 : Int32)).set (Int32.toNatClampNeg x3) 1))).set 5 (.inl ((List.replicate 8 (0 : Int32)).set (Int32.toNatClampNeg x3) 1))) ++ [.inr (.inr (2, [.int x1, .int x2, .int x3, .int x4, .int x5, .int x6, .int x7, .int ((1 <<< (x4 &&& 31) : Int32) ||| (1 <<< (x5 &&& 31) : Int32)), .int (1 <<< (x6 &&& 31) : Int32), .int (-1)])), .inr (.inl [some 61, none, none, none, none, none, none, none, none, none])]) = some ((some (.int 1)), ((((hF.set 3 (.inr (.inr (0, [.int 1, .ref 62, .int 1])))).set 4 (.inl ((List.replicate 8 (0 : Int32)).set (Int32.toNatClampNeg x3) 1))).set 5 (.inl ((List.replicate 8 (0 : Int32)).set (Int32.toNatClampNeg x3) 1))) ++ [.inr (.inr (2, [.int x1, .int x2, .int x3, .int x4, .int x5, .int x6, .int x7, .int ((1 <<< (x4 &&& 31) : Int32) ||| (1 <<< (x5 &&& 31) : Int32)), .int (1 <<< (x6 &&& 31) : Int32), .int (-1)])), .inr (.inl [some 61, none, none, none, none, none, none, none, none, none])]), 0, 0) := by
      refine me (d := 8) g_X3_notSpare (Nat.le_of_ble_eq_true rfl) ?_
      refine rr rfl (s_iconst (v := 0) (by decide)) ?_
      refine rr rfl (s_istore_n rfl) ?_
      refine rr rfl (s_iconst (v := 0) (by decide)) ?_
      refine rr rfl (s_istore_n rfl) ?_
      refine rr rfl (s_iload_n rfl) ?_
      refine rr rfl (s_aload_n rfl) ?_
      refine rr rfl (s_getf rfl rfl) ?_
      have e16 : a_m MT [] 100000 8 miJx4a65c_size_8abf5 [.ref 3] ((((hF.set 3 (.inr (.inr (0, [.int 1, .ref 62, .int 1])))).set 4 (.inl ((List.replicate 8 (0 : Int32)).set (Int32.toNatClampNeg x3) 1))).set 5 (.inl ((List.replicate 8 (0 : Int32)).set (Int32.toNatClampNeg x3) 1))) ++ [.inr (.inr (2, [.int x1, .int x2, .int x3, .int x4, .int x5, .int x6, .int x7, .int ((1 <<< (x4 &&& 31) : Int32) ||| (1 <<< (x5 &&& 31) : Int32)), .int (1 <<< (x6 &&& 31) : Int32), .int (-1)])), .inr (.inl [some 61, none, none, none, none, none, none, none, none, none])]) = some ((some (.int 1)), ((((hF.set 3 (.inr (.inr (0, [.int 1, .ref 62, .int 1])))).set 4 (.inl ((List.replicate 8 (0 : Int32)).set (Int32.toNatClampNeg x3) 1))).set 5 (.inl ((List.replicate 8 (0 : Int32)).set (Int32.toNatClampNeg x3) 1))) ++ [.inr (.inr (2, [.int x1, .int x2, .int x3, .int x4, .int x5, .int x6, .int x7, .int ((1 <<< (x4 &&& 31) : Int32) ||| (1 <<< (x5 &&& 31) : Int32)), .int (1 <<< (x6 &&& 31) : Int32), .int (-1)])), .inr (.inl [some 61, none, none, none, none, none, none, none, none, none])]), 0, 0) := by
        refine me (d := 7) g_Jx4a65c_size_8abf5 (Nat.le_of_ble_eq_true rfl) ?_
        refine rr rfl (s_aload_n rfl) ?_
        refine rr rfl (s_getf rfl rfl) ?_
        exact rrt rfl rfl rfl rfl
      refine rrc rfl rfl rfl (do_of g_Jx4a65c_size_8abf5 rfl rfl e16) ?_
      refine rr rfl (s_icF (by decide)) ?_
      refine rr rfl (s_aload_n rfl) ?_
      refine rr rfl (s_getf rfl rfl) ?_
      refine rr rfl (s_iload_n rfl) ?_
      have e17 : a_m MT [] 100000 8 miJx4a65c_get_915e3 [.ref 3, .int 0] ((((hF.set 3 (.inr (.inr (0, [.int 1, .ref 62, .int 1])))).set 4 (.inl ((List.replicate 8 (0 : Int32)).set (Int32.toNatClampNeg x3) 1))).set 5 (.inl ((List.replicate 8 (0 : Int32)).set (Int32.toNatClampNeg x3) 1))) ++ [.inr (.inr (2, [.int x1, .int x2, .int x3, .int x4, .int x5, .int x6, .int x7, .int ((1 <<< (x4 &&& 31) : Int32) ||| (1 <<< (x5 &&& 31) : Int32)), .int (1 <<< (x6 &&& 31) : Int32), .int (-1)])), .inr (.inl [some 61, none, none, none, none, none, none, none, none, none])]) = some ((some (.ref 61)), ((((hF.set 3 (.inr (.inr (0, [.int 1, .ref 62, .int 1])))).set 4 (.inl ((List.replicate 8 (0 : Int32)).set (Int32.toNatClampNeg x3) 1))).set 5 (.inl ((List.replicate 8 (0 : Int32)).set (Int32.toNatClampNeg x3) 1))) ++ [.inr (.inr (2, [.int x1, .int x2, .int x3, .int x4, .int x5, .int x6, .int x7, .int ((1 <<< (x4 &&& 31) : Int32) ||| (1 <<< (x5 &&& 31) : Int32)), .int (1 <<< (x6 &&& 31) : Int32), .int (-1)])), .inr (.inl [some 61, none, none, none, none, none, none, none, none, none])]), 0, 0) := by
        refine me (d := 7) g_Jx4a65c_get_915e3 (Nat.le_of_ble_eq_true rfl) ?_
        refine rr rfl (s_iload_n rfl) ?_
        refine rr rfl (s_aload_n rfl) ?_
        refine rr rfl (s_getf rfl rfl) ?_
        have e18 : a_m MT [] 100000 7 miJ15_checkIndex_7cf53 [.int 0, .int 1] ((((hF.set 3 (.inr (.inr (0, [.int 1, .ref 62, .int 1])))).set 4 (.inl ((List.replicate 8 (0 : Int32)).set (Int32.toNatClampNeg x3) 1))).set 5 (.inl ((List.replicate 8 (0 : Int32)).set (Int32.toNatClampNeg x3) 1))) ++ [.inr (.inr (2, [.int x1, .int x2, .int x3, .int x4, .int x5, .int x6, .int x7, .int ((1 <<< (x4 &&& 31) : Int32) ||| (1 <<< (x5 &&& 31) : Int32)), .int (1 <<< (x6 &&& 31) : Int32), .int (-1)])), .inr (.inl [some 61, none, none, none, none, none, none, none, none, none])]) = some ((some (.int 0)), ((((hF.set 3 (.inr (.inr (0, [.int 1, .ref 62, .int 1])))).set 4 (.inl ((List.replicate 8 (0 : Int32)).set (Int32.toNatClampNeg x3) 1))).set 5 (.inl ((List.replicate 8 (0 : Int32)).set (Int32.toNatClampNeg x3) 1))) ++ [.inr (.inr (2, [.int x1, .int x2, .int x3, .int x4, .int x5, .int x6, .int x7, .int ((1 <<< (x4 &&& 31) : Int32) ||| (1 <<< (x5 &&& 31) : Int32)), .int (1 <<< (x6 &&& 31) : Int32), .int (-1)])), .inr (.inl [some 61, none, none, none, none, none, none, none, none, none])]), 0, 0) := by
          refine me (d := 6) g_J15_checkIndex_7cf53 (Nat.le_of_ble_eq_true rfl) ?_
          refine rr rfl (s_iload_n rfl) ?_
          refine rr rfl (s_iload_n rfl) ?_
          refine rr rfl rfl ?_
          have e19 : a_m MT [] 100000 6 miJ3_checkIndex_8e157 [.int 0, .int 1, .null] ((((hF.set 3 (.inr (.inr (0, [.int 1, .ref 62, .int 1])))).set 4 (.inl ((List.replicate 8 (0 : Int32)).set (Int32.toNatClampNeg x3) 1))).set 5 (.inl ((List.replicate 8 (0 : Int32)).set (Int32.toNatClampNeg x3) 1))) ++ [.inr (.inr (2, [.int x1, .int x2, .int x3, .int x4, .int x5, .int x6, .int x7, .int ((1 <<< (x4 &&& 31) : Int32) ||| (1 <<< (x5 &&& 31) : Int32)), .int (1 <<< (x6 &&& 31) : Int32), .int (-1)])), .inr (.inl [some 61, none, none, none, none, none, none, none, none, none])]) = some ((some (.int 0)), ((((hF.set 3 (.inr (.inr (0, [.int 1, .ref 62, .int 1])))).set 4 (.inl ((List.replicate 8 (0 : Int32)).set (Int32.toNatClampNeg x3) 1))).set 5 (.inl ((List.replicate 8 (0 : Int32)).set (Int32.toNatClampNeg x3) 1))) ++ [.inr (.inr (2, [.int x1, .int x2, .int x3, .int x4, .int x5, .int x6, .int x7, .int ((1 <<< (x4 &&& 31) : Int32) ||| (1 <<< (x5 &&& 31) : Int32)), .int (1 <<< (x6 &&& 31) : Int32), .int (-1)])), .inr (.inl [some 61, none, none, none, none, none, none, none, none, none])]), 0, 0) := by
            refine me (d := 5) g_J3_checkIndex_8e157 (Nat.le_of_ble_eq_true rfl) ?_
            refine rr rfl (s_iload_n rfl) ?_
            refine rr rfl (s_ifF (by decide)) ?_
            refine rr rfl (s_iload_n rfl) ?_
            refine rr rfl (s_iload_n rfl) ?_
            refine rr rfl (s_icT (by decide)) ?_
            refine rr rfl (s_iload_n rfl) ?_
            exact rrt rfl rfl rfl rfl
          refine rrc rfl rfl rfl (do_of g_J3_checkIndex_8e157 rfl rfl e19) ?_
          exact rrt rfl rfl rfl rfl
        refine rrc rfl rfl rfl (do_of g_J15_checkIndex_7cf53 rfl rfl e18) ?_
        refine rr rfl rfl ?_
        refine rr rfl (s_aload_n rfl) ?_
        refine rr rfl (s_iload_n rfl) ?_
        have e20 : a_m MT [] 100000 7 miJx4a65c_elementData_915e3 [.ref 3, .int 0] ((((hF.set 3 (.inr (.inr (0, [.int 1, .ref 62, .int 1])))).set 4 (.inl ((List.replicate 8 (0 : Int32)).set (Int32.toNatClampNeg x3) 1))).set 5 (.inl ((List.replicate 8 (0 : Int32)).set (Int32.toNatClampNeg x3) 1))) ++ [.inr (.inr (2, [.int x1, .int x2, .int x3, .int x4, .int x5, .int x6, .int x7, .int ((1 <<< (x4 &&& 31) : Int32) ||| (1 <<< (x5 &&& 31) : Int32)), .int (1 <<< (x6 &&& 31) : Int32), .int (-1)])), .inr (.inl [some 61, none, none, none, none, none, none, none, none, none])]) = some ((some (.ref 61)), ((((hF.set 3 (.inr (.inr (0, [.int 1, .ref 62, .int 1])))).set 4 (.inl ((List.replicate 8 (0 : Int32)).set (Int32.toNatClampNeg x3) 1))).set 5 (.inl ((List.replicate 8 (0 : Int32)).set (Int32.toNatClampNeg x3) 1))) ++ [.inr (.inr (2, [.int x1, .int x2, .int x3, .int x4, .int x5, .int x6, .int x7, .int ((1 <<< (x4 &&& 31) : Int32) ||| (1 <<< (x5 &&& 31) : Int32)), .int (1 <<< (x6 &&& 31) : Int32), .int (-1)])), .inr (.inl [some 61, none, none, none, none, none, none, none, none, none])]), 0, 0) := by
          refine me (d := 6) g_Jx4a65c_elementData_915e3 (Nat.le_of_ble_eq_true rfl) ?_
          refine rr rfl (s_aload_n rfl) ?_
          refine rr rfl (s_getf rfl rfl) ?_
          refine rr rfl (s_iload_n rfl) ?_
          refine rr rfl (s_aaload (j := 0) (z := 61) rfl rfl rfl) ?_
          exact rrt rfl rfl rfl rfl
        refine rrc rfl rfl rfl (do_of g_Jx4a65c_elementData_915e3 rfl rfl e20) ?_
        exact rrt rfl rfl rfl rfl
      refine rrc rfl rfl rfl (do_of g_Jx4a65c_get_915e3 rfl rfl e17) ?_
      refine rr rfl rfl ?_
      have e21 : a_m MT [] 100000 8 miX2_isSpare [.ref 61] ((((hF.set 3 (.inr (.inr (0, [.int 1, .ref 62, .int 1])))).set 4 (.inl ((List.replicate 8 (0 : Int32)).set (Int32.toNatClampNeg x3) 1))).set 5 (.inl ((List.replicate 8 (0 : Int32)).set (Int32.toNatClampNeg x3) 1))) ++ [.inr (.inr (2, [.int x1, .int x2, .int x3, .int x4, .int x5, .int x6, .int x7, .int ((1 <<< (x4 &&& 31) : Int32) ||| (1 <<< (x5 &&& 31) : Int32)), .int (1 <<< (x6 &&& 31) : Int32), .int (-1)])), .inr (.inl [some 61, none, none, none, none, none, none, none, none, none])]) = some ((some (.int 0)), ((((hF.set 3 (.inr (.inr (0, [.int 1, .ref 62, .int 1])))).set 4 (.inl ((List.replicate 8 (0 : Int32)).set (Int32.toNatClampNeg x3) 1))).set 5 (.inl ((List.replicate 8 (0 : Int32)).set (Int32.toNatClampNeg x3) 1))) ++ [.inr (.inr (2, [.int x1, .int x2, .int x3, .int x4, .int x5, .int x6, .int x7, .int ((1 <<< (x4 &&& 31) : Int32) ||| (1 <<< (x5 &&& 31) : Int32)), .int (1 <<< (x6 &&& 31) : Int32), .int (-1)])), .inr (.inl [some 61, none, none, none, none, none, none, none, none, none])]), 0, 0) := by
        refine me (d := 7) g_X2_isSpare (Nat.le_of_ble_eq_true rfl) ?_
        refine rr rfl (s_aload_n rfl) ?_
        refine rr rfl (s_getf rfl rfl) ?_
        refine rr rfl (s_iconst (v := (-1)) (by decide)) ?_
        refine rr rfl (s_icT (by decide)) ?_
        refine rr rfl (s_iconst (v := 0) (by decide)) ?_
        exact rrt rfl rfl rfl rfl
      refine rrc rfl rfl rfl (do_of g_X2_isSpare rfl rfl e21) ?_
      refine rr rfl (s_ifF (by decide)) ?_
      refine rr rfl (s_iload_n rfl) ?_
      refine rr rfl (s_iconst (v := 1) (by decide)) ?_
      refine rr rfl (s_iload_n rfl) ?_
      refine rr rfl (s_ishl (v := 1) (by decide)) ?_
      refine rr rfl (s_ior (v := 1) (by decide)) ?_
      refine rr rfl (s_istore_n rfl) ?_
      refine rr rfl (s_iinc (v := 1) rfl (by decide) rfl) ?_
      refine rr rfl s_goto ?_
      refine rr rfl (s_iload_n rfl) ?_
      refine rr rfl (s_aload_n rfl) ?_
      refine rr rfl (s_getf rfl rfl) ?_
      have e22 : a_m MT [] 100000 8 miJx4a65c_size_8abf5 [.ref 3] ((((hF.set 3 (.inr (.inr (0, [.int 1, .ref 62, .int 1])))).set 4 (.inl ((List.replicate 8 (0 : Int32)).set (Int32.toNatClampNeg x3) 1))).set 5 (.inl ((List.replicate 8 (0 : Int32)).set (Int32.toNatClampNeg x3) 1))) ++ [.inr (.inr (2, [.int x1, .int x2, .int x3, .int x4, .int x5, .int x6, .int x7, .int ((1 <<< (x4 &&& 31) : Int32) ||| (1 <<< (x5 &&& 31) : Int32)), .int (1 <<< (x6 &&& 31) : Int32), .int (-1)])), .inr (.inl [some 61, none, none, none, none, none, none, none, none, none])]) = some ((some (.int 1)), ((((hF.set 3 (.inr (.inr (0, [.int 1, .ref 62, .int 1])))).set 4 (.inl ((List.replicate 8 (0 : Int32)).set (Int32.toNatClampNeg x3) 1))).set 5 (.inl ((List.replicate 8 (0 : Int32)).set (Int32.toNatClampNeg x3) 1))) ++ [.inr (.inr (2, [.int x1, .int x2, .int x3, .int x4, .int x5, .int x6, .int x7, .int ((1 <<< (x4 &&& 31) : Int32) ||| (1 <<< (x5 &&& 31) : Int32)), .int (1 <<< (x6 &&& 31) : Int32), .int (-1)])), .inr (.inl [some 61, none, none, none, none, none, none, none, none, none])]), 0, 0) := by
        refine me (d := 7) g_Jx4a65c_size_8abf5 (Nat.le_of_ble_eq_true rfl) ?_
        refine rr rfl (s_aload_n rfl) ?_
        refine rr rfl (s_getf rfl rfl) ?_
        exact rrt rfl rfl rfl rfl
      refine rrc rfl rfl rfl (do_of g_Jx4a65c_size_8abf5 rfl rfl e22) ?_
      refine rr rfl (s_icT (by decide)) ?_
      refine rr rfl (s_iload_n rfl) ?_
      exact rrt rfl rfl rfl rfl
    refine rrc rfl rfl rfl (do_of g_X3_notSpare rfl rfl e15) ?_
    have e23 : a_m MT [] 100000 9 miX6_countOnly [.ref 6, .int 1] ((((hF.set 3 (.inr (.inr (0, [.int 1, .ref 62, .int 1])))).set 4 (.inl ((List.replicate 8 (0 : Int32)).set (Int32.toNatClampNeg x3) 1))).set 5 (.inl ((List.replicate 8 (0 : Int32)).set (Int32.toNatClampNeg x3) 1))) ++ [.inr (.inr (2, [.int x1, .int x2, .int x3, .int x4, .int x5, .int x6, .int x7, .int ((1 <<< (x4 &&& 31) : Int32) ||| (1 <<< (x5 &&& 31) : Int32)), .int (1 <<< (x6 &&& 31) : Int32), .int (-1)])), .inr (.inl [some 61, none, none, none, none, none, none, none, none, none])]) = some (none, (((((hF.set 3 (.inr (.inr (0, [.int 1, .ref 62, .int 1])))).set 4 (.inl ((List.replicate 8 (0 : Int32)).set (Int32.toNatClampNeg x3) 1))).set 5 (.inl ((List.replicate 8 (0 : Int32)).set (Int32.toNatClampNeg x3) 1))).set 6 (.inr (.inr (6, [.ref 2, .ref 7, .ref 8, .ref 9, .int 1])))) ++ [.inr (.inr (2, [.int x1, .int x2, .int x3, .int x4, .int x5, .int x6, .int x7, .int ((1 <<< (x4 &&& 31) : Int32) ||| (1 <<< (x5 &&& 31) : Int32)), .int (1 <<< (x6 &&& 31) : Int32), .int (-1)])), .inr (.inl [some 61, none, none, none, none, none, none, none, none, none])]), 0, 0) := by
      refine me (d := 8) g_X6_countOnly (Nat.le_of_ble_eq_true rfl) ?_
      refine rr rfl (s_aload_n rfl) ?_
      refine rr rfl (s_iload_n rfl) ?_
      refine rr rfl (s_putf rfl rfl (Nat.le_of_ble_eq_true rfl) rfl (Nat.le_of_ble_eq_true rfl) rfl (h' := (((((hF.set 3 (.inr (.inr (0, [.int 1, .ref 62, .int 1])))).set 4 (.inl ((List.replicate 8 (0 : Int32)).set (Int32.toNatClampNeg x3) 1))).set 5 (.inl ((List.replicate 8 (0 : Int32)).set (Int32.toNatClampNeg x3) 1))).set 6 (.inr (.inr (6, [.ref 2, .ref 7, .ref 8, .ref 9, .int 1])))) ++ [.inr (.inr (2, [.int x1, .int x2, .int x3, .int x4, .int x5, .int x6, .int x7, .int ((1 <<< (x4 &&& 31) : Int32) ||| (1 <<< (x5 &&& 31) : Int32)), .int (1 <<< (x6 &&& 31) : Int32), .int (-1)])), .inr (.inl [some 61, none, none, none, none, none, none, none, none, none])]))) ?_
      refine rr rfl (s_aload_n rfl) ?_
      refine rr rfl (s_getf rfl rfl) ?_
      refine rr rfl (s_iconst (v := (-1)) (by decide)) ?_
      have e24 : a_m MT [] 100000 8 miJ7_fill_53178 [.ref 7, .int (-1)] (((((hF.set 3 (.inr (.inr (0, [.int 1, .ref 62, .int 1])))).set 4 (.inl ((List.replicate 8 (0 : Int32)).set (Int32.toNatClampNeg x3) 1))).set 5 (.inl ((List.replicate 8 (0 : Int32)).set (Int32.toNatClampNeg x3) 1))).set 6 (.inr (.inr (6, [.ref 2, .ref 7, .ref 8, .ref 9, .int 1])))) ++ [.inr (.inr (2, [.int x1, .int x2, .int x3, .int x4, .int x5, .int x6, .int x7, .int ((1 <<< (x4 &&& 31) : Int32) ||| (1 <<< (x5 &&& 31) : Int32)), .int (1 <<< (x6 &&& 31) : Int32), .int (-1)])), .inr (.inl [some 61, none, none, none, none, none, none, none, none, none])]) = some (none, (((((hF.set 3 (.inr (.inr (0, [.int 1, .ref 62, .int 1])))).set 4 (.inl ((List.replicate 8 (0 : Int32)).set (Int32.toNatClampNeg x3) 1))).set 5 (.inl ((List.replicate 8 (0 : Int32)).set (Int32.toNatClampNeg x3) 1))).set 6 (.inr (.inr (6, [.ref 2, .ref 7, .ref 8, .ref 9, .int 1])))) ++ [.inr (.inr (2, [.int x1, .int x2, .int x3, .int x4, .int x5, .int x6, .int x7, .int ((1 <<< (x4 &&& 31) : Int32) ||| (1 <<< (x5 &&& 31) : Int32)), .int (1 <<< (x6 &&& 31) : Int32), .int (-1)])), .inr (.inl [some 61, none, none, none, none, none, none, none, none, none])]), 0, 0) := fill_n rfl (Nat.le_of_ble_eq_true rfl) rfl
      refine rrc rfl rfl rfl (do_of g_J7_fill_53178 rfl rfl e24) ?_
      exact rrt rfl rfl rfl rfl
    refine rrc rfl rfl rfl (do_of g_X6_countOnly rfl rfl e23) ?_
    refine rr rfl (s_aload_n rfl) ?_
    have e25 : a_m MT [] 100000 9 miX8_forgetRuns [.ref 0] (((((hF.set 3 (.inr (.inr (0, [.int 1, .ref 62, .int 1])))).set 4 (.inl ((List.replicate 8 (0 : Int32)).set (Int32.toNatClampNeg x3) 1))).set 5 (.inl ((List.replicate 8 (0 : Int32)).set (Int32.toNatClampNeg x3) 1))).set 6 (.inr (.inr (6, [.ref 2, .ref 7, .ref 8, .ref 9, .int 1])))) ++ [.inr (.inr (2, [.int x1, .int x2, .int x3, .int x4, .int x5, .int x6, .int x7, .int ((1 <<< (x4 &&& 31) : Int32) ||| (1 <<< (x5 &&& 31) : Int32)), .int (1 <<< (x6 &&& 31) : Int32), .int (-1)])), .inr (.inl [some 61, none, none, none, none, none, none, none, none, none])]) = some (none, (((((hF.set 3 (.inr (.inr (0, [.int 1, .ref 62, .int 1])))).set 4 (.inl ((List.replicate 8 (0 : Int32)).set (Int32.toNatClampNeg x3) 1))).set 5 (.inl ((List.replicate 8 (0 : Int32)).set (Int32.toNatClampNeg x3) 1))).set 6 (.inr (.inr (6, [.ref 2, .ref 7, .ref 8, .ref 9, .int 1])))) ++ [.inr (.inr (2, [.int x1, .int x2, .int x3, .int x4, .int x5, .int x6, .int x7, .int ((1 <<< (x4 &&& 31) : Int32) ||| (1 <<< (x5 &&& 31) : Int32)), .int (1 <<< (x6 &&& 31) : Int32), .int (-1)])), .inr (.inl [some 61, none, none, none, none, none, none, none, none, none])]), 0, 0) := by
      refine me (d := 8) g_X8_forgetRuns (Nat.le_of_ble_eq_true rfl) ?_
      refine rr rfl (s_aload_n rfl) ?_
      refine rr rfl (s_iconst (v := 0) (by decide)) ?_
      refine rr rfl (s_putf rfl rfl (Nat.le_of_ble_eq_true rfl) rfl (Nat.le_of_ble_eq_true rfl) rfl (h' := (((((hF.set 3 (.inr (.inr (0, [.int 1, .ref 62, .int 1])))).set 4 (.inl ((List.replicate 8 (0 : Int32)).set (Int32.toNatClampNeg x3) 1))).set 5 (.inl ((List.replicate 8 (0 : Int32)).set (Int32.toNatClampNeg x3) 1))).set 6 (.inr (.inr (6, [.ref 2, .ref 7, .ref 8, .ref 9, .int 1])))) ++ [.inr (.inr (2, [.int x1, .int x2, .int x3, .int x4, .int x5, .int x6, .int x7, .int ((1 <<< (x4 &&& 31) : Int32) ||| (1 <<< (x5 &&& 31) : Int32)), .int (1 <<< (x6 &&& 31) : Int32), .int (-1)])), .inr (.inl [some 61, none, none, none, none, none, none, none, none, none])]))) ?_
      refine rr rfl (s_aload_n rfl) ?_
      refine rr rfl (s_getf rfl rfl) ?_
      refine rr rfl (s_iconst (v := 0) (by decide)) ?_
      refine rr rfl (s_putf rfl rfl (Nat.le_of_ble_eq_true rfl) rfl (Nat.le_of_ble_eq_true rfl) rfl (h' := (((((hF.set 3 (.inr (.inr (0, [.int 1, .ref 62, .int 1])))).set 4 (.inl ((List.replicate 8 (0 : Int32)).set (Int32.toNatClampNeg x3) 1))).set 5 (.inl ((List.replicate 8 (0 : Int32)).set (Int32.toNatClampNeg x3) 1))).set 6 (.inr (.inr (6, [.ref 2, .ref 7, .ref 8, .ref 9, .int 1])))) ++ [.inr (.inr (2, [.int x1, .int x2, .int x3, .int x4, .int x5, .int x6, .int x7, .int ((1 <<< (x4 &&& 31) : Int32) ||| (1 <<< (x5 &&& 31) : Int32)), .int (1 <<< (x6 &&& 31) : Int32), .int (-1)])), .inr (.inl [some 61, none, none, none, none, none, none, none, none, none])]))) ?_
      exact rrt rfl rfl rfl rfl
    refine rrc rfl rfl rfl (do_of g_X8_forgetRuns rfl rfl e25) ?_
    exact rrt rfl rfl rfl rfl
  refine rrc rfl rfl rfl (do_of g_X8_forgetRules rfl rfl e14) ?_
  refine rr rfl (s_aload_n rfl) ?_
  refine rr rfl (s_getf rfl rfl) ?_
  refine rr rfl (s_getf rfl rfl) ?_
  refine rr rfl (s_getf rfl rfl) ?_
  have e26 : a_m MT [] 100000 10 miJx4a65c_size_8abf5 [.ref 3] (((((hF.set 3 (.inr (.inr (0, [.int 1, .ref 62, .int 1])))).set 4 (.inl ((List.replicate 8 (0 : Int32)).set (Int32.toNatClampNeg x3) 1))).set 5 (.inl ((List.replicate 8 (0 : Int32)).set (Int32.toNatClampNeg x3) 1))).set 6 (.inr (.inr (6, [.ref 2, .ref 7, .ref 8, .ref 9, .int 1])))) ++ [.inr (.inr (2, [.int x1, .int x2, .int x3, .int x4, .int x5, .int x6, .int x7, .int ((1 <<< (x4 &&& 31) : Int32) ||| (1 <<< (x5 &&& 31) : Int32)), .int (1 <<< (x6 &&& 31) : Int32), .int (-1)])), .inr (.inl [some 61, none, none, none, none, none, none, none, none, none])]) = some ((some (.int 1)), (((((hF.set 3 (.inr (.inr (0, [.int 1, .ref 62, .int 1])))).set 4 (.inl ((List.replicate 8 (0 : Int32)).set (Int32.toNatClampNeg x3) 1))).set 5 (.inl ((List.replicate 8 (0 : Int32)).set (Int32.toNatClampNeg x3) 1))).set 6 (.inr (.inr (6, [.ref 2, .ref 7, .ref 8, .ref 9, .int 1])))) ++ [.inr (.inr (2, [.int x1, .int x2, .int x3, .int x4, .int x5, .int x6, .int x7, .int ((1 <<< (x4 &&& 31) : Int32) ||| (1 <<< (x5 &&& 31) : Int32)), .int (1 <<< (x6 &&& 31) : Int32), .int (-1)])), .inr (.inl [some 61, none, none, none, none, none, none, none, none, none])]), 0, 0) := by
    refine me (d := 9) g_Jx4a65c_size_8abf5 (Nat.le_of_ble_eq_true rfl) ?_
    refine rr rfl (s_aload_n rfl) ?_
    refine rr rfl (s_getf rfl rfl) ?_
    exact rrt rfl rfl rfl rfl
  refine rrc rfl rfl rfl (do_of g_Jx4a65c_size_8abf5 rfl rfl e26) ?_
  refine rr rfl (s_iconst (v := 1) (by decide)) ?_
  refine rr rfl (s_isub (v := 0) (by decide)) ?_
  exact rrt rfl rfl rfl rfl
set_option maxHeartbeats 4000000 in
set_option maxRecDepth 10000 in
theorem rx_Nhoo {x1 x2 x3 x4 x5 x6 x7 : Int32} (g1 : ¬ x5 = (-1)) (g2 : ¬ x6 = (-1)) (g3 : x2 = 0) (g4 : ¬ x4 < 0) (g5 : x4 < nI 8) (g6 : ¬ x5 < 0) (g7 : x5 < nI 8) (g8 : ¬ x6 < 0) (g9 : x6 < nI 8) (g10 : ¬ x3 < 0) (g11 : x3 < nI 8) (g12 : ¬ x4 = x3) (g13 : x5 = x3) (g14 : ¬ x6 = x3) : a_run MT [] (a_m MT [] 100000 10) 11 (some .int) tabX8_rule 90000 140 (alR x1 x2 x3 x4 x5 x6 x7) [] hF 0 0 = some (some (.int 0), (((((hF.set 3 (.inr (.inr (0, [.int 1, .ref 62, .int 1])))).set 4 (.inl ((List.replicate 8 (0 : Int32)).set (Int32.toNatClampNeg x3) 1))).set 5 (.inl ((List.replicate 8 (0 : Int32)).set (Int32.toNatClampNeg x3) 1))).set 6 (.inr (.inr (6, [.ref 2, .ref 7, .ref 8, .ref 9, .int 1])))) ++ [.inr (.inr (2, [.int x1, .int x2, .int x3, .int x4, .int x5, .int x6, .int x7, .int ((1 <<< (x4 &&& 31) : Int32) ||| (1 <<< (x5 &&& 31) : Int32)), .int (1 <<< (x6 &&& 31) : Int32), .int (-1)])), .inr (.inl [some 61, none, none, none, none, none, none, none, none, none])]), 2, 20) := by
  refine rr rfl (s_new (q := 61) rfl rfl (h' := (hF ++ [.inr (.inr (2, [.int 0, .int 0, .int 0, .int 0, .int 0, .int 0, .int 0, .int 0, .int 0, .int 0]))]))) ?_
  refine rr rfl rfl ?_
  refine rr rfl (s_iload_n rfl) ?_
  refine rr rfl (s_iload_n rfl) ?_
  refine rr rfl (s_iload_n rfl) ?_
  refine rr rfl (s_iload rfl) ?_
  refine rr rfl (s_iload rfl) ?_
  refine rr rfl (s_iload rfl) ?_
  refine rr rfl (s_iload rfl) ?_
  have e1 : a_m MT [] 100000 10 miX2_init [.ref 61, .int x1, .int x2, .int x3, .int x4, .int x5, .int x6, .int x7] (hF ++ [.inr (.inr (2, [.int 0, .int 0, .int 0, .int 0, .int 0, .int 0, .int 0, .int 0, .int 0, .int 0]))]) = some (none, (hF ++ [.inr (.inr (2, [.int x1, .int x2, .int x3, .int x4, .int x5, .int x6, .int x7, .int ((1 <<< (x4 &&& 31) : Int32) ||| (1 <<< (x5 &&& 31) : Int32)), .int (1 <<< (x6 &&& 31) : Int32), .int (-1)]))]), 0, 0) := by
    refine me (d := 9) g_X2_init (Nat.le_of_ble_eq_true rfl) ?_
    refine rr rfl (s_aload_n rfl) ?_
    refine rr rfl rfl ?_
    refine rr rfl (s_aload_n rfl) ?_
    refine rr rfl (s_iconst (v := (-1)) (by decide)) ?_
    refine rr rfl (s_putf rfl rfl (Nat.le_of_ble_eq_true rfl) rfl (Nat.le_of_ble_eq_true rfl) rfl (h' := (hF ++ [.inr (.inr (2, [.int 0, .int 0, .int 0, .int 0, .int 0, .int 0, .int 0, .int 0, .int 0, .int (-1)]))]))) ?_
    refine rr rfl (s_aload_n rfl) ?_
    refine rr rfl (s_iload_n rfl) ?_
    refine rr rfl (s_putf rfl rfl (Nat.le_of_ble_eq_true rfl) rfl (Nat.le_of_ble_eq_true rfl) rfl (h' := (hF ++ [.inr (.inr (2, [.int x1, .int 0, .int 0, .int 0, .int 0, .int 0, .int 0, .int 0, .int 0, .int (-1)]))]))) ?_
    refine rr rfl (s_aload_n rfl) ?_
    refine rr rfl (s_iload_n rfl) ?_
    refine rr rfl (s_putf rfl rfl (Nat.le_of_ble_eq_true rfl) rfl (Nat.le_of_ble_eq_true rfl) rfl (h' := (hF ++ [.inr (.inr (2, [.int x1, .int x2, .int 0, .int 0, .int 0, .int 0, .int 0, .int 0, .int 0, .int (-1)]))]))) ?_
    refine rr rfl (s_aload_n rfl) ?_
    refine rr rfl (s_iload_n rfl) ?_
    refine rr rfl (s_putf rfl rfl (Nat.le_of_ble_eq_true rfl) rfl (Nat.le_of_ble_eq_true rfl) rfl (h' := (hF ++ [.inr (.inr (2, [.int x1, .int x2, .int x3, .int 0, .int 0, .int 0, .int 0, .int 0, .int 0, .int (-1)]))]))) ?_
    refine rr rfl (s_aload_n rfl) ?_
    refine rr rfl (s_iload rfl) ?_
    refine rr rfl (s_putf rfl rfl (Nat.le_of_ble_eq_true rfl) rfl (Nat.le_of_ble_eq_true rfl) rfl (h' := (hF ++ [.inr (.inr (2, [.int x1, .int x2, .int x3, .int x4, .int 0, .int 0, .int 0, .int 0, .int 0, .int (-1)]))]))) ?_
    refine rr rfl (s_aload_n rfl) ?_
    refine rr rfl (s_iload rfl) ?_
    refine rr rfl (s_iconst (v := (-1)) (by decide)) ?_
    refine rr rfl (s_icT (ic_ne g1)) ?_
    refine rr rfl (s_iload rfl) ?_
    refine rr rfl (s_putf rfl rfl (Nat.le_of_ble_eq_true rfl) rfl (Nat.le_of_ble_eq_true rfl) rfl (h' := (hF ++ [.inr (.inr (2, [.int x1, .int x2, .int x3, .int x4, .int x5, .int 0, .int 0, .int 0, .int 0, .int (-1)]))]))) ?_
    refine rr rfl (s_aload_n rfl) ?_
    refine rr rfl (s_iload rfl) ?_
    refine rr rfl (s_putf rfl rfl (Nat.le_of_ble_eq_true rfl) rfl (Nat.le_of_ble_eq_true rfl) rfl (h' := (hF ++ [.inr (.inr (2, [.int x1, .int x2, .int x3, .int x4, .int x5, .int x6, .int 0, .int 0, .int 0, .int (-1)]))]))) ?_
    refine rr rfl (s_aload_n rfl) ?_
    refine rr rfl (s_iload rfl) ?_
    refine rr rfl (s_putf rfl rfl (Nat.le_of_ble_eq_true rfl) rfl (Nat.le_of_ble_eq_true rfl) rfl (h' := (hF ++ [.inr (.inr (2, [.int x1, .int x2, .int x3, .int x4, .int x5, .int x6, .int x7, .int 0, .int 0, .int (-1)]))]))) ?_
    refine rr rfl (s_aload_n rfl) ?_
    refine rr rfl (s_iconst (v := 1) (by decide)) ?_
    refine rr rfl (s_aload_n rfl) ?_
    refine rr rfl (s_getf rfl rfl) ?_
    refine rr rfl (s_ishl (v := (1 <<< (x4 &&& 31) : Int32)) rfl) ?_
    refine rr rfl (s_iconst (v := 1) (by decide)) ?_
    refine rr rfl (s_aload_n rfl) ?_
    refine rr rfl (s_getf rfl rfl) ?_
    refine rr rfl (s_ishl (v := (1 <<< (x5 &&& 31) : Int32)) rfl) ?_
    refine rr rfl (s_ior (v := ((1 <<< (x4 &&& 31) : Int32) ||| (1 <<< (x5 &&& 31) : Int32))) rfl) ?_
    refine rr rfl (s_putf rfl rfl (Nat.le_of_ble_eq_true rfl) rfl (Nat.le_of_ble_eq_true rfl) rfl (h' := (hF ++ [.inr (.inr (2, [.int x1, .int x2, .int x3, .int x4, .int x5, .int x6, .int x7, .int ((1 <<< (x4 &&& 31) : Int32) ||| (1 <<< (x5 &&& 31) : Int32)), .int 0, .int (-1)]))]))) ?_
    refine rr rfl (s_aload_n rfl) ?_
    refine rr rfl (s_iload rfl) ?_
    refine rr rfl (s_iconst (v := (-1)) (by decide)) ?_
    refine rr rfl (s_icT (ic_ne g2)) ?_
    refine rr rfl (s_iconst (v := 1) (by decide)) ?_
    refine rr rfl (s_iload rfl) ?_
    refine rr rfl (s_ishl (v := (1 <<< (x6 &&& 31) : Int32)) rfl) ?_
    refine rr rfl (s_putf rfl rfl (Nat.le_of_ble_eq_true rfl) rfl (Nat.le_of_ble_eq_true rfl) rfl (h' := (hF ++ [.inr (.inr (2, [.int x1, .int x2, .int x3, .int x4, .int x5, .int x6, .int x7, .int ((1 <<< (x4 &&& 31) : Int32) ||| (1 <<< (x5 &&& 31) : Int32)), .int (1 <<< (x6 &&& 31) : Int32), .int (-1)]))]))) ?_
    exact rrt rfl rfl rfl rfl
  refine rrc rfl rfl rfl (do_of g_X2_init rfl rfl e1) ?_
  refine rr rfl (s_astore rfl) ?_
  refine rr rfl (s_aload_n rfl) ?_
  refine rr rfl (s_getf rfl rfl) ?_
  refine rr rfl (s_getf rfl rfl) ?_
  refine rr rfl (s_aload rfl) ?_
  have e2 : a_m MT [] 100000 10 miX3_hasLayersWith [.ref 2, .ref 61] (hF ++ [.inr (.inr (2, [.int x1, .int x2, .int x3, .int x4, .int x5, .int x6, .int x7, .int ((1 <<< (x4 &&& 31) : Int32) ||| (1 <<< (x5 &&& 31) : Int32)), .int (1 <<< (x6 &&& 31) : Int32), .int (-1)]))]) = some ((some (.int 1)), ((hF.set 5 (.inl ((List.replicate 8 (0 : Int32)).set (Int32.toNatClampNeg x3) 1))) ++ [.inr (.inr (2, [.int x1, .int x2, .int x3, .int x4, .int x5, .int x6, .int x7, .int ((1 <<< (x4 &&& 31) : Int32) ||| (1 <<< (x5 &&& 31) : Int32)), .int (1 <<< (x6 &&& 31) : Int32), .int (-1)]))]), 0, 0) := by
    refine me (d := 9) g_X3_hasLayersWith (Nat.le_of_ble_eq_true rfl) ?_
    refine rr rfl (s_aload_n rfl) ?_
    refine rr rfl (s_getf rfl rfl) ?_
    refine rr rfl (s_iconst (v := 0) (by decide)) ?_
    have e3 : a_m MT [] 100000 9 miJ7_fill_53178 [.ref 5, .int 0] (hF ++ [.inr (.inr (2, [.int x1, .int x2, .int x3, .int x4, .int x5, .int x6, .int x7, .int ((1 <<< (x4 &&& 31) : Int32) ||| (1 <<< (x5 &&& 31) : Int32)), .int (1 <<< (x6 &&& 31) : Int32), .int (-1)]))]) = some (none, (hF ++ [.inr (.inr (2, [.int x1, .int x2, .int x3, .int x4, .int x5, .int x6, .int x7, .int ((1 <<< (x4 &&& 31) : Int32) ||| (1 <<< (x5 &&& 31) : Int32)), .int (1 <<< (x6 &&& 31) : Int32), .int (-1)]))]), 0, 0) := fill_n rfl (Nat.le_of_ble_eq_true rfl) rfl
    refine rrc rfl rfl rfl (do_of g_J7_fill_53178 rfl rfl e3) ?_
    refine rr rfl (s_iconst (v := 1) (by decide)) ?_
    refine rr rfl (s_istore_n rfl) ?_
    refine rr rfl (s_iconst (v := 0) (by decide)) ?_
    refine rr rfl (s_istore_n rfl) ?_
    refine rr rfl (s_iload_n rfl) ?_
    refine rr rfl (s_ifF (by decide)) ?_
    refine rr rfl (s_iload_n rfl) ?_
    refine rr rfl (s_bipush (v := 8) (by decide)) ?_
    refine rr rfl (s_icF (by decide)) ?_
    refine rr rfl (s_aload_n rfl) ?_
    refine rr rfl (s_aload_n rfl) ?_
    have e4 : a_m MT [] 100000 9 miX3_lift [.ref 2, .ref 61] (hF ++ [.inr (.inr (2, [.int x1, .int x2, .int x3, .int x4, .int x5, .int x6, .int x7, .int ((1 <<< (x4 &&& 31) : Int32) ||| (1 <<< (x5 &&& 31) : Int32)), .int (1 <<< (x6 &&& 31) : Int32), .int (-1)]))]) = some ((some (.int 1)), ((hF.set 5 (.inl ((List.replicate 8 (0 : Int32)).set (Int32.toNatClampNeg x3) 1))) ++ [.inr (.inr (2, [.int x1, .int x2, .int x3, .int x4, .int x5, .int x6, .int x7, .int ((1 <<< (x4 &&& 31) : Int32) ||| (1 <<< (x5 &&& 31) : Int32)), .int (1 <<< (x6 &&& 31) : Int32), .int (-1)]))]), 0, 0) := by
      refine me (d := 8) g_X3_lift (Nat.le_of_ble_eq_true rfl) ?_
      refine rr rfl (s_aload_n rfl) ?_
      refine rr rfl (s_getf rfl rfl) ?_
      refine rr rfl (s_ifT (ic_eq g3)) ?_
      refine rr rfl (s_aload_n rfl) ?_
      refine rr rfl (s_getf rfl rfl) ?_
      refine rr rfl (s_aload_n rfl) ?_
      refine rr rfl (s_getf rfl rfl) ?_
      refine rr rfl (s_ialdR (n := 8) (x := 0) rfl g4 g5) ?_
      refine rr rfl (s_aload_n rfl) ?_
      refine rr rfl (s_getf rfl rfl) ?_
      refine rr rfl (s_aload_n rfl) ?_
      refine rr rfl (s_getf rfl rfl) ?_
      refine rr rfl (s_ialdR (n := 8) (x := 0) rfl g6 g7) ?_
      refine rr rfl (s_max (v := 0) rfl (Nat.le_of_ble_eq_true rfl) (by decide)) ?_
      refine rr rfl (s_istore_n rfl) ?_
      refine rr rfl (s_aload_n rfl) ?_
      refine rr rfl (s_getf rfl rfl) ?_
      refine rr rfl (s_iconst (v := (-1)) (by decide)) ?_
      refine rr rfl (s_icF (ic_neq g2)) ?_
      refine rr rfl (s_iload_n rfl) ?_
      refine rr rfl (s_aload_n rfl) ?_
      refine rr rfl (s_getf rfl rfl) ?_
      refine rr rfl (s_aload_n rfl) ?_
      refine rr rfl (s_getf rfl rfl) ?_
      refine rr rfl (s_ialdR (n := 8) (x := 0) rfl g8 g9) ?_
      refine rr rfl (s_iconst (v := 1) (by decide)) ?_
      refine rr rfl (s_iadd (v := 1) (by decide)) ?_
      refine rr rfl (s_max (v := 1) rfl (Nat.le_of_ble_eq_true rfl) (by decide)) ?_
      refine rr rfl (s_istore_n rfl) ?_
      refine rr rfl (s_aload_n rfl) ?_
      refine rr rfl (s_getf rfl rfl) ?_
      refine rr rfl (s_aload_n rfl) ?_
      refine rr rfl (s_getf rfl rfl) ?_
      refine rr rfl (s_ialdR (n := 8) (x := 0) rfl g10 g11) ?_
      refine rr rfl (s_iload_n rfl) ?_
      refine rr rfl (s_icT (by decide)) ?_
      refine rr rfl (s_aload_n rfl) ?_
      refine rr rfl (s_getf rfl rfl) ?_
      refine rr rfl (s_aload_n rfl) ?_
      refine rr rfl (s_getf rfl rfl) ?_
      refine rr rfl (s_iload_n rfl) ?_
      refine rr rfl (s_iastR (n := 8) rfl g10 g11 (Nat.le_of_ble_eq_true rfl) rfl (h' := ((hF.set 5 (.inl ((List.replicate 8 (0 : Int32)).set (Int32.toNatClampNeg x3) 1))) ++ [.inr (.inr (2, [.int x1, .int x2, .int x3, .int x4, .int x5, .int x6, .int x7, .int ((1 <<< (x4 &&& 31) : Int32) ||| (1 <<< (x5 &&& 31) : Int32)), .int (1 <<< (x6 &&& 31) : Int32), .int (-1)]))]))) ?_
      refine rr rfl (s_iconst (v := 1) (by decide)) ?_
      exact rrt rfl rfl rfl rfl
    refine rrc rfl rfl rfl (do_of g_X3_lift rfl rfl e4) ?_
    refine rr rfl (s_istore_n rfl) ?_
    refine rr rfl (s_iconst (v := 0) (by decide)) ?_
    refine rr rfl (s_istore rfl) ?_
    refine rr rfl (s_iload rfl) ?_
    refine rr rfl (s_aload_n rfl) ?_
    refine rr rfl (s_getf rfl rfl) ?_
    have e5 : a_m MT [] 100000 9 miJx4a65c_size_8abf5 [.ref 3] ((hF.set 5 (.inl ((List.replicate 8 (0 : Int32)).set (Int32.toNatClampNeg x3) 1))) ++ [.inr (.inr (2, [.int x1, .int x2, .int x3, .int x4, .int x5, .int x6, .int x7, .int ((1 <<< (x4 &&& 31) : Int32) ||| (1 <<< (x5 &&& 31) : Int32)), .int (1 <<< (x6 &&& 31) : Int32), .int (-1)]))]) = some ((some (.int 0)), ((hF.set 5 (.inl ((List.replicate 8 (0 : Int32)).set (Int32.toNatClampNeg x3) 1))) ++ [.inr (.inr (2, [.int x1, .int x2, .int x3, .int x4, .int x5, .int x6, .int x7, .int ((1 <<< (x4 &&& 31) : Int32) ||| (1 <<< (x5 &&& 31) : Int32)), .int (1 <<< (x6 &&& 31) : Int32), .int (-1)]))]), 0, 0) := by
      refine me (d := 8) g_Jx4a65c_size_8abf5 (Nat.le_of_ble_eq_true rfl) ?_
      refine rr rfl (s_aload_n rfl) ?_
      refine rr rfl (s_getf rfl rfl) ?_
      exact rrt rfl rfl rfl rfl
    refine rrc rfl rfl rfl (do_of g_Jx4a65c_size_8abf5 rfl rfl e5) ?_
    refine rr rfl (s_icT (by decide)) ?_
    refine rr rfl (s_iinc (v := 1) rfl (by decide) rfl) ?_
    refine rr rfl s_goto ?_
    refine rr rfl (s_iload_n rfl) ?_
    refine rr rfl (s_ifF (by decide)) ?_
    refine rr rfl (s_iload_n rfl) ?_
    refine rr rfl (s_bipush (v := 8) (by decide)) ?_
    refine rr rfl (s_icF (by decide)) ?_
    refine rr rfl (s_aload_n rfl) ?_
    refine rr rfl (s_aload_n rfl) ?_
    have e6 : a_m MT [] 100000 9 miX3_lift [.ref 2, .ref 61] ((hF.set 5 (.inl ((List.replicate 8 (0 : Int32)).set (Int32.toNatClampNeg x3) 1))) ++ [.inr (.inr (2, [.int x1, .int x2, .int x3, .int x4, .int x5, .int x6, .int x7, .int ((1 <<< (x4 &&& 31) : Int32) ||| (1 <<< (x5 &&& 31) : Int32)), .int (1 <<< (x6 &&& 31) : Int32), .int (-1)]))]) = some ((some (.int 0)), ((hF.set 5 (.inl ((List.replicate 8 (0 : Int32)).set (Int32.toNatClampNeg x3) 1))) ++ [.inr (.inr (2, [.int x1, .int x2, .int x3, .int x4, .int x5, .int x6, .int x7, .int ((1 <<< (x4 &&& 31) : Int32) ||| (1 <<< (x5 &&& 31) : Int32)), .int (1 <<< (x6 &&& 31) : Int32), .int (-1)]))]), 0, 0) := by
      refine me (d := 8) g_X3_lift (Nat.le_of_ble_eq_true rfl) ?_
      refine rr rfl (s_aload_n rfl) ?_
      refine rr rfl (s_getf rfl rfl) ?_
      refine rr rfl (s_ifT (ic_eq g3)) ?_
      refine rr rfl (s_aload_n rfl) ?_
      refine rr rfl (s_getf rfl rfl) ?_
      refine rr rfl (s_aload_n rfl) ?_
      refine rr rfl (s_getf rfl rfl) ?_
      refine rr rfl (s_ialdN rfl g12 g4 g5 g10) ?_
      refine rr rfl (s_aload_n rfl) ?_
      refine rr rfl (s_getf rfl rfl) ?_
      refine rr rfl (s_aload_n rfl) ?_
      refine rr rfl (s_getf rfl rfl) ?_
      refine rr rfl (s_ialdH rfl g13 g10 g11) ?_
      refine rr rfl (s_max (v := 1) rfl (Nat.le_of_ble_eq_true rfl) (by decide)) ?_
      refine rr rfl (s_istore_n rfl) ?_
      refine rr rfl (s_aload_n rfl) ?_
      refine rr rfl (s_getf rfl rfl) ?_
      refine rr rfl (s_iconst (v := (-1)) (by decide)) ?_
      refine rr rfl (s_icF (ic_neq g2)) ?_
      refine rr rfl (s_iload_n rfl) ?_
      refine rr rfl (s_aload_n rfl) ?_
      refine rr rfl (s_getf rfl rfl) ?_
      refine rr rfl (s_aload_n rfl) ?_
      refine rr rfl (s_getf rfl rfl) ?_
      refine rr rfl (s_ialdN rfl g14 g8 g9 g10) ?_
      refine rr rfl (s_iconst (v := 1) (by decide)) ?_
      refine rr rfl (s_iadd (v := 1) (by decide)) ?_
      refine rr rfl (s_max (v := 1) rfl (Nat.le_of_ble_eq_true rfl) (by decide)) ?_
      refine rr rfl (s_istore_n rfl) ?_
      refine rr rfl (s_aload_n rfl) ?_
      refine rr rfl (s_getf rfl rfl) ?_
      refine rr rfl (s_aload_n rfl) ?_
      refine rr rfl (s_getf rfl rfl) ?_
      refine rr rfl (s_ialdH rfl rfl g10 g11) ?_
      refine rr rfl (s_iload_n rfl) ?_
      refine rr rfl (s_icF (by decide)) ?_
      refine rr rfl (s_iconst (v := 0) (by decide)) ?_
      exact rrt rfl rfl rfl rfl
    refine rrc rfl rfl rfl (do_of g_X3_lift rfl rfl e6) ?_
    refine rr rfl (s_istore_n rfl) ?_
    refine rr rfl (s_iconst (v := 0) (by decide)) ?_
    refine rr rfl (s_istore rfl) ?_
    refine rr rfl (s_iload rfl) ?_
    refine rr rfl (s_aload_n rfl) ?_
    refine rr rfl (s_getf rfl rfl) ?_
    have e7 : a_m MT [] 100000 9 miJx4a65c_size_8abf5 [.ref 3] ((hF.set 5 (.inl ((List.replicate 8 (0 : Int32)).set (Int32.toNatClampNeg x3) 1))) ++ [.inr (.inr (2, [.int x1, .int x2, .int x3, .int x4, .int x5, .int x6, .int x7, .int ((1 <<< (x4 &&& 31) : Int32) ||| (1 <<< (x5 &&& 31) : Int32)), .int (1 <<< (x6 &&& 31) : Int32), .int (-1)]))]) = some ((some (.int 0)), ((hF.set 5 (.inl ((List.replicate 8 (0 : Int32)).set (Int32.toNatClampNeg x3) 1))) ++ [.inr (.inr (2, [.int x1, .int x2, .int x3, .int x4, .int x5, .int x6, .int x7, .int ((1 <<< (x4 &&& 31) : Int32) ||| (1 <<< (x5 &&& 31) : Int32)), .int (1 <<< (x6 &&& 31) : Int32), .int (-1)]))]), 0, 0) := by
      refine me (d := 8) g_Jx4a65c_size_8abf5 (Nat.le_of_ble_eq_true rfl) ?_
      refine rr rfl (s_aload_n rfl) ?_
      refine rr rfl (s_getf rfl rfl) ?_
      exact rrt rfl rfl rfl rfl
    refine rrc rfl rfl rfl (do_of g_Jx4a65c_size_8abf5 rfl rfl e7) ?_
    refine rr rfl (s_icT (by decide)) ?_
    refine rr rfl (s_iinc (v := 2) rfl (by decide) rfl) ?_
    refine rr rfl s_goto ?_
    refine rr rfl (s_iload_n rfl) ?_
    refine rr rfl (s_ifT (by decide)) ?_
    refine rr rfl (s_iload_n rfl) ?_
    refine rr rfl (s_ifF (by decide)) ?_
    refine rr rfl (s_iconst (v := 1) (by decide)) ?_
    refine rr rfl s_goto ?_
    exact rrt rfl rfl rfl rfl
  refine rrc rfl rfl rfl (do_of g_X3_hasLayersWith rfl rfl e2) ?_
  refine rr rfl (s_ifT (by decide)) ?_
  refine rr rfl (s_aload_n rfl) ?_
  refine rr rfl (s_getf rfl rfl) ?_
  refine rr rfl (s_getf rfl rfl) ?_
  refine rr rfl (s_getf rfl rfl) ?_
  have e8 : a_m MT [] 100000 10 miJx4a65c_size_8abf5 [.ref 3] ((hF.set 5 (.inl ((List.replicate 8 (0 : Int32)).set (Int32.toNatClampNeg x3) 1))) ++ [.inr (.inr (2, [.int x1, .int x2, .int x3, .int x4, .int x5, .int x6, .int x7, .int ((1 <<< (x4 &&& 31) : Int32) ||| (1 <<< (x5 &&& 31) : Int32)), .int (1 <<< (x6 &&& 31) : Int32), .int (-1)]))]) = some ((some (.int 0)), ((hF.set 5 (.inl ((List.replicate 8 (0 : Int32)).set (Int32.toNatClampNeg x3) 1))) ++ [.inr (.inr (2, [.int x1, .int x2, .int x3, .int x4, .int x5, .int x6, .int x7, .int ((1 <<< (x4 &&& 31) : Int32) ||| (1 <<< (x5 &&& 31) : Int32)), .int (1 <<< (x6 &&& 31) : Int32), .int (-1)]))]), 0, 0) := by
    refine me (d := 9) g_Jx4a65c_size_8abf5 (Nat.le_of_ble_eq_true rfl) ?_
    refine rr rfl (s_aload_n rfl) ?_
    refine rr rfl (s_getf rfl rfl) ?_
    exact rrt rfl rfl rfl rfl
  refine rrc rfl rfl rfl (do_of g_Jx4a65c_size_8abf5 rfl rfl e8) ?_
  refine rr rfl (s_bipush (v := 12) (by decide)) ?_
  refine rr rfl (s_icT (by decide)) ?_
  refine rr rfl (s_aload_n rfl) ?_
  refine rr rfl (s_getf rfl rfl) ?_
  refine rr rfl (s_getf rfl rfl) ?_
  refine rr rfl (s_aload rfl) ?_
  have e9 : a_m MT [] 100000 10 miX3_take [.ref 2, .ref 61] ((hF.set 5 (.inl ((List.replicate 8 (0 : Int32)).set (Int32.toNatClampNeg x3) 1))) ++ [.inr (.inr (2, [.int x1, .int x2, .int x3, .int x4, .int x5, .int x6, .int x7, .int ((1 <<< (x4 &&& 31) : Int32) ||| (1 <<< (x5 &&& 31) : Int32)), .int (1 <<< (x6 &&& 31) : Int32), .int (-1)]))]) = some (none, ((((hF.set 3 (.inr (.inr (0, [.int 1, .ref 62, .int 1])))).set 4 (.inl ((List.replicate 8 (0 : Int32)).set (Int32.toNatClampNeg x3) 1))).set 5 (.inl ((List.replicate 8 (0 : Int32)).set (Int32.toNatClampNeg x3) 1))) ++ [.inr (.inr (2, [.int x1, .int x2, .int x3, .int x4, .int x5, .int x6, .int x7, .int ((1 <<< (x4 &&& 31) : Int32) ||| (1 <<< (x5 &&& 31) : Int32)), .int (1 <<< (x6 &&& 31) : Int32), .int (-1)])), .inr (.inl [some 61, none, none, none, none, none, none, none, none, none])]), 1, 10) := by
    refine me (d := 9) g_X3_take (Nat.le_of_ble_eq_true rfl) ?_
    refine rr rfl (s_aload_n rfl) ?_
    refine rr rfl (s_getf rfl rfl) ?_
    refine rr rfl (s_aload_n rfl) ?_
    have e10 : a_m MT [] 100000 9 miJx4a65c_add_9ea2d [.ref 3, .ref 61] ((hF.set 5 (.inl ((List.replicate 8 (0 : Int32)).set (Int32.toNatClampNeg x3) 1))) ++ [.inr (.inr (2, [.int x1, .int x2, .int x3, .int x4, .int x5, .int x6, .int x7, .int ((1 <<< (x4 &&& 31) : Int32) ||| (1 <<< (x5 &&& 31) : Int32)), .int (1 <<< (x6 &&& 31) : Int32), .int (-1)]))]) = some ((some (.int 1)), (((hF.set 3 (.inr (.inr (0, [.int 1, .ref 62, .int 1])))).set 5 (.inl ((List.replicate 8 (0 : Int32)).set (Int32.toNatClampNeg x3) 1))) ++ [.inr (.inr (2, [.int x1, .int x2, .int x3, .int x4, .int x5, .int x6, .int x7, .int ((1 <<< (x4 &&& 31) : Int32) ||| (1 <<< (x5 &&& 31) : Int32)), .int (1 <<< (x6 &&& 31) : Int32), .int (-1)])), .inr (.inl [some 61, none, none, none, none, none, none, none, none, none])]), 1, 10) := by
      refine me (d := 8) g_Jx4a65c_add_9ea2d (Nat.le_of_ble_eq_true rfl) ?_
      refine rr rfl (s_aload_n rfl) ?_
      refine rr rfl rfl ?_
      refine rr rfl (s_getf rfl rfl) ?_
      refine rr rfl (s_iconst (v := 1) (by decide)) ?_
      refine rr rfl (s_iadd (v := 1) (by decide)) ?_
      refine rr rfl (s_putf rfl rfl (Nat.le_of_ble_eq_true rfl) rfl (Nat.le_of_ble_eq_true rfl) rfl (h' := (((hF.set 3 (.inr (.inr (0, [.int 1, .long 0, .int 0])))).set 5 (.inl ((List.replicate 8 (0 : Int32)).set (Int32.toNatClampNeg x3) 1))) ++ [.inr (.inr (2, [.int x1, .int x2, .int x3, .int x4, .int x5, .int x6, .int x7, .int ((1 <<< (x4 &&& 31) : Int32) ||| (1 <<< (x5 &&& 31) : Int32)), .int (1 <<< (x6 &&& 31) : Int32), .int (-1)]))]))) ?_
      refine rr rfl (s_aload_n rfl) ?_
      refine rr rfl (s_aload_n rfl) ?_
      refine rr rfl (s_aload_n rfl) ?_
      refine rr rfl (s_getf rfl rfl) ?_
      refine rr rfl (s_aload_n rfl) ?_
      refine rr rfl (s_getf rfl rfl) ?_
      have e11 : a_m MT [] 100000 8 miJx4a65c_add_72be8 [.ref 3, .ref 61, .long 0, .int 0] (((hF.set 3 (.inr (.inr (0, [.int 1, .long 0, .int 0])))).set 5 (.inl ((List.replicate 8 (0 : Int32)).set (Int32.toNatClampNeg x3) 1))) ++ [.inr (.inr (2, [.int x1, .int x2, .int x3, .int x4, .int x5, .int x6, .int x7, .int ((1 <<< (x4 &&& 31) : Int32) ||| (1 <<< (x5 &&& 31) : Int32)), .int (1 <<< (x6 &&& 31) : Int32), .int (-1)]))]) = some (none, (((hF.set 3 (.inr (.inr (0, [.int 1, .ref 62, .int 1])))).set 5 (.inl ((List.replicate 8 (0 : Int32)).set (Int32.toNatClampNeg x3) 1))) ++ [.inr (.inr (2, [.int x1, .int x2, .int x3, .int x4, .int x5, .int x6, .int x7, .int ((1 <<< (x4 &&& 31) : Int32) ||| (1 <<< (x5 &&& 31) : Int32)), .int (1 <<< (x6 &&& 31) : Int32), .int (-1)])), .inr (.inl [some 61, none, none, none, none, none, none, none, none, none])]), 1, 10) := by
        refine me (d := 7) g_Jx4a65c_add_72be8 (Nat.le_of_ble_eq_true rfl) ?_
        refine rr rfl (s_iload_n rfl) ?_
        refine rr rfl (s_aloadL rfl) ?_
        refine rr rfl (s_alen0) ?_
        refine rr rfl (s_icF (by decide)) ?_
        refine rr rfl (s_aload_n rfl) ?_
        have e12 : a_m MT [] 100000 7 miJx4a65c_grow_d5877 [.ref 3] (((hF.set 3 (.inr (.inr (0, [.int 1, .long 0, .int 0])))).set 5 (.inl ((List.replicate 8 (0 : Int32)).set (Int32.toNatClampNeg x3) 1))) ++ [.inr (.inr (2, [.int x1, .int x2, .int x3, .int x4, .int x5, .int x6, .int x7, .int ((1 <<< (x4 &&& 31) : Int32) ||| (1 <<< (x5 &&& 31) : Int32)), .int (1 <<< (x6 &&& 31) : Int32), .int (-1)]))]) = some ((some (.ref 62)), (((hF.set 3 (.inr (.inr (0, [.int 1, .ref 62, .int 0])))).set 5 (.inl ((List.replicate 8 (0 : Int32)).set (Int32.toNatClampNeg x3) 1))) ++ [.inr (.inr (2, [.int x1, .int x2, .int x3, .int x4, .int x5, .int x6, .int x7, .int ((1 <<< (x4 &&& 31) : Int32) ||| (1 <<< (x5 &&& 31) : Int32)), .int (1 <<< (x6 &&& 31) : Int32), .int (-1)])), .inr (.inl (List.replicate 10 none))]), 1, 10) := by
          refine me (d := 6) g_Jx4a65c_grow_d5877 (Nat.le_of_ble_eq_true rfl) ?_
          refine rr rfl (s_aload_n rfl) ?_
          refine rr rfl (s_aload_n rfl) ?_
          refine rr rfl (s_getf rfl rfl) ?_
          refine rr rfl (s_iconst (v := 1) (by decide)) ?_
          refine rr rfl (s_iadd (v := 1) (by decide)) ?_
          have e13 : a_m MT [] 100000 6 miJx4a65c_grow_92f84 [.ref 3, .int 1] (((hF.set 3 (.inr (.inr (0, [.int 1, .long 0, .int 0])))).set 5 (.inl ((List.replicate 8 (0 : Int32)).set (Int32.toNatClampNeg x3) 1))) ++ [.inr (.inr (2, [.int x1, .int x2, .int x3, .int x4, .int x5, .int x6, .int x7, .int ((1 <<< (x4 &&& 31) : Int32) ||| (1 <<< (x5 &&& 31) : Int32)), .int (1 <<< (x6 &&& 31) : Int32), .int (-1)]))]) = some ((some (.ref 62)), (((hF.set 3 (.inr (.inr (0, [.int 1, .ref 62, .int 0])))).set 5 (.inl ((List.replicate 8 (0 : Int32)).set (Int32.toNatClampNeg x3) 1))) ++ [.inr (.inr (2, [.int x1, .int x2, .int x3, .int x4, .int x5, .int x6, .int x7, .int ((1 <<< (x4 &&& 31) : Int32) ||| (1 <<< (x5 &&& 31) : Int32)), .int (1 <<< (x6 &&& 31) : Int32), .int (-1)])), .inr (.inl (List.replicate 10 none))]), 1, 10) := by
            refine me (d := 5) g_Jx4a65c_grow_92f84 (Nat.le_of_ble_eq_true rfl) ?_
            refine rr rfl (s_aload_n rfl) ?_
            refine rr rfl (s_getf rfl rfl) ?_
            refine rr rfl (s_alen0) ?_
            refine rr rfl (s_istore_n rfl) ?_
            refine rr rfl (s_iload_n rfl) ?_
            refine rr rfl (s_ifF (by decide)) ?_
            refine rr rfl (s_aload_n rfl) ?_
            refine rr rfl (s_getf rfl rfl) ?_
            refine rr rfl rfl ?_
            refine rr rfl rfl ?_
            refine rr rfl (s_aload_n rfl) ?_
            refine rr rfl (s_bipush (v := 10) (by decide)) ?_
            refine rr rfl (s_iload_n rfl) ?_
            refine rr rfl (s_max (v := 10) rfl (Nat.le_of_ble_eq_true rfl) (by decide)) ?_
            refine rr rfl (s_anew (q := 62) (j := 10) rfl rfl rfl rfl (h' := (((hF.set 3 (.inr (.inr (0, [.int 1, .long 0, .int 0])))).set 5 (.inl ((List.replicate 8 (0 : Int32)).set (Int32.toNatClampNeg x3) 1))) ++ [.inr (.inr (2, [.int x1, .int x2, .int x3, .int x4, .int x5, .int x6, .int x7, .int ((1 <<< (x4 &&& 31) : Int32) ||| (1 <<< (x5 &&& 31) : Int32)), .int (1 <<< (x6 &&& 31) : Int32), .int (-1)])), .inr (.inl (List.replicate 10 none))]))) ?_
            refine rr rfl rfl ?_
            refine rr rfl (s_putf rfl rfl (Nat.le_of_ble_eq_true rfl) rfl (Nat.le_of_ble_eq_true rfl) rfl (h' := (((hF.set 3 (.inr (.inr (0, [.int 1, .ref 62, .int 0])))).set 5 (.inl ((List.replicate 8 (0 : Int32)).set (Int32.toNatClampNeg x3) 1))) ++ [.inr (.inr (2, [.int x1, .int x2, .int x3, .int x4, .int x5, .int x6, .int x7, .int ((1 <<< (x4 &&& 31) : Int32) ||| (1 <<< (x5 &&& 31) : Int32)), .int (1 <<< (x6 &&& 31) : Int32), .int (-1)])), .inr (.inl (List.replicate 10 none))]))) ?_
            exact rrt rfl rfl rfl rfl
          refine rrc rfl rfl rfl (do_of g_Jx4a65c_grow_92f84 rfl rfl e13) ?_
          exact rrt rfl rfl rfl rfl
        refine rrc rfl rfl rfl (do_of g_Jx4a65c_grow_d5877 rfl rfl e12) ?_
        refine rr rfl (s_astore_n rfl) ?_
        refine rr rfl (s_aload_n rfl) ?_
        refine rr rfl (s_iload_n rfl) ?_
        refine rr rfl (s_aload_n rfl) ?_
        refine rr rfl (s_aastore (j := 0) rfl rfl rfl (Nat.le_of_ble_eq_true rfl) rfl (Nat.le_of_ble_eq_true rfl) rfl (h' := (((hF.set 3 (.inr (.inr (0, [.int 1, .ref 62, .int 0])))).set 5 (.inl ((List.replicate 8 (0 : Int32)).set (Int32.toNatClampNeg x3) 1))) ++ [.inr (.inr (2, [.int x1, .int x2, .int x3, .int x4, .int x5, .int x6, .int x7, .int ((1 <<< (x4 &&& 31) : Int32) ||| (1 <<< (x5 &&& 31) : Int32)), .int (1 <<< (x6 &&& 31) : Int32), .int (-1)])), .inr (.inl [some 61, none, none, none, none, none, none, none, none, none])]))) ?_
        refine rr rfl (s_aload_n rfl) ?_
        refine rr rfl (s_iload_n rfl) ?_
        refine rr rfl (s_iconst (v := 1) (by decide)) ?_
        refine rr rfl (s_iadd (v := 1) (by decide)) ?_
        refine rr rfl (s_putf rfl rfl (Nat.le_of_ble_eq_true rfl) rfl (Nat.le_of_ble_eq_true rfl) rfl (h' := (((hF.set 3 (.inr (.inr (0, [.int 1, .ref 62, .int 1])))).set 5 (.inl ((List.replicate 8 (0 : Int32)).set (Int32.toNatClampNeg x3) 1))) ++ [.inr (.inr (2, [.int x1, .int x2, .int x3, .int x4, .int x5, .int x6, .int x7, .int ((1 <<< (x4 &&& 31) : Int32) ||| (1 <<< (x5 &&& 31) : Int32)), .int (1 <<< (x6 &&& 31) : Int32), .int (-1)])), .inr (.inl [some 61, none, none, none, none, none, none, none, none, none])]))) ?_
        exact rrt rfl rfl rfl rfl
      refine rrc rfl rfl rfl (do_of g_Jx4a65c_add_72be8 rfl rfl e11) ?_
      refine rr rfl (s_iconst (v := 1) (by decide)) ?_
      exact rrt rfl rfl rfl rfl
    refine rrc rfl rfl rfl (do_of g_Jx4a65c_add_9ea2d rfl rfl e10) ?_
    refine rr rfl rfl ?_
    refine rr rfl (s_aload_n rfl) ?_
    refine rr rfl (s_getf rfl rfl) ?_
    refine rr rfl (s_iconst (v := 0) (by decide)) ?_
    refine rr rfl (s_aload_n rfl) ?_
    refine rr rfl (s_getf rfl rfl) ?_
    refine rr rfl (s_iconst (v := 0) (by decide)) ?_
    refine rr rfl (s_bipush (v := 8) (by decide)) ?_
    refine rr rfl (s_copy8 rfl (Nat.le_of_ble_eq_true rfl) rfl rfl (by simp) rfl (Nat.le_of_ble_eq_true rfl) rfl (h' := ((((hF.set 3 (.inr (.inr (0, [.int 1, .ref 62, .int 1])))).set 4 (.inl ((List.replicate 8 (0 : Int32)).set (Int32.toNatClampNeg x3) 1))).set 5 (.inl ((List.replicate 8 (0 : Int32)).set (Int32.toNatClampNeg x3) 1))) ++ [.inr (.inr (2, [.int x1, .int x2, .int x3, .int x4, .int x5, .int x6, .int x7, .int ((1 <<< (x4 &&& 31) : Int32) ||| (1 <<< (x5 &&& 31) : Int32)), .int (1 <<< (x6 &&& 31) : Int32), .int (-1)])), .inr (.inl [some 61, none, none, none, none, none, none, none, none, none])]))) ?_
    exact rrt rfl rfl rfl rfl
  refine rrc rfl rfl rfl (do_of g_X3_take rfl rfl e9) ?_
  refine rr rfl (s_aload_n rfl) ?_
  have e14 : a_m MT [] 100000 10 miX8_forgetRules [.ref 0] ((((hF.set 3 (.inr (.inr (0, [.int 1, .ref 62, .int 1])))).set 4 (.inl ((List.replicate 8 (0 : Int32)).set (Int32.toNatClampNeg x3) 1))).set 5 (.inl ((List.replicate 8 (0 : Int32)).set (Int32.toNatClampNeg x3) 1))) ++ [.inr (.inr (2, [.int x1, .int x2, .int x3, .int x4, .int x5, .int x6, .int x7, .int ((1 <<< (x4 &&& 31) : Int32) ||| (1 <<< (x5 &&& 31) : Int32)), .int (1 <<< (x6 &&& 31) : Int32), .int (-1)])), .inr (.inl [some 61, none, none, none, none, none, none, none, none, none])]) = some (none, (((((hF.set 3 (.inr (.inr (0, [.int 1, .ref 62, .int 1])))).set 4 (.inl ((List.replicate 8 (0 : Int32)).set (Int32.toNatClampNeg x3) 1))).set 5 (.inl ((List.replicate 8 (0 : Int32)).set (Int32.toNatClampNeg x3) 1))).set 6 (.inr (.inr (6, [.ref 2, .ref 7, .ref 8, .ref 9, .int 1])))) ++ [.inr (.inr (2, [.int x1, .int x2, .int x3, .int x4, .int x5, .int x6, .int x7, .int ((1 <<< (x4 &&& 31) : Int32) ||| (1 <<< (x5 &&& 31) : Int32)), .int (1 <<< (x6 &&& 31) : Int32), .int (-1)])), .inr (.inl [some 61, none, none, none, none, none, none, none, none, none])]), 0, 0) := by
    refine me (d := 9) g_X8_forgetRules (Nat.le_of_ble_eq_true rfl) ?_
    refine rr rfl (s_aload_n rfl) ?_
    refine rr rfl (s_getf rfl rfl) ?_
    refine rr rfl (s_getf rfl rfl) ?_
    refine rr rfl (s_aload_n rfl) ?_
    refine rr rfl (s_getf rfl rfl) ?_
    refine rr rfl (s_getf rfl rfl) ?_
    have e15 : a_m MT [] 100000 9 miX3_notSpare [.ref 2] ((((hF.set 3 (.inr (.inr (0, [.int 1, .ref 62, .int 1])))).set 4 (.inl ((List.replicate 8 (0 : Int32)).set (Int32.toNatClampNeg x3) 1))).set 5 (.inl ((List.replicate 8 (0 : Int32)).set (Int32.toNatClampNeg x3) 1))) ++ [.inr (.inr (2, [.int x1, .int x2, .int x3, .int x4, .int x5, .int x6, .int x7, .int ((1 <<< (x4 &&& 31) : Int32) ||| (1 <<< (x5 &&& 31) : Int32)), .int (1 <<< (x6 &&& 31) : Int32), .int (-1)])), .inr (.inl [some 61, none, none, none, none, none, none, none, none, none])]) = some ((some (.int 1)), ((((hF.set 3 (.inr (.inr (0, [.int 1, .ref 62, .int 1])))).set 4 (.inl ((List.replicate 8 (0 : Int32)).set (Int32.toNatClampNeg x3) 1))).set 5 (.inl ((List.replicate 8 (0 : Int32)).set (Int32.toNatClampNeg x3) 1))) ++ [.inr (.inr (2, [.int x1, .int x2, .int x3, .int x4, .int x5, .int x6, .int x7, .int ((1 <<< (x4 &&& 31) : Int32) ||| (1 <<< (x5 &&& 31) : Int32)), .int (1 <<< (x6 &&& 31) : Int32), .int (-1)])), .inr (.inl [some 61, none, none, none, none, none, none, none, none, none])]), 0, 0) := by
      refine me (d := 8) g_X3_notSpare (Nat.le_of_ble_eq_true rfl) ?_
      refine rr rfl (s_iconst (v := 0) (by decide)) ?_
      refine rr rfl (s_istore_n rfl) ?_
      refine rr rfl (s_iconst (v := 0) (by decide)) ?_
      refine rr rfl (s_istore_n rfl) ?_
      refine rr rfl (s_iload_n rfl) ?_
      refine rr rfl (s_aload_n rfl) ?_
      refine rr rfl (s_getf rfl rfl) ?_
      have e16 : a_m MT [] 100000 8 miJx4a65c_size_8abf5 [.ref 3] ((((hF.set 3 (.inr (.inr (0, [.int 1, .ref 62, .int 1])))).set 4 (.inl ((List.replicate 8 (0 : Int32)).set (Int32.toNatClampNeg x3) 1))).set 5 (.inl ((List.replicate 8 (0 : Int32)).set (Int32.toNatClampNeg x3) 1))) ++ [.inr (.inr (2, [.int x1, .int x2, .int x3, .int x4, .int x5, .int x6, .int x7, .int ((1 <<< (x4 &&& 31) : Int32) ||| (1 <<< (x5 &&& 31) : Int32)), .int (1 <<< (x6 &&& 31) : Int32), .int (-1)])), .inr (.inl [some 61, none, none, none, none, none, none, none, none, none])]) = some ((some (.int 1)), ((((hF.set 3 (.inr (.inr (0, [.int 1, .ref 62, .int 1])))).set 4 (.inl ((List.replicate 8 (0 : Int32)).set (Int32.toNatClampNeg x3) 1))).set 5 (.inl ((List.replicate 8 (0 : Int32)).set (Int32.toNatClampNeg x3) 1))) ++ [.inr (.inr (2, [.int x1, .int x2, .int x3, .int x4, .int x5, .int x6, .int x7, .int ((1 <<< (x4 &&& 31) : Int32) ||| (1 <<< (x5 &&& 31) : Int32)), .int (1 <<< (x6 &&& 31) : Int32), .int (-1)])), .inr (.inl [some 61, none, none, none, none, none, none, none, none, none])]), 0, 0) := by
        refine me (d := 7) g_Jx4a65c_size_8abf5 (Nat.le_of_ble_eq_true rfl) ?_
        refine rr rfl (s_aload_n rfl) ?_
        refine rr rfl (s_getf rfl rfl) ?_
        exact rrt rfl rfl rfl rfl
      refine rrc rfl rfl rfl (do_of g_Jx4a65c_size_8abf5 rfl rfl e16) ?_
      refine rr rfl (s_icF (by decide)) ?_
      refine rr rfl (s_aload_n rfl) ?_
      refine rr rfl (s_getf rfl rfl) ?_
      refine rr rfl (s_iload_n rfl) ?_
      have e17 : a_m MT [] 100000 8 miJx4a65c_get_915e3 [.ref 3, .int 0] ((((hF.set 3 (.inr (.inr (0, [.int 1, .ref 62, .int 1])))).set 4 (.inl ((List.replicate 8 (0 : Int32)).set (Int32.toNatClampNeg x3) 1))).set 5 (.inl ((List.replicate 8 (0 : Int32)).set (Int32.toNatClampNeg x3) 1))) ++ [.inr (.inr (2, [.int x1, .int x2, .int x3, .int x4, .int x5, .int x6, .int x7, .int ((1 <<< (x4 &&& 31) : Int32) ||| (1 <<< (x5 &&& 31) : Int32)), .int (1 <<< (x6 &&& 31) : Int32), .int (-1)])), .inr (.inl [some 61, none, none, none, none, none, none, none, none, none])]) = some ((some (.ref 61)), ((((hF.set 3 (.inr (.inr (0, [.int 1, .ref 62, .int 1])))).set 4 (.inl ((List.replicate 8 (0 : Int32)).set (Int32.toNatClampNeg x3) 1))).set 5 (.inl ((List.replicate 8 (0 : Int32)).set (Int32.toNatClampNeg x3) 1))) ++ [.inr (.inr (2, [.int x1, .int x2, .int x3, .int x4, .int x5, .int x6, .int x7, .int ((1 <<< (x4 &&& 31) : Int32) ||| (1 <<< (x5 &&& 31) : Int32)), .int (1 <<< (x6 &&& 31) : Int32), .int (-1)])), .inr (.inl [some 61, none, none, none, none, none, none, none, none, none])]), 0, 0) := by
        refine me (d := 7) g_Jx4a65c_get_915e3 (Nat.le_of_ble_eq_true rfl) ?_
        refine rr rfl (s_iload_n rfl) ?_
        refine rr rfl (s_aload_n rfl) ?_
        refine rr rfl (s_getf rfl rfl) ?_
        have e18 : a_m MT [] 100000 7 miJ15_checkIndex_7cf53 [.int 0, .int 1] ((((hF.set 3 (.inr (.inr (0, [.int 1, .ref 62, .int 1])))).set 4 (.inl ((List.replicate 8 (0 : Int32)).set (Int32.toNatClampNeg x3) 1))).set 5 (.inl ((List.replicate 8 (0 : Int32)).set (Int32.toNatClampNeg x3) 1))) ++ [.inr (.inr (2, [.int x1, .int x2, .int x3, .int x4, .int x5, .int x6, .int x7, .int ((1 <<< (x4 &&& 31) : Int32) ||| (1 <<< (x5 &&& 31) : Int32)), .int (1 <<< (x6 &&& 31) : Int32), .int (-1)])), .inr (.inl [some 61, none, none, none, none, none, none, none, none, none])]) = some ((some (.int 0)), ((((hF.set 3 (.inr (.inr (0, [.int 1, .ref 62, .int 1])))).set 4 (.inl ((List.replicate 8 (0 : Int32)).set (Int32.toNatClampNeg x3) 1))).set 5 (.inl ((List.replicate 8 (0 : Int32)).set (Int32.toNatClampNeg x3) 1))) ++ [.inr (.inr (2, [.int x1, .int x2, .int x3, .int x4, .int x5, .int x6, .int x7, .int ((1 <<< (x4 &&& 31) : Int32) ||| (1 <<< (x5 &&& 31) : Int32)), .int (1 <<< (x6 &&& 31) : Int32), .int (-1)])), .inr (.inl [some 61, none, none, none, none, none, none, none, none, none])]), 0, 0) := by
          refine me (d := 6) g_J15_checkIndex_7cf53 (Nat.le_of_ble_eq_true rfl) ?_
          refine rr rfl (s_iload_n rfl) ?_
          refine rr rfl (s_iload_n rfl) ?_
          refine rr rfl rfl ?_
          have e19 : a_m MT [] 100000 6 miJ3_checkIndex_8e157 [.int 0, .int 1, .null] ((((hF.set 3 (.inr (.inr (0, [.int 1, .ref 62, .int 1])))).set 4 (.inl ((List.replicate 8 (0 : Int32)).set (Int32.toNatClampNeg x3) 1))).set 5 (.inl ((List.replicate 8 (0 : Int32)).set (Int32.toNatClampNeg x3) 1))) ++ [.inr (.inr (2, [.int x1, .int x2, .int x3, .int x4, .int x5, .int x6, .int x7, .int ((1 <<< (x4 &&& 31) : Int32) ||| (1 <<< (x5 &&& 31) : Int32)), .int (1 <<< (x6 &&& 31) : Int32), .int (-1)])), .inr (.inl [some 61, none, none, none, none, none, none, none, none, none])]) = some ((some (.int 0)), ((((hF.set 3 (.inr (.inr (0, [.int 1, .ref 62, .int 1])))).set 4 (.inl ((List.replicate 8 (0 : Int32)).set (Int32.toNatClampNeg x3) 1))).set 5 (.inl ((List.replicate 8 (0 : Int32)).set (Int32.toNatClampNeg x3) 1))) ++ [.inr (.inr (2, [.int x1, .int x2, .int x3, .int x4, .int x5, .int x6, .int x7, .int ((1 <<< (x4 &&& 31) : Int32) ||| (1 <<< (x5 &&& 31) : Int32)), .int (1 <<< (x6 &&& 31) : Int32), .int (-1)])), .inr (.inl [some 61, none, none, none, none, none, none, none, none, none])]), 0, 0) := by
            refine me (d := 5) g_J3_checkIndex_8e157 (Nat.le_of_ble_eq_true rfl) ?_
            refine rr rfl (s_iload_n rfl) ?_
            refine rr rfl (s_ifF (by decide)) ?_
            refine rr rfl (s_iload_n rfl) ?_
            refine rr rfl (s_iload_n rfl) ?_
            refine rr rfl (s_icT (by decide)) ?_
            refine rr rfl (s_iload_n rfl) ?_
            exact rrt rfl rfl rfl rfl
          refine rrc rfl rfl rfl (do_of g_J3_checkIndex_8e157 rfl rfl e19) ?_
          exact rrt rfl rfl rfl rfl
        refine rrc rfl rfl rfl (do_of g_J15_checkIndex_7cf53 rfl rfl e18) ?_
        refine rr rfl rfl ?_
        refine rr rfl (s_aload_n rfl) ?_
        refine rr rfl (s_iload_n rfl) ?_
        have e20 : a_m MT [] 100000 7 miJx4a65c_elementData_915e3 [.ref 3, .int 0] ((((hF.set 3 (.inr (.inr (0, [.int 1, .ref 62, .int 1])))).set 4 (.inl ((List.replicate 8 (0 : Int32)).set (Int32.toNatClampNeg x3) 1))).set 5 (.inl ((List.replicate 8 (0 : Int32)).set (Int32.toNatClampNeg x3) 1))) ++ [.inr (.inr (2, [.int x1, .int x2, .int x3, .int x4, .int x5, .int x6, .int x7, .int ((1 <<< (x4 &&& 31) : Int32) ||| (1 <<< (x5 &&& 31) : Int32)), .int (1 <<< (x6 &&& 31) : Int32), .int (-1)])), .inr (.inl [some 61, none, none, none, none, none, none, none, none, none])]) = some ((some (.ref 61)), ((((hF.set 3 (.inr (.inr (0, [.int 1, .ref 62, .int 1])))).set 4 (.inl ((List.replicate 8 (0 : Int32)).set (Int32.toNatClampNeg x3) 1))).set 5 (.inl ((List.replicate 8 (0 : Int32)).set (Int32.toNatClampNeg x3) 1))) ++ [.inr (.inr (2, [.int x1, .int x2, .int x3, .int x4, .int x5, .int x6, .int x7, .int ((1 <<< (x4 &&& 31) : Int32) ||| (1 <<< (x5 &&& 31) : Int32)), .int (1 <<< (x6 &&& 31) : Int32), .int (-1)])), .inr (.inl [some 61, none, none, none, none, none, none, none, none, none])]), 0, 0) := by
          refine me (d := 6) g_Jx4a65c_elementData_915e3 (Nat.le_of_ble_eq_true rfl) ?_
          refine rr rfl (s_aload_n rfl) ?_
          refine rr rfl (s_getf rfl rfl) ?_
          refine rr rfl (s_iload_n rfl) ?_
          refine rr rfl (s_aaload (j := 0) (z := 61) rfl rfl rfl) ?_
          exact rrt rfl rfl rfl rfl
        refine rrc rfl rfl rfl (do_of g_Jx4a65c_elementData_915e3 rfl rfl e20) ?_
        exact rrt rfl rfl rfl rfl
      refine rrc rfl rfl rfl (do_of g_Jx4a65c_get_915e3 rfl rfl e17) ?_
      refine rr rfl rfl ?_
      have e21 : a_m MT [] 100000 8 miX2_isSpare [.ref 61] ((((hF.set 3 (.inr (.inr (0, [.int 1, .ref 62, .int 1])))).set 4 (.inl ((List.replicate 8 (0 : Int32)).set (Int32.toNatClampNeg x3) 1))).set 5 (.inl ((List.replicate 8 (0 : Int32)).set (Int32.toNatClampNeg x3) 1))) ++ [.inr (.inr (2, [.int x1, .int x2, .int x3, .int x4, .int x5, .int x6, .int x7, .int ((1 <<< (x4 &&& 31) : Int32) ||| (1 <<< (x5 &&& 31) : Int32)), .int (1 <<< (x6 &&& 31) : Int32), .int (-1)])), .inr (.inl [some 61, none, none, none, none, none, none, none, none, none])]) = some ((some (.int 0)), ((((hF.set 3 (.inr (.inr (0, [.int 1, .ref 62, .int 1])))).set 4 (.inl ((List.replicate 8 (0 : Int32)).set (Int32.toNatClampNeg x3) 1))).set 5 (.inl ((List.replicate 8 (0 : Int32)).set (Int32.toNatClampNeg x3) 1))) ++ [.inr (.inr (2, [.int x1, .int x2, .int x3, .int x4, .int x5, .int x6, .int x7, .int ((1 <<< (x4 &&& 31) : Int32) ||| (1 <<< (x5 &&& 31) : Int32)), .int (1 <<< (x6 &&& 31) : Int32), .int (-1)])), .inr (.inl [some 61, none, none, none, none, none, none, none, none, none])]), 0, 0) := by
        refine me (d := 7) g_X2_isSpare (Nat.le_of_ble_eq_true rfl) ?_
        refine rr rfl (s_aload_n rfl) ?_
        refine rr rfl (s_getf rfl rfl) ?_
        refine rr rfl (s_iconst (v := (-1)) (by decide)) ?_
        refine rr rfl (s_icT (by decide)) ?_
        refine rr rfl (s_iconst (v := 0) (by decide)) ?_
        exact rrt rfl rfl rfl rfl
      refine rrc rfl rfl rfl (do_of g_X2_isSpare rfl rfl e21) ?_
      refine rr rfl (s_ifF (by decide)) ?_
      refine rr rfl (s_iload_n rfl) ?_
      refine rr rfl (s_iconst (v := 1) (by decide)) ?_
      refine rr rfl (s_iload_n rfl) ?_
      refine rr rfl (s_ishl (v := 1) (by decide)) ?_
      refine rr rfl (s_ior (v := 1) (by decide)) ?_
      refine rr rfl (s_istore_n rfl) ?_
      refine rr rfl (s_iinc (v := 1) rfl (by decide) rfl) ?_
      refine rr rfl s_goto ?_
      refine rr rfl (s_iload_n rfl) ?_
      refine rr rfl (s_aload_n rfl) ?_
      refine rr rfl (s_getf rfl rfl) ?_
      have e22 : a_m MT [] 100000 8 miJx4a65c_size_8abf5 [.ref 3] ((((hF.set 3 (.inr (.inr (0, [.int 1, .ref 62, .int 1])))).set 4 (.inl ((List.replicate 8 (0 : Int32)).set (Int32.toNatClampNeg x3) 1))).set 5 (.inl ((List.replicate 8 (0 : Int32)).set (Int32.toNatClampNeg x3) 1))) ++ [.inr (.inr (2, [.int x1, .int x2, .int x3, .int x4, .int x5, .int x6, .int x7, .int ((1 <<< (x4 &&& 31) : Int32) ||| (1 <<< (x5 &&& 31) : Int32)), .int (1 <<< (x6 &&& 31) : Int32), .int (-1)])), .inr (.inl [some 61, none, none, none, none, none, none, none, none, none])]) = some ((some (.int 1)), ((((hF.set 3 (.inr (.inr (0, [.int 1, .ref 62, .int 1])))).set 4 (.inl ((List.replicate 8 (0 : Int32)).set (Int32.toNatClampNeg x3) 1))).set 5 (.inl ((List.replicate 8 (0 : Int32)).set (Int32.toNatClampNeg x3) 1))) ++ [.inr (.inr (2, [.int x1, .int x2, .int x3, .int x4, .int x5, .int x6, .int x7, .int ((1 <<< (x4 &&& 31) : Int32) ||| (1 <<< (x5 &&& 31) : Int32)), .int (1 <<< (x6 &&& 31) : Int32), .int (-1)])), .inr (.inl [some 61, none, none, none, none, none, none, none, none, none])]), 0, 0) := by
        refine me (d := 7) g_Jx4a65c_size_8abf5 (Nat.le_of_ble_eq_true rfl) ?_
        refine rr rfl (s_aload_n rfl) ?_
        refine rr rfl (s_getf rfl rfl) ?_
        exact rrt rfl rfl rfl rfl
      refine rrc rfl rfl rfl (do_of g_Jx4a65c_size_8abf5 rfl rfl e22) ?_
      refine rr rfl (s_icT (by decide)) ?_
      refine rr rfl (s_iload_n rfl) ?_
      exact rrt rfl rfl rfl rfl
    refine rrc rfl rfl rfl (do_of g_X3_notSpare rfl rfl e15) ?_
    have e23 : a_m MT [] 100000 9 miX6_countOnly [.ref 6, .int 1] ((((hF.set 3 (.inr (.inr (0, [.int 1, .ref 62, .int 1])))).set 4 (.inl ((List.replicate 8 (0 : Int32)).set (Int32.toNatClampNeg x3) 1))).set 5 (.inl ((List.replicate 8 (0 : Int32)).set (Int32.toNatClampNeg x3) 1))) ++ [.inr (.inr (2, [.int x1, .int x2, .int x3, .int x4, .int x5, .int x6, .int x7, .int ((1 <<< (x4 &&& 31) : Int32) ||| (1 <<< (x5 &&& 31) : Int32)), .int (1 <<< (x6 &&& 31) : Int32), .int (-1)])), .inr (.inl [some 61, none, none, none, none, none, none, none, none, none])]) = some (none, (((((hF.set 3 (.inr (.inr (0, [.int 1, .ref 62, .int 1])))).set 4 (.inl ((List.replicate 8 (0 : Int32)).set (Int32.toNatClampNeg x3) 1))).set 5 (.inl ((List.replicate 8 (0 : Int32)).set (Int32.toNatClampNeg x3) 1))).set 6 (.inr (.inr (6, [.ref 2, .ref 7, .ref 8, .ref 9, .int 1])))) ++ [.inr (.inr (2, [.int x1, .int x2, .int x3, .int x4, .int x5, .int x6, .int x7, .int ((1 <<< (x4 &&& 31) : Int32) ||| (1 <<< (x5 &&& 31) : Int32)), .int (1 <<< (x6 &&& 31) : Int32), .int (-1)])), .inr (.inl [some 61, none, none, none, none, none, none, none, none, none])]), 0, 0) := by
      refine me (d := 8) g_X6_countOnly (Nat.le_of_ble_eq_true rfl) ?_
      refine rr rfl (s_aload_n rfl) ?_
      refine rr rfl (s_iload_n rfl) ?_
      refine rr rfl (s_putf rfl rfl (Nat.le_of_ble_eq_true rfl) rfl (Nat.le_of_ble_eq_true rfl) rfl (h' := (((((hF.set 3 (.inr (.inr (0, [.int 1, .ref 62, .int 1])))).set 4 (.inl ((List.replicate 8 (0 : Int32)).set (Int32.toNatClampNeg x3) 1))).set 5 (.inl ((List.replicate 8 (0 : Int32)).set (Int32.toNatClampNeg x3) 1))).set 6 (.inr (.inr (6, [.ref 2, .ref 7, .ref 8, .ref 9, .int 1])))) ++ [.inr (.inr (2, [.int x1, .int x2, .int x3, .int x4, .int x5, .int x6, .int x7, .int ((1 <<< (x4 &&& 31) : Int32) ||| (1 <<< (x5 &&& 31) : Int32)), .int (1 <<< (x6 &&& 31) : Int32), .int (-1)])), .inr (.inl [some 61, none, none, none, none, none, none, none, none, none])]))) ?_
      refine rr rfl (s_aload_n rfl) ?_
      refine rr rfl (s_getf rfl rfl) ?_
      refine rr rfl (s_iconst (v := (-1)) (by decide)) ?_
      have e24 : a_m MT [] 100000 8 miJ7_fill_53178 [.ref 7, .int (-1)] (((((hF.set 3 (.inr (.inr (0, [.int 1, .ref 62, .int 1])))).set 4 (.inl ((List.replicate 8 (0 : Int32)).set (Int32.toNatClampNeg x3) 1))).set 5 (.inl ((List.replicate 8 (0 : Int32)).set (Int32.toNatClampNeg x3) 1))).set 6 (.inr (.inr (6, [.ref 2, .ref 7, .ref 8, .ref 9, .int 1])))) ++ [.inr (.inr (2, [.int x1, .int x2, .int x3, .int x4, .int x5, .int x6, .int x7, .int ((1 <<< (x4 &&& 31) : Int32) ||| (1 <<< (x5 &&& 31) : Int32)), .int (1 <<< (x6 &&& 31) : Int32), .int (-1)])), .inr (.inl [some 61, none, none, none, none, none, none, none, none, none])]) = some (none, (((((hF.set 3 (.inr (.inr (0, [.int 1, .ref 62, .int 1])))).set 4 (.inl ((List.replicate 8 (0 : Int32)).set (Int32.toNatClampNeg x3) 1))).set 5 (.inl ((List.replicate 8 (0 : Int32)).set (Int32.toNatClampNeg x3) 1))).set 6 (.inr (.inr (6, [.ref 2, .ref 7, .ref 8, .ref 9, .int 1])))) ++ [.inr (.inr (2, [.int x1, .int x2, .int x3, .int x4, .int x5, .int x6, .int x7, .int ((1 <<< (x4 &&& 31) : Int32) ||| (1 <<< (x5 &&& 31) : Int32)), .int (1 <<< (x6 &&& 31) : Int32), .int (-1)])), .inr (.inl [some 61, none, none, none, none, none, none, none, none, none])]), 0, 0) := fill_n rfl (Nat.le_of_ble_eq_true rfl) rfl
      refine rrc rfl rfl rfl (do_of g_J7_fill_53178 rfl rfl e24) ?_
      exact rrt rfl rfl rfl rfl
    refine rrc rfl rfl rfl (do_of g_X6_countOnly rfl rfl e23) ?_
    refine rr rfl (s_aload_n rfl) ?_
    have e25 : a_m MT [] 100000 9 miX8_forgetRuns [.ref 0] (((((hF.set 3 (.inr (.inr (0, [.int 1, .ref 62, .int 1])))).set 4 (.inl ((List.replicate 8 (0 : Int32)).set (Int32.toNatClampNeg x3) 1))).set 5 (.inl ((List.replicate 8 (0 : Int32)).set (Int32.toNatClampNeg x3) 1))).set 6 (.inr (.inr (6, [.ref 2, .ref 7, .ref 8, .ref 9, .int 1])))) ++ [.inr (.inr (2, [.int x1, .int x2, .int x3, .int x4, .int x5, .int x6, .int x7, .int ((1 <<< (x4 &&& 31) : Int32) ||| (1 <<< (x5 &&& 31) : Int32)), .int (1 <<< (x6 &&& 31) : Int32), .int (-1)])), .inr (.inl [some 61, none, none, none, none, none, none, none, none, none])]) = some (none, (((((hF.set 3 (.inr (.inr (0, [.int 1, .ref 62, .int 1])))).set 4 (.inl ((List.replicate 8 (0 : Int32)).set (Int32.toNatClampNeg x3) 1))).set 5 (.inl ((List.replicate 8 (0 : Int32)).set (Int32.toNatClampNeg x3) 1))).set 6 (.inr (.inr (6, [.ref 2, .ref 7, .ref 8, .ref 9, .int 1])))) ++ [.inr (.inr (2, [.int x1, .int x2, .int x3, .int x4, .int x5, .int x6, .int x7, .int ((1 <<< (x4 &&& 31) : Int32) ||| (1 <<< (x5 &&& 31) : Int32)), .int (1 <<< (x6 &&& 31) : Int32), .int (-1)])), .inr (.inl [some 61, none, none, none, none, none, none, none, none, none])]), 0, 0) := by
      refine me (d := 8) g_X8_forgetRuns (Nat.le_of_ble_eq_true rfl) ?_
      refine rr rfl (s_aload_n rfl) ?_
      refine rr rfl (s_iconst (v := 0) (by decide)) ?_
      refine rr rfl (s_putf rfl rfl (Nat.le_of_ble_eq_true rfl) rfl (Nat.le_of_ble_eq_true rfl) rfl (h' := (((((hF.set 3 (.inr (.inr (0, [.int 1, .ref 62, .int 1])))).set 4 (.inl ((List.replicate 8 (0 : Int32)).set (Int32.toNatClampNeg x3) 1))).set 5 (.inl ((List.replicate 8 (0 : Int32)).set (Int32.toNatClampNeg x3) 1))).set 6 (.inr (.inr (6, [.ref 2, .ref 7, .ref 8, .ref 9, .int 1])))) ++ [.inr (.inr (2, [.int x1, .int x2, .int x3, .int x4, .int x5, .int x6, .int x7, .int ((1 <<< (x4 &&& 31) : Int32) ||| (1 <<< (x5 &&& 31) : Int32)), .int (1 <<< (x6 &&& 31) : Int32), .int (-1)])), .inr (.inl [some 61, none, none, none, none, none, none, none, none, none])]))) ?_
      refine rr rfl (s_aload_n rfl) ?_
      refine rr rfl (s_getf rfl rfl) ?_
      refine rr rfl (s_iconst (v := 0) (by decide)) ?_
      refine rr rfl (s_putf rfl rfl (Nat.le_of_ble_eq_true rfl) rfl (Nat.le_of_ble_eq_true rfl) rfl (h' := (((((hF.set 3 (.inr (.inr (0, [.int 1, .ref 62, .int 1])))).set 4 (.inl ((List.replicate 8 (0 : Int32)).set (Int32.toNatClampNeg x3) 1))).set 5 (.inl ((List.replicate 8 (0 : Int32)).set (Int32.toNatClampNeg x3) 1))).set 6 (.inr (.inr (6, [.ref 2, .ref 7, .ref 8, .ref 9, .int 1])))) ++ [.inr (.inr (2, [.int x1, .int x2, .int x3, .int x4, .int x5, .int x6, .int x7, .int ((1 <<< (x4 &&& 31) : Int32) ||| (1 <<< (x5 &&& 31) : Int32)), .int (1 <<< (x6 &&& 31) : Int32), .int (-1)])), .inr (.inl [some 61, none, none, none, none, none, none, none, none, none])]))) ?_
      exact rrt rfl rfl rfl rfl
    refine rrc rfl rfl rfl (do_of g_X8_forgetRuns rfl rfl e25) ?_
    exact rrt rfl rfl rfl rfl
  refine rrc rfl rfl rfl (do_of g_X8_forgetRules rfl rfl e14) ?_
  refine rr rfl (s_aload_n rfl) ?_
  refine rr rfl (s_getf rfl rfl) ?_
  refine rr rfl (s_getf rfl rfl) ?_
  refine rr rfl (s_getf rfl rfl) ?_
  have e26 : a_m MT [] 100000 10 miJx4a65c_size_8abf5 [.ref 3] (((((hF.set 3 (.inr (.inr (0, [.int 1, .ref 62, .int 1])))).set 4 (.inl ((List.replicate 8 (0 : Int32)).set (Int32.toNatClampNeg x3) 1))).set 5 (.inl ((List.replicate 8 (0 : Int32)).set (Int32.toNatClampNeg x3) 1))).set 6 (.inr (.inr (6, [.ref 2, .ref 7, .ref 8, .ref 9, .int 1])))) ++ [.inr (.inr (2, [.int x1, .int x2, .int x3, .int x4, .int x5, .int x6, .int x7, .int ((1 <<< (x4 &&& 31) : Int32) ||| (1 <<< (x5 &&& 31) : Int32)), .int (1 <<< (x6 &&& 31) : Int32), .int (-1)])), .inr (.inl [some 61, none, none, none, none, none, none, none, none, none])]) = some ((some (.int 1)), (((((hF.set 3 (.inr (.inr (0, [.int 1, .ref 62, .int 1])))).set 4 (.inl ((List.replicate 8 (0 : Int32)).set (Int32.toNatClampNeg x3) 1))).set 5 (.inl ((List.replicate 8 (0 : Int32)).set (Int32.toNatClampNeg x3) 1))).set 6 (.inr (.inr (6, [.ref 2, .ref 7, .ref 8, .ref 9, .int 1])))) ++ [.inr (.inr (2, [.int x1, .int x2, .int x3, .int x4, .int x5, .int x6, .int x7, .int ((1 <<< (x4 &&& 31) : Int32) ||| (1 <<< (x5 &&& 31) : Int32)), .int (1 <<< (x6 &&& 31) : Int32), .int (-1)])), .inr (.inl [some 61, none, none, none, none, none, none, none, none, none])]), 0, 0) := by
    refine me (d := 9) g_Jx4a65c_size_8abf5 (Nat.le_of_ble_eq_true rfl) ?_
    refine rr rfl (s_aload_n rfl) ?_
    refine rr rfl (s_getf rfl rfl) ?_
    exact rrt rfl rfl rfl rfl
  refine rrc rfl rfl rfl (do_of g_Jx4a65c_size_8abf5 rfl rfl e26) ?_
  refine rr rfl (s_iconst (v := 1) (by decide)) ?_
  refine rr rfl (s_isub (v := 0) (by decide)) ?_
  exact rrt rfl rfl rfl rfl
set_option maxHeartbeats 4000000 in
set_option maxRecDepth 10000 in
theorem rx_Nmoh {x1 x2 x3 x4 x5 x6 x7 : Int32} (g1 : x5 = (-1)) (g2 : ¬ x6 = (-1)) (g3 : x2 = 0) (g4 : ¬ x4 < 0) (g5 : x4 < nI 8) (g6 : ¬ x6 < 0) (g7 : x6 < nI 8) (g8 : ¬ x3 < 0) (g9 : x3 < nI 8) (g10 : x4 = x3) (g11 : ¬ x6 = x3) : a_run MT [] (a_m MT [] 100000 10) 11 (some .int) tabX8_rule 90000 140 (alR x1 x2 x3 x4 x5 x6 x7) [] hF 0 0 = some (some (.int 0), (((((hF.set 3 (.inr (.inr (0, [.int 1, .ref 62, .int 1])))).set 4 (.inl ((List.replicate 8 (0 : Int32)).set (Int32.toNatClampNeg x3) 1))).set 5 (.inl ((List.replicate 8 (0 : Int32)).set (Int32.toNatClampNeg x3) 1))).set 6 (.inr (.inr (6, [.ref 2, .ref 7, .ref 8, .ref 9, .int 1])))) ++ [.inr (.inr (2, [.int x1, .int x2, .int x3, .int x4, .int x4, .int x6, .int x7, .int ((1 <<< (x4 &&& 31) : Int32) ||| (1 <<< (x4 &&& 31) : Int32)), .int (1 <<< (x6 &&& 31) : Int32), .int (-1)])), .inr (.inl [some 61, none, none, none, none, none, none, none, none, none])]), 2, 20) := by
  refine rr rfl (s_new (q := 61) rfl rfl (h' := (hF ++ [.inr (.inr (2, [.int 0, .int 0, .int 0, .int 0, .int 0, .int 0, .int 0, .int 0, .int 0, .int 0]))]))) ?_
  refine rr rfl rfl ?_
  refine rr rfl (s_iload_n rfl) ?_
  refine rr rfl (s_iload_n rfl) ?_
  refine rr rfl (s_iload_n rfl) ?_
  refine rr rfl (s_iload rfl) ?_
  refine rr rfl (s_iload rfl) ?_
  refine rr rfl (s_iload rfl) ?_
  refine rr rfl (s_iload rfl) ?_
  have e1 : a_m MT [] 100000 10 miX2_init [.ref 61, .int x1, .int x2, .int x3, .int x4, .int x5, .int x6, .int x7] (hF ++ [.inr (.inr (2, [.int 0, .int 0, .int 0, .int 0, .int 0, .int 0, .int 0, .int 0, .int 0, .int 0]))]) = some (none, (hF ++ [.inr (.inr (2, [.int x1, .int x2, .int x3, .int x4, .int x4, .int x6, .int x7, .int ((1 <<< (x4 &&& 31) : Int32) ||| (1 <<< (x4 &&& 31) : Int32)), .int (1 <<< (x6 &&& 31) : Int32), .int (-1)]))]), 0, 0) := by
    refine me (d := 9) g_X2_init (Nat.le_of_ble_eq_true rfl) ?_
    refine rr rfl (s_aload_n rfl) ?_
    refine rr rfl rfl ?_
    refine rr rfl (s_aload_n rfl) ?_
    refine rr rfl (s_iconst (v := (-1)) (by decide)) ?_
    refine rr rfl (s_putf rfl rfl (Nat.le_of_ble_eq_true rfl) rfl (Nat.le_of_ble_eq_true rfl) rfl (h' := (hF ++ [.inr (.inr (2, [.int 0, .int 0, .int 0, .int 0, .int 0, .int 0, .int 0, .int 0, .int 0, .int (-1)]))]))) ?_
    refine rr rfl (s_aload_n rfl) ?_
    refine rr rfl (s_iload_n rfl) ?_
    refine rr rfl (s_putf rfl rfl (Nat.le_of_ble_eq_true rfl) rfl (Nat.le_of_ble_eq_true rfl) rfl (h' := (hF ++ [.inr (.inr (2, [.int x1, .int 0, .int 0, .int 0, .int 0, .int 0, .int 0, .int 0, .int 0, .int (-1)]))]))) ?_
    refine rr rfl (s_aload_n rfl) ?_
    refine rr rfl (s_iload_n rfl) ?_
    refine rr rfl (s_putf rfl rfl (Nat.le_of_ble_eq_true rfl) rfl (Nat.le_of_ble_eq_true rfl) rfl (h' := (hF ++ [.inr (.inr (2, [.int x1, .int x2, .int 0, .int 0, .int 0, .int 0, .int 0, .int 0, .int 0, .int (-1)]))]))) ?_
    refine rr rfl (s_aload_n rfl) ?_
    refine rr rfl (s_iload_n rfl) ?_
    refine rr rfl (s_putf rfl rfl (Nat.le_of_ble_eq_true rfl) rfl (Nat.le_of_ble_eq_true rfl) rfl (h' := (hF ++ [.inr (.inr (2, [.int x1, .int x2, .int x3, .int 0, .int 0, .int 0, .int 0, .int 0, .int 0, .int (-1)]))]))) ?_
    refine rr rfl (s_aload_n rfl) ?_
    refine rr rfl (s_iload rfl) ?_
    refine rr rfl (s_putf rfl rfl (Nat.le_of_ble_eq_true rfl) rfl (Nat.le_of_ble_eq_true rfl) rfl (h' := (hF ++ [.inr (.inr (2, [.int x1, .int x2, .int x3, .int x4, .int 0, .int 0, .int 0, .int 0, .int 0, .int (-1)]))]))) ?_
    refine rr rfl (s_aload_n rfl) ?_
    refine rr rfl (s_iload rfl) ?_
    refine rr rfl (s_iconst (v := (-1)) (by decide)) ?_
    refine rr rfl (s_icF (ic_nne g1)) ?_
    refine rr rfl (s_iload rfl) ?_
    refine rr rfl s_goto ?_
    refine rr rfl (s_putf rfl rfl (Nat.le_of_ble_eq_true rfl) rfl (Nat.le_of_ble_eq_true rfl) rfl (h' := (hF ++ [.inr (.inr (2, [.int x1, .int x2, .int x3, .int x4, .int x4, .int 0, .int 0, .int 0, .int 0, .int (-1)]))]))) ?_
    refine rr rfl (s_aload_n rfl) ?_
    refine rr rfl (s_iload rfl) ?_
    refine rr rfl (s_putf rfl rfl (Nat.le_of_ble_eq_true rfl) rfl (Nat.le_of_ble_eq_true rfl) rfl (h' := (hF ++ [.inr (.inr (2, [.int x1, .int x2, .int x3, .int x4, .int x4, .int x6, .int 0, .int 0, .int 0, .int (-1)]))]))) ?_
    refine rr rfl (s_aload_n rfl) ?_
    refine rr rfl (s_iload rfl) ?_
    refine rr rfl (s_putf rfl rfl (Nat.le_of_ble_eq_true rfl) rfl (Nat.le_of_ble_eq_true rfl) rfl (h' := (hF ++ [.inr (.inr (2, [.int x1, .int x2, .int x3, .int x4, .int x4, .int x6, .int x7, .int 0, .int 0, .int (-1)]))]))) ?_
    refine rr rfl (s_aload_n rfl) ?_
    refine rr rfl (s_iconst (v := 1) (by decide)) ?_
    refine rr rfl (s_aload_n rfl) ?_
    refine rr rfl (s_getf rfl rfl) ?_
    refine rr rfl (s_ishl (v := (1 <<< (x4 &&& 31) : Int32)) rfl) ?_
    refine rr rfl (s_iconst (v := 1) (by decide)) ?_
    refine rr rfl (s_aload_n rfl) ?_
    refine rr rfl (s_getf rfl rfl) ?_
    refine rr rfl (s_ishl (v := (1 <<< (x4 &&& 31) : Int32)) rfl) ?_
    refine rr rfl (s_ior (v := ((1 <<< (x4 &&& 31) : Int32) ||| (1 <<< (x4 &&& 31) : Int32))) rfl) ?_
    refine rr rfl (s_putf rfl rfl (Nat.le_of_ble_eq_true rfl) rfl (Nat.le_of_ble_eq_true rfl) rfl (h' := (hF ++ [.inr (.inr (2, [.int x1, .int x2, .int x3, .int x4, .int x4, .int x6, .int x7, .int ((1 <<< (x4 &&& 31) : Int32) ||| (1 <<< (x4 &&& 31) : Int32)), .int 0, .int (-1)]))]))) ?_
    refine rr rfl (s_aload_n rfl) ?_
    refine rr rfl (s_iload rfl) ?_
    refine rr rfl (s_iconst (v := (-1)) (by decide)) ?_
    refine rr rfl (s_icT (ic_ne g2)) ?_
    refine rr rfl (s_iconst (v := 1) (by decide)) ?_
    refine rr rfl (s_iload rfl) ?_
    refine rr rfl (s_ishl (v := (1 <<< (x6 &&& 31) : Int32)) rfl) ?_
    refine rr rfl (s_putf rfl rfl (Nat.le_of_ble_eq_true rfl) rfl (Nat.le_of_ble_eq_true rfl) rfl (h' := (hF ++ [.inr (.inr (2, [.int x1, .int x2, .int x3, .int x4, .int x4, .int x6, .int x7, .int ((1 <<< (x4 &&& 31) : Int32) ||| (1 <<< (x4 &&& 31) : Int32)), .int (1 <<< (x6 &&& 31) : Int32), .int (-1)]))]))) ?_
    exact rrt rfl rfl rfl rfl
  refine rrc rfl rfl rfl (do_of g_X2_init rfl rfl e1) ?_
  refine rr rfl (s_astore rfl) ?_
  refine rr rfl (s_aload_n rfl) ?_
  refine rr rfl (s_getf rfl rfl) ?_
  refine rr rfl (s_getf rfl rfl) ?_
  refine rr rfl (s_aload rfl) ?_
  have e2 : a_m MT [] 100000 10 miX3_hasLayersWith [.ref 2, .ref 61] (hF ++ [.inr (.inr (2, [.int x1, .int x2, .int x3, .int x4, .int x4, .int x6, .int x7, .int ((1 <<< (x4 &&& 31) : Int32) ||| (1 <<< (x4 &&& 31) : Int32)), .int (1 <<< (x6 &&& 31) : Int32), .int (-1)]))]) = some ((some (.int 1)), ((hF.set 5 (.inl ((List.replicate 8 (0 : Int32)).set (Int32.toNatClampNeg x3) 1))) ++ [.inr (.inr (2, [.int x1, .int x2, .int x3, .int x4, .int x4, .int x6, .int x7, .int ((1 <<< (x4 &&& 31) : Int32) ||| (1 <<< (x4 &&& 31) : Int32)), .int (1 <<< (x6 &&& 31) : Int32), .int (-1)]))]), 0, 0) := by
    refine me (d := 9) g_X3_hasLayersWith (Nat.le_of_ble_eq_true rfl) ?_
    refine rr rfl (s_aload_n rfl) ?_
    refine rr rfl (s_getf rfl rfl) ?_
    refine rr rfl (s_iconst (v := 0) (by decide)) ?_
    have e3 : a_m MT [] 100000 9 miJ7_fill_53178 [.ref 5, .int 0] (hF ++ [.inr (.inr (2, [.int x1, .int x2, .int x3, .int x4, .int x4, .int x6, .int x7, .int ((1 <<< (x4 &&& 31) : Int32) ||| (1 <<< (x4 &&& 31) : Int32)), .int (1 <<< (x6 &&& 31) : Int32), .int (-1)]))]) = some (none, (hF ++ [.inr (.inr (2, [.int x1, .int x2, .int x3, .int x4, .int x4, .int x6, .int x7, .int ((1 <<< (x4 &&& 31) : Int32) ||| (1 <<< (x4 &&& 31) : Int32)), .int (1 <<< (x6 &&& 31) : Int32), .int (-1)]))]), 0, 0) := fill_n rfl (Nat.le_of_ble_eq_true rfl) rfl
    refine rrc rfl rfl rfl (do_of g_J7_fill_53178 rfl rfl e3) ?_
    refine rr rfl (s_iconst (v := 1) (by decide)) ?_
    refine rr rfl (s_istore_n rfl) ?_
    refine rr rfl (s_iconst (v := 0) (by decide)) ?_
    refine rr rfl (s_istore_n rfl) ?_
    refine rr rfl (s_iload_n rfl) ?_
    refine rr rfl (s_ifF (by decide)) ?_
    refine rr rfl (s_iload_n rfl) ?_
    refine rr rfl (s_bipush (v := 8) (by decide)) ?_
    refine rr rfl (s_icF (by decide)) ?_
    refine rr rfl (s_aload_n rfl) ?_
    refine rr rfl (s_aload_n rfl) ?_
    have e4 : a_m MT [] 100000 9 miX3_lift [.ref 2, .ref 61] (hF ++ [.inr (.inr (2, [.int x1, .int x2, .int x3, .int x4, .int x4, .int x6, .int x7, .int ((1 <<< (x4 &&& 31) : Int32) ||| (1 <<< (x4 &&& 31) : Int32)), .int (1 <<< (x6 &&& 31) : Int32), .int (-1)]))]) = some ((some (.int 1)), ((hF.set 5 (.inl ((List.replicate 8 (0 : Int32)).set (Int32.toNatClampNeg x3) 1))) ++ [.inr (.inr (2, [.int x1, .int x2, .int x3, .int x4, .int x4, .int x6, .int x7, .int ((1 <<< (x4 &&& 31) : Int32) ||| (1 <<< (x4 &&& 31) : Int32)), .int (1 <<< (x6 &&& 31) : Int32), .int (-1)]))]), 0, 0) := by
      refine me (d := 8) g_X3_lift (Nat.le_of_ble_eq_true rfl) ?_
      refine rr rfl (s_aload_n rfl) ?_
      refine rr rfl (s_getf rfl rfl) ?_
      refine rr rfl (s_ifT (ic_eq g3)) ?_
      refine rr rfl (s_aload_n rfl) ?_
      refine rr rfl (s_getf rfl rfl) ?_
      refine rr rfl (s_aload_n rfl) ?_
      refine rr rfl (s_getf rfl rfl) ?_
      refine rr rfl (s_ialdR (n := 8) (x := 0) rfl g4 g5) ?_
      refine rr rfl (s_aload_n rfl) ?_
      refine rr rfl (s_getf rfl rfl) ?_
      refine rr rfl (s_aload_n rfl) ?_
      refine rr rfl (s_getf rfl rfl) ?_
      refine rr rfl (s_ialdR (n := 8) (x := 0) rfl g4 g5) ?_
      refine rr rfl (s_max (v := 0) rfl (Nat.le_of_ble_eq_true rfl) (by decide)) ?_
      refine rr rfl (s_istore_n rfl) ?_
      refine rr rfl (s_aload_n rfl) ?_
      refine rr rfl (s_getf rfl rfl) ?_
      refine rr rfl (s_iconst (v := (-1)) (by decide)) ?_
      refine rr rfl (s_icF (ic_neq g2)) ?_
      refine rr rfl (s_iload_n rfl) ?_
      refine rr rfl (s_aload_n rfl) ?_
      refine rr rfl (s_getf rfl rfl) ?_
      refine rr rfl (s_aload_n rfl) ?_
      refine rr rfl (s_getf rfl rfl) ?_
      refine rr rfl (s_ialdR (n := 8) (x := 0) rfl g6 g7) ?_
      refine rr rfl (s_iconst (v := 1) (by decide)) ?_
      refine rr rfl (s_iadd (v := 1) (by decide)) ?_
      refine rr rfl (s_max (v := 1) rfl (Nat.le_of_ble_eq_true rfl) (by decide)) ?_
      refine rr rfl (s_istore_n rfl) ?_
      refine rr rfl (s_aload_n rfl) ?_
      refine rr rfl (s_getf rfl rfl) ?_
      refine rr rfl (s_aload_n rfl) ?_
      refine rr rfl (s_getf rfl rfl) ?_
      refine rr rfl (s_ialdR (n := 8) (x := 0) rfl g8 g9) ?_
      refine rr rfl (s_iload_n rfl) ?_
      refine rr rfl (s_icT (by decide)) ?_
      refine rr rfl (s_aload_n rfl) ?_
      refine rr rfl (s_getf rfl rfl) ?_
      refine rr rfl (s_aload_n rfl) ?_
      refine rr rfl (s_getf rfl rfl) ?_
      refine rr rfl (s_iload_n rfl) ?_
      refine rr rfl (s_iastR (n := 8) rfl g8 g9 (Nat.le_of_ble_eq_true rfl) rfl (h' := ((hF.set 5 (.inl ((List.replicate 8 (0 : Int32)).set (Int32.toNatClampNeg x3) 1))) ++ [.inr (.inr (2, [.int x1, .int x2, .int x3, .int x4, .int x4, .int x6, .int x7, .int ((1 <<< (x4 &&& 31) : Int32) ||| (1 <<< (x4 &&& 31) : Int32)), .int (1 <<< (x6 &&& 31) : Int32), .int (-1)]))]))) ?_
      refine rr rfl (s_iconst (v := 1) (by decide)) ?_
      exact rrt rfl rfl rfl rfl
    refine rrc rfl rfl rfl (do_of g_X3_lift rfl rfl e4) ?_
    refine rr rfl (s_istore_n rfl) ?_
    refine rr rfl (s_iconst (v := 0) (by decide)) ?_
    refine rr rfl (s_istore rfl) ?_
    refine rr rfl (s_iload rfl) ?_
    refine rr rfl (s_aload_n rfl) ?_
    refine rr rfl (s_getf rfl rfl) ?_
    have e5 : a_m MT [] 100000 9 miJx4a65c_size_8abf5 [.ref 3] ((hF.set 5 (.inl ((List.replicate 8 (0 : Int32)).set (Int32.toNatClampNeg x3) 1))) ++ [.inr (.inr (2, [.int x1, .int x2, .int x3, .int x4, .int x4, .int x6, .int x7, .int ((1 <<< (x4 &&& 31) : Int32) ||| (1 <<< (x4 &&& 31) : Int32)), .int (1 <<< (x6 &&& 31) : Int32), .int (-1)]))]) = some ((some (.int 0)), ((hF.set 5 (.inl ((List.replicate 8 (0 : Int32)).set (Int32.toNatClampNeg x3) 1))) ++ [.inr (.inr (2, [.int x1, .int x2, .int x3, .int x4, .int x4, .int x6, .int x7, .int ((1 <<< (x4 &&& 31) : Int32) ||| (1 <<< (x4 &&& 31) : Int32)), .int (1 <<< (x6 &&& 31) : Int32), .int (-1)]))]), 0, 0) := by
      refine me (d := 8) g_Jx4a65c_size_8abf5 (Nat.le_of_ble_eq_true rfl) ?_
      refine rr rfl (s_aload_n rfl) ?_
      refine rr rfl (s_getf rfl rfl) ?_
      exact rrt rfl rfl rfl rfl
    refine rrc rfl rfl rfl (do_of g_Jx4a65c_size_8abf5 rfl rfl e5) ?_
    refine rr rfl (s_icT (by decide)) ?_
    refine rr rfl (s_iinc (v := 1) rfl (by decide) rfl) ?_
    refine rr rfl s_goto ?_
    refine rr rfl (s_iload_n rfl) ?_
    refine rr rfl (s_ifF (by decide)) ?_
    refine rr rfl (s_iload_n rfl) ?_
    refine rr rfl (s_bipush (v := 8) (by decide)) ?_
    refine rr rfl (s_icF (by decide)) ?_
    refine rr rfl (s_aload_n rfl) ?_
    refine rr rfl (s_aload_n rfl) ?_
    have e6 : a_m MT [] 100000 9 miX3_lift [.ref 2, .ref 61] ((hF.set 5 (.inl ((List.replicate 8 (0 : Int32)).set (Int32.toNatClampNeg x3) 1))) ++ [.inr (.inr (2, [.int x1, .int x2, .int x3, .int x4, .int x4, .int x6, .int x7, .int ((1 <<< (x4 &&& 31) : Int32) ||| (1 <<< (x4 &&& 31) : Int32)), .int (1 <<< (x6 &&& 31) : Int32), .int (-1)]))]) = some ((some (.int 0)), ((hF.set 5 (.inl ((List.replicate 8 (0 : Int32)).set (Int32.toNatClampNeg x3) 1))) ++ [.inr (.inr (2, [.int x1, .int x2, .int x3, .int x4, .int x4, .int x6, .int x7, .int ((1 <<< (x4 &&& 31) : Int32) ||| (1 <<< (x4 &&& 31) : Int32)), .int (1 <<< (x6 &&& 31) : Int32), .int (-1)]))]), 0, 0) := by
      refine me (d := 8) g_X3_lift (Nat.le_of_ble_eq_true rfl) ?_
      refine rr rfl (s_aload_n rfl) ?_
      refine rr rfl (s_getf rfl rfl) ?_
      refine rr rfl (s_ifT (ic_eq g3)) ?_
      refine rr rfl (s_aload_n rfl) ?_
      refine rr rfl (s_getf rfl rfl) ?_
      refine rr rfl (s_aload_n rfl) ?_
      refine rr rfl (s_getf rfl rfl) ?_
      refine rr rfl (s_ialdH rfl g10 g8 g9) ?_
      refine rr rfl (s_aload_n rfl) ?_
      refine rr rfl (s_getf rfl rfl) ?_
      refine rr rfl (s_aload_n rfl) ?_
      refine rr rfl (s_getf rfl rfl) ?_
      refine rr rfl (s_ialdH rfl g10 g8 g9) ?_
      refine rr rfl (s_max (v := 1) rfl (Nat.le_of_ble_eq_true rfl) (by decide)) ?_
      refine rr rfl (s_istore_n rfl) ?_
      refine rr rfl (s_aload_n rfl) ?_
      refine rr rfl (s_getf rfl rfl) ?_
      refine rr rfl (s_iconst (v := (-1)) (by decide)) ?_
      refine rr rfl (s_icF (ic_neq g2)) ?_
      refine rr rfl (s_iload_n rfl) ?_
      refine rr rfl (s_aload_n rfl) ?_
      refine rr rfl (s_getf rfl rfl) ?_
      refine rr rfl (s_aload_n rfl) ?_
      refine rr rfl (s_getf rfl rfl) ?_
      refine rr rfl (s_ialdN rfl g11 g6 g7 g8) ?_
      refine rr rfl (s_iconst (v := 1) (by decide)) ?_
      refine rr rfl (s_iadd (v := 1) (by decide)) ?_
      refine rr rfl (s_max (v := 1) rfl (Nat.le_of_ble_eq_true rfl) (by decide)) ?_
      refine rr rfl (s_istore_n rfl) ?_
      refine rr rfl (s_aload_n rfl) ?_
      refine rr rfl (s_getf rfl rfl) ?_
      refine rr rfl (s_aload_n rfl) ?_
      refine rr rfl (s_getf rfl rfl) ?_
      refine rr rfl (s_ialdH rfl rfl g8 g9) ?_
      refine rr rfl (s_iload_n rfl) ?_
      refine rr rfl (s_icF (by decide)) ?_
      refine rr rfl (s_iconst (v := 0) (by decide)) ?_
      exact rrt rfl rfl rfl rfl
    refine rrc rfl rfl rfl (do_of g_X3_lift rfl rfl e6) ?_
    refine rr rfl (s_istore_n rfl) ?_
    refine rr rfl (s_iconst (v := 0) (by decide)) ?_
    refine rr rfl (s_istore rfl) ?_
    refine rr rfl (s_iload rfl) ?_
    refine rr rfl (s_aload_n rfl) ?_
    refine rr rfl (s_getf rfl rfl) ?_
    have e7 : a_m MT [] 100000 9 miJx4a65c_size_8abf5 [.ref 3] ((hF.set 5 (.inl ((List.replicate 8 (0 : Int32)).set (Int32.toNatClampNeg x3) 1))) ++ [.inr (.inr (2, [.int x1, .int x2, .int x3, .int x4, .int x4, .int x6, .int x7, .int ((1 <<< (x4 &&& 31) : Int32) ||| (1 <<< (x4 &&& 31) : Int32)), .int (1 <<< (x6 &&& 31) : Int32), .int (-1)]))]) = some ((some (.int 0)), ((hF.set 5 (.inl ((List.replicate 8 (0 : Int32)).set (Int32.toNatClampNeg x3) 1))) ++ [.inr (.inr (2, [.int x1, .int x2, .int x3, .int x4, .int x4, .int x6, .int x7, .int ((1 <<< (x4 &&& 31) : Int32) ||| (1 <<< (x4 &&& 31) : Int32)), .int (1 <<< (x6 &&& 31) : Int32), .int (-1)]))]), 0, 0) := by
      refine me (d := 8) g_Jx4a65c_size_8abf5 (Nat.le_of_ble_eq_true rfl) ?_
      refine rr rfl (s_aload_n rfl) ?_
      refine rr rfl (s_getf rfl rfl) ?_
      exact rrt rfl rfl rfl rfl
    refine rrc rfl rfl rfl (do_of g_Jx4a65c_size_8abf5 rfl rfl e7) ?_
    refine rr rfl (s_icT (by decide)) ?_
    refine rr rfl (s_iinc (v := 2) rfl (by decide) rfl) ?_
    refine rr rfl s_goto ?_
    refine rr rfl (s_iload_n rfl) ?_
    refine rr rfl (s_ifT (by decide)) ?_
    refine rr rfl (s_iload_n rfl) ?_
    refine rr rfl (s_ifF (by decide)) ?_
    refine rr rfl (s_iconst (v := 1) (by decide)) ?_
    refine rr rfl s_goto ?_
    exact rrt rfl rfl rfl rfl
  refine rrc rfl rfl rfl (do_of g_X3_hasLayersWith rfl rfl e2) ?_
  refine rr rfl (s_ifT (by decide)) ?_
  refine rr rfl (s_aload_n rfl) ?_
  refine rr rfl (s_getf rfl rfl) ?_
  refine rr rfl (s_getf rfl rfl) ?_
  refine rr rfl (s_getf rfl rfl) ?_
  have e8 : a_m MT [] 100000 10 miJx4a65c_size_8abf5 [.ref 3] ((hF.set 5 (.inl ((List.replicate 8 (0 : Int32)).set (Int32.toNatClampNeg x3) 1))) ++ [.inr (.inr (2, [.int x1, .int x2, .int x3, .int x4, .int x4, .int x6, .int x7, .int ((1 <<< (x4 &&& 31) : Int32) ||| (1 <<< (x4 &&& 31) : Int32)), .int (1 <<< (x6 &&& 31) : Int32), .int (-1)]))]) = some ((some (.int 0)), ((hF.set 5 (.inl ((List.replicate 8 (0 : Int32)).set (Int32.toNatClampNeg x3) 1))) ++ [.inr (.inr (2, [.int x1, .int x2, .int x3, .int x4, .int x4, .int x6, .int x7, .int ((1 <<< (x4 &&& 31) : Int32) ||| (1 <<< (x4 &&& 31) : Int32)), .int (1 <<< (x6 &&& 31) : Int32), .int (-1)]))]), 0, 0) := by
    refine me (d := 9) g_Jx4a65c_size_8abf5 (Nat.le_of_ble_eq_true rfl) ?_
    refine rr rfl (s_aload_n rfl) ?_
    refine rr rfl (s_getf rfl rfl) ?_
    exact rrt rfl rfl rfl rfl
  refine rrc rfl rfl rfl (do_of g_Jx4a65c_size_8abf5 rfl rfl e8) ?_
  refine rr rfl (s_bipush (v := 12) (by decide)) ?_
  refine rr rfl (s_icT (by decide)) ?_
  refine rr rfl (s_aload_n rfl) ?_
  refine rr rfl (s_getf rfl rfl) ?_
  refine rr rfl (s_getf rfl rfl) ?_
  refine rr rfl (s_aload rfl) ?_
  have e9 : a_m MT [] 100000 10 miX3_take [.ref 2, .ref 61] ((hF.set 5 (.inl ((List.replicate 8 (0 : Int32)).set (Int32.toNatClampNeg x3) 1))) ++ [.inr (.inr (2, [.int x1, .int x2, .int x3, .int x4, .int x4, .int x6, .int x7, .int ((1 <<< (x4 &&& 31) : Int32) ||| (1 <<< (x4 &&& 31) : Int32)), .int (1 <<< (x6 &&& 31) : Int32), .int (-1)]))]) = some (none, ((((hF.set 3 (.inr (.inr (0, [.int 1, .ref 62, .int 1])))).set 4 (.inl ((List.replicate 8 (0 : Int32)).set (Int32.toNatClampNeg x3) 1))).set 5 (.inl ((List.replicate 8 (0 : Int32)).set (Int32.toNatClampNeg x3) 1))) ++ [.inr (.inr (2, [.int x1, .int x2, .int x3, .int x4, .int x4, .int x6, .int x7, .int ((1 <<< (x4 &&& 31) : Int32) ||| (1 <<< (x4 &&& 31) : Int32)), .int (1 <<< (x6 &&& 31) : Int32), .int (-1)])), .inr (.inl [some 61, none, none, none, none, none, none, none, none, none])]), 1, 10) := by
    refine me (d := 9) g_X3_take (Nat.le_of_ble_eq_true rfl) ?_
    refine rr rfl (s_aload_n rfl) ?_
    refine rr rfl (s_getf rfl rfl) ?_
    refine rr rfl (s_aload_n rfl) ?_
    have e10 : a_m MT [] 100000 9 miJx4a65c_add_9ea2d [.ref 3, .ref 61] ((hF.set 5 (.inl ((List.replicate 8 (0 : Int32)).set (Int32.toNatClampNeg x3) 1))) ++ [.inr (.inr (2, [.int x1, .int x2, .int x3, .int x4, .int x4, .int x6, .int x7, .int ((1 <<< (x4 &&& 31) : Int32) ||| (1 <<< (x4 &&& 31) : Int32)), .int (1 <<< (x6 &&& 31) : Int32), .int (-1)]))]) = some ((some (.int 1)), (((hF.set 3 (.inr (.inr (0, [.int 1, .ref 62, .int 1])))).set 5 (.inl ((List.replicate 8 (0 : Int32)).set (Int32.toNatClampNeg x3) 1))) ++ [.inr (.inr (2, [.int x1, .int x2, .int x3, .int x4, .int x4, .int x6, .int x7, .int ((1 <<< (x4 &&& 31) : Int32) ||| (1 <<< (x4 &&& 31) : Int32)), .int (1 <<< (x6 &&& 31) : Int32), .int (-1)])), .inr (.inl [some 61, none, none, none, none, none, none, none, none, none])]), 1, 10) := by
      refine me (d := 8) g_Jx4a65c_add_9ea2d (Nat.le_of_ble_eq_true rfl) ?_
      refine rr rfl (s_aload_n rfl) ?_
      refine rr rfl rfl ?_
      refine rr rfl (s_getf rfl rfl) ?_
      refine rr rfl (s_iconst (v := 1) (by decide)) ?_
      refine rr rfl (s_iadd (v := 1) (by decide)) ?_
      refine rr rfl (s_putf rfl rfl (Nat.le_of_ble_eq_true rfl) rfl (Nat.le_of_ble_eq_true rfl) rfl (h' := (((hF.set 3 (.inr (.inr (0, [.int 1, .long 0, .int 0])))).set 5 (.inl ((List.replicate 8 (0 : Int32)).set (Int32.toNatClampNeg x3) 1))) ++ [.inr (.inr (2, [.int x1, .int x2, .int x3, .int x4, .int x4, .int x6, .int x7, .int ((1 <<< (x4 &&& 31) : Int32) ||| (1 <<< (x4 &&& 31) : Int32)), .int (1 <<< (x6 &&& 31) : Int32), .int (-1)]))]))) ?_
      refine rr rfl (s_aload_n rfl) ?_
      refine rr rfl (s_aload_n rfl) ?_
      refine rr rfl (s_aload_n rfl) ?_
      refine rr rfl (s_getf rfl rfl) ?_
      refine rr rfl (s_aload_n rfl) ?_
      refine rr rfl (s_getf rfl rfl) ?_
      have e11 : a_m MT [] 100000 8 miJx4a65c_add_72be8 [.ref 3, .ref 61, .long 0, .int 0] (((hF.set 3 (.inr (.inr (0, [.int 1, .long 0, .int 0])))).set 5 (.inl ((List.replicate 8 (0 : Int32)).set (Int32.toNatClampNeg x3) 1))) ++ [.inr (.inr (2, [.int x1, .int x2, .int x3, .int x4, .int x4, .int x6, .int x7, .int ((1 <<< (x4 &&& 31) : Int32) ||| (1 <<< (x4 &&& 31) : Int32)), .int (1 <<< (x6 &&& 31) : Int32), .int (-1)]))]) = some (none, (((hF.set 3 (.inr (.inr (0, [.int 1, .ref 62, .int 1])))).set 5 (.inl ((List.replicate 8 (0 : Int32)).set (Int32.toNatClampNeg x3) 1))) ++ [.inr (.inr (2, [.int x1, .int x2, .int x3, .int x4, .int x4, .int x6, .int x7, .int ((1 <<< (x4 &&& 31) : Int32) ||| (1 <<< (x4 &&& 31) : Int32)), .int (1 <<< (x6 &&& 31) : Int32), .int (-1)])), .inr (.inl [some 61, none, none, none, none, none, none, none, none, none])]), 1, 10) := by
        refine me (d := 7) g_Jx4a65c_add_72be8 (Nat.le_of_ble_eq_true rfl) ?_
        refine rr rfl (s_iload_n rfl) ?_
        refine rr rfl (s_aloadL rfl) ?_
        refine rr rfl (s_alen0) ?_
        refine rr rfl (s_icF (by decide)) ?_
        refine rr rfl (s_aload_n rfl) ?_
        have e12 : a_m MT [] 100000 7 miJx4a65c_grow_d5877 [.ref 3] (((hF.set 3 (.inr (.inr (0, [.int 1, .long 0, .int 0])))).set 5 (.inl ((List.replicate 8 (0 : Int32)).set (Int32.toNatClampNeg x3) 1))) ++ [.inr (.inr (2, [.int x1, .int x2, .int x3, .int x4, .int x4, .int x6, .int x7, .int ((1 <<< (x4 &&& 31) : Int32) ||| (1 <<< (x4 &&& 31) : Int32)), .int (1 <<< (x6 &&& 31) : Int32), .int (-1)]))]) = some ((some (.ref 62)), (((hF.set 3 (.inr (.inr (0, [.int 1, .ref 62, .int 0])))).set 5 (.inl ((List.replicate 8 (0 : Int32)).set (Int32.toNatClampNeg x3) 1))) ++ [.inr (.inr (2, [.int x1, .int x2, .int x3, .int x4, .int x4, .int x6, .int x7, .int ((1 <<< (x4 &&& 31) : Int32) ||| (1 <<< (x4 &&& 31) : Int32)), .int (1 <<< (x6 &&& 31) : Int32), .int (-1)])), .inr (.inl (List.replicate 10 none))]), 1, 10) := by
          refine me (d := 6) g_Jx4a65c_grow_d5877 (Nat.le_of_ble_eq_true rfl) ?_
          refine rr rfl (s_aload_n rfl) ?_
          refine rr rfl (s_aload_n rfl) ?_
          refine rr rfl (s_getf rfl rfl) ?_
          refine rr rfl (s_iconst (v := 1) (by decide)) ?_
          refine rr rfl (s_iadd (v := 1) (by decide)) ?_
          have e13 : a_m MT [] 100000 6 miJx4a65c_grow_92f84 [.ref 3, .int 1] (((hF.set 3 (.inr (.inr (0, [.int 1, .long 0, .int 0])))).set 5 (.inl ((List.replicate 8 (0 : Int32)).set (Int32.toNatClampNeg x3) 1))) ++ [.inr (.inr (2, [.int x1, .int x2, .int x3, .int x4, .int x4, .int x6, .int x7, .int ((1 <<< (x4 &&& 31) : Int32) ||| (1 <<< (x4 &&& 31) : Int32)), .int (1 <<< (x6 &&& 31) : Int32), .int (-1)]))]) = some ((some (.ref 62)), (((hF.set 3 (.inr (.inr (0, [.int 1, .ref 62, .int 0])))).set 5 (.inl ((List.replicate 8 (0 : Int32)).set (Int32.toNatClampNeg x3) 1))) ++ [.inr (.inr (2, [.int x1, .int x2, .int x3, .int x4, .int x4, .int x6, .int x7, .int ((1 <<< (x4 &&& 31) : Int32) ||| (1 <<< (x4 &&& 31) : Int32)), .int (1 <<< (x6 &&& 31) : Int32), .int (-1)])), .inr (.inl (List.replicate 10 none))]), 1, 10) := by
            refine me (d := 5) g_Jx4a65c_grow_92f84 (Nat.le_of_ble_eq_true rfl) ?_
            refine rr rfl (s_aload_n rfl) ?_
            refine rr rfl (s_getf rfl rfl) ?_
            refine rr rfl (s_alen0) ?_
            refine rr rfl (s_istore_n rfl) ?_
            refine rr rfl (s_iload_n rfl) ?_
            refine rr rfl (s_ifF (by decide)) ?_
            refine rr rfl (s_aload_n rfl) ?_
            refine rr rfl (s_getf rfl rfl) ?_
            refine rr rfl rfl ?_
            refine rr rfl rfl ?_
            refine rr rfl (s_aload_n rfl) ?_
            refine rr rfl (s_bipush (v := 10) (by decide)) ?_
            refine rr rfl (s_iload_n rfl) ?_
            refine rr rfl (s_max (v := 10) rfl (Nat.le_of_ble_eq_true rfl) (by decide)) ?_
            refine rr rfl (s_anew (q := 62) (j := 10) rfl rfl rfl rfl (h' := (((hF.set 3 (.inr (.inr (0, [.int 1, .long 0, .int 0])))).set 5 (.inl ((List.replicate 8 (0 : Int32)).set (Int32.toNatClampNeg x3) 1))) ++ [.inr (.inr (2, [.int x1, .int x2, .int x3, .int x4, .int x4, .int x6, .int x7, .int ((1 <<< (x4 &&& 31) : Int32) ||| (1 <<< (x4 &&& 31) : Int32)), .int (1 <<< (x6 &&& 31) : Int32), .int (-1)])), .inr (.inl (List.replicate 10 none))]))) ?_
            refine rr rfl rfl ?_
            refine rr rfl (s_putf rfl rfl (Nat.le_of_ble_eq_true rfl) rfl (Nat.le_of_ble_eq_true rfl) rfl (h' := (((hF.set 3 (.inr (.inr (0, [.int 1, .ref 62, .int 0])))).set 5 (.inl ((List.replicate 8 (0 : Int32)).set (Int32.toNatClampNeg x3) 1))) ++ [.inr (.inr (2, [.int x1, .int x2, .int x3, .int x4, .int x4, .int x6, .int x7, .int ((1 <<< (x4 &&& 31) : Int32) ||| (1 <<< (x4 &&& 31) : Int32)), .int (1 <<< (x6 &&& 31) : Int32), .int (-1)])), .inr (.inl (List.replicate 10 none))]))) ?_
            exact rrt rfl rfl rfl rfl
          refine rrc rfl rfl rfl (do_of g_Jx4a65c_grow_92f84 rfl rfl e13) ?_
          exact rrt rfl rfl rfl rfl
        refine rrc rfl rfl rfl (do_of g_Jx4a65c_grow_d5877 rfl rfl e12) ?_
        refine rr rfl (s_astore_n rfl) ?_
        refine rr rfl (s_aload_n rfl) ?_
        refine rr rfl (s_iload_n rfl) ?_
        refine rr rfl (s_aload_n rfl) ?_
        refine rr rfl (s_aastore (j := 0) rfl rfl rfl (Nat.le_of_ble_eq_true rfl) rfl (Nat.le_of_ble_eq_true rfl) rfl (h' := (((hF.set 3 (.inr (.inr (0, [.int 1, .ref 62, .int 0])))).set 5 (.inl ((List.replicate 8 (0 : Int32)).set (Int32.toNatClampNeg x3) 1))) ++ [.inr (.inr (2, [.int x1, .int x2, .int x3, .int x4, .int x4, .int x6, .int x7, .int ((1 <<< (x4 &&& 31) : Int32) ||| (1 <<< (x4 &&& 31) : Int32)), .int (1 <<< (x6 &&& 31) : Int32), .int (-1)])), .inr (.inl [some 61, none, none, none, none, none, none, none, none, none])]))) ?_
        refine rr rfl (s_aload_n rfl) ?_
        refine rr rfl (s_iload_n rfl) ?_
        refine rr rfl (s_iconst (v := 1) (by decide)) ?_
        refine rr rfl (s_iadd (v := 1) (by decide)) ?_
        refine rr rfl (s_putf rfl rfl (Nat.le_of_ble_eq_true rfl) rfl (Nat.le_of_ble_eq_true rfl) rfl (h' := (((hF.set 3 (.inr (.inr (0, [.int 1, .ref 62, .int 1])))).set 5 (.inl ((List.replicate 8 (0 : Int32)).set (Int32.toNatClampNeg x3) 1))) ++ [.inr (.inr (2, [.int x1, .int x2, .int x3, .int x4, .int x4, .int x6, .int x7, .int ((1 <<< (x4 &&& 31) : Int32) ||| (1 <<< (x4 &&& 31) : Int32)), .int (1 <<< (x6 &&& 31) : Int32), .int (-1)])), .inr (.inl [some 61, none, none, none, none, none, none, none, none, none])]))) ?_
        exact rrt rfl rfl rfl rfl
      refine rrc rfl rfl rfl (do_of g_Jx4a65c_add_72be8 rfl rfl e11) ?_
      refine rr rfl (s_iconst (v := 1) (by decide)) ?_
      exact rrt rfl rfl rfl rfl
    refine rrc rfl rfl rfl (do_of g_Jx4a65c_add_9ea2d rfl rfl e10) ?_
    refine rr rfl rfl ?_
    refine rr rfl (s_aload_n rfl) ?_
    refine rr rfl (s_getf rfl rfl) ?_
    refine rr rfl (s_iconst (v := 0) (by decide)) ?_
    refine rr rfl (s_aload_n rfl) ?_
    refine rr rfl (s_getf rfl rfl) ?_
    refine rr rfl (s_iconst (v := 0) (by decide)) ?_
    refine rr rfl (s_bipush (v := 8) (by decide)) ?_
    refine rr rfl (s_copy8 rfl (Nat.le_of_ble_eq_true rfl) rfl rfl (by simp) rfl (Nat.le_of_ble_eq_true rfl) rfl (h' := ((((hF.set 3 (.inr (.inr (0, [.int 1, .ref 62, .int 1])))).set 4 (.inl ((List.replicate 8 (0 : Int32)).set (Int32.toNatClampNeg x3) 1))).set 5 (.inl ((List.replicate 8 (0 : Int32)).set (Int32.toNatClampNeg x3) 1))) ++ [.inr (.inr (2, [.int x1, .int x2, .int x3, .int x4, .int x4, .int x6, .int x7, .int ((1 <<< (x4 &&& 31) : Int32) ||| (1 <<< (x4 &&& 31) : Int32)), .int (1 <<< (x6 &&& 31) : Int32), .int (-1)])), .inr (.inl [some 61, none, none, none, none, none, none, none, none, none])]))) ?_
    exact rrt rfl rfl rfl rfl
  refine rrc rfl rfl rfl (do_of g_X3_take rfl rfl e9) ?_
  refine rr rfl (s_aload_n rfl) ?_
  have e14 : a_m MT [] 100000 10 miX8_forgetRules [.ref 0] ((((hF.set 3 (.inr (.inr (0, [.int 1, .ref 62, .int 1])))).set 4 (.inl ((List.replicate 8 (0 : Int32)).set (Int32.toNatClampNeg x3) 1))).set 5 (.inl ((List.replicate 8 (0 : Int32)).set (Int32.toNatClampNeg x3) 1))) ++ [.inr (.inr (2, [.int x1, .int x2, .int x3, .int x4, .int x4, .int x6, .int x7, .int ((1 <<< (x4 &&& 31) : Int32) ||| (1 <<< (x4 &&& 31) : Int32)), .int (1 <<< (x6 &&& 31) : Int32), .int (-1)])), .inr (.inl [some 61, none, none, none, none, none, none, none, none, none])]) = some (none, (((((hF.set 3 (.inr (.inr (0, [.int 1, .ref 62, .int 1])))).set 4 (.inl ((List.replicate 8 (0 : Int32)).set (Int32.toNatClampNeg x3) 1))).set 5 (.inl ((List.replicate 8 (0 : Int32)).set (Int32.toNatClampNeg x3) 1))).set 6 (.inr (.inr (6, [.ref 2, .ref 7, .ref 8, .ref 9, .int 1])))) ++ [.inr (.inr (2, [.int x1, .int x2, .int x3, .int x4, .int x4, .int x6, .int x7, .int ((1 <<< (x4 &&& 31) : Int32) ||| (1 <<< (x4 &&& 31) : Int32)), .int (1 <<< (x6 &&& 31) : Int32), .int (-1)])), .inr (.inl [some 61, none, none, none, none, none, none, none, none, none])]), 0, 0) := by
    refine me (d := 9) g_X8_forgetRules (Nat.le_of_ble_eq_true rfl) ?_
    refine rr rfl (s_aload_n rfl) ?_
    refine rr rfl (s_getf rfl rfl) ?_
    refine rr rfl (s_getf rfl rfl) ?_
    refine rr rfl (s_aload_n rfl) ?_
    refine rr rfl (s_getf rfl rfl) ?_
    refine rr rfl (s_getf rfl rfl) ?_
    have e15 : a_m MT [] 100000 9 miX3_notSpare [.ref 2] ((((hF.set 3 (.inr (.inr (0, [.int 1, .ref 62, .int 1])))).set 4 (.inl ((List.replicate 8 (0 : Int32)).set (Int32.toNatClampNeg x3) 1))).set 5 (.inl ((List.replicate 8 (0 : Int32)).set (Int32.toNatClampNeg x3) 1))) ++ [.inr (.inr (2, [.int x1, .int x2, .int x3, .int x4, .int x4, .int x6, .int x7, .int ((1 <<< (x4 &&& 31) : Int32) ||| (1 <<< (x4 &&& 31) : Int32)), .int (1 <<< (x6 &&& 31) : Int32), .int (-1)])), .inr (.inl [some 61, none, none, none, none, none, none, none, none, none])]) = some ((some (.int 1)), ((((hF.set 3 (.inr (.inr (0, [.int 1, .ref 62, .int 1])))).set 4 (.inl ((List.replicate 8 (0 : Int32)).set (Int32.toNatClampNeg x3) 1))).set 5 (.inl ((List.replicate 8 (0 : Int32)).set (Int32.toNatClampNeg x3) 1))) ++ [.inr (.inr (2, [.int x1, .int x2, .int x3, .int x4, .int x4, .int x6, .int x7, .int ((1 <<< (x4 &&& 31) : Int32) ||| (1 <<< (x4 &&& 31) : Int32)), .int (1 <<< (x6 &&& 31) : Int32), .int (-1)])), .inr (.inl [some 61, none, none, none, none, none, none, none, none, none])]), 0, 0) := by
      refine me (d := 8) g_X3_notSpare (Nat.le_of_ble_eq_true rfl) ?_
      refine rr rfl (s_iconst (v := 0) (by decide)) ?_
      refine rr rfl (s_istore_n rfl) ?_
      refine rr rfl (s_iconst (v := 0) (by decide)) ?_
      refine rr rfl (s_istore_n rfl) ?_
      refine rr rfl (s_iload_n rfl) ?_
      refine rr rfl (s_aload_n rfl) ?_
      refine rr rfl (s_getf rfl rfl) ?_
      have e16 : a_m MT [] 100000 8 miJx4a65c_size_8abf5 [.ref 3] ((((hF.set 3 (.inr (.inr (0, [.int 1, .ref 62, .int 1])))).set 4 (.inl ((List.replicate 8 (0 : Int32)).set (Int32.toNatClampNeg x3) 1))).set 5 (.inl ((List.replicate 8 (0 : Int32)).set (Int32.toNatClampNeg x3) 1))) ++ [.inr (.inr (2, [.int x1, .int x2, .int x3, .int x4, .int x4, .int x6, .int x7, .int ((1 <<< (x4 &&& 31) : Int32) ||| (1 <<< (x4 &&& 31) : Int32)), .int (1 <<< (x6 &&& 31) : Int32), .int (-1)])), .inr (.inl [some 61, none, none, none, none, none, none, none, none, none])]) = some ((some (.int 1)), ((((hF.set 3 (.inr (.inr (0, [.int 1, .ref 62, .int 1])))).set 4 (.inl ((List.replicate 8 (0 : Int32)).set (Int32.toNatClampNeg x3) 1))).set 5 (.inl ((List.replicate 8 (0 : Int32)).set (Int32.toNatClampNeg x3) 1))) ++ [.inr (.inr (2, [.int x1, .int x2, .int x3, .int x4, .int x4, .int x6, .int x7, .int ((1 <<< (x4 &&& 31) : Int32) ||| (1 <<< (x4 &&& 31) : Int32)), .int (1 <<< (x6 &&& 31) : Int32), .int (-1)])), .inr (.inl [some 61, none, none, none, none, none, none, none, none, none])]), 0, 0) := by
        refine me (d := 7) g_Jx4a65c_size_8abf5 (Nat.le_of_ble_eq_true rfl) ?_
        refine rr rfl (s_aload_n rfl) ?_
        refine rr rfl (s_getf rfl rfl) ?_
        exact rrt rfl rfl rfl rfl
      refine rrc rfl rfl rfl (do_of g_Jx4a65c_size_8abf5 rfl rfl e16) ?_
      refine rr rfl (s_icF (by decide)) ?_
      refine rr rfl (s_aload_n rfl) ?_
      refine rr rfl (s_getf rfl rfl) ?_
      refine rr rfl (s_iload_n rfl) ?_
      have e17 : a_m MT [] 100000 8 miJx4a65c_get_915e3 [.ref 3, .int 0] ((((hF.set 3 (.inr (.inr (0, [.int 1, .ref 62, .int 1])))).set 4 (.inl ((List.replicate 8 (0 : Int32)).set (Int32.toNatClampNeg x3) 1))).set 5 (.inl ((List.replicate 8 (0 : Int32)).set (Int32.toNatClampNeg x3) 1))) ++ [.inr (.inr (2, [.int x1, .int x2, .int x3, .int x4, .int x4, .int x6, .int x7, .int ((1 <<< (x4 &&& 31) : Int32) ||| (1 <<< (x4 &&& 31) : Int32)), .int (1 <<< (x6 &&& 31) : Int32), .int (-1)])), .inr (.inl [some 61, none, none, none, none, none, none, none, none, none])]) = some ((some (.ref 61)), ((((hF.set 3 (.inr (.inr (0, [.int 1, .ref 62, .int 1])))).set 4 (.inl ((List.replicate 8 (0 : Int32)).set (Int32.toNatClampNeg x3) 1))).set 5 (.inl ((List.replicate 8 (0 : Int32)).set (Int32.toNatClampNeg x3) 1))) ++ [.inr (.inr (2, [.int x1, .int x2, .int x3, .int x4, .int x4, .int x6, .int x7, .int ((1 <<< (x4 &&& 31) : Int32) ||| (1 <<< (x4 &&& 31) : Int32)), .int (1 <<< (x6 &&& 31) : Int32), .int (-1)])), .inr (.inl [some 61, none, none, none, none, none, none, none, none, none])]), 0, 0) := by
        refine me (d := 7) g_Jx4a65c_get_915e3 (Nat.le_of_ble_eq_true rfl) ?_
        refine rr rfl (s_iload_n rfl) ?_
        refine rr rfl (s_aload_n rfl) ?_
        refine rr rfl (s_getf rfl rfl) ?_
        have e18 : a_m MT [] 100000 7 miJ15_checkIndex_7cf53 [.int 0, .int 1] ((((hF.set 3 (.inr (.inr (0, [.int 1, .ref 62, .int 1])))).set 4 (.inl ((List.replicate 8 (0 : Int32)).set (Int32.toNatClampNeg x3) 1))).set 5 (.inl ((List.replicate 8 (0 : Int32)).set (Int32.toNatClampNeg x3) 1))) ++ [.inr (.inr (2, [.int x1, .int x2, .int x3, .int x4, .int x4, .int x6, .int x7, .int ((1 <<< (x4 &&& 31) : Int32) ||| (1 <<< (x4 &&& 31) : Int32)), .int (1 <<< (x6 &&& 31) : Int32), .int (-1)])), .inr (.inl [some 61, none, none, none, none, none, none, none, none, none])]) = some ((some (.int 0)), ((((hF.set 3 (.inr (.inr (0, [.int 1, .ref 62, .int 1])))).set 4 (.inl ((List.replicate 8 (0 : Int32)).set (Int32.toNatClampNeg x3) 1))).set 5 (.inl ((List.replicate 8 (0 : Int32)).set (Int32.toNatClampNeg x3) 1))) ++ [.inr (.inr (2, [.int x1, .int x2, .int x3, .int x4, .int x4, .int x6, .int x7, .int ((1 <<< (x4 &&& 31) : Int32) ||| (1 <<< (x4 &&& 31) : Int32)), .int (1 <<< (x6 &&& 31) : Int32), .int (-1)])), .inr (.inl [some 61, none, none, none, none, none, none, none, none, none])]), 0, 0) := by
          refine me (d := 6) g_J15_checkIndex_7cf53 (Nat.le_of_ble_eq_true rfl) ?_
          refine rr rfl (s_iload_n rfl) ?_
          refine rr rfl (s_iload_n rfl) ?_
          refine rr rfl rfl ?_
          have e19 : a_m MT [] 100000 6 miJ3_checkIndex_8e157 [.int 0, .int 1, .null] ((((hF.set 3 (.inr (.inr (0, [.int 1, .ref 62, .int 1])))).set 4 (.inl ((List.replicate 8 (0 : Int32)).set (Int32.toNatClampNeg x3) 1))).set 5 (.inl ((List.replicate 8 (0 : Int32)).set (Int32.toNatClampNeg x3) 1))) ++ [.inr (.inr (2, [.int x1, .int x2, .int x3, .int x4, .int x4, .int x6, .int x7, .int ((1 <<< (x4 &&& 31) : Int32) ||| (1 <<< (x4 &&& 31) : Int32)), .int (1 <<< (x6 &&& 31) : Int32), .int (-1)])), .inr (.inl [some 61, none, none, none, none, none, none, none, none, none])]) = some ((some (.int 0)), ((((hF.set 3 (.inr (.inr (0, [.int 1, .ref 62, .int 1])))).set 4 (.inl ((List.replicate 8 (0 : Int32)).set (Int32.toNatClampNeg x3) 1))).set 5 (.inl ((List.replicate 8 (0 : Int32)).set (Int32.toNatClampNeg x3) 1))) ++ [.inr (.inr (2, [.int x1, .int x2, .int x3, .int x4, .int x4, .int x6, .int x7, .int ((1 <<< (x4 &&& 31) : Int32) ||| (1 <<< (x4 &&& 31) : Int32)), .int (1 <<< (x6 &&& 31) : Int32), .int (-1)])), .inr (.inl [some 61, none, none, none, none, none, none, none, none, none])]), 0, 0) := by
            refine me (d := 5) g_J3_checkIndex_8e157 (Nat.le_of_ble_eq_true rfl) ?_
            refine rr rfl (s_iload_n rfl) ?_
            refine rr rfl (s_ifF (by decide)) ?_
            refine rr rfl (s_iload_n rfl) ?_
            refine rr rfl (s_iload_n rfl) ?_
            refine rr rfl (s_icT (by decide)) ?_
            refine rr rfl (s_iload_n rfl) ?_
            exact rrt rfl rfl rfl rfl
          refine rrc rfl rfl rfl (do_of g_J3_checkIndex_8e157 rfl rfl e19) ?_
          exact rrt rfl rfl rfl rfl
        refine rrc rfl rfl rfl (do_of g_J15_checkIndex_7cf53 rfl rfl e18) ?_
        refine rr rfl rfl ?_
        refine rr rfl (s_aload_n rfl) ?_
        refine rr rfl (s_iload_n rfl) ?_
        have e20 : a_m MT [] 100000 7 miJx4a65c_elementData_915e3 [.ref 3, .int 0] ((((hF.set 3 (.inr (.inr (0, [.int 1, .ref 62, .int 1])))).set 4 (.inl ((List.replicate 8 (0 : Int32)).set (Int32.toNatClampNeg x3) 1))).set 5 (.inl ((List.replicate 8 (0 : Int32)).set (Int32.toNatClampNeg x3) 1))) ++ [.inr (.inr (2, [.int x1, .int x2, .int x3, .int x4, .int x4, .int x6, .int x7, .int ((1 <<< (x4 &&& 31) : Int32) ||| (1 <<< (x4 &&& 31) : Int32)), .int (1 <<< (x6 &&& 31) : Int32), .int (-1)])), .inr (.inl [some 61, none, none, none, none, none, none, none, none, none])]) = some ((some (.ref 61)), ((((hF.set 3 (.inr (.inr (0, [.int 1, .ref 62, .int 1])))).set 4 (.inl ((List.replicate 8 (0 : Int32)).set (Int32.toNatClampNeg x3) 1))).set 5 (.inl ((List.replicate 8 (0 : Int32)).set (Int32.toNatClampNeg x3) 1))) ++ [.inr (.inr (2, [.int x1, .int x2, .int x3, .int x4, .int x4, .int x6, .int x7, .int ((1 <<< (x4 &&& 31) : Int32) ||| (1 <<< (x4 &&& 31) : Int32)), .int (1 <<< (x6 &&& 31) : Int32), .int (-1)])), .inr (.inl [some 61, none, none, none, none, none, none, none, none, none])]), 0, 0) := by
          refine me (d := 6) g_Jx4a65c_elementData_915e3 (Nat.le_of_ble_eq_true rfl) ?_
          refine rr rfl (s_aload_n rfl) ?_
          refine rr rfl (s_getf rfl rfl) ?_
          refine rr rfl (s_iload_n rfl) ?_
          refine rr rfl (s_aaload (j := 0) (z := 61) rfl rfl rfl) ?_
          exact rrt rfl rfl rfl rfl
        refine rrc rfl rfl rfl (do_of g_Jx4a65c_elementData_915e3 rfl rfl e20) ?_
        exact rrt rfl rfl rfl rfl
      refine rrc rfl rfl rfl (do_of g_Jx4a65c_get_915e3 rfl rfl e17) ?_
      refine rr rfl rfl ?_
      have e21 : a_m MT [] 100000 8 miX2_isSpare [.ref 61] ((((hF.set 3 (.inr (.inr (0, [.int 1, .ref 62, .int 1])))).set 4 (.inl ((List.replicate 8 (0 : Int32)).set (Int32.toNatClampNeg x3) 1))).set 5 (.inl ((List.replicate 8 (0 : Int32)).set (Int32.toNatClampNeg x3) 1))) ++ [.inr (.inr (2, [.int x1, .int x2, .int x3, .int x4, .int x4, .int x6, .int x7, .int ((1 <<< (x4 &&& 31) : Int32) ||| (1 <<< (x4 &&& 31) : Int32)), .int (1 <<< (x6 &&& 31) : Int32), .int (-1)])), .inr (.inl [some 61, none, none, none, none, none, none, none, none, none])]) = some ((some (.int 0)), ((((hF.set 3 (.inr (.inr (0, [.int 1, .ref 62, .int 1])))).set 4 (.inl ((List.replicate 8 (0 : Int32)).set (Int32.toNatClampNeg x3) 1))).set 5 (.inl ((List.replicate 8 (0 : Int32)).set (Int32.toNatClampNeg x3) 1))) ++ [.inr (.inr (2, [.int x1, .int x2, .int x3, .int x4, .int x4, .int x6, .int x7, .int ((1 <<< (x4 &&& 31) : Int32) ||| (1 <<< (x4 &&& 31) : Int32)), .int (1 <<< (x6 &&& 31) : Int32), .int (-1)])), .inr (.inl [some 61, none, none, none, none, none, none, none, none, none])]), 0, 0) := by
        refine me (d := 7) g_X2_isSpare (Nat.le_of_ble_eq_true rfl) ?_
        refine rr rfl (s_aload_n rfl) ?_
        refine rr rfl (s_getf rfl rfl) ?_
        refine rr rfl (s_iconst (v := (-1)) (by decide)) ?_
        refine rr rfl (s_icT (by decide)) ?_
        refine rr rfl (s_iconst (v := 0) (by decide)) ?_
        exact rrt rfl rfl rfl rfl
      refine rrc rfl rfl rfl (do_of g_X2_isSpare rfl rfl e21) ?_
      refine rr rfl (s_ifF (by decide)) ?_
      refine rr rfl (s_iload_n rfl) ?_
      refine rr rfl (s_iconst (v := 1) (by decide)) ?_
      refine rr rfl (s_iload_n rfl) ?_
      refine rr rfl (s_ishl (v := 1) (by decide)) ?_
      refine rr rfl (s_ior (v := 1) (by decide)) ?_
      refine rr rfl (s_istore_n rfl) ?_
      refine rr rfl (s_iinc (v := 1) rfl (by decide) rfl) ?_
      refine rr rfl s_goto ?_
      refine rr rfl (s_iload_n rfl) ?_
      refine rr rfl (s_aload_n rfl) ?_
      refine rr rfl (s_getf rfl rfl) ?_
      have e22 : a_m MT [] 100000 8 miJx4a65c_size_8abf5 [.ref 3] ((((hF.set 3 (.inr (.inr (0, [.int 1, .ref 62, .int 1])))).set 4 (.inl ((List.replicate 8 (0 : Int32)).set (Int32.toNatClampNeg x3) 1))).set 5 (.inl ((List.replicate 8 (0 : Int32)).set (Int32.toNatClampNeg x3) 1))) ++ [.inr (.inr (2, [.int x1, .int x2, .int x3, .int x4, .int x4, .int x6, .int x7, .int ((1 <<< (x4 &&& 31) : Int32) ||| (1 <<< (x4 &&& 31) : Int32)), .int (1 <<< (x6 &&& 31) : Int32), .int (-1)])), .inr (.inl [some 61, none, none, none, none, none, none, none, none, none])]) = some ((some (.int 1)), ((((hF.set 3 (.inr (.inr (0, [.int 1, .ref 62, .int 1])))).set 4 (.inl ((List.replicate 8 (0 : Int32)).set (Int32.toNatClampNeg x3) 1))).set 5 (.inl ((List.replicate 8 (0 : Int32)).set (Int32.toNatClampNeg x3) 1))) ++ [.inr (.inr (2, [.int x1, .int x2, .int x3, .int x4, .int x4, .int x6, .int x7, .int ((1 <<< (x4 &&& 31) : Int32) ||| (1 <<< (x4 &&& 31) : Int32)), .int (1 <<< (x6 &&& 31) : Int32), .int (-1)])), .inr (.inl [some 61, none, none, none, none, none, none, none, none, none])]), 0, 0) := by
        refine me (d := 7) g_Jx4a65c_size_8abf5 (Nat.le_of_ble_eq_true rfl) ?_
        refine rr rfl (s_aload_n rfl) ?_
        refine rr rfl (s_getf rfl rfl) ?_
        exact rrt rfl rfl rfl rfl
      refine rrc rfl rfl rfl (do_of g_Jx4a65c_size_8abf5 rfl rfl e22) ?_
      refine rr rfl (s_icT (by decide)) ?_
      refine rr rfl (s_iload_n rfl) ?_
      exact rrt rfl rfl rfl rfl
    refine rrc rfl rfl rfl (do_of g_X3_notSpare rfl rfl e15) ?_
    have e23 : a_m MT [] 100000 9 miX6_countOnly [.ref 6, .int 1] ((((hF.set 3 (.inr (.inr (0, [.int 1, .ref 62, .int 1])))).set 4 (.inl ((List.replicate 8 (0 : Int32)).set (Int32.toNatClampNeg x3) 1))).set 5 (.inl ((List.replicate 8 (0 : Int32)).set (Int32.toNatClampNeg x3) 1))) ++ [.inr (.inr (2, [.int x1, .int x2, .int x3, .int x4, .int x4, .int x6, .int x7, .int ((1 <<< (x4 &&& 31) : Int32) ||| (1 <<< (x4 &&& 31) : Int32)), .int (1 <<< (x6 &&& 31) : Int32), .int (-1)])), .inr (.inl [some 61, none, none, none, none, none, none, none, none, none])]) = some (none, (((((hF.set 3 (.inr (.inr (0, [.int 1, .ref 62, .int 1])))).set 4 (.inl ((List.replicate 8 (0 : Int32)).set (Int32.toNatClampNeg x3) 1))).set 5 (.inl ((List.replicate 8 (0 : Int32)).set (Int32.toNatClampNeg x3) 1))).set 6 (.inr (.inr (6, [.ref 2, .ref 7, .ref 8, .ref 9, .int 1])))) ++ [.inr (.inr (2, [.int x1, .int x2, .int x3, .int x4, .int x4, .int x6, .int x7, .int ((1 <<< (x4 &&& 31) : Int32) ||| (1 <<< (x4 &&& 31) : Int32)), .int (1 <<< (x6 &&& 31) : Int32), .int (-1)])), .inr (.inl [some 61, none, none, none, none, none, none, none, none, none])]), 0, 0) := by
      refine me (d := 8) g_X6_countOnly (Nat.le_of_ble_eq_true rfl) ?_
      refine rr rfl (s_aload_n rfl) ?_
      refine rr rfl (s_iload_n rfl) ?_
      refine rr rfl (s_putf rfl rfl (Nat.le_of_ble_eq_true rfl) rfl (Nat.le_of_ble_eq_true rfl) rfl (h' := (((((hF.set 3 (.inr (.inr (0, [.int 1, .ref 62, .int 1])))).set 4 (.inl ((List.replicate 8 (0 : Int32)).set (Int32.toNatClampNeg x3) 1))).set 5 (.inl ((List.replicate 8 (0 : Int32)).set (Int32.toNatClampNeg x3) 1))).set 6 (.inr (.inr (6, [.ref 2, .ref 7, .ref 8, .ref 9, .int 1])))) ++ [.inr (.inr (2, [.int x1, .int x2, .int x3, .int x4, .int x4, .int x6, .int x7, .int ((1 <<< (x4 &&& 31) : Int32) ||| (1 <<< (x4 &&& 31) : Int32)), .int (1 <<< (x6 &&& 31) : Int32), .int (-1)])), .inr (.inl [some 61, none, none, none, none, none, none, none, none, none])]))) ?_
      refine rr rfl (s_aload_n rfl) ?_
      refine rr rfl (s_getf rfl rfl) ?_
      refine rr rfl (s_iconst (v := (-1)) (by decide)) ?_
      have e24 : a_m MT [] 100000 8 miJ7_fill_53178 [.ref 7, .int (-1)] (((((hF.set 3 (.inr (.inr (0, [.int 1, .ref 62, .int 1])))).set 4 (.inl ((List.replicate 8 (0 : Int32)).set (Int32.toNatClampNeg x3) 1))).set 5 (.inl ((List.replicate 8 (0 : Int32)).set (Int32.toNatClampNeg x3) 1))).set 6 (.inr (.inr (6, [.ref 2, .ref 7, .ref 8, .ref 9, .int 1])))) ++ [.inr (.inr (2, [.int x1, .int x2, .int x3, .int x4, .int x4, .int x6, .int x7, .int ((1 <<< (x4 &&& 31) : Int32) ||| (1 <<< (x4 &&& 31) : Int32)), .int (1 <<< (x6 &&& 31) : Int32), .int (-1)])), .inr (.inl [some 61, none, none, none, none, none, none, none, none, none])]) = some (none, (((((hF.set 3 (.inr (.inr (0, [.int 1, .ref 62, .int 1])))).set 4 (.inl ((List.replicate 8 (0 : Int32)).set (Int32.toNatClampNeg x3) 1))).set 5 (.inl ((List.replicate 8 (0 : Int32)).set (Int32.toNatClampNeg x3) 1))).set 6 (.inr (.inr (6, [.ref 2, .ref 7, .ref 8, .ref 9, .int 1])))) ++ [.inr (.inr (2, [.int x1, .int x2, .int x3, .int x4, .int x4, .int x6, .int x7, .int ((1 <<< (x4 &&& 31) : Int32) ||| (1 <<< (x4 &&& 31) : Int32)), .int (1 <<< (x6 &&& 31) : Int32), .int (-1)])), .inr (.inl [some 61, none, none, none, none, none, none, none, none, none])]), 0, 0) := fill_n rfl (Nat.le_of_ble_eq_true rfl) rfl
      refine rrc rfl rfl rfl (do_of g_J7_fill_53178 rfl rfl e24) ?_
      exact rrt rfl rfl rfl rfl
    refine rrc rfl rfl rfl (do_of g_X6_countOnly rfl rfl e23) ?_
    refine rr rfl (s_aload_n rfl) ?_
    have e25 : a_m MT [] 100000 9 miX8_forgetRuns [.ref 0] (((((hF.set 3 (.inr (.inr (0, [.int 1, .ref 62, .int 1])))).set 4 (.inl ((List.replicate 8 (0 : Int32)).set (Int32.toNatClampNeg x3) 1))).set 5 (.inl ((List.replicate 8 (0 : Int32)).set (Int32.toNatClampNeg x3) 1))).set 6 (.inr (.inr (6, [.ref 2, .ref 7, .ref 8, .ref 9, .int 1])))) ++ [.inr (.inr (2, [.int x1, .int x2, .int x3, .int x4, .int x4, .int x6, .int x7, .int ((1 <<< (x4 &&& 31) : Int32) ||| (1 <<< (x4 &&& 31) : Int32)), .int (1 <<< (x6 &&& 31) : Int32), .int (-1)])), .inr (.inl [some 61, none, none, none, none, none, none, none, none, none])]) = some (none, (((((hF.set 3 (.inr (.inr (0, [.int 1, .ref 62, .int 1])))).set 4 (.inl ((List.replicate 8 (0 : Int32)).set (Int32.toNatClampNeg x3) 1))).set 5 (.inl ((List.replicate 8 (0 : Int32)).set (Int32.toNatClampNeg x3) 1))).set 6 (.inr (.inr (6, [.ref 2, .ref 7, .ref 8, .ref 9, .int 1])))) ++ [.inr (.inr (2, [.int x1, .int x2, .int x3, .int x4, .int x4, .int x6, .int x7, .int ((1 <<< (x4 &&& 31) : Int32) ||| (1 <<< (x4 &&& 31) : Int32)), .int (1 <<< (x6 &&& 31) : Int32), .int (-1)])), .inr (.inl [some 61, none, none, none, none, none, none, none, none, none])]), 0, 0) := by
      refine me (d := 8) g_X8_forgetRuns (Nat.le_of_ble_eq_true rfl) ?_
      refine rr rfl (s_aload_n rfl) ?_
      refine rr rfl (s_iconst (v := 0) (by decide)) ?_
      refine rr rfl (s_putf rfl rfl (Nat.le_of_ble_eq_true rfl) rfl (Nat.le_of_ble_eq_true rfl) rfl (h' := (((((hF.set 3 (.inr (.inr (0, [.int 1, .ref 62, .int 1])))).set 4 (.inl ((List.replicate 8 (0 : Int32)).set (Int32.toNatClampNeg x3) 1))).set 5 (.inl ((List.replicate 8 (0 : Int32)).set (Int32.toNatClampNeg x3) 1))).set 6 (.inr (.inr (6, [.ref 2, .ref 7, .ref 8, .ref 9, .int 1])))) ++ [.inr (.inr (2, [.int x1, .int x2, .int x3, .int x4, .int x4, .int x6, .int x7, .int ((1 <<< (x4 &&& 31) : Int32) ||| (1 <<< (x4 &&& 31) : Int32)), .int (1 <<< (x6 &&& 31) : Int32), .int (-1)])), .inr (.inl [some 61, none, none, none, none, none, none, none, none, none])]))) ?_
      refine rr rfl (s_aload_n rfl) ?_
      refine rr rfl (s_getf rfl rfl) ?_
      refine rr rfl (s_iconst (v := 0) (by decide)) ?_
      refine rr rfl (s_putf rfl rfl (Nat.le_of_ble_eq_true rfl) rfl (Nat.le_of_ble_eq_true rfl) rfl (h' := (((((hF.set 3 (.inr (.inr (0, [.int 1, .ref 62, .int 1])))).set 4 (.inl ((List.replicate 8 (0 : Int32)).set (Int32.toNatClampNeg x3) 1))).set 5 (.inl ((List.replicate 8 (0 : Int32)).set (Int32.toNatClampNeg x3) 1))).set 6 (.inr (.inr (6, [.ref 2, .ref 7, .ref 8, .ref 9, .int 1])))) ++ [.inr (.inr (2, [.int x1, .int x2, .int x3, .int x4, .int x4, .int x6, .int x7, .int ((1 <<< (x4 &&& 31) : Int32) ||| (1 <<< (x4 &&& 31) : Int32)), .int (1 <<< (x6 &&& 31) : Int32), .int (-1)])), .inr (.inl [some 61, none, none, none, none, none, none, none, none, none])]))) ?_
      exact rrt rfl rfl rfl rfl
    refine rrc rfl rfl rfl (do_of g_X8_forgetRuns rfl rfl e25) ?_
    exact rrt rfl rfl rfl rfl
  refine rrc rfl rfl rfl (do_of g_X8_forgetRules rfl rfl e14) ?_
  refine rr rfl (s_aload_n rfl) ?_
  refine rr rfl (s_getf rfl rfl) ?_
  refine rr rfl (s_getf rfl rfl) ?_
  refine rr rfl (s_getf rfl rfl) ?_
  have e26 : a_m MT [] 100000 10 miJx4a65c_size_8abf5 [.ref 3] (((((hF.set 3 (.inr (.inr (0, [.int 1, .ref 62, .int 1])))).set 4 (.inl ((List.replicate 8 (0 : Int32)).set (Int32.toNatClampNeg x3) 1))).set 5 (.inl ((List.replicate 8 (0 : Int32)).set (Int32.toNatClampNeg x3) 1))).set 6 (.inr (.inr (6, [.ref 2, .ref 7, .ref 8, .ref 9, .int 1])))) ++ [.inr (.inr (2, [.int x1, .int x2, .int x3, .int x4, .int x4, .int x6, .int x7, .int ((1 <<< (x4 &&& 31) : Int32) ||| (1 <<< (x4 &&& 31) : Int32)), .int (1 <<< (x6 &&& 31) : Int32), .int (-1)])), .inr (.inl [some 61, none, none, none, none, none, none, none, none, none])]) = some ((some (.int 1)), (((((hF.set 3 (.inr (.inr (0, [.int 1, .ref 62, .int 1])))).set 4 (.inl ((List.replicate 8 (0 : Int32)).set (Int32.toNatClampNeg x3) 1))).set 5 (.inl ((List.replicate 8 (0 : Int32)).set (Int32.toNatClampNeg x3) 1))).set 6 (.inr (.inr (6, [.ref 2, .ref 7, .ref 8, .ref 9, .int 1])))) ++ [.inr (.inr (2, [.int x1, .int x2, .int x3, .int x4, .int x4, .int x6, .int x7, .int ((1 <<< (x4 &&& 31) : Int32) ||| (1 <<< (x4 &&& 31) : Int32)), .int (1 <<< (x6 &&& 31) : Int32), .int (-1)])), .inr (.inl [some 61, none, none, none, none, none, none, none, none, none])]), 0, 0) := by
    refine me (d := 9) g_Jx4a65c_size_8abf5 (Nat.le_of_ble_eq_true rfl) ?_
    refine rr rfl (s_aload_n rfl) ?_
    refine rr rfl (s_getf rfl rfl) ?_
    exact rrt rfl rfl rfl rfl
  refine rrc rfl rfl rfl (do_of g_Jx4a65c_size_8abf5 rfl rfl e26) ?_
  refine rr rfl (s_iconst (v := 1) (by decide)) ?_
  refine rr rfl (s_isub (v := 0) (by decide)) ?_
  exact rrt rfl rfl rfl rfl
set_option maxHeartbeats 4000000 in
set_option maxRecDepth 10000 in
theorem rx_Nooh {x1 x2 x3 x4 x5 x6 x7 : Int32} (g1 : ¬ x5 = (-1)) (g2 : ¬ x6 = (-1)) (g3 : x2 = 0) (g4 : ¬ x4 < 0) (g5 : x4 < nI 8) (g6 : ¬ x5 < 0) (g7 : x5 < nI 8) (g8 : ¬ x6 < 0) (g9 : x6 < nI 8) (g10 : ¬ x3 < 0) (g11 : x3 < nI 8) (g12 : x4 = x3) (g13 : ¬ x5 = x3) (g14 : ¬ x6 = x3) : a_run MT [] (a_m MT [] 100000 10) 11 (some .int) tabX8_rule 90000 140 (alR x1 x2 x3 x4 x5 x6 x7) [] hF 0 0 = some (some (.int 0), (((((hF.set 3 (.inr (.inr (0, [.int 1, .ref 62, .int 1])))).set 4 (.inl ((List.replicate 8 (0 : Int32)).set (Int32.toNatClampNeg x3) 1))).set 5 (.inl ((List.replicate 8 (0 : Int32)).set (Int32.toNatClampNeg x3) 1))).set 6 (.inr (.inr (6, [.ref 2, .ref 7, .ref 8, .ref 9, .int 1])))) ++ [.inr (.inr (2, [.int x1, .int x2, .int x3, .int x4, .int x5, .int x6, .int x7, .int ((1 <<< (x4 &&& 31) : Int32) ||| (1 <<< (x5 &&& 31) : Int32)), .int (1 <<< (x6 &&& 31) : Int32), .int (-1)])), .inr (.inl [some 61, none, none, none, none, none, none, none, none, none])]), 2, 20) := by
  refine rr rfl (s_new (q := 61) rfl rfl (h' := (hF ++ [.inr (.inr (2, [.int 0, .int 0, .int 0, .int 0, .int 0, .int 0, .int 0, .int 0, .int 0, .int 0]))]))) ?_
  refine rr rfl rfl ?_
  refine rr rfl (s_iload_n rfl) ?_
  refine rr rfl (s_iload_n rfl) ?_
  refine rr rfl (s_iload_n rfl) ?_
  refine rr rfl (s_iload rfl) ?_
  refine rr rfl (s_iload rfl) ?_
  refine rr rfl (s_iload rfl) ?_
  refine rr rfl (s_iload rfl) ?_
  have e1 : a_m MT [] 100000 10 miX2_init [.ref 61, .int x1, .int x2, .int x3, .int x4, .int x5, .int x6, .int x7] (hF ++ [.inr (.inr (2, [.int 0, .int 0, .int 0, .int 0, .int 0, .int 0, .int 0, .int 0, .int 0, .int 0]))]) = some (none, (hF ++ [.inr (.inr (2, [.int x1, .int x2, .int x3, .int x4, .int x5, .int x6, .int x7, .int ((1 <<< (x4 &&& 31) : Int32) ||| (1 <<< (x5 &&& 31) : Int32)), .int (1 <<< (x6 &&& 31) : Int32), .int (-1)]))]), 0, 0) := by
    refine me (d := 9) g_X2_init (Nat.le_of_ble_eq_true rfl) ?_
    refine rr rfl (s_aload_n rfl) ?_
    refine rr rfl rfl ?_
    refine rr rfl (s_aload_n rfl) ?_
    refine rr rfl (s_iconst (v := (-1)) (by decide)) ?_
    refine rr rfl (s_putf rfl rfl (Nat.le_of_ble_eq_true rfl) rfl (Nat.le_of_ble_eq_true rfl) rfl (h' := (hF ++ [.inr (.inr (2, [.int 0, .int 0, .int 0, .int 0, .int 0, .int 0, .int 0, .int 0, .int 0, .int (-1)]))]))) ?_
    refine rr rfl (s_aload_n rfl) ?_
    refine rr rfl (s_iload_n rfl) ?_
    refine rr rfl (s_putf rfl rfl (Nat.le_of_ble_eq_true rfl) rfl (Nat.le_of_ble_eq_true rfl) rfl (h' := (hF ++ [.inr (.inr (2, [.int x1, .int 0, .int 0, .int 0, .int 0, .int 0, .int 0, .int 0, .int 0, .int (-1)]))]))) ?_
    refine rr rfl (s_aload_n rfl) ?_
    refine rr rfl (s_iload_n rfl) ?_
    refine rr rfl (s_putf rfl rfl (Nat.le_of_ble_eq_true rfl) rfl (Nat.le_of_ble_eq_true rfl) rfl (h' := (hF ++ [.inr (.inr (2, [.int x1, .int x2, .int 0, .int 0, .int 0, .int 0, .int 0, .int 0, .int 0, .int (-1)]))]))) ?_
    refine rr rfl (s_aload_n rfl) ?_
    refine rr rfl (s_iload_n rfl) ?_
    refine rr rfl (s_putf rfl rfl (Nat.le_of_ble_eq_true rfl) rfl (Nat.le_of_ble_eq_true rfl) rfl (h' := (hF ++ [.inr (.inr (2, [.int x1, .int x2, .int x3, .int 0, .int 0, .int 0, .int 0, .int 0, .int 0, .int (-1)]))]))) ?_
    refine rr rfl (s_aload_n rfl) ?_
    refine rr rfl (s_iload rfl) ?_
    refine rr rfl (s_putf rfl rfl (Nat.le_of_ble_eq_true rfl) rfl (Nat.le_of_ble_eq_true rfl) rfl (h' := (hF ++ [.inr (.inr (2, [.int x1, .int x2, .int x3, .int x4, .int 0, .int 0, .int 0, .int 0, .int 0, .int (-1)]))]))) ?_
    refine rr rfl (s_aload_n rfl) ?_
    refine rr rfl (s_iload rfl) ?_
    refine rr rfl (s_iconst (v := (-1)) (by decide)) ?_
    refine rr rfl (s_icT (ic_ne g1)) ?_
    refine rr rfl (s_iload rfl) ?_
    refine rr rfl (s_putf rfl rfl (Nat.le_of_ble_eq_true rfl) rfl (Nat.le_of_ble_eq_true rfl) rfl (h' := (hF ++ [.inr (.inr (2, [.int x1, .int x2, .int x3, .int x4, .int x5, .int 0, .int 0, .int 0, .int 0, .int (-1)]))]))) ?_
    refine rr rfl (s_aload_n rfl) ?_
    refine rr rfl (s_iload rfl) ?_
    refine rr rfl (s_putf rfl rfl (Nat.le_of_ble_eq_true rfl) rfl (Nat.le_of_ble_eq_true rfl) rfl (h' := (hF ++ [.inr (.inr (2, [.int x1, .int x2, .int x3, .int x4, .int x5, .int x6, .int 0, .int 0, .int 0, .int (-1)]))]))) ?_
    refine rr rfl (s_aload_n rfl) ?_
    refine rr rfl (s_iload rfl) ?_
    refine rr rfl (s_putf rfl rfl (Nat.le_of_ble_eq_true rfl) rfl (Nat.le_of_ble_eq_true rfl) rfl (h' := (hF ++ [.inr (.inr (2, [.int x1, .int x2, .int x3, .int x4, .int x5, .int x6, .int x7, .int 0, .int 0, .int (-1)]))]))) ?_
    refine rr rfl (s_aload_n rfl) ?_
    refine rr rfl (s_iconst (v := 1) (by decide)) ?_
    refine rr rfl (s_aload_n rfl) ?_
    refine rr rfl (s_getf rfl rfl) ?_
    refine rr rfl (s_ishl (v := (1 <<< (x4 &&& 31) : Int32)) rfl) ?_
    refine rr rfl (s_iconst (v := 1) (by decide)) ?_
    refine rr rfl (s_aload_n rfl) ?_
    refine rr rfl (s_getf rfl rfl) ?_
    refine rr rfl (s_ishl (v := (1 <<< (x5 &&& 31) : Int32)) rfl) ?_
    refine rr rfl (s_ior (v := ((1 <<< (x4 &&& 31) : Int32) ||| (1 <<< (x5 &&& 31) : Int32))) rfl) ?_
    refine rr rfl (s_putf rfl rfl (Nat.le_of_ble_eq_true rfl) rfl (Nat.le_of_ble_eq_true rfl) rfl (h' := (hF ++ [.inr (.inr (2, [.int x1, .int x2, .int x3, .int x4, .int x5, .int x6, .int x7, .int ((1 <<< (x4 &&& 31) : Int32) ||| (1 <<< (x5 &&& 31) : Int32)), .int 0, .int (-1)]))]))) ?_
    refine rr rfl (s_aload_n rfl) ?_
    refine rr rfl (s_iload rfl) ?_
    refine rr rfl (s_iconst (v := (-1)) (by decide)) ?_
    refine rr rfl (s_icT (ic_ne g2)) ?_
    refine rr rfl (s_iconst (v := 1) (by decide)) ?_
    refine rr rfl (s_iload rfl) ?_
    refine rr rfl (s_ishl (v := (1 <<< (x6 &&& 31) : Int32)) rfl) ?_
    refine rr rfl (s_putf rfl rfl (Nat.le_of_ble_eq_true rfl) rfl (Nat.le_of_ble_eq_true rfl) rfl (h' := (hF ++ [.inr (.inr (2, [.int x1, .int x2, .int x3, .int x4, .int x5, .int x6, .int x7, .int ((1 <<< (x4 &&& 31) : Int32) ||| (1 <<< (x5 &&& 31) : Int32)), .int (1 <<< (x6 &&& 31) : Int32), .int (-1)]))]))) ?_
    exact rrt rfl rfl rfl rfl
  refine rrc rfl rfl rfl (do_of g_X2_init rfl rfl e1) ?_
  refine rr rfl (s_astore rfl) ?_
  refine rr rfl (s_aload_n rfl) ?_
  refine rr rfl (s_getf rfl rfl) ?_
  refine rr rfl (s_getf rfl rfl) ?_
  refine rr rfl (s_aload rfl) ?_
  have e2 : a_m MT [] 100000 10 miX3_hasLayersWith [.ref 2, .ref 61] (hF ++ [.inr (.inr (2, [.int x1, .int x2, .int x3, .int x4, .int x5, .int x6, .int x7, .int ((1 <<< (x4 &&& 31) : Int32) ||| (1 <<< (x5 &&& 31) : Int32)), .int (1 <<< (x6 &&& 31) : Int32), .int (-1)]))]) = some ((some (.int 1)), ((hF.set 5 (.inl ((List.replicate 8 (0 : Int32)).set (Int32.toNatClampNeg x3) 1))) ++ [.inr (.inr (2, [.int x1, .int x2, .int x3, .int x4, .int x5, .int x6, .int x7, .int ((1 <<< (x4 &&& 31) : Int32) ||| (1 <<< (x5 &&& 31) : Int32)), .int (1 <<< (x6 &&& 31) : Int32), .int (-1)]))]), 0, 0) := by
    refine me (d := 9) g_X3_hasLayersWith (Nat.le_of_ble_eq_true rfl) ?_
    refine rr rfl (s_aload_n rfl) ?_
    refine rr rfl (s_getf rfl rfl) ?_
    refine rr rfl (s_iconst (v := 0) (by decide)) ?_
    have e3 : a_m MT [] 100000 9 miJ7_fill_53178 [.ref 5, .int 0] (hF ++ [.inr (.inr (2, [.int x1, .int x2, .int x3, .int x4, .int x5, .int x6, .int x7, .int ((1 <<< (x4 &&& 31) : Int32) ||| (1 <<< (x5 &&& 31) : Int32)), .int (1 <<< (x6 &&& 31) : Int32), .int (-1)]))]) = some (none, (hF ++ [.inr (.inr (2, [.int x1, .int x2, .int x3, .int x4, .int x5, .int x6, .int x7, .int ((1 <<< (x4 &&& 31) : Int32) ||| (1 <<< (x5 &&& 31) : Int32)), .int (1 <<< (x6 &&& 31) : Int32), .int (-1)]))]), 0, 0) := fill_n rfl (Nat.le_of_ble_eq_true rfl) rfl
    refine rrc rfl rfl rfl (do_of g_J7_fill_53178 rfl rfl e3) ?_
    refine rr rfl (s_iconst (v := 1) (by decide)) ?_
    refine rr rfl (s_istore_n rfl) ?_
    refine rr rfl (s_iconst (v := 0) (by decide)) ?_
    refine rr rfl (s_istore_n rfl) ?_
    refine rr rfl (s_iload_n rfl) ?_
    refine rr rfl (s_ifF (by decide)) ?_
    refine rr rfl (s_iload_n rfl) ?_
    refine rr rfl (s_bipush (v := 8) (by decide)) ?_
    refine rr rfl (s_icF (by decide)) ?_
    refine rr rfl (s_aload_n rfl) ?_
    refine rr rfl (s_aload_n rfl) ?_
    have e4 : a_m MT [] 100000 9 miX3_lift [.ref 2, .ref 61] (hF ++ [.inr (.inr (2, [.int x1, .int x2, .int x3, .int x4, .int x5, .int x6, .int x7, .int ((1 <<< (x4 &&& 31) : Int32) ||| (1 <<< (x5 &&& 31) : Int32)), .int (1 <<< (x6 &&& 31) : Int32), .int (-1)]))]) = some ((some (.int 1)), ((hF.set 5 (.inl ((List.replicate 8 (0 : Int32)).set (Int32.toNatClampNeg x3) 1))) ++ [.inr (.inr (2, [.int x1, .int x2, .int x3, .int x4, .int x5, .int x6, .int x7, .int ((1 <<< (x4 &&& 31) : Int32) ||| (1 <<< (x5 &&& 31) : Int32)), .int (1 <<< (x6 &&& 31) : Int32), .int (-1)]))]), 0, 0) := by
      refine me (d := 8) g_X3_lift (Nat.le_of_ble_eq_true rfl) ?_
      refine rr rfl (s_aload_n rfl) ?_
      refine rr rfl (s_getf rfl rfl) ?_
      refine rr rfl (s_ifT (ic_eq g3)) ?_
      refine rr rfl (s_aload_n rfl) ?_
      refine rr rfl (s_getf rfl rfl) ?_
      refine rr rfl (s_aload_n rfl) ?_
      refine rr rfl (s_getf rfl rfl) ?_
      refine rr rfl (s_ialdR (n := 8) (x := 0) rfl g4 g5) ?_
      refine rr rfl (s_aload_n rfl) ?_
      refine rr rfl (s_getf rfl rfl) ?_
      refine rr rfl (s_aload_n rfl) ?_
      refine rr rfl (s_getf rfl rfl) ?_
      refine rr rfl (s_ialdR (n := 8) (x := 0) rfl g6 g7) ?_
      refine rr rfl (s_max (v := 0) rfl (Nat.le_of_ble_eq_true rfl) (by decide)) ?_
      refine rr rfl (s_istore_n rfl) ?_
      refine rr rfl (s_aload_n rfl) ?_
      refine rr rfl (s_getf rfl rfl) ?_
      refine rr rfl (s_iconst (v := (-1)) (by decide)) ?_
      refine rr rfl (s_icF (ic_neq g2)) ?_
      refine rr rfl (s_iload_n rfl) ?_
      refine rr rfl (s_aload_n rfl) ?_
      refine rr rfl (s_getf rfl rfl) ?_
      refine rr rfl (s_aload_n rfl) ?_
      refine rr rfl (s_getf rfl rfl) ?_
      refine rr rfl (s_ialdR (n := 8) (x := 0) rfl g8 g9) ?_
      refine rr rfl (s_iconst (v := 1) (by decide)) ?_
      refine rr rfl (s_iadd (v := 1) (by decide)) ?_
      refine rr rfl (s_max (v := 1) rfl (Nat.le_of_ble_eq_true rfl) (by decide)) ?_
      refine rr rfl (s_istore_n rfl) ?_
      refine rr rfl (s_aload_n rfl) ?_
      refine rr rfl (s_getf rfl rfl) ?_
      refine rr rfl (s_aload_n rfl) ?_
      refine rr rfl (s_getf rfl rfl) ?_
      refine rr rfl (s_ialdR (n := 8) (x := 0) rfl g10 g11) ?_
      refine rr rfl (s_iload_n rfl) ?_
      refine rr rfl (s_icT (by decide)) ?_
      refine rr rfl (s_aload_n rfl) ?_
      refine rr rfl (s_getf rfl rfl) ?_
      refine rr rfl (s_aload_n rfl) ?_
      refine rr rfl (s_getf rfl rfl) ?_
      refine rr rfl (s_iload_n rfl) ?_
      refine rr rfl (s_iastR (n := 8) rfl g10 g11 (Nat.le_of_ble_eq_true rfl) rfl (h' := ((hF.set 5 (.inl ((List.replicate 8 (0 : Int32)).set (Int32.toNatClampNeg x3) 1))) ++ [.inr (.inr (2, [.int x1, .int x2, .int x3, .int x4, .int x5, .int x6, .int x7, .int ((1 <<< (x4 &&& 31) : Int32) ||| (1 <<< (x5 &&& 31) : Int32)), .int (1 <<< (x6 &&& 31) : Int32), .int (-1)]))]))) ?_
      refine rr rfl (s_iconst (v := 1) (by decide)) ?_
      exact rrt rfl rfl rfl rfl
    refine rrc rfl rfl rfl (do_of g_X3_lift rfl rfl e4) ?_
    refine rr rfl (s_istore_n rfl) ?_
    refine rr rfl (s_iconst (v := 0) (by decide)) ?_
    refine rr rfl (s_istore rfl) ?_
    refine rr rfl (s_iload rfl) ?_
    refine rr rfl (s_aload_n rfl) ?_
    refine rr rfl (s_getf rfl rfl) ?_
    have e5 : a_m MT [] 100000 9 miJx4a65c_size_8abf5 [.ref 3] ((hF.set 5 (.inl ((List.replicate 8 (0 : Int32)).set (Int32.toNatClampNeg x3) 1))) ++ [.inr (.inr (2, [.int x1, .int x2, .int x3, .int x4, .int x5, .int x6, .int x7, .int ((1 <<< (x4 &&& 31) : Int32) ||| (1 <<< (x5 &&& 31) : Int32)), .int (1 <<< (x6 &&& 31) : Int32), .int (-1)]))]) = some ((some (.int 0)), ((hF.set 5 (.inl ((List.replicate 8 (0 : Int32)).set (Int32.toNatClampNeg x3) 1))) ++ [.inr (.inr (2, [.int x1, .int x2, .int x3, .int x4, .int x5, .int x6, .int x7, .int ((1 <<< (x4 &&& 31) : Int32) ||| (1 <<< (x5 &&& 31) : Int32)), .int (1 <<< (x6 &&& 31) : Int32), .int (-1)]))]), 0, 0) := by
      refine me (d := 8) g_Jx4a65c_size_8abf5 (Nat.le_of_ble_eq_true rfl) ?_
      refine rr rfl (s_aload_n rfl) ?_
      refine rr rfl (s_getf rfl rfl) ?_
      exact rrt rfl rfl rfl rfl
    refine rrc rfl rfl rfl (do_of g_Jx4a65c_size_8abf5 rfl rfl e5) ?_
    refine rr rfl (s_icT (by decide)) ?_
    refine rr rfl (s_iinc (v := 1) rfl (by decide) rfl) ?_
    refine rr rfl s_goto ?_
    refine rr rfl (s_iload_n rfl) ?_
    refine rr rfl (s_ifF (by decide)) ?_
    refine rr rfl (s_iload_n rfl) ?_
    refine rr rfl (s_bipush (v := 8) (by decide)) ?_
    refine rr rfl (s_icF (by decide)) ?_
    refine rr rfl (s_aload_n rfl) ?_
    refine rr rfl (s_aload_n rfl) ?_
    have e6 : a_m MT [] 100000 9 miX3_lift [.ref 2, .ref 61] ((hF.set 5 (.inl ((List.replicate 8 (0 : Int32)).set (Int32.toNatClampNeg x3) 1))) ++ [.inr (.inr (2, [.int x1, .int x2, .int x3, .int x4, .int x5, .int x6, .int x7, .int ((1 <<< (x4 &&& 31) : Int32) ||| (1 <<< (x5 &&& 31) : Int32)), .int (1 <<< (x6 &&& 31) : Int32), .int (-1)]))]) = some ((some (.int 0)), ((hF.set 5 (.inl ((List.replicate 8 (0 : Int32)).set (Int32.toNatClampNeg x3) 1))) ++ [.inr (.inr (2, [.int x1, .int x2, .int x3, .int x4, .int x5, .int x6, .int x7, .int ((1 <<< (x4 &&& 31) : Int32) ||| (1 <<< (x5 &&& 31) : Int32)), .int (1 <<< (x6 &&& 31) : Int32), .int (-1)]))]), 0, 0) := by
      refine me (d := 8) g_X3_lift (Nat.le_of_ble_eq_true rfl) ?_
      refine rr rfl (s_aload_n rfl) ?_
      refine rr rfl (s_getf rfl rfl) ?_
      refine rr rfl (s_ifT (ic_eq g3)) ?_
      refine rr rfl (s_aload_n rfl) ?_
      refine rr rfl (s_getf rfl rfl) ?_
      refine rr rfl (s_aload_n rfl) ?_
      refine rr rfl (s_getf rfl rfl) ?_
      refine rr rfl (s_ialdH rfl g12 g10 g11) ?_
      refine rr rfl (s_aload_n rfl) ?_
      refine rr rfl (s_getf rfl rfl) ?_
      refine rr rfl (s_aload_n rfl) ?_
      refine rr rfl (s_getf rfl rfl) ?_
      refine rr rfl (s_ialdN rfl g13 g6 g7 g10) ?_
      refine rr rfl (s_max (v := 1) rfl (Nat.le_of_ble_eq_true rfl) (by decide)) ?_
      refine rr rfl (s_istore_n rfl) ?_
      refine rr rfl (s_aload_n rfl) ?_
      refine rr rfl (s_getf rfl rfl) ?_
      refine rr rfl (s_iconst (v := (-1)) (by decide)) ?_
      refine rr rfl (s_icF (ic_neq g2)) ?_
      refine rr rfl (s_iload_n rfl) ?_
      refine rr rfl (s_aload_n rfl) ?_
      refine rr rfl (s_getf rfl rfl) ?_
      refine rr rfl (s_aload_n rfl) ?_
      refine rr rfl (s_getf rfl rfl) ?_
      refine rr rfl (s_ialdN rfl g14 g8 g9 g10) ?_
      refine rr rfl (s_iconst (v := 1) (by decide)) ?_
      refine rr rfl (s_iadd (v := 1) (by decide)) ?_
      refine rr rfl (s_max (v := 1) rfl (Nat.le_of_ble_eq_true rfl) (by decide)) ?_
      refine rr rfl (s_istore_n rfl) ?_
      refine rr rfl (s_aload_n rfl) ?_
      refine rr rfl (s_getf rfl rfl) ?_
      refine rr rfl (s_aload_n rfl) ?_
      refine rr rfl (s_getf rfl rfl) ?_
      refine rr rfl (s_ialdH rfl rfl g10 g11) ?_
      refine rr rfl (s_iload_n rfl) ?_
      refine rr rfl (s_icF (by decide)) ?_
      refine rr rfl (s_iconst (v := 0) (by decide)) ?_
      exact rrt rfl rfl rfl rfl
    refine rrc rfl rfl rfl (do_of g_X3_lift rfl rfl e6) ?_
    refine rr rfl (s_istore_n rfl) ?_
    refine rr rfl (s_iconst (v := 0) (by decide)) ?_
    refine rr rfl (s_istore rfl) ?_
    refine rr rfl (s_iload rfl) ?_
    refine rr rfl (s_aload_n rfl) ?_
    refine rr rfl (s_getf rfl rfl) ?_
    have e7 : a_m MT [] 100000 9 miJx4a65c_size_8abf5 [.ref 3] ((hF.set 5 (.inl ((List.replicate 8 (0 : Int32)).set (Int32.toNatClampNeg x3) 1))) ++ [.inr (.inr (2, [.int x1, .int x2, .int x3, .int x4, .int x5, .int x6, .int x7, .int ((1 <<< (x4 &&& 31) : Int32) ||| (1 <<< (x5 &&& 31) : Int32)), .int (1 <<< (x6 &&& 31) : Int32), .int (-1)]))]) = some ((some (.int 0)), ((hF.set 5 (.inl ((List.replicate 8 (0 : Int32)).set (Int32.toNatClampNeg x3) 1))) ++ [.inr (.inr (2, [.int x1, .int x2, .int x3, .int x4, .int x5, .int x6, .int x7, .int ((1 <<< (x4 &&& 31) : Int32) ||| (1 <<< (x5 &&& 31) : Int32)), .int (1 <<< (x6 &&& 31) : Int32), .int (-1)]))]), 0, 0) := by
      refine me (d := 8) g_Jx4a65c_size_8abf5 (Nat.le_of_ble_eq_true rfl) ?_
      refine rr rfl (s_aload_n rfl) ?_
      refine rr rfl (s_getf rfl rfl) ?_
      exact rrt rfl rfl rfl rfl
    refine rrc rfl rfl rfl (do_of g_Jx4a65c_size_8abf5 rfl rfl e7) ?_
    refine rr rfl (s_icT (by decide)) ?_
    refine rr rfl (s_iinc (v := 2) rfl (by decide) rfl) ?_
    refine rr rfl s_goto ?_
    refine rr rfl (s_iload_n rfl) ?_
    refine rr rfl (s_ifT (by decide)) ?_
    refine rr rfl (s_iload_n rfl) ?_
    refine rr rfl (s_ifF (by decide)) ?_
    refine rr rfl (s_iconst (v := 1) (by decide)) ?_
    refine rr rfl s_goto ?_
    exact rrt rfl rfl rfl rfl
  refine rrc rfl rfl rfl (do_of g_X3_hasLayersWith rfl rfl e2) ?_
  refine rr rfl (s_ifT (by decide)) ?_
  refine rr rfl (s_aload_n rfl) ?_
  refine rr rfl (s_getf rfl rfl) ?_
  refine rr rfl (s_getf rfl rfl) ?_
  refine rr rfl (s_getf rfl rfl) ?_
  have e8 : a_m MT [] 100000 10 miJx4a65c_size_8abf5 [.ref 3] ((hF.set 5 (.inl ((List.replicate 8 (0 : Int32)).set (Int32.toNatClampNeg x3) 1))) ++ [.inr (.inr (2, [.int x1, .int x2, .int x3, .int x4, .int x5, .int x6, .int x7, .int ((1 <<< (x4 &&& 31) : Int32) ||| (1 <<< (x5 &&& 31) : Int32)), .int (1 <<< (x6 &&& 31) : Int32), .int (-1)]))]) = some ((some (.int 0)), ((hF.set 5 (.inl ((List.replicate 8 (0 : Int32)).set (Int32.toNatClampNeg x3) 1))) ++ [.inr (.inr (2, [.int x1, .int x2, .int x3, .int x4, .int x5, .int x6, .int x7, .int ((1 <<< (x4 &&& 31) : Int32) ||| (1 <<< (x5 &&& 31) : Int32)), .int (1 <<< (x6 &&& 31) : Int32), .int (-1)]))]), 0, 0) := by
    refine me (d := 9) g_Jx4a65c_size_8abf5 (Nat.le_of_ble_eq_true rfl) ?_
    refine rr rfl (s_aload_n rfl) ?_
    refine rr rfl (s_getf rfl rfl) ?_
    exact rrt rfl rfl rfl rfl
  refine rrc rfl rfl rfl (do_of g_Jx4a65c_size_8abf5 rfl rfl e8) ?_
  refine rr rfl (s_bipush (v := 12) (by decide)) ?_
  refine rr rfl (s_icT (by decide)) ?_
  refine rr rfl (s_aload_n rfl) ?_
  refine rr rfl (s_getf rfl rfl) ?_
  refine rr rfl (s_getf rfl rfl) ?_
  refine rr rfl (s_aload rfl) ?_
  have e9 : a_m MT [] 100000 10 miX3_take [.ref 2, .ref 61] ((hF.set 5 (.inl ((List.replicate 8 (0 : Int32)).set (Int32.toNatClampNeg x3) 1))) ++ [.inr (.inr (2, [.int x1, .int x2, .int x3, .int x4, .int x5, .int x6, .int x7, .int ((1 <<< (x4 &&& 31) : Int32) ||| (1 <<< (x5 &&& 31) : Int32)), .int (1 <<< (x6 &&& 31) : Int32), .int (-1)]))]) = some (none, ((((hF.set 3 (.inr (.inr (0, [.int 1, .ref 62, .int 1])))).set 4 (.inl ((List.replicate 8 (0 : Int32)).set (Int32.toNatClampNeg x3) 1))).set 5 (.inl ((List.replicate 8 (0 : Int32)).set (Int32.toNatClampNeg x3) 1))) ++ [.inr (.inr (2, [.int x1, .int x2, .int x3, .int x4, .int x5, .int x6, .int x7, .int ((1 <<< (x4 &&& 31) : Int32) ||| (1 <<< (x5 &&& 31) : Int32)), .int (1 <<< (x6 &&& 31) : Int32), .int (-1)])), .inr (.inl [some 61, none, none, none, none, none, none, none, none, none])]), 1, 10) := by
    refine me (d := 9) g_X3_take (Nat.le_of_ble_eq_true rfl) ?_
    refine rr rfl (s_aload_n rfl) ?_
    refine rr rfl (s_getf rfl rfl) ?_
    refine rr rfl (s_aload_n rfl) ?_
    have e10 : a_m MT [] 100000 9 miJx4a65c_add_9ea2d [.ref 3, .ref 61] ((hF.set 5 (.inl ((List.replicate 8 (0 : Int32)).set (Int32.toNatClampNeg x3) 1))) ++ [.inr (.inr (2, [.int x1, .int x2, .int x3, .int x4, .int x5, .int x6, .int x7, .int ((1 <<< (x4 &&& 31) : Int32) ||| (1 <<< (x5 &&& 31) : Int32)), .int (1 <<< (x6 &&& 31) : Int32), .int (-1)]))]) = some ((some (.int 1)), (((hF.set 3 (.inr (.inr (0, [.int 1, .ref 62, .int 1])))).set 5 (.inl ((List.replicate 8 (0 : Int32)).set (Int32.toNatClampNeg x3) 1))) ++ [.inr (.inr (2, [.int x1, .int x2, .int x3, .int x4, .int x5, .int x6, .int x7, .int ((1 <<< (x4 &&& 31) : Int32) ||| (1 <<< (x5 &&& 31) : Int32)), .int (1 <<< (x6 &&& 31) : Int32), .int (-1)])), .inr (.inl [some 61, none, none, none, none, none, none, none, none, none])]), 1, 10) := by
      refine me (d := 8) g_Jx4a65c_add_9ea2d (Nat.le_of_ble_eq_true rfl) ?_
      refine rr rfl (s_aload_n rfl) ?_
      refine rr rfl rfl ?_
      refine rr rfl (s_getf rfl rfl) ?_
      refine rr rfl (s_iconst (v := 1) (by decide)) ?_
      refine rr rfl (s_iadd (v := 1) (by decide)) ?_
      refine rr rfl (s_putf rfl rfl (Nat.le_of_ble_eq_true rfl) rfl (Nat.le_of_ble_eq_true rfl) rfl (h' := (((hF.set 3 (.inr (.inr (0, [.int 1, .long 0, .int 0])))).set 5 (.inl ((List.replicate 8 (0 : Int32)).set (Int32.toNatClampNeg x3) 1))) ++ [.inr (.inr (2, [.int x1, .int x2, .int x3, .int x4, .int x5, .int x6, .int x7, .int ((1 <<< (x4 &&& 31) : Int32) ||| (1 <<< (x5 &&& 31) : Int32)), .int (1 <<< (x6 &&& 31) : Int32), .int (-1)]))]))) ?_
      refine rr rfl (s_aload_n rfl) ?_
      refine rr rfl (s_aload_n rfl) ?_
      refine rr rfl (s_aload_n rfl) ?_
      refine rr rfl (s_getf rfl rfl) ?_
      refine rr rfl (s_aload_n rfl) ?_
      refine rr rfl (s_getf rfl rfl) ?_
      have e11 : a_m MT [] 100000 8 miJx4a65c_add_72be8 [.ref 3, .ref 61, .long 0, .int 0] (((hF.set 3 (.inr (.inr (0, [.int 1, .long 0, .int 0])))).set 5 (.inl ((List.replicate 8 (0 : Int32)).set (Int32.toNatClampNeg x3) 1))) ++ [.inr (.inr (2, [.int x1, .int x2, .int x3, .int x4, .int x5, .int x6, .int x7, .int ((1 <<< (x4 &&& 31) : Int32) ||| (1 <<< (x5 &&& 31) : Int32)), .int (1 <<< (x6 &&& 31) : Int32), .int (-1)]))]) = some (none, (((hF.set 3 (.inr (.inr (0, [.int 1, .ref 62, .int 1])))).set 5 (.inl ((List.replicate 8 (0 : Int32)).set (Int32.toNatClampNeg x3) 1))) ++ [.inr (.inr (2, [.int x1, .int x2, .int x3, .int x4, .int x5, .int x6, .int x7, .int ((1 <<< (x4 &&& 31) : Int32) ||| (1 <<< (x5 &&& 31) : Int32)), .int (1 <<< (x6 &&& 31) : Int32), .int (-1)])), .inr (.inl [some 61, none, none, none, none, none, none, none, none, none])]), 1, 10) := by
        refine me (d := 7) g_Jx4a65c_add_72be8 (Nat.le_of_ble_eq_true rfl) ?_
        refine rr rfl (s_iload_n rfl) ?_
        refine rr rfl (s_aloadL rfl) ?_
        refine rr rfl (s_alen0) ?_
        refine rr rfl (s_icF (by decide)) ?_
        refine rr rfl (s_aload_n rfl) ?_
        have e12 : a_m MT [] 100000 7 miJx4a65c_grow_d5877 [.ref 3] (((hF.set 3 (.inr (.inr (0, [.int 1, .long 0, .int 0])))).set 5 (.inl ((List.replicate 8 (0 : Int32)).set (Int32.toNatClampNeg x3) 1))) ++ [.inr (.inr (2, [.int x1, .int x2, .int x3, .int x4, .int x5, .int x6, .int x7, .int ((1 <<< (x4 &&& 31) : Int32) ||| (1 <<< (x5 &&& 31) : Int32)), .int (1 <<< (x6 &&& 31) : Int32), .int (-1)]))]) = some ((some (.ref 62)), (((hF.set 3 (.inr (.inr (0, [.int 1, .ref 62, .int 0])))).set 5 (.inl ((List.replicate 8 (0 : Int32)).set (Int32.toNatClampNeg x3) 1))) ++ [.inr (.inr (2, [.int x1, .int x2, .int x3, .int x4, .int x5, .int x6, .int x7, .int ((1 <<< (x4 &&& 31) : Int32) ||| (1 <<< (x5 &&& 31) : Int32)), .int (1 <<< (x6 &&& 31) : Int32), .int (-1)])), .inr (.inl (List.replicate 10 none))]), 1, 10) := by
          refine me (d := 6) g_Jx4a65c_grow_d5877 (Nat.le_of_ble_eq_true rfl) ?_
          refine rr rfl (s_aload_n rfl) ?_
          refine rr rfl (s_aload_n rfl) ?_
          refine rr rfl (s_getf rfl rfl) ?_
          refine rr rfl (s_iconst (v := 1) (by decide)) ?_
          refine rr rfl (s_iadd (v := 1) (by decide)) ?_
          have e13 : a_m MT [] 100000 6 miJx4a65c_grow_92f84 [.ref 3, .int 1] (((hF.set 3 (.inr (.inr (0, [.int 1, .long 0, .int 0])))).set 5 (.inl ((List.replicate 8 (0 : Int32)).set (Int32.toNatClampNeg x3) 1))) ++ [.inr (.inr (2, [.int x1, .int x2, .int x3, .int x4, .int x5, .int x6, .int x7, .int ((1 <<< (x4 &&& 31) : Int32) ||| (1 <<< (x5 &&& 31) : Int32)), .int (1 <<< (x6 &&& 31) : Int32), .int (-1)]))]) = some ((some (.ref 62)), (((hF.set 3 (.inr (.inr (0, [.int 1, .ref 62, .int 0])))).set 5 (.inl ((List.replicate 8 (0 : Int32)).set (Int32.toNatClampNeg x3) 1))) ++ [.inr (.inr (2, [.int x1, .int x2, .int x3, .int x4, .int x5, .int x6, .int x7, .int ((1 <<< (x4 &&& 31) : Int32) ||| (1 <<< (x5 &&& 31) : Int32)), .int (1 <<< (x6 &&& 31) : Int32), .int (-1)])), .inr (.inl (List.replicate 10 none))]), 1, 10) := by
            refine me (d := 5) g_Jx4a65c_grow_92f84 (Nat.le_of_ble_eq_true rfl) ?_
            refine rr rfl (s_aload_n rfl) ?_
            refine rr rfl (s_getf rfl rfl) ?_
            refine rr rfl (s_alen0) ?_
            refine rr rfl (s_istore_n rfl) ?_
            refine rr rfl (s_iload_n rfl) ?_
            refine rr rfl (s_ifF (by decide)) ?_
            refine rr rfl (s_aload_n rfl) ?_
            refine rr rfl (s_getf rfl rfl) ?_
            refine rr rfl rfl ?_
            refine rr rfl rfl ?_
            refine rr rfl (s_aload_n rfl) ?_
            refine rr rfl (s_bipush (v := 10) (by decide)) ?_
            refine rr rfl (s_iload_n rfl) ?_
            refine rr rfl (s_max (v := 10) rfl (Nat.le_of_ble_eq_true rfl) (by decide)) ?_
            refine rr rfl (s_anew (q := 62) (j := 10) rfl rfl rfl rfl (h' := (((hF.set 3 (.inr (.inr (0, [.int 1, .long 0, .int 0])))).set 5 (.inl ((List.replicate 8 (0 : Int32)).set (Int32.toNatClampNeg x3) 1))) ++ [.inr (.inr (2, [.int x1, .int x2, .int x3, .int x4, .int x5, .int x6, .int x7, .int ((1 <<< (x4 &&& 31) : Int32) ||| (1 <<< (x5 &&& 31) : Int32)), .int (1 <<< (x6 &&& 31) : Int32), .int (-1)])), .inr (.inl (List.replicate 10 none))]))) ?_
            refine rr rfl rfl ?_
            refine rr rfl (s_putf rfl rfl (Nat.le_of_ble_eq_true rfl) rfl (Nat.le_of_ble_eq_true rfl) rfl (h' := (((hF.set 3 (.inr (.inr (0, [.int 1, .ref 62, .int 0])))).set 5 (.inl ((List.replicate 8 (0 : Int32)).set (Int32.toNatClampNeg x3) 1))) ++ [.inr (.inr (2, [.int x1, .int x2, .int x3, .int x4, .int x5, .int x6, .int x7, .int ((1 <<< (x4 &&& 31) : Int32) ||| (1 <<< (x5 &&& 31) : Int32)), .int (1 <<< (x6 &&& 31) : Int32), .int (-1)])), .inr (.inl (List.replicate 10 none))]))) ?_
            exact rrt rfl rfl rfl rfl
          refine rrc rfl rfl rfl (do_of g_Jx4a65c_grow_92f84 rfl rfl e13) ?_
          exact rrt rfl rfl rfl rfl
        refine rrc rfl rfl rfl (do_of g_Jx4a65c_grow_d5877 rfl rfl e12) ?_
        refine rr rfl (s_astore_n rfl) ?_
        refine rr rfl (s_aload_n rfl) ?_
        refine rr rfl (s_iload_n rfl) ?_
        refine rr rfl (s_aload_n rfl) ?_
        refine rr rfl (s_aastore (j := 0) rfl rfl rfl (Nat.le_of_ble_eq_true rfl) rfl (Nat.le_of_ble_eq_true rfl) rfl (h' := (((hF.set 3 (.inr (.inr (0, [.int 1, .ref 62, .int 0])))).set 5 (.inl ((List.replicate 8 (0 : Int32)).set (Int32.toNatClampNeg x3) 1))) ++ [.inr (.inr (2, [.int x1, .int x2, .int x3, .int x4, .int x5, .int x6, .int x7, .int ((1 <<< (x4 &&& 31) : Int32) ||| (1 <<< (x5 &&& 31) : Int32)), .int (1 <<< (x6 &&& 31) : Int32), .int (-1)])), .inr (.inl [some 61, none, none, none, none, none, none, none, none, none])]))) ?_
        refine rr rfl (s_aload_n rfl) ?_
        refine rr rfl (s_iload_n rfl) ?_
        refine rr rfl (s_iconst (v := 1) (by decide)) ?_
        refine rr rfl (s_iadd (v := 1) (by decide)) ?_
        refine rr rfl (s_putf rfl rfl (Nat.le_of_ble_eq_true rfl) rfl (Nat.le_of_ble_eq_true rfl) rfl (h' := (((hF.set 3 (.inr (.inr (0, [.int 1, .ref 62, .int 1])))).set 5 (.inl ((List.replicate 8 (0 : Int32)).set (Int32.toNatClampNeg x3) 1))) ++ [.inr (.inr (2, [.int x1, .int x2, .int x3, .int x4, .int x5, .int x6, .int x7, .int ((1 <<< (x4 &&& 31) : Int32) ||| (1 <<< (x5 &&& 31) : Int32)), .int (1 <<< (x6 &&& 31) : Int32), .int (-1)])), .inr (.inl [some 61, none, none, none, none, none, none, none, none, none])]))) ?_
        exact rrt rfl rfl rfl rfl
      refine rrc rfl rfl rfl (do_of g_Jx4a65c_add_72be8 rfl rfl e11) ?_
      refine rr rfl (s_iconst (v := 1) (by decide)) ?_
      exact rrt rfl rfl rfl rfl
    refine rrc rfl rfl rfl (do_of g_Jx4a65c_add_9ea2d rfl rfl e10) ?_
    refine rr rfl rfl ?_
    refine rr rfl (s_aload_n rfl) ?_
    refine rr rfl (s_getf rfl rfl) ?_
    refine rr rfl (s_iconst (v := 0) (by decide)) ?_
    refine rr rfl (s_aload_n rfl) ?_
    refine rr rfl (s_getf rfl rfl) ?_
    refine rr rfl (s_iconst (v := 0) (by decide)) ?_
    refine rr rfl (s_bipush (v := 8) (by decide)) ?_
    refine rr rfl (s_copy8 rfl (Nat.le_of_ble_eq_true rfl) rfl rfl (by simp) rfl (Nat.le_of_ble_eq_true rfl) rfl (h' := ((((hF.set 3 (.inr (.inr (0, [.int 1, .ref 62, .int 1])))).set 4 (.inl ((List.replicate 8 (0 : Int32)).set (Int32.toNatClampNeg x3) 1))).set 5 (.inl ((List.replicate 8 (0 : Int32)).set (Int32.toNatClampNeg x3) 1))) ++ [.inr (.inr (2, [.int x1, .int x2, .int x3, .int x4, .int x5, .int x6, .int x7, .int ((1 <<< (x4 &&& 31) : Int32) ||| (1 <<< (x5 &&& 31) : Int32)), .int (1 <<< (x6 &&& 31) : Int32), .int (-1)])), .inr (.inl [some 61, none, none, none, none, none, none, none, none, none])]))) ?_
    exact rrt rfl rfl rfl rfl
  refine rrc rfl rfl rfl (do_of g_X3_take rfl rfl e9) ?_
  refine rr rfl (s_aload_n rfl) ?_
  have e14 : a_m MT [] 100000 10 miX8_forgetRules [.ref 0] ((((hF.set 3 (.inr (.inr (0, [.int 1, .ref 62, .int 1])))).set 4 (.inl ((List.replicate 8 (0 : Int32)).set (Int32.toNatClampNeg x3) 1))).set 5 (.inl ((List.replicate 8 (0 : Int32)).set (Int32.toNatClampNeg x3) 1))) ++ [.inr (.inr (2, [.int x1, .int x2, .int x3, .int x4, .int x5, .int x6, .int x7, .int ((1 <<< (x4 &&& 31) : Int32) ||| (1 <<< (x5 &&& 31) : Int32)), .int (1 <<< (x6 &&& 31) : Int32), .int (-1)])), .inr (.inl [some 61, none, none, none, none, none, none, none, none, none])]) = some (none, (((((hF.set 3 (.inr (.inr (0, [.int 1, .ref 62, .int 1])))).set 4 (.inl ((List.replicate 8 (0 : Int32)).set (Int32.toNatClampNeg x3) 1))).set 5 (.inl ((List.replicate 8 (0 : Int32)).set (Int32.toNatClampNeg x3) 1))).set 6 (.inr (.inr (6, [.ref 2, .ref 7, .ref 8, .ref 9, .int 1])))) ++ [.inr (.inr (2, [.int x1, .int x2, .int x3, .int x4, .int x5, .int x6, .int x7, .int ((1 <<< (x4 &&& 31) : Int32) ||| (1 <<< (x5 &&& 31) : Int32)), .int (1 <<< (x6 &&& 31) : Int32), .int (-1)])), .inr (.inl [some 61, none, none, none, none, none, none, none, none, none])]), 0, 0) := by
    refine me (d := 9) g_X8_forgetRules (Nat.le_of_ble_eq_true rfl) ?_
    refine rr rfl (s_aload_n rfl) ?_
    refine rr rfl (s_getf rfl rfl) ?_
    refine rr rfl (s_getf rfl rfl) ?_
    refine rr rfl (s_aload_n rfl) ?_
    refine rr rfl (s_getf rfl rfl) ?_
    refine rr rfl (s_getf rfl rfl) ?_
    have e15 : a_m MT [] 100000 9 miX3_notSpare [.ref 2] ((((hF.set 3 (.inr (.inr (0, [.int 1, .ref 62, .int 1])))).set 4 (.inl ((List.replicate 8 (0 : Int32)).set (Int32.toNatClampNeg x3) 1))).set 5 (.inl ((List.replicate 8 (0 : Int32)).set (Int32.toNatClampNeg x3) 1))) ++ [.inr (.inr (2, [.int x1, .int x2, .int x3, .int x4, .int x5, .int x6, .int x7, .int ((1 <<< (x4 &&& 31) : Int32) ||| (1 <<< (x5 &&& 31) : Int32)), .int (1 <<< (x6 &&& 31) : Int32), .int (-1)])), .inr (.inl [some 61, none, none, none, none, none, none, none, none, none])]) = some ((some (.int 1)), ((((hF.set 3 (.inr (.inr (0, [.int 1, .ref 62, .int 1])))).set 4 (.inl ((List.replicate 8 (0 : Int32)).set (Int32.toNatClampNeg x3) 1))).set 5 (.inl ((List.replicate 8 (0 : Int32)).set (Int32.toNatClampNeg x3) 1))) ++ [.inr (.inr (2, [.int x1, .int x2, .int x3, .int x4, .int x5, .int x6, .int x7, .int ((1 <<< (x4 &&& 31) : Int32) ||| (1 <<< (x5 &&& 31) : Int32)), .int (1 <<< (x6 &&& 31) : Int32), .int (-1)])), .inr (.inl [some 61, none, none, none, none, none, none, none, none, none])]), 0, 0) := by
      refine me (d := 8) g_X3_notSpare (Nat.le_of_ble_eq_true rfl) ?_
      refine rr rfl (s_iconst (v := 0) (by decide)) ?_
      refine rr rfl (s_istore_n rfl) ?_
      refine rr rfl (s_iconst (v := 0) (by decide)) ?_
      refine rr rfl (s_istore_n rfl) ?_
      refine rr rfl (s_iload_n rfl) ?_
      refine rr rfl (s_aload_n rfl) ?_
      refine rr rfl (s_getf rfl rfl) ?_
      have e16 : a_m MT [] 100000 8 miJx4a65c_size_8abf5 [.ref 3] ((((hF.set 3 (.inr (.inr (0, [.int 1, .ref 62, .int 1])))).set 4 (.inl ((List.replicate 8 (0 : Int32)).set (Int32.toNatClampNeg x3) 1))).set 5 (.inl ((List.replicate 8 (0 : Int32)).set (Int32.toNatClampNeg x3) 1))) ++ [.inr (.inr (2, [.int x1, .int x2, .int x3, .int x4, .int x5, .int x6, .int x7, .int ((1 <<< (x4 &&& 31) : Int32) ||| (1 <<< (x5 &&& 31) : Int32)), .int (1 <<< (x6 &&& 31) : Int32), .int (-1)])), .inr (.inl [some 61, none, none, none, none, none, none, none, none, none])]) = some ((some (.int 1)), ((((hF.set 3 (.inr (.inr (0, [.int 1, .ref 62, .int 1])))).set 4 (.inl ((List.replicate 8 (0 : Int32)).set (Int32.toNatClampNeg x3) 1))).set 5 (.inl ((List.replicate 8 (0 : Int32)).set (Int32.toNatClampNeg x3) 1))) ++ [.inr (.inr (2, [.int x1, .int x2, .int x3, .int x4, .int x5, .int x6, .int x7, .int ((1 <<< (x4 &&& 31) : Int32) ||| (1 <<< (x5 &&& 31) : Int32)), .int (1 <<< (x6 &&& 31) : Int32), .int (-1)])), .inr (.inl [some 61, none, none, none, none, none, none, none, none, none])]), 0, 0) := by
        refine me (d := 7) g_Jx4a65c_size_8abf5 (Nat.le_of_ble_eq_true rfl) ?_
        refine rr rfl (s_aload_n rfl) ?_
        refine rr rfl (s_getf rfl rfl) ?_
        exact rrt rfl rfl rfl rfl
      refine rrc rfl rfl rfl (do_of g_Jx4a65c_size_8abf5 rfl rfl e16) ?_
      refine rr rfl (s_icF (by decide)) ?_
      refine rr rfl (s_aload_n rfl) ?_
      refine rr rfl (s_getf rfl rfl) ?_
      refine rr rfl (s_iload_n rfl) ?_
      have e17 : a_m MT [] 100000 8 miJx4a65c_get_915e3 [.ref 3, .int 0] ((((hF.set 3 (.inr (.inr (0, [.int 1, .ref 62, .int 1])))).set 4 (.inl ((List.replicate 8 (0 : Int32)).set (Int32.toNatClampNeg x3) 1))).set 5 (.inl ((List.replicate 8 (0 : Int32)).set (Int32.toNatClampNeg x3) 1))) ++ [.inr (.inr (2, [.int x1, .int x2, .int x3, .int x4, .int x5, .int x6, .int x7, .int ((1 <<< (x4 &&& 31) : Int32) ||| (1 <<< (x5 &&& 31) : Int32)), .int (1 <<< (x6 &&& 31) : Int32), .int (-1)])), .inr (.inl [some 61, none, none, none, none, none, none, none, none, none])]) = some ((some (.ref 61)), ((((hF.set 3 (.inr (.inr (0, [.int 1, .ref 62, .int 1])))).set 4 (.inl ((List.replicate 8 (0 : Int32)).set (Int32.toNatClampNeg x3) 1))).set 5 (.inl ((List.replicate 8 (0 : Int32)).set (Int32.toNatClampNeg x3) 1))) ++ [.inr (.inr (2, [.int x1, .int x2, .int x3, .int x4, .int x5, .int x6, .int x7, .int ((1 <<< (x4 &&& 31) : Int32) ||| (1 <<< (x5 &&& 31) : Int32)), .int (1 <<< (x6 &&& 31) : Int32), .int (-1)])), .inr (.inl [some 61, none, none, none, none, none, none, none, none, none])]), 0, 0) := by
        refine me (d := 7) g_Jx4a65c_get_915e3 (Nat.le_of_ble_eq_true rfl) ?_
        refine rr rfl (s_iload_n rfl) ?_
        refine rr rfl (s_aload_n rfl) ?_
        refine rr rfl (s_getf rfl rfl) ?_
        have e18 : a_m MT [] 100000 7 miJ15_checkIndex_7cf53 [.int 0, .int 1] ((((hF.set 3 (.inr (.inr (0, [.int 1, .ref 62, .int 1])))).set 4 (.inl ((List.replicate 8 (0 : Int32)).set (Int32.toNatClampNeg x3) 1))).set 5 (.inl ((List.replicate 8 (0 : Int32)).set (Int32.toNatClampNeg x3) 1))) ++ [.inr (.inr (2, [.int x1, .int x2, .int x3, .int x4, .int x5, .int x6, .int x7, .int ((1 <<< (x4 &&& 31) : Int32) ||| (1 <<< (x5 &&& 31) : Int32)), .int (1 <<< (x6 &&& 31) : Int32), .int (-1)])), .inr (.inl [some 61, none, none, none, none, none, none, none, none, none])]) = some ((some (.int 0)), ((((hF.set 3 (.inr (.inr (0, [.int 1, .ref 62, .int 1])))).set 4 (.inl ((List.replicate 8 (0 : Int32)).set (Int32.toNatClampNeg x3) 1))).set 5 (.inl ((List.replicate 8 (0 : Int32)).set (Int32.toNatClampNeg x3) 1))) ++ [.inr (.inr (2, [.int x1, .int x2, .int x3, .int x4, .int x5, .int x6, .int x7, .int ((1 <<< (x4 &&& 31) : Int32) ||| (1 <<< (x5 &&& 31) : Int32)), .int (1 <<< (x6 &&& 31) : Int32), .int (-1)])), .inr (.inl [some 61, none, none, none, none, none, none, none, none, none])]), 0, 0) := by
          refine me (d := 6) g_J15_checkIndex_7cf53 (Nat.le_of_ble_eq_true rfl) ?_
          refine rr rfl (s_iload_n rfl) ?_
          refine rr rfl (s_iload_n rfl) ?_
          refine rr rfl rfl ?_
          have e19 : a_m MT [] 100000 6 miJ3_checkIndex_8e157 [.int 0, .int 1, .null] ((((hF.set 3 (.inr (.inr (0, [.int 1, .ref 62, .int 1])))).set 4 (.inl ((List.replicate 8 (0 : Int32)).set (Int32.toNatClampNeg x3) 1))).set 5 (.inl ((List.replicate 8 (0 : Int32)).set (Int32.toNatClampNeg x3) 1))) ++ [.inr (.inr (2, [.int x1, .int x2, .int x3, .int x4, .int x5, .int x6, .int x7, .int ((1 <<< (x4 &&& 31) : Int32) ||| (1 <<< (x5 &&& 31) : Int32)), .int (1 <<< (x6 &&& 31) : Int32), .int (-1)])), .inr (.inl [some 61, none, none, none, none, none, none, none, none, none])]) = some ((some (.int 0)), ((((hF.set 3 (.inr (.inr (0, [.int 1, .ref 62, .int 1])))).set 4 (.inl ((List.replicate 8 (0 : Int32)).set (Int32.toNatClampNeg x3) 1))).set 5 (.inl ((List.replicate 8 (0 : Int32)).set (Int32.toNatClampNeg x3) 1))) ++ [.inr (.inr (2, [.int x1, .int x2, .int x3, .int x4, .int x5, .int x6, .int x7, .int ((1 <<< (x4 &&& 31) : Int32) ||| (1 <<< (x5 &&& 31) : Int32)), .int (1 <<< (x6 &&& 31) : Int32), .int (-1)])), .inr (.inl [some 61, none, none, none, none, none, none, none, none, none])]), 0, 0) := by
            refine me (d := 5) g_J3_checkIndex_8e157 (Nat.le_of_ble_eq_true rfl) ?_
            refine rr rfl (s_iload_n rfl) ?_
            refine rr rfl (s_ifF (by decide)) ?_
            refine rr rfl (s_iload_n rfl) ?_
            refine rr rfl (s_iload_n rfl) ?_
            refine rr rfl (s_icT (by decide)) ?_
            refine rr rfl (s_iload_n rfl) ?_
            exact rrt rfl rfl rfl rfl
          refine rrc rfl rfl rfl (do_of g_J3_checkIndex_8e157 rfl rfl e19) ?_
          exact rrt rfl rfl rfl rfl
        refine rrc rfl rfl rfl (do_of g_J15_checkIndex_7cf53 rfl rfl e18) ?_
        refine rr rfl rfl ?_
        refine rr rfl (s_aload_n rfl) ?_
        refine rr rfl (s_iload_n rfl) ?_
        have e20 : a_m MT [] 100000 7 miJx4a65c_elementData_915e3 [.ref 3, .int 0] ((((hF.set 3 (.inr (.inr (0, [.int 1, .ref 62, .int 1])))).set 4 (.inl ((List.replicate 8 (0 : Int32)).set (Int32.toNatClampNeg x3) 1))).set 5 (.inl ((List.replicate 8 (0 : Int32)).set (Int32.toNatClampNeg x3) 1))) ++ [.inr (.inr (2, [.int x1, .int x2, .int x3, .int x4, .int x5, .int x6, .int x7, .int ((1 <<< (x4 &&& 31) : Int32) ||| (1 <<< (x5 &&& 31) : Int32)), .int (1 <<< (x6 &&& 31) : Int32), .int (-1)])), .inr (.inl [some 61, none, none, none, none, none, none, none, none, none])]) = some ((some (.ref 61)), ((((hF.set 3 (.inr (.inr (0, [.int 1, .ref 62, .int 1])))).set 4 (.inl ((List.replicate 8 (0 : Int32)).set (Int32.toNatClampNeg x3) 1))).set 5 (.inl ((List.replicate 8 (0 : Int32)).set (Int32.toNatClampNeg x3) 1))) ++ [.inr (.inr (2, [.int x1, .int x2, .int x3, .int x4, .int x5, .int x6, .int x7, .int ((1 <<< (x4 &&& 31) : Int32) ||| (1 <<< (x5 &&& 31) : Int32)), .int (1 <<< (x6 &&& 31) : Int32), .int (-1)])), .inr (.inl [some 61, none, none, none, none, none, none, none, none, none])]), 0, 0) := by
          refine me (d := 6) g_Jx4a65c_elementData_915e3 (Nat.le_of_ble_eq_true rfl) ?_
          refine rr rfl (s_aload_n rfl) ?_
          refine rr rfl (s_getf rfl rfl) ?_
          refine rr rfl (s_iload_n rfl) ?_
          refine rr rfl (s_aaload (j := 0) (z := 61) rfl rfl rfl) ?_
          exact rrt rfl rfl rfl rfl
        refine rrc rfl rfl rfl (do_of g_Jx4a65c_elementData_915e3 rfl rfl e20) ?_
        exact rrt rfl rfl rfl rfl
      refine rrc rfl rfl rfl (do_of g_Jx4a65c_get_915e3 rfl rfl e17) ?_
      refine rr rfl rfl ?_
      have e21 : a_m MT [] 100000 8 miX2_isSpare [.ref 61] ((((hF.set 3 (.inr (.inr (0, [.int 1, .ref 62, .int 1])))).set 4 (.inl ((List.replicate 8 (0 : Int32)).set (Int32.toNatClampNeg x3) 1))).set 5 (.inl ((List.replicate 8 (0 : Int32)).set (Int32.toNatClampNeg x3) 1))) ++ [.inr (.inr (2, [.int x1, .int x2, .int x3, .int x4, .int x5, .int x6, .int x7, .int ((1 <<< (x4 &&& 31) : Int32) ||| (1 <<< (x5 &&& 31) : Int32)), .int (1 <<< (x6 &&& 31) : Int32), .int (-1)])), .inr (.inl [some 61, none, none, none, none, none, none, none, none, none])]) = some ((some (.int 0)), ((((hF.set 3 (.inr (.inr (0, [.int 1, .ref 62, .int 1])))).set 4 (.inl ((List.replicate 8 (0 : Int32)).set (Int32.toNatClampNeg x3) 1))).set 5 (.inl ((List.replicate 8 (0 : Int32)).set (Int32.toNatClampNeg x3) 1))) ++ [.inr (.inr (2, [.int x1, .int x2, .int x3, .int x4, .int x5, .int x6, .int x7, .int ((1 <<< (x4 &&& 31) : Int32) ||| (1 <<< (x5 &&& 31) : Int32)), .int (1 <<< (x6 &&& 31) : Int32), .int (-1)])), .inr (.inl [some 61, none, none, none, none, none, none, none, none, none])]), 0, 0) := by
        refine me (d := 7) g_X2_isSpare (Nat.le_of_ble_eq_true rfl) ?_
        refine rr rfl (s_aload_n rfl) ?_
        refine rr rfl (s_getf rfl rfl) ?_
        refine rr rfl (s_iconst (v := (-1)) (by decide)) ?_
        refine rr rfl (s_icT (by decide)) ?_
        refine rr rfl (s_iconst (v := 0) (by decide)) ?_
        exact rrt rfl rfl rfl rfl
      refine rrc rfl rfl rfl (do_of g_X2_isSpare rfl rfl e21) ?_
      refine rr rfl (s_ifF (by decide)) ?_
      refine rr rfl (s_iload_n rfl) ?_
      refine rr rfl (s_iconst (v := 1) (by decide)) ?_
      refine rr rfl (s_iload_n rfl) ?_
      refine rr rfl (s_ishl (v := 1) (by decide)) ?_
      refine rr rfl (s_ior (v := 1) (by decide)) ?_
      refine rr rfl (s_istore_n rfl) ?_
      refine rr rfl (s_iinc (v := 1) rfl (by decide) rfl) ?_
      refine rr rfl s_goto ?_
      refine rr rfl (s_iload_n rfl) ?_
      refine rr rfl (s_aload_n rfl) ?_
      refine rr rfl (s_getf rfl rfl) ?_
      have e22 : a_m MT [] 100000 8 miJx4a65c_size_8abf5 [.ref 3] ((((hF.set 3 (.inr (.inr (0, [.int 1, .ref 62, .int 1])))).set 4 (.inl ((List.replicate 8 (0 : Int32)).set (Int32.toNatClampNeg x3) 1))).set 5 (.inl ((List.replicate 8 (0 : Int32)).set (Int32.toNatClampNeg x3) 1))) ++ [.inr (.inr (2, [.int x1, .int x2, .int x3, .int x4, .int x5, .int x6, .int x7, .int ((1 <<< (x4 &&& 31) : Int32) ||| (1 <<< (x5 &&& 31) : Int32)), .int (1 <<< (x6 &&& 31) : Int32), .int (-1)])), .inr (.inl [some 61, none, none, none, none, none, none, none, none, none])]) = some ((some (.int 1)), ((((hF.set 3 (.inr (.inr (0, [.int 1, .ref 62, .int 1])))).set 4 (.inl ((List.replicate 8 (0 : Int32)).set (Int32.toNatClampNeg x3) 1))).set 5 (.inl ((List.replicate 8 (0 : Int32)).set (Int32.toNatClampNeg x3) 1))) ++ [.inr (.inr (2, [.int x1, .int x2, .int x3, .int x4, .int x5, .int x6, .int x7, .int ((1 <<< (x4 &&& 31) : Int32) ||| (1 <<< (x5 &&& 31) : Int32)), .int (1 <<< (x6 &&& 31) : Int32), .int (-1)])), .inr (.inl [some 61, none, none, none, none, none, none, none, none, none])]), 0, 0) := by
        refine me (d := 7) g_Jx4a65c_size_8abf5 (Nat.le_of_ble_eq_true rfl) ?_
        refine rr rfl (s_aload_n rfl) ?_
        refine rr rfl (s_getf rfl rfl) ?_
        exact rrt rfl rfl rfl rfl
      refine rrc rfl rfl rfl (do_of g_Jx4a65c_size_8abf5 rfl rfl e22) ?_
      refine rr rfl (s_icT (by decide)) ?_
      refine rr rfl (s_iload_n rfl) ?_
      exact rrt rfl rfl rfl rfl
    refine rrc rfl rfl rfl (do_of g_X3_notSpare rfl rfl e15) ?_
    have e23 : a_m MT [] 100000 9 miX6_countOnly [.ref 6, .int 1] ((((hF.set 3 (.inr (.inr (0, [.int 1, .ref 62, .int 1])))).set 4 (.inl ((List.replicate 8 (0 : Int32)).set (Int32.toNatClampNeg x3) 1))).set 5 (.inl ((List.replicate 8 (0 : Int32)).set (Int32.toNatClampNeg x3) 1))) ++ [.inr (.inr (2, [.int x1, .int x2, .int x3, .int x4, .int x5, .int x6, .int x7, .int ((1 <<< (x4 &&& 31) : Int32) ||| (1 <<< (x5 &&& 31) : Int32)), .int (1 <<< (x6 &&& 31) : Int32), .int (-1)])), .inr (.inl [some 61, none, none, none, none, none, none, none, none, none])]) = some (none, (((((hF.set 3 (.inr (.inr (0, [.int 1, .ref 62, .int 1])))).set 4 (.inl ((List.replicate 8 (0 : Int32)).set (Int32.toNatClampNeg x3) 1))).set 5 (.inl ((List.replicate 8 (0 : Int32)).set (Int32.toNatClampNeg x3) 1))).set 6 (.inr (.inr (6, [.ref 2, .ref 7, .ref 8, .ref 9, .int 1])))) ++ [.inr (.inr (2, [.int x1, .int x2, .int x3, .int x4, .int x5, .int x6, .int x7, .int ((1 <<< (x4 &&& 31) : Int32) ||| (1 <<< (x5 &&& 31) : Int32)), .int (1 <<< (x6 &&& 31) : Int32), .int (-1)])), .inr (.inl [some 61, none, none, none, none, none, none, none, none, none])]), 0, 0) := by
      refine me (d := 8) g_X6_countOnly (Nat.le_of_ble_eq_true rfl) ?_
      refine rr rfl (s_aload_n rfl) ?_
      refine rr rfl (s_iload_n rfl) ?_
      refine rr rfl (s_putf rfl rfl (Nat.le_of_ble_eq_true rfl) rfl (Nat.le_of_ble_eq_true rfl) rfl (h' := (((((hF.set 3 (.inr (.inr (0, [.int 1, .ref 62, .int 1])))).set 4 (.inl ((List.replicate 8 (0 : Int32)).set (Int32.toNatClampNeg x3) 1))).set 5 (.inl ((List.replicate 8 (0 : Int32)).set (Int32.toNatClampNeg x3) 1))).set 6 (.inr (.inr (6, [.ref 2, .ref 7, .ref 8, .ref 9, .int 1])))) ++ [.inr (.inr (2, [.int x1, .int x2, .int x3, .int x4, .int x5, .int x6, .int x7, .int ((1 <<< (x4 &&& 31) : Int32) ||| (1 <<< (x5 &&& 31) : Int32)), .int (1 <<< (x6 &&& 31) : Int32), .int (-1)])), .inr (.inl [some 61, none, none, none, none, none, none, none, none, none])]))) ?_
      refine rr rfl (s_aload_n rfl) ?_
      refine rr rfl (s_getf rfl rfl) ?_
      refine rr rfl (s_iconst (v := (-1)) (by decide)) ?_
      have e24 : a_m MT [] 100000 8 miJ7_fill_53178 [.ref 7, .int (-1)] (((((hF.set 3 (.inr (.inr (0, [.int 1, .ref 62, .int 1])))).set 4 (.inl ((List.replicate 8 (0 : Int32)).set (Int32.toNatClampNeg x3) 1))).set 5 (.inl ((List.replicate 8 (0 : Int32)).set (Int32.toNatClampNeg x3) 1))).set 6 (.inr (.inr (6, [.ref 2, .ref 7, .ref 8, .ref 9, .int 1])))) ++ [.inr (.inr (2, [.int x1, .int x2, .int x3, .int x4, .int x5, .int x6, .int x7, .int ((1 <<< (x4 &&& 31) : Int32) ||| (1 <<< (x5 &&& 31) : Int32)), .int (1 <<< (x6 &&& 31) : Int32), .int (-1)])), .inr (.inl [some 61, none, none, none, none, none, none, none, none, none])]) = some (none, (((((hF.set 3 (.inr (.inr (0, [.int 1, .ref 62, .int 1])))).set 4 (.inl ((List.replicate 8 (0 : Int32)).set (Int32.toNatClampNeg x3) 1))).set 5 (.inl ((List.replicate 8 (0 : Int32)).set (Int32.toNatClampNeg x3) 1))).set 6 (.inr (.inr (6, [.ref 2, .ref 7, .ref 8, .ref 9, .int 1])))) ++ [.inr (.inr (2, [.int x1, .int x2, .int x3, .int x4, .int x5, .int x6, .int x7, .int ((1 <<< (x4 &&& 31) : Int32) ||| (1 <<< (x5 &&& 31) : Int32)), .int (1 <<< (x6 &&& 31) : Int32), .int (-1)])), .inr (.inl [some 61, none, none, none, none, none, none, none, none, none])]), 0, 0) := fill_n rfl (Nat.le_of_ble_eq_true rfl) rfl
      refine rrc rfl rfl rfl (do_of g_J7_fill_53178 rfl rfl e24) ?_
      exact rrt rfl rfl rfl rfl
    refine rrc rfl rfl rfl (do_of g_X6_countOnly rfl rfl e23) ?_
    refine rr rfl (s_aload_n rfl) ?_
    have e25 : a_m MT [] 100000 9 miX8_forgetRuns [.ref 0] (((((hF.set 3 (.inr (.inr (0, [.int 1, .ref 62, .int 1])))).set 4 (.inl ((List.replicate 8 (0 : Int32)).set (Int32.toNatClampNeg x3) 1))).set 5 (.inl ((List.replicate 8 (0 : Int32)).set (Int32.toNatClampNeg x3) 1))).set 6 (.inr (.inr (6, [.ref 2, .ref 7, .ref 8, .ref 9, .int 1])))) ++ [.inr (.inr (2, [.int x1, .int x2, .int x3, .int x4, .int x5, .int x6, .int x7, .int ((1 <<< (x4 &&& 31) : Int32) ||| (1 <<< (x5 &&& 31) : Int32)), .int (1 <<< (x6 &&& 31) : Int32), .int (-1)])), .inr (.inl [some 61, none, none, none, none, none, none, none, none, none])]) = some (none, (((((hF.set 3 (.inr (.inr (0, [.int 1, .ref 62, .int 1])))).set 4 (.inl ((List.replicate 8 (0 : Int32)).set (Int32.toNatClampNeg x3) 1))).set 5 (.inl ((List.replicate 8 (0 : Int32)).set (Int32.toNatClampNeg x3) 1))).set 6 (.inr (.inr (6, [.ref 2, .ref 7, .ref 8, .ref 9, .int 1])))) ++ [.inr (.inr (2, [.int x1, .int x2, .int x3, .int x4, .int x5, .int x6, .int x7, .int ((1 <<< (x4 &&& 31) : Int32) ||| (1 <<< (x5 &&& 31) : Int32)), .int (1 <<< (x6 &&& 31) : Int32), .int (-1)])), .inr (.inl [some 61, none, none, none, none, none, none, none, none, none])]), 0, 0) := by
      refine me (d := 8) g_X8_forgetRuns (Nat.le_of_ble_eq_true rfl) ?_
      refine rr rfl (s_aload_n rfl) ?_
      refine rr rfl (s_iconst (v := 0) (by decide)) ?_
      refine rr rfl (s_putf rfl rfl (Nat.le_of_ble_eq_true rfl) rfl (Nat.le_of_ble_eq_true rfl) rfl (h' := (((((hF.set 3 (.inr (.inr (0, [.int 1, .ref 62, .int 1])))).set 4 (.inl ((List.replicate 8 (0 : Int32)).set (Int32.toNatClampNeg x3) 1))).set 5 (.inl ((List.replicate 8 (0 : Int32)).set (Int32.toNatClampNeg x3) 1))).set 6 (.inr (.inr (6, [.ref 2, .ref 7, .ref 8, .ref 9, .int 1])))) ++ [.inr (.inr (2, [.int x1, .int x2, .int x3, .int x4, .int x5, .int x6, .int x7, .int ((1 <<< (x4 &&& 31) : Int32) ||| (1 <<< (x5 &&& 31) : Int32)), .int (1 <<< (x6 &&& 31) : Int32), .int (-1)])), .inr (.inl [some 61, none, none, none, none, none, none, none, none, none])]))) ?_
      refine rr rfl (s_aload_n rfl) ?_
      refine rr rfl (s_getf rfl rfl) ?_
      refine rr rfl (s_iconst (v := 0) (by decide)) ?_
      refine rr rfl (s_putf rfl rfl (Nat.le_of_ble_eq_true rfl) rfl (Nat.le_of_ble_eq_true rfl) rfl (h' := (((((hF.set 3 (.inr (.inr (0, [.int 1, .ref 62, .int 1])))).set 4 (.inl ((List.replicate 8 (0 : Int32)).set (Int32.toNatClampNeg x3) 1))).set 5 (.inl ((List.replicate 8 (0 : Int32)).set (Int32.toNatClampNeg x3) 1))).set 6 (.inr (.inr (6, [.ref 2, .ref 7, .ref 8, .ref 9, .int 1])))) ++ [.inr (.inr (2, [.int x1, .int x2, .int x3, .int x4, .int x5, .int x6, .int x7, .int ((1 <<< (x4 &&& 31) : Int32) ||| (1 <<< (x5 &&& 31) : Int32)), .int (1 <<< (x6 &&& 31) : Int32), .int (-1)])), .inr (.inl [some 61, none, none, none, none, none, none, none, none, none])]))) ?_
      exact rrt rfl rfl rfl rfl
    refine rrc rfl rfl rfl (do_of g_X8_forgetRuns rfl rfl e25) ?_
    exact rrt rfl rfl rfl rfl
  refine rrc rfl rfl rfl (do_of g_X8_forgetRules rfl rfl e14) ?_
  refine rr rfl (s_aload_n rfl) ?_
  refine rr rfl (s_getf rfl rfl) ?_
  refine rr rfl (s_getf rfl rfl) ?_
  refine rr rfl (s_getf rfl rfl) ?_
  have e26 : a_m MT [] 100000 10 miJx4a65c_size_8abf5 [.ref 3] (((((hF.set 3 (.inr (.inr (0, [.int 1, .ref 62, .int 1])))).set 4 (.inl ((List.replicate 8 (0 : Int32)).set (Int32.toNatClampNeg x3) 1))).set 5 (.inl ((List.replicate 8 (0 : Int32)).set (Int32.toNatClampNeg x3) 1))).set 6 (.inr (.inr (6, [.ref 2, .ref 7, .ref 8, .ref 9, .int 1])))) ++ [.inr (.inr (2, [.int x1, .int x2, .int x3, .int x4, .int x5, .int x6, .int x7, .int ((1 <<< (x4 &&& 31) : Int32) ||| (1 <<< (x5 &&& 31) : Int32)), .int (1 <<< (x6 &&& 31) : Int32), .int (-1)])), .inr (.inl [some 61, none, none, none, none, none, none, none, none, none])]) = some ((some (.int 1)), (((((hF.set 3 (.inr (.inr (0, [.int 1, .ref 62, .int 1])))).set 4 (.inl ((List.replicate 8 (0 : Int32)).set (Int32.toNatClampNeg x3) 1))).set 5 (.inl ((List.replicate 8 (0 : Int32)).set (Int32.toNatClampNeg x3) 1))).set 6 (.inr (.inr (6, [.ref 2, .ref 7, .ref 8, .ref 9, .int 1])))) ++ [.inr (.inr (2, [.int x1, .int x2, .int x3, .int x4, .int x5, .int x6, .int x7, .int ((1 <<< (x4 &&& 31) : Int32) ||| (1 <<< (x5 &&& 31) : Int32)), .int (1 <<< (x6 &&& 31) : Int32), .int (-1)])), .inr (.inl [some 61, none, none, none, none, none, none, none, none, none])]), 0, 0) := by
    refine me (d := 9) g_Jx4a65c_size_8abf5 (Nat.le_of_ble_eq_true rfl) ?_
    refine rr rfl (s_aload_n rfl) ?_
    refine rr rfl (s_getf rfl rfl) ?_
    exact rrt rfl rfl rfl rfl
  refine rrc rfl rfl rfl (do_of g_Jx4a65c_size_8abf5 rfl rfl e26) ?_
  refine rr rfl (s_iconst (v := 1) (by decide)) ?_
  refine rr rfl (s_isub (v := 0) (by decide)) ?_
  exact rrt rfl rfl rfl rfl
set_option maxHeartbeats 4000000 in
set_option maxRecDepth 10000 in
theorem rx_Nhoh {x1 x2 x3 x4 x5 x6 x7 : Int32} (g1 : ¬ x5 = (-1)) (g2 : ¬ x6 = (-1)) (g3 : x2 = 0) (g4 : ¬ x4 < 0) (g5 : x4 < nI 8) (g6 : ¬ x5 < 0) (g7 : x5 < nI 8) (g8 : ¬ x6 < 0) (g9 : x6 < nI 8) (g10 : ¬ x3 < 0) (g11 : x3 < nI 8) (g12 : x4 = x3) (g13 : x5 = x3) (g14 : ¬ x6 = x3) : a_run MT [] (a_m MT [] 100000 10) 11 (some .int) tabX8_rule 90000 140 (alR x1 x2 x3 x4 x5 x6 x7) [] hF 0 0 = some (some (.int 0), (((((hF.set 3 (.inr (.inr (0, [.int 1, .ref 62, .int 1])))).set 4 (.inl ((List.replicate 8 (0 : Int32)).set (Int32.toNatClampNeg x3) 1))).set 5 (.inl ((List.replicate 8 (0 : Int32)).set (Int32.toNatClampNeg x3) 1))).set 6 (.inr (.inr (6, [.ref 2, .ref 7, .ref 8, .ref 9, .int 1])))) ++ [.inr (.inr (2, [.int x1, .int x2, .int x3, .int x4, .int x5, .int x6, .int x7, .int ((1 <<< (x4 &&& 31) : Int32) ||| (1 <<< (x5 &&& 31) : Int32)), .int (1 <<< (x6 &&& 31) : Int32), .int (-1)])), .inr (.inl [some 61, none, none, none, none, none, none, none, none, none])]), 2, 20) := by
  refine rr rfl (s_new (q := 61) rfl rfl (h' := (hF ++ [.inr (.inr (2, [.int 0, .int 0, .int 0, .int 0, .int 0, .int 0, .int 0, .int 0, .int 0, .int 0]))]))) ?_
  refine rr rfl rfl ?_
  refine rr rfl (s_iload_n rfl) ?_
  refine rr rfl (s_iload_n rfl) ?_
  refine rr rfl (s_iload_n rfl) ?_
  refine rr rfl (s_iload rfl) ?_
  refine rr rfl (s_iload rfl) ?_
  refine rr rfl (s_iload rfl) ?_
  refine rr rfl (s_iload rfl) ?_
  have e1 : a_m MT [] 100000 10 miX2_init [.ref 61, .int x1, .int x2, .int x3, .int x4, .int x5, .int x6, .int x7] (hF ++ [.inr (.inr (2, [.int 0, .int 0, .int 0, .int 0, .int 0, .int 0, .int 0, .int 0, .int 0, .int 0]))]) = some (none, (hF ++ [.inr (.inr (2, [.int x1, .int x2, .int x3, .int x4, .int x5, .int x6, .int x7, .int ((1 <<< (x4 &&& 31) : Int32) ||| (1 <<< (x5 &&& 31) : Int32)), .int (1 <<< (x6 &&& 31) : Int32), .int (-1)]))]), 0, 0) := by
    refine me (d := 9) g_X2_init (Nat.le_of_ble_eq_true rfl) ?_
    refine rr rfl (s_aload_n rfl) ?_
    refine rr rfl rfl ?_
    refine rr rfl (s_aload_n rfl) ?_
    refine rr rfl (s_iconst (v := (-1)) (by decide)) ?_
    refine rr rfl (s_putf rfl rfl (Nat.le_of_ble_eq_true rfl) rfl (Nat.le_of_ble_eq_true rfl) rfl (h' := (hF ++ [.inr (.inr (2, [.int 0, .int 0, .int 0, .int 0, .int 0, .int 0, .int 0, .int 0, .int 0, .int (-1)]))]))) ?_
    refine rr rfl (s_aload_n rfl) ?_
    refine rr rfl (s_iload_n rfl) ?_
    refine rr rfl (s_putf rfl rfl (Nat.le_of_ble_eq_true rfl) rfl (Nat.le_of_ble_eq_true rfl) rfl (h' := (hF ++ [.inr (.inr (2, [.int x1, .int 0, .int 0, .int 0, .int 0, .int 0, .int 0, .int 0, .int 0, .int (-1)]))]))) ?_
    refine rr rfl (s_aload_n rfl) ?_
    refine rr rfl (s_iload_n rfl) ?_
    refine rr rfl (s_putf rfl rfl (Nat.le_of_ble_eq_true rfl) rfl (Nat.le_of_ble_eq_true rfl) rfl (h' := (hF ++ [.inr (.inr (2, [.int x1, .int x2, .int 0, .int 0, .int 0, .int 0, .int 0, .int 0, .int 0, .int (-1)]))]))) ?_
    refine rr rfl (s_aload_n rfl) ?_
    refine rr rfl (s_iload_n rfl) ?_
    refine rr rfl (s_putf rfl rfl (Nat.le_of_ble_eq_true rfl) rfl (Nat.le_of_ble_eq_true rfl) rfl (h' := (hF ++ [.inr (.inr (2, [.int x1, .int x2, .int x3, .int 0, .int 0, .int 0, .int 0, .int 0, .int 0, .int (-1)]))]))) ?_
    refine rr rfl (s_aload_n rfl) ?_
    refine rr rfl (s_iload rfl) ?_
    refine rr rfl (s_putf rfl rfl (Nat.le_of_ble_eq_true rfl) rfl (Nat.le_of_ble_eq_true rfl) rfl (h' := (hF ++ [.inr (.inr (2, [.int x1, .int x2, .int x3, .int x4, .int 0, .int 0, .int 0, .int 0, .int 0, .int (-1)]))]))) ?_
    refine rr rfl (s_aload_n rfl) ?_
    refine rr rfl (s_iload rfl) ?_
    refine rr rfl (s_iconst (v := (-1)) (by decide)) ?_
    refine rr rfl (s_icT (ic_ne g1)) ?_
    refine rr rfl (s_iload rfl) ?_
    refine rr rfl (s_putf rfl rfl (Nat.le_of_ble_eq_true rfl) rfl (Nat.le_of_ble_eq_true rfl) rfl (h' := (hF ++ [.inr (.inr (2, [.int x1, .int x2, .int x3, .int x4, .int x5, .int 0, .int 0, .int 0, .int 0, .int (-1)]))]))) ?_
    refine rr rfl (s_aload_n rfl) ?_
    refine rr rfl (s_iload rfl) ?_
    refine rr rfl (s_putf rfl rfl (Nat.le_of_ble_eq_true rfl) rfl (Nat.le_of_ble_eq_true rfl) rfl (h' := (hF ++ [.inr (.inr (2, [.int x1, .int x2, .int x3, .int x4, .int x5, .int x6, .int 0, .int 0, .int 0, .int (-1)]))]))) ?_
    refine rr rfl (s_aload_n rfl) ?_
    refine rr rfl (s_iload rfl) ?_
    refine rr rfl (s_putf rfl rfl (Nat.le_of_ble_eq_true rfl) rfl (Nat.le_of_ble_eq_true rfl) rfl (h' := (hF ++ [.inr (.inr (2, [.int x1, .int x2, .int x3, .int x4, .int x5, .int x6, .int x7, .int 0, .int 0, .int (-1)]))]))) ?_
    refine rr rfl (s_aload_n rfl) ?_
    refine rr rfl (s_iconst (v := 1) (by decide)) ?_
    refine rr rfl (s_aload_n rfl) ?_
    refine rr rfl (s_getf rfl rfl) ?_
    refine rr rfl (s_ishl (v := (1 <<< (x4 &&& 31) : Int32)) rfl) ?_
    refine rr rfl (s_iconst (v := 1) (by decide)) ?_
    refine rr rfl (s_aload_n rfl) ?_
    refine rr rfl (s_getf rfl rfl) ?_
    refine rr rfl (s_ishl (v := (1 <<< (x5 &&& 31) : Int32)) rfl) ?_
    refine rr rfl (s_ior (v := ((1 <<< (x4 &&& 31) : Int32) ||| (1 <<< (x5 &&& 31) : Int32))) rfl) ?_
    refine rr rfl (s_putf rfl rfl (Nat.le_of_ble_eq_true rfl) rfl (Nat.le_of_ble_eq_true rfl) rfl (h' := (hF ++ [.inr (.inr (2, [.int x1, .int x2, .int x3, .int x4, .int x5, .int x6, .int x7, .int ((1 <<< (x4 &&& 31) : Int32) ||| (1 <<< (x5 &&& 31) : Int32)), .int 0, .int (-1)]))]))) ?_
    refine rr rfl (s_aload_n rfl) ?_
    refine rr rfl (s_iload rfl) ?_
    refine rr rfl (s_iconst (v := (-1)) (by decide)) ?_
    refine rr rfl (s_icT (ic_ne g2)) ?_
    refine rr rfl (s_iconst (v := 1) (by decide)) ?_
    refine rr rfl (s_iload rfl) ?_
    refine rr rfl (s_ishl (v := (1 <<< (x6 &&& 31) : Int32)) rfl) ?_
    refine rr rfl (s_putf rfl rfl (Nat.le_of_ble_eq_true rfl) rfl (Nat.le_of_ble_eq_true rfl) rfl (h' := (hF ++ [.inr (.inr (2, [.int x1, .int x2, .int x3, .int x4, .int x5, .int x6, .int x7, .int ((1 <<< (x4 &&& 31) : Int32) ||| (1 <<< (x5 &&& 31) : Int32)), .int (1 <<< (x6 &&& 31) : Int32), .int (-1)]))]))) ?_
    exact rrt rfl rfl rfl rfl
  refine rrc rfl rfl rfl (do_of g_X2_init rfl rfl e1) ?_
  refine rr rfl (s_astore rfl) ?_
  refine rr rfl (s_aload_n rfl) ?_
  refine rr rfl (s_getf rfl rfl) ?_
  refine rr rfl (s_getf rfl rfl) ?_
  refine rr rfl (s_aload rfl) ?_
  have e2 : a_m MT [] 100000 10 miX3_hasLayersWith [.ref 2, .ref 61] (hF ++ [.inr (.inr (2, [.int x1, .int x2, .int x3, .int x4, .int x5, .int x6, .int x7, .int ((1 <<< (x4 &&& 31) : Int32) ||| (1 <<< (x5 &&& 31) : Int32)), .int (1 <<< (x6 &&& 31) : Int32), .int (-1)]))]) = some ((some (.int 1)), ((hF.set 5 (.inl ((List.replicate 8 (0 : Int32)).set (Int32.toNatClampNeg x3) 1))) ++ [.inr (.inr (2, [.int x1, .int x2, .int x3, .int x4, .int x5, .int x6, .int x7, .int ((1 <<< (x4 &&& 31) : Int32) ||| (1 <<< (x5 &&& 31) : Int32)), .int (1 <<< (x6 &&& 31) : Int32), .int (-1)]))]), 0, 0) := by
    refine me (d := 9) g_X3_hasLayersWith (Nat.le_of_ble_eq_true rfl) ?_
    refine rr rfl (s_aload_n rfl) ?_
    refine rr rfl (s_getf rfl rfl) ?_
    refine rr rfl (s_iconst (v := 0) (by decide)) ?_
    have e3 : a_m MT [] 100000 9 miJ7_fill_53178 [.ref 5, .int 0] (hF ++ [.inr (.inr (2, [.int x1, .int x2, .int x3, .int x4, .int x5, .int x6, .int x7, .int ((1 <<< (x4 &&& 31) : Int32) ||| (1 <<< (x5 &&& 31) : Int32)), .int (1 <<< (x6 &&& 31) : Int32), .int (-1)]))]) = some (none, (hF ++ [.inr (.inr (2, [.int x1, .int x2, .int x3, .int x4, .int x5, .int x6, .int x7, .int ((1 <<< (x4 &&& 31) : Int32) ||| (1 <<< (x5 &&& 31) : Int32)), .int (1 <<< (x6 &&& 31) : Int32), .int (-1)]))]), 0, 0) := fill_n rfl (Nat.le_of_ble_eq_true rfl) rfl
    refine rrc rfl rfl rfl (do_of g_J7_fill_53178 rfl rfl e3) ?_
    refine rr rfl (s_iconst (v := 1) (by decide)) ?_
    refine rr rfl (s_istore_n rfl) ?_
    refine rr rfl (s_iconst (v := 0) (by decide)) ?_
    refine rr rfl (s_istore_n rfl) ?_
    refine rr rfl (s_iload_n rfl) ?_
    refine rr rfl (s_ifF (by decide)) ?_
    refine rr rfl (s_iload_n rfl) ?_
    refine rr rfl (s_bipush (v := 8) (by decide)) ?_
    refine rr rfl (s_icF (by decide)) ?_
    refine rr rfl (s_aload_n rfl) ?_
    refine rr rfl (s_aload_n rfl) ?_
    have e4 : a_m MT [] 100000 9 miX3_lift [.ref 2, .ref 61] (hF ++ [.inr (.inr (2, [.int x1, .int x2, .int x3, .int x4, .int x5, .int x6, .int x7, .int ((1 <<< (x4 &&& 31) : Int32) ||| (1 <<< (x5 &&& 31) : Int32)), .int (1 <<< (x6 &&& 31) : Int32), .int (-1)]))]) = some ((some (.int 1)), ((hF.set 5 (.inl ((List.replicate 8 (0 : Int32)).set (Int32.toNatClampNeg x3) 1))) ++ [.inr (.inr (2, [.int x1, .int x2, .int x3, .int x4, .int x5, .int x6, .int x7, .int ((1 <<< (x4 &&& 31) : Int32) ||| (1 <<< (x5 &&& 31) : Int32)), .int (1 <<< (x6 &&& 31) : Int32), .int (-1)]))]), 0, 0) := by
      refine me (d := 8) g_X3_lift (Nat.le_of_ble_eq_true rfl) ?_
      refine rr rfl (s_aload_n rfl) ?_
      refine rr rfl (s_getf rfl rfl) ?_
      refine rr rfl (s_ifT (ic_eq g3)) ?_
      refine rr rfl (s_aload_n rfl) ?_
      refine rr rfl (s_getf rfl rfl) ?_
      refine rr rfl (s_aload_n rfl) ?_
      refine rr rfl (s_getf rfl rfl) ?_
      refine rr rfl (s_ialdR (n := 8) (x := 0) rfl g4 g5) ?_
      refine rr rfl (s_aload_n rfl) ?_
      refine rr rfl (s_getf rfl rfl) ?_
      refine rr rfl (s_aload_n rfl) ?_
      refine rr rfl (s_getf rfl rfl) ?_
      refine rr rfl (s_ialdR (n := 8) (x := 0) rfl g6 g7) ?_
      refine rr rfl (s_max (v := 0) rfl (Nat.le_of_ble_eq_true rfl) (by decide)) ?_
      refine rr rfl (s_istore_n rfl) ?_
      refine rr rfl (s_aload_n rfl) ?_
      refine rr rfl (s_getf rfl rfl) ?_
      refine rr rfl (s_iconst (v := (-1)) (by decide)) ?_
      refine rr rfl (s_icF (ic_neq g2)) ?_
      refine rr rfl (s_iload_n rfl) ?_
      refine rr rfl (s_aload_n rfl) ?_
      refine rr rfl (s_getf rfl rfl) ?_
      refine rr rfl (s_aload_n rfl) ?_
      refine rr rfl (s_getf rfl rfl) ?_
      refine rr rfl (s_ialdR (n := 8) (x := 0) rfl g8 g9) ?_
      refine rr rfl (s_iconst (v := 1) (by decide)) ?_
      refine rr rfl (s_iadd (v := 1) (by decide)) ?_
      refine rr rfl (s_max (v := 1) rfl (Nat.le_of_ble_eq_true rfl) (by decide)) ?_
      refine rr rfl (s_istore_n rfl) ?_
      refine rr rfl (s_aload_n rfl) ?_
      refine rr rfl (s_getf rfl rfl) ?_
      refine rr rfl (s_aload_n rfl) ?_
      refine rr rfl (s_getf rfl rfl) ?_
      refine rr rfl (s_ialdR (n := 8) (x := 0) rfl g10 g11) ?_
      refine rr rfl (s_iload_n rfl) ?_
      refine rr rfl (s_icT (by decide)) ?_
      refine rr rfl (s_aload_n rfl) ?_
      refine rr rfl (s_getf rfl rfl) ?_
      refine rr rfl (s_aload_n rfl) ?_
      refine rr rfl (s_getf rfl rfl) ?_
      refine rr rfl (s_iload_n rfl) ?_
      refine rr rfl (s_iastR (n := 8) rfl g10 g11 (Nat.le_of_ble_eq_true rfl) rfl (h' := ((hF.set 5 (.inl ((List.replicate 8 (0 : Int32)).set (Int32.toNatClampNeg x3) 1))) ++ [.inr (.inr (2, [.int x1, .int x2, .int x3, .int x4, .int x5, .int x6, .int x7, .int ((1 <<< (x4 &&& 31) : Int32) ||| (1 <<< (x5 &&& 31) : Int32)), .int (1 <<< (x6 &&& 31) : Int32), .int (-1)]))]))) ?_
      refine rr rfl (s_iconst (v := 1) (by decide)) ?_
      exact rrt rfl rfl rfl rfl
    refine rrc rfl rfl rfl (do_of g_X3_lift rfl rfl e4) ?_
    refine rr rfl (s_istore_n rfl) ?_
    refine rr rfl (s_iconst (v := 0) (by decide)) ?_
    refine rr rfl (s_istore rfl) ?_
    refine rr rfl (s_iload rfl) ?_
    refine rr rfl (s_aload_n rfl) ?_
    refine rr rfl (s_getf rfl rfl) ?_
    have e5 : a_m MT [] 100000 9 miJx4a65c_size_8abf5 [.ref 3] ((hF.set 5 (.inl ((List.replicate 8 (0 : Int32)).set (Int32.toNatClampNeg x3) 1))) ++ [.inr (.inr (2, [.int x1, .int x2, .int x3, .int x4, .int x5, .int x6, .int x7, .int ((1 <<< (x4 &&& 31) : Int32) ||| (1 <<< (x5 &&& 31) : Int32)), .int (1 <<< (x6 &&& 31) : Int32), .int (-1)]))]) = some ((some (.int 0)), ((hF.set 5 (.inl ((List.replicate 8 (0 : Int32)).set (Int32.toNatClampNeg x3) 1))) ++ [.inr (.inr (2, [.int x1, .int x2, .int x3, .int x4, .int x5, .int x6, .int x7, .int ((1 <<< (x4 &&& 31) : Int32) ||| (1 <<< (x5 &&& 31) : Int32)), .int (1 <<< (x6 &&& 31) : Int32), .int (-1)]))]), 0, 0) := by
      refine me (d := 8) g_Jx4a65c_size_8abf5 (Nat.le_of_ble_eq_true rfl) ?_
      refine rr rfl (s_aload_n rfl) ?_
      refine rr rfl (s_getf rfl rfl) ?_
      exact rrt rfl rfl rfl rfl
    refine rrc rfl rfl rfl (do_of g_Jx4a65c_size_8abf5 rfl rfl e5) ?_
    refine rr rfl (s_icT (by decide)) ?_
    refine rr rfl (s_iinc (v := 1) rfl (by decide) rfl) ?_
    refine rr rfl s_goto ?_
    refine rr rfl (s_iload_n rfl) ?_
    refine rr rfl (s_ifF (by decide)) ?_
    refine rr rfl (s_iload_n rfl) ?_
    refine rr rfl (s_bipush (v := 8) (by decide)) ?_
    refine rr rfl (s_icF (by decide)) ?_
    refine rr rfl (s_aload_n rfl) ?_
    refine rr rfl (s_aload_n rfl) ?_
    have e6 : a_m MT [] 100000 9 miX3_lift [.ref 2, .ref 61] ((hF.set 5 (.inl ((List.replicate 8 (0 : Int32)).set (Int32.toNatClampNeg x3) 1))) ++ [.inr (.inr (2, [.int x1, .int x2, .int x3, .int x4, .int x5, .int x6, .int x7, .int ((1 <<< (x4 &&& 31) : Int32) ||| (1 <<< (x5 &&& 31) : Int32)), .int (1 <<< (x6 &&& 31) : Int32), .int (-1)]))]) = some ((some (.int 0)), ((hF.set 5 (.inl ((List.replicate 8 (0 : Int32)).set (Int32.toNatClampNeg x3) 1))) ++ [.inr (.inr (2, [.int x1, .int x2, .int x3, .int x4, .int x5, .int x6, .int x7, .int ((1 <<< (x4 &&& 31) : Int32) ||| (1 <<< (x5 &&& 31) : Int32)), .int (1 <<< (x6 &&& 31) : Int32), .int (-1)]))]), 0, 0) := by
      refine me (d := 8) g_X3_lift (Nat.le_of_ble_eq_true rfl) ?_
      refine rr rfl (s_aload_n rfl) ?_
      refine rr rfl (s_getf rfl rfl) ?_
      refine rr rfl (s_ifT (ic_eq g3)) ?_
      refine rr rfl (s_aload_n rfl) ?_
      refine rr rfl (s_getf rfl rfl) ?_
      refine rr rfl (s_aload_n rfl) ?_
      refine rr rfl (s_getf rfl rfl) ?_
      refine rr rfl (s_ialdH rfl g12 g10 g11) ?_
      refine rr rfl (s_aload_n rfl) ?_
      refine rr rfl (s_getf rfl rfl) ?_
      refine rr rfl (s_aload_n rfl) ?_
      refine rr rfl (s_getf rfl rfl) ?_
      refine rr rfl (s_ialdH rfl g13 g10 g11) ?_
      refine rr rfl (s_max (v := 1) rfl (Nat.le_of_ble_eq_true rfl) (by decide)) ?_
      refine rr rfl (s_istore_n rfl) ?_
      refine rr rfl (s_aload_n rfl) ?_
      refine rr rfl (s_getf rfl rfl) ?_
      refine rr rfl (s_iconst (v := (-1)) (by decide)) ?_
      refine rr rfl (s_icF (ic_neq g2)) ?_
      refine rr rfl (s_iload_n rfl) ?_
      refine rr rfl (s_aload_n rfl) ?_
      refine rr rfl (s_getf rfl rfl) ?_
      refine rr rfl (s_aload_n rfl) ?_
      refine rr rfl (s_getf rfl rfl) ?_
      refine rr rfl (s_ialdN rfl g14 g8 g9 g10) ?_
      refine rr rfl (s_iconst (v := 1) (by decide)) ?_
      refine rr rfl (s_iadd (v := 1) (by decide)) ?_
      refine rr rfl (s_max (v := 1) rfl (Nat.le_of_ble_eq_true rfl) (by decide)) ?_
      refine rr rfl (s_istore_n rfl) ?_
      refine rr rfl (s_aload_n rfl) ?_
      refine rr rfl (s_getf rfl rfl) ?_
      refine rr rfl (s_aload_n rfl) ?_
      refine rr rfl (s_getf rfl rfl) ?_
      refine rr rfl (s_ialdH rfl rfl g10 g11) ?_
      refine rr rfl (s_iload_n rfl) ?_
      refine rr rfl (s_icF (by decide)) ?_
      refine rr rfl (s_iconst (v := 0) (by decide)) ?_
      exact rrt rfl rfl rfl rfl
    refine rrc rfl rfl rfl (do_of g_X3_lift rfl rfl e6) ?_
    refine rr rfl (s_istore_n rfl) ?_
    refine rr rfl (s_iconst (v := 0) (by decide)) ?_
    refine rr rfl (s_istore rfl) ?_
    refine rr rfl (s_iload rfl) ?_
    refine rr rfl (s_aload_n rfl) ?_
    refine rr rfl (s_getf rfl rfl) ?_
    have e7 : a_m MT [] 100000 9 miJx4a65c_size_8abf5 [.ref 3] ((hF.set 5 (.inl ((List.replicate 8 (0 : Int32)).set (Int32.toNatClampNeg x3) 1))) ++ [.inr (.inr (2, [.int x1, .int x2, .int x3, .int x4, .int x5, .int x6, .int x7, .int ((1 <<< (x4 &&& 31) : Int32) ||| (1 <<< (x5 &&& 31) : Int32)), .int (1 <<< (x6 &&& 31) : Int32), .int (-1)]))]) = some ((some (.int 0)), ((hF.set 5 (.inl ((List.replicate 8 (0 : Int32)).set (Int32.toNatClampNeg x3) 1))) ++ [.inr (.inr (2, [.int x1, .int x2, .int x3, .int x4, .int x5, .int x6, .int x7, .int ((1 <<< (x4 &&& 31) : Int32) ||| (1 <<< (x5 &&& 31) : Int32)), .int (1 <<< (x6 &&& 31) : Int32), .int (-1)]))]), 0, 0) := by
      refine me (d := 8) g_Jx4a65c_size_8abf5 (Nat.le_of_ble_eq_true rfl) ?_
      refine rr rfl (s_aload_n rfl) ?_
      refine rr rfl (s_getf rfl rfl) ?_
      exact rrt rfl rfl rfl rfl
    refine rrc rfl rfl rfl (do_of g_Jx4a65c_size_8abf5 rfl rfl e7) ?_
    refine rr rfl (s_icT (by decide)) ?_
    refine rr rfl (s_iinc (v := 2) rfl (by decide) rfl) ?_
    refine rr rfl s_goto ?_
    refine rr rfl (s_iload_n rfl) ?_
    refine rr rfl (s_ifT (by decide)) ?_
    refine rr rfl (s_iload_n rfl) ?_
    refine rr rfl (s_ifF (by decide)) ?_
    refine rr rfl (s_iconst (v := 1) (by decide)) ?_
    refine rr rfl s_goto ?_
    exact rrt rfl rfl rfl rfl
  refine rrc rfl rfl rfl (do_of g_X3_hasLayersWith rfl rfl e2) ?_
  refine rr rfl (s_ifT (by decide)) ?_
  refine rr rfl (s_aload_n rfl) ?_
  refine rr rfl (s_getf rfl rfl) ?_
  refine rr rfl (s_getf rfl rfl) ?_
  refine rr rfl (s_getf rfl rfl) ?_
  have e8 : a_m MT [] 100000 10 miJx4a65c_size_8abf5 [.ref 3] ((hF.set 5 (.inl ((List.replicate 8 (0 : Int32)).set (Int32.toNatClampNeg x3) 1))) ++ [.inr (.inr (2, [.int x1, .int x2, .int x3, .int x4, .int x5, .int x6, .int x7, .int ((1 <<< (x4 &&& 31) : Int32) ||| (1 <<< (x5 &&& 31) : Int32)), .int (1 <<< (x6 &&& 31) : Int32), .int (-1)]))]) = some ((some (.int 0)), ((hF.set 5 (.inl ((List.replicate 8 (0 : Int32)).set (Int32.toNatClampNeg x3) 1))) ++ [.inr (.inr (2, [.int x1, .int x2, .int x3, .int x4, .int x5, .int x6, .int x7, .int ((1 <<< (x4 &&& 31) : Int32) ||| (1 <<< (x5 &&& 31) : Int32)), .int (1 <<< (x6 &&& 31) : Int32), .int (-1)]))]), 0, 0) := by
    refine me (d := 9) g_Jx4a65c_size_8abf5 (Nat.le_of_ble_eq_true rfl) ?_
    refine rr rfl (s_aload_n rfl) ?_
    refine rr rfl (s_getf rfl rfl) ?_
    exact rrt rfl rfl rfl rfl
  refine rrc rfl rfl rfl (do_of g_Jx4a65c_size_8abf5 rfl rfl e8) ?_
  refine rr rfl (s_bipush (v := 12) (by decide)) ?_
  refine rr rfl (s_icT (by decide)) ?_
  refine rr rfl (s_aload_n rfl) ?_
  refine rr rfl (s_getf rfl rfl) ?_
  refine rr rfl (s_getf rfl rfl) ?_
  refine rr rfl (s_aload rfl) ?_
  have e9 : a_m MT [] 100000 10 miX3_take [.ref 2, .ref 61] ((hF.set 5 (.inl ((List.replicate 8 (0 : Int32)).set (Int32.toNatClampNeg x3) 1))) ++ [.inr (.inr (2, [.int x1, .int x2, .int x3, .int x4, .int x5, .int x6, .int x7, .int ((1 <<< (x4 &&& 31) : Int32) ||| (1 <<< (x5 &&& 31) : Int32)), .int (1 <<< (x6 &&& 31) : Int32), .int (-1)]))]) = some (none, ((((hF.set 3 (.inr (.inr (0, [.int 1, .ref 62, .int 1])))).set 4 (.inl ((List.replicate 8 (0 : Int32)).set (Int32.toNatClampNeg x3) 1))).set 5 (.inl ((List.replicate 8 (0 : Int32)).set (Int32.toNatClampNeg x3) 1))) ++ [.inr (.inr (2, [.int x1, .int x2, .int x3, .int x4, .int x5, .int x6, .int x7, .int ((1 <<< (x4 &&& 31) : Int32) ||| (1 <<< (x5 &&& 31) : Int32)), .int (1 <<< (x6 &&& 31) : Int32), .int (-1)])), .inr (.inl [some 61, none, none, none, none, none, none, none, none, none])]), 1, 10) := by
    refine me (d := 9) g_X3_take (Nat.le_of_ble_eq_true rfl) ?_
    refine rr rfl (s_aload_n rfl) ?_
    refine rr rfl (s_getf rfl rfl) ?_
    refine rr rfl (s_aload_n rfl) ?_
    have e10 : a_m MT [] 100000 9 miJx4a65c_add_9ea2d [.ref 3, .ref 61] ((hF.set 5 (.inl ((List.replicate 8 (0 : Int32)).set (Int32.toNatClampNeg x3) 1))) ++ [.inr (.inr (2, [.int x1, .int x2, .int x3, .int x4, .int x5, .int x6, .int x7, .int ((1 <<< (x4 &&& 31) : Int32) ||| (1 <<< (x5 &&& 31) : Int32)), .int (1 <<< (x6 &&& 31) : Int32), .int (-1)]))]) = some ((some (.int 1)), (((hF.set 3 (.inr (.inr (0, [.int 1, .ref 62, .int 1])))).set 5 (.inl ((List.replicate 8 (0 : Int32)).set (Int32.toNatClampNeg x3) 1))) ++ [.inr (.inr (2, [.int x1, .int x2, .int x3, .int x4, .int x5, .int x6, .int x7, .int ((1 <<< (x4 &&& 31) : Int32) ||| (1 <<< (x5 &&& 31) : Int32)), .int (1 <<< (x6 &&& 31) : Int32), .int (-1)])), .inr (.inl [some 61, none, none, none, none, none, none, none, none, none])]), 1, 10) := by
      refine me (d := 8) g_Jx4a65c_add_9ea2d (Nat.le_of_ble_eq_true rfl) ?_
      refine rr rfl (s_aload_n rfl) ?_
      refine rr rfl rfl ?_
      refine rr rfl (s_getf rfl rfl) ?_
      refine rr rfl (s_iconst (v := 1) (by decide)) ?_
      refine rr rfl (s_iadd (v := 1) (by decide)) ?_
      refine rr rfl (s_putf rfl rfl (Nat.le_of_ble_eq_true rfl) rfl (Nat.le_of_ble_eq_true rfl) rfl (h' := (((hF.set 3 (.inr (.inr (0, [.int 1, .long 0, .int 0])))).set 5 (.inl ((List.replicate 8 (0 : Int32)).set (Int32.toNatClampNeg x3) 1))) ++ [.inr (.inr (2, [.int x1, .int x2, .int x3, .int x4, .int x5, .int x6, .int x7, .int ((1 <<< (x4 &&& 31) : Int32) ||| (1 <<< (x5 &&& 31) : Int32)), .int (1 <<< (x6 &&& 31) : Int32), .int (-1)]))]))) ?_
      refine rr rfl (s_aload_n rfl) ?_
      refine rr rfl (s_aload_n rfl) ?_
      refine rr rfl (s_aload_n rfl) ?_
      refine rr rfl (s_getf rfl rfl) ?_
      refine rr rfl (s_aload_n rfl) ?_
      refine rr rfl (s_getf rfl rfl) ?_
      have e11 : a_m MT [] 100000 8 miJx4a65c_add_72be8 [.ref 3, .ref 61, .long 0, .int 0] (((hF.set 3 (.inr (.inr (0, [.int 1, .long 0, .int 0])))).set 5 (.inl ((List.replicate 8 (0 : Int32)).set (Int32.toNatClampNeg x3) 1))) ++ [.inr (.inr (2, [.int x1, .int x2, .int x3, .int x4, .int x5, .int x6, .int x7, .int ((1 <<< (x4 &&& 31) : Int32) ||| (1 <<< (x5 &&& 31) : Int32)), .int (1 <<< (x6 &&& 31) : Int32), .int (-1)]))]) = some (none, (((hF.set 3 (.inr (.inr (0, [.int 1, .ref 62, .int 1])))).set 5 (.inl ((List.replicate 8 (0 : Int32)).set (Int32.toNatClampNeg x3) 1))) ++ [.inr (.inr (2, [.int x1, .int x2, .int x3, .int x4, .int x5, .int x6, .int x7, .int ((1 <<< (x4 &&& 31) : Int32) ||| (1 <<< (x5 &&& 31) : Int32)), .int (1 <<< (x6 &&& 31) : Int32), .int (-1)])), .inr (.inl [some 61, none, none, none, none, none, none, none, none, none])]), 1, 10) := by
        refine me (d := 7) g_Jx4a65c_add_72be8 (Nat.le_of_ble_eq_true rfl) ?_
        refine rr rfl (s_iload_n rfl) ?_
        refine rr rfl (s_aloadL rfl) ?_
        refine rr rfl (s_alen0) ?_
        refine rr rfl (s_icF (by decide)) ?_
        refine rr rfl (s_aload_n rfl) ?_
        have e12 : a_m MT [] 100000 7 miJx4a65c_grow_d5877 [.ref 3] (((hF.set 3 (.inr (.inr (0, [.int 1, .long 0, .int 0])))).set 5 (.inl ((List.replicate 8 (0 : Int32)).set (Int32.toNatClampNeg x3) 1))) ++ [.inr (.inr (2, [.int x1, .int x2, .int x3, .int x4, .int x5, .int x6, .int x7, .int ((1 <<< (x4 &&& 31) : Int32) ||| (1 <<< (x5 &&& 31) : Int32)), .int (1 <<< (x6 &&& 31) : Int32), .int (-1)]))]) = some ((some (.ref 62)), (((hF.set 3 (.inr (.inr (0, [.int 1, .ref 62, .int 0])))).set 5 (.inl ((List.replicate 8 (0 : Int32)).set (Int32.toNatClampNeg x3) 1))) ++ [.inr (.inr (2, [.int x1, .int x2, .int x3, .int x4, .int x5, .int x6, .int x7, .int ((1 <<< (x4 &&& 31) : Int32) ||| (1 <<< (x5 &&& 31) : Int32)), .int (1 <<< (x6 &&& 31) : Int32), .int (-1)])), .inr (.inl (List.replicate 10 none))]), 1, 10) := by
          refine me (d := 6) g_Jx4a65c_grow_d5877 (Nat.le_of_ble_eq_true rfl) ?_
          refine rr rfl (s_aload_n rfl) ?_
          refine rr rfl (s_aload_n rfl) ?_
          refine rr rfl (s_getf rfl rfl) ?_
          refine rr rfl (s_iconst (v := 1) (by decide)) ?_
          refine rr rfl (s_iadd (v := 1) (by decide)) ?_
          have e13 : a_m MT [] 100000 6 miJx4a65c_grow_92f84 [.ref 3, .int 1] (((hF.set 3 (.inr (.inr (0, [.int 1, .long 0, .int 0])))).set 5 (.inl ((List.replicate 8 (0 : Int32)).set (Int32.toNatClampNeg x3) 1))) ++ [.inr (.inr (2, [.int x1, .int x2, .int x3, .int x4, .int x5, .int x6, .int x7, .int ((1 <<< (x4 &&& 31) : Int32) ||| (1 <<< (x5 &&& 31) : Int32)), .int (1 <<< (x6 &&& 31) : Int32), .int (-1)]))]) = some ((some (.ref 62)), (((hF.set 3 (.inr (.inr (0, [.int 1, .ref 62, .int 0])))).set 5 (.inl ((List.replicate 8 (0 : Int32)).set (Int32.toNatClampNeg x3) 1))) ++ [.inr (.inr (2, [.int x1, .int x2, .int x3, .int x4, .int x5, .int x6, .int x7, .int ((1 <<< (x4 &&& 31) : Int32) ||| (1 <<< (x5 &&& 31) : Int32)), .int (1 <<< (x6 &&& 31) : Int32), .int (-1)])), .inr (.inl (List.replicate 10 none))]), 1, 10) := by
            refine me (d := 5) g_Jx4a65c_grow_92f84 (Nat.le_of_ble_eq_true rfl) ?_
            refine rr rfl (s_aload_n rfl) ?_
            refine rr rfl (s_getf rfl rfl) ?_
            refine rr rfl (s_alen0) ?_
            refine rr rfl (s_istore_n rfl) ?_
            refine rr rfl (s_iload_n rfl) ?_
            refine rr rfl (s_ifF (by decide)) ?_
            refine rr rfl (s_aload_n rfl) ?_
            refine rr rfl (s_getf rfl rfl) ?_
            refine rr rfl rfl ?_
            refine rr rfl rfl ?_
            refine rr rfl (s_aload_n rfl) ?_
            refine rr rfl (s_bipush (v := 10) (by decide)) ?_
            refine rr rfl (s_iload_n rfl) ?_
            refine rr rfl (s_max (v := 10) rfl (Nat.le_of_ble_eq_true rfl) (by decide)) ?_
            refine rr rfl (s_anew (q := 62) (j := 10) rfl rfl rfl rfl (h' := (((hF.set 3 (.inr (.inr (0, [.int 1, .long 0, .int 0])))).set 5 (.inl ((List.replicate 8 (0 : Int32)).set (Int32.toNatClampNeg x3) 1))) ++ [.inr (.inr (2, [.int x1, .int x2, .int x3, .int x4, .int x5, .int x6, .int x7, .int ((1 <<< (x4 &&& 31) : Int32) ||| (1 <<< (x5 &&& 31) : Int32)), .int (1 <<< (x6 &&& 31) : Int32), .int (-1)])), .inr (.inl (List.replicate 10 none))]))) ?_
            refine rr rfl rfl ?_
            refine rr rfl (s_putf rfl rfl (Nat.le_of_ble_eq_true rfl) rfl (Nat.le_of_ble_eq_true rfl) rfl (h' := (((hF.set 3 (.inr (.inr (0, [.int 1, .ref 62, .int 0])))).set 5 (.inl ((List.replicate 8 (0 : Int32)).set (Int32.toNatClampNeg x3) 1))) ++ [.inr (.inr (2, [.int x1, .int x2, .int x3, .int x4, .int x5, .int x6, .int x7, .int ((1 <<< (x4 &&& 31) : Int32) ||| (1 <<< (x5 &&& 31) : Int32)), .int (1 <<< (x6 &&& 31) : Int32), .int (-1)])), .inr (.inl (List.replicate 10 none))]))) ?_
            exact rrt rfl rfl rfl rfl
          refine rrc rfl rfl rfl (do_of g_Jx4a65c_grow_92f84 rfl rfl e13) ?_
          exact rrt rfl rfl rfl rfl
        refine rrc rfl rfl rfl (do_of g_Jx4a65c_grow_d5877 rfl rfl e12) ?_
        refine rr rfl (s_astore_n rfl) ?_
        refine rr rfl (s_aload_n rfl) ?_
        refine rr rfl (s_iload_n rfl) ?_
        refine rr rfl (s_aload_n rfl) ?_
        refine rr rfl (s_aastore (j := 0) rfl rfl rfl (Nat.le_of_ble_eq_true rfl) rfl (Nat.le_of_ble_eq_true rfl) rfl (h' := (((hF.set 3 (.inr (.inr (0, [.int 1, .ref 62, .int 0])))).set 5 (.inl ((List.replicate 8 (0 : Int32)).set (Int32.toNatClampNeg x3) 1))) ++ [.inr (.inr (2, [.int x1, .int x2, .int x3, .int x4, .int x5, .int x6, .int x7, .int ((1 <<< (x4 &&& 31) : Int32) ||| (1 <<< (x5 &&& 31) : Int32)), .int (1 <<< (x6 &&& 31) : Int32), .int (-1)])), .inr (.inl [some 61, none, none, none, none, none, none, none, none, none])]))) ?_
        refine rr rfl (s_aload_n rfl) ?_
        refine rr rfl (s_iload_n rfl) ?_
        refine rr rfl (s_iconst (v := 1) (by decide)) ?_
        refine rr rfl (s_iadd (v := 1) (by decide)) ?_
        refine rr rfl (s_putf rfl rfl (Nat.le_of_ble_eq_true rfl) rfl (Nat.le_of_ble_eq_true rfl) rfl (h' := (((hF.set 3 (.inr (.inr (0, [.int 1, .ref 62, .int 1])))).set 5 (.inl ((List.replicate 8 (0 : Int32)).set (Int32.toNatClampNeg x3) 1))) ++ [.inr (.inr (2, [.int x1, .int x2, .int x3, .int x4, .int x5, .int x6, .int x7, .int ((1 <<< (x4 &&& 31) : Int32) ||| (1 <<< (x5 &&& 31) : Int32)), .int (1 <<< (x6 &&& 31) : Int32), .int (-1)])), .inr (.inl [some 61, none, none, none, none, none, none, none, none, none])]))) ?_
        exact rrt rfl rfl rfl rfl
      refine rrc rfl rfl rfl (do_of g_Jx4a65c_add_72be8 rfl rfl e11) ?_
      refine rr rfl (s_iconst (v := 1) (by decide)) ?_
      exact rrt rfl rfl rfl rfl
    refine rrc rfl rfl rfl (do_of g_Jx4a65c_add_9ea2d rfl rfl e10) ?_
    refine rr rfl rfl ?_
    refine rr rfl (s_aload_n rfl) ?_
    refine rr rfl (s_getf rfl rfl) ?_
    refine rr rfl (s_iconst (v := 0) (by decide)) ?_
    refine rr rfl (s_aload_n rfl) ?_
    refine rr rfl (s_getf rfl rfl) ?_
    refine rr rfl (s_iconst (v := 0) (by decide)) ?_
    refine rr rfl (s_bipush (v := 8) (by decide)) ?_
    refine rr rfl (s_copy8 rfl (Nat.le_of_ble_eq_true rfl) rfl rfl (by simp) rfl (Nat.le_of_ble_eq_true rfl) rfl (h' := ((((hF.set 3 (.inr (.inr (0, [.int 1, .ref 62, .int 1])))).set 4 (.inl ((List.replicate 8 (0 : Int32)).set (Int32.toNatClampNeg x3) 1))).set 5 (.inl ((List.replicate 8 (0 : Int32)).set (Int32.toNatClampNeg x3) 1))) ++ [.inr (.inr (2, [.int x1, .int x2, .int x3, .int x4, .int x5, .int x6, .int x7, .int ((1 <<< (x4 &&& 31) : Int32) ||| (1 <<< (x5 &&& 31) : Int32)), .int (1 <<< (x6 &&& 31) : Int32), .int (-1)])), .inr (.inl [some 61, none, none, none, none, none, none, none, none, none])]))) ?_
    exact rrt rfl rfl rfl rfl
  refine rrc rfl rfl rfl (do_of g_X3_take rfl rfl e9) ?_
  refine rr rfl (s_aload_n rfl) ?_
  have e14 : a_m MT [] 100000 10 miX8_forgetRules [.ref 0] ((((hF.set 3 (.inr (.inr (0, [.int 1, .ref 62, .int 1])))).set 4 (.inl ((List.replicate 8 (0 : Int32)).set (Int32.toNatClampNeg x3) 1))).set 5 (.inl ((List.replicate 8 (0 : Int32)).set (Int32.toNatClampNeg x3) 1))) ++ [.inr (.inr (2, [.int x1, .int x2, .int x3, .int x4, .int x5, .int x6, .int x7, .int ((1 <<< (x4 &&& 31) : Int32) ||| (1 <<< (x5 &&& 31) : Int32)), .int (1 <<< (x6 &&& 31) : Int32), .int (-1)])), .inr (.inl [some 61, none, none, none, none, none, none, none, none, none])]) = some (none, (((((hF.set 3 (.inr (.inr (0, [.int 1, .ref 62, .int 1])))).set 4 (.inl ((List.replicate 8 (0 : Int32)).set (Int32.toNatClampNeg x3) 1))).set 5 (.inl ((List.replicate 8 (0 : Int32)).set (Int32.toNatClampNeg x3) 1))).set 6 (.inr (.inr (6, [.ref 2, .ref 7, .ref 8, .ref 9, .int 1])))) ++ [.inr (.inr (2, [.int x1, .int x2, .int x3, .int x4, .int x5, .int x6, .int x7, .int ((1 <<< (x4 &&& 31) : Int32) ||| (1 <<< (x5 &&& 31) : Int32)), .int (1 <<< (x6 &&& 31) : Int32), .int (-1)])), .inr (.inl [some 61, none, none, none, none, none, none, none, none, none])]), 0, 0) := by
    refine me (d := 9) g_X8_forgetRules (Nat.le_of_ble_eq_true rfl) ?_
    refine rr rfl (s_aload_n rfl) ?_
    refine rr rfl (s_getf rfl rfl) ?_
    refine rr rfl (s_getf rfl rfl) ?_
    refine rr rfl (s_aload_n rfl) ?_
    refine rr rfl (s_getf rfl rfl) ?_
    refine rr rfl (s_getf rfl rfl) ?_
    have e15 : a_m MT [] 100000 9 miX3_notSpare [.ref 2] ((((hF.set 3 (.inr (.inr (0, [.int 1, .ref 62, .int 1])))).set 4 (.inl ((List.replicate 8 (0 : Int32)).set (Int32.toNatClampNeg x3) 1))).set 5 (.inl ((List.replicate 8 (0 : Int32)).set (Int32.toNatClampNeg x3) 1))) ++ [.inr (.inr (2, [.int x1, .int x2, .int x3, .int x4, .int x5, .int x6, .int x7, .int ((1 <<< (x4 &&& 31) : Int32) ||| (1 <<< (x5 &&& 31) : Int32)), .int (1 <<< (x6 &&& 31) : Int32), .int (-1)])), .inr (.inl [some 61, none, none, none, none, none, none, none, none, none])]) = some ((some (.int 1)), ((((hF.set 3 (.inr (.inr (0, [.int 1, .ref 62, .int 1])))).set 4 (.inl ((List.replicate 8 (0 : Int32)).set (Int32.toNatClampNeg x3) 1))).set 5 (.inl ((List.replicate 8 (0 : Int32)).set (Int32.toNatClampNeg x3) 1))) ++ [.inr (.inr (2, [.int x1, .int x2, .int x3, .int x4, .int x5, .int x6, .int x7, .int ((1 <<< (x4 &&& 31) : Int32) ||| (1 <<< (x5 &&& 31) : Int32)), .int (1 <<< (x6 &&& 31) : Int32), .int (-1)])), .inr (.inl [some 61, none, none, none, none, none, none, none, none, none])]), 0, 0) := by
      refine me (d := 8) g_X3_notSpare (Nat.le_of_ble_eq_true rfl) ?_
      refine rr rfl (s_iconst (v := 0) (by decide)) ?_
      refine rr rfl (s_istore_n rfl) ?_
      refine rr rfl (s_iconst (v := 0) (by decide)) ?_
      refine rr rfl (s_istore_n rfl) ?_
      refine rr rfl (s_iload_n rfl) ?_
      refine rr rfl (s_aload_n rfl) ?_
      refine rr rfl (s_getf rfl rfl) ?_
      have e16 : a_m MT [] 100000 8 miJx4a65c_size_8abf5 [.ref 3] ((((hF.set 3 (.inr (.inr (0, [.int 1, .ref 62, .int 1])))).set 4 (.inl ((List.replicate 8 (0 : Int32)).set (Int32.toNatClampNeg x3) 1))).set 5 (.inl ((List.replicate 8 (0 : Int32)).set (Int32.toNatClampNeg x3) 1))) ++ [.inr (.inr (2, [.int x1, .int x2, .int x3, .int x4, .int x5, .int x6, .int x7, .int ((1 <<< (x4 &&& 31) : Int32) ||| (1 <<< (x5 &&& 31) : Int32)), .int (1 <<< (x6 &&& 31) : Int32), .int (-1)])), .inr (.inl [some 61, none, none, none, none, none, none, none, none, none])]) = some ((some (.int 1)), ((((hF.set 3 (.inr (.inr (0, [.int 1, .ref 62, .int 1])))).set 4 (.inl ((List.replicate 8 (0 : Int32)).set (Int32.toNatClampNeg x3) 1))).set 5 (.inl ((List.replicate 8 (0 : Int32)).set (Int32.toNatClampNeg x3) 1))) ++ [.inr (.inr (2, [.int x1, .int x2, .int x3, .int x4, .int x5, .int x6, .int x7, .int ((1 <<< (x4 &&& 31) : Int32) ||| (1 <<< (x5 &&& 31) : Int32)), .int (1 <<< (x6 &&& 31) : Int32), .int (-1)])), .inr (.inl [some 61, none, none, none, none, none, none, none, none, none])]), 0, 0) := by
        refine me (d := 7) g_Jx4a65c_size_8abf5 (Nat.le_of_ble_eq_true rfl) ?_
        refine rr rfl (s_aload_n rfl) ?_
        refine rr rfl (s_getf rfl rfl) ?_
        exact rrt rfl rfl rfl rfl
      refine rrc rfl rfl rfl (do_of g_Jx4a65c_size_8abf5 rfl rfl e16) ?_
      refine rr rfl (s_icF (by decide)) ?_
      refine rr rfl (s_aload_n rfl) ?_
      refine rr rfl (s_getf rfl rfl) ?_
      refine rr rfl (s_iload_n rfl) ?_
      have e17 : a_m MT [] 100000 8 miJx4a65c_get_915e3 [.ref 3, .int 0] ((((hF.set 3 (.inr (.inr (0, [.int 1, .ref 62, .int 1])))).set 4 (.inl ((List.replicate 8 (0 : Int32)).set (Int32.toNatClampNeg x3) 1))).set 5 (.inl ((List.replicate 8 (0 : Int32)).set (Int32.toNatClampNeg x3) 1))) ++ [.inr (.inr (2, [.int x1, .int x2, .int x3, .int x4, .int x5, .int x6, .int x7, .int ((1 <<< (x4 &&& 31) : Int32) ||| (1 <<< (x5 &&& 31) : Int32)), .int (1 <<< (x6 &&& 31) : Int32), .int (-1)])), .inr (.inl [some 61, none, none, none, none, none, none, none, none, none])]) = some ((some (.ref 61)), ((((hF.set 3 (.inr (.inr (0, [.int 1, .ref 62, .int 1])))).set 4 (.inl ((List.replicate 8 (0 : Int32)).set (Int32.toNatClampNeg x3) 1))).set 5 (.inl ((List.replicate 8 (0 : Int32)).set (Int32.toNatClampNeg x3) 1))) ++ [.inr (.inr (2, [.int x1, .int x2, .int x3, .int x4, .int x5, .int x6, .int x7, .int ((1 <<< (x4 &&& 31) : Int32) ||| (1 <<< (x5 &&& 31) : Int32)), .int (1 <<< (x6 &&& 31) : Int32), .int (-1)])), .inr (.inl [some 61, none, none, none, none, none, none, none, none, none])]), 0, 0) := by
        refine me (d := 7) g_Jx4a65c_get_915e3 (Nat.le_of_ble_eq_true rfl) ?_
        refine rr rfl (s_iload_n rfl) ?_
        refine rr rfl (s_aload_n rfl) ?_
        refine rr rfl (s_getf rfl rfl) ?_
        have e18 : a_m MT [] 100000 7 miJ15_checkIndex_7cf53 [.int 0, .int 1] ((((hF.set 3 (.inr (.inr (0, [.int 1, .ref 62, .int 1])))).set 4 (.inl ((List.replicate 8 (0 : Int32)).set (Int32.toNatClampNeg x3) 1))).set 5 (.inl ((List.replicate 8 (0 : Int32)).set (Int32.toNatClampNeg x3) 1))) ++ [.inr (.inr (2, [.int x1, .int x2, .int x3, .int x4, .int x5, .int x6, .int x7, .int ((1 <<< (x4 &&& 31) : Int32) ||| (1 <<< (x5 &&& 31) : Int32)), .int (1 <<< (x6 &&& 31) : Int32), .int (-1)])), .inr (.inl [some 61, none, none, none, none, none, none, none, none, none])]) = some ((some (.int 0)), ((((hF.set 3 (.inr (.inr (0, [.int 1, .ref 62, .int 1])))).set 4 (.inl ((List.replicate 8 (0 : Int32)).set (Int32.toNatClampNeg x3) 1))).set 5 (.inl ((List.replicate 8 (0 : Int32)).set (Int32.toNatClampNeg x3) 1))) ++ [.inr (.inr (2, [.int x1, .int x2, .int x3, .int x4, .int x5, .int x6, .int x7, .int ((1 <<< (x4 &&& 31) : Int32) ||| (1 <<< (x5 &&& 31) : Int32)), .int (1 <<< (x6 &&& 31) : Int32), .int (-1)])), .inr (.inl [some 61, none, none, none, none, none, none, none, none, none])]), 0, 0) := by
          refine me (d := 6) g_J15_checkIndex_7cf53 (Nat.le_of_ble_eq_true rfl) ?_
          refine rr rfl (s_iload_n rfl) ?_
          refine rr rfl (s_iload_n rfl) ?_
          refine rr rfl rfl ?_
          have e19 : a_m MT [] 100000 6 miJ3_checkIndex_8e157 [.int 0, .int 1, .null] ((((hF.set 3 (.inr (.inr (0, [.int 1, .ref 62, .int 1])))).set 4 (.inl ((List.replicate 8 (0 : Int32)).set (Int32.toNatClampNeg x3) 1))).set 5 (.inl ((List.replicate 8 (0 : Int32)).set (Int32.toNatClampNeg x3) 1))) ++ [.inr (.inr (2, [.int x1, .int x2, .int x3, .int x4, .int x5, .int x6, .int x7, .int ((1 <<< (x4 &&& 31) : Int32) ||| (1 <<< (x5 &&& 31) : Int32)), .int (1 <<< (x6 &&& 31) : Int32), .int (-1)])), .inr (.inl [some 61, none, none, none, none, none, none, none, none, none])]) = some ((some (.int 0)), ((((hF.set 3 (.inr (.inr (0, [.int 1, .ref 62, .int 1])))).set 4 (.inl ((List.replicate 8 (0 : Int32)).set (Int32.toNatClampNeg x3) 1))).set 5 (.inl ((List.replicate 8 (0 : Int32)).set (Int32.toNatClampNeg x3) 1))) ++ [.inr (.inr (2, [.int x1, .int x2, .int x3, .int x4, .int x5, .int x6, .int x7, .int ((1 <<< (x4 &&& 31) : Int32) ||| (1 <<< (x5 &&& 31) : Int32)), .int (1 <<< (x6 &&& 31) : Int32), .int (-1)])), .inr (.inl [some 61, none, none, none, none, none, none, none, none, none])]), 0, 0) := by
            refine me (d := 5) g_J3_checkIndex_8e157 (Nat.le_of_ble_eq_true rfl) ?_
            refine rr rfl (s_iload_n rfl) ?_
            refine rr rfl (s_ifF (by decide)) ?_
            refine rr rfl (s_iload_n rfl) ?_
            refine rr rfl (s_iload_n rfl) ?_
            refine rr rfl (s_icT (by decide)) ?_
            refine rr rfl (s_iload_n rfl) ?_
            exact rrt rfl rfl rfl rfl
          refine rrc rfl rfl rfl (do_of g_J3_checkIndex_8e157 rfl rfl e19) ?_
          exact rrt rfl rfl rfl rfl
        refine rrc rfl rfl rfl (do_of g_J15_checkIndex_7cf53 rfl rfl e18) ?_
        refine rr rfl rfl ?_
        refine rr rfl (s_aload_n rfl) ?_
        refine rr rfl (s_iload_n rfl) ?_
        have e20 : a_m MT [] 100000 7 miJx4a65c_elementData_915e3 [.ref 3, .int 0] ((((hF.set 3 (.inr (.inr (0, [.int 1, .ref 62, .int 1])))).set 4 (.inl ((List.replicate 8 (0 : Int32)).set (Int32.toNatClampNeg x3) 1))).set 5 (.inl ((List.replicate 8 (0 : Int32)).set (Int32.toNatClampNeg x3) 1))) ++ [.inr (.inr (2, [.int x1, .int x2, .int x3, .int x4, .int x5, .int x6, .int x7, .int ((1 <<< (x4 &&& 31) : Int32) ||| (1 <<< (x5 &&& 31) : Int32)), .int (1 <<< (x6 &&& 31) : Int32), .int (-1)])), .inr (.inl [some 61, none, none, none, none, none, none, none, none, none])]) = some ((some (.ref 61)), ((((hF.set 3 (.inr (.inr (0, [.int 1, .ref 62, .int 1])))).set 4 (.inl ((List.replicate 8 (0 : Int32)).set (Int32.toNatClampNeg x3) 1))).set 5 (.inl ((List.replicate 8 (0 : Int32)).set (Int32.toNatClampNeg x3) 1))) ++ [.inr (.inr (2, [.int x1, .int x2, .int x3, .int x4, .int x5, .int x6, .int x7, .int ((1 <<< (x4 &&& 31) : Int32) ||| (1 <<< (x5 &&& 31) : Int32)), .int (1 <<< (x6 &&& 31) : Int32), .int (-1)])), .inr (.inl [some 61, none, none, none, none, none, none, none, none, none])]), 0, 0) := by
          refine me (d := 6) g_Jx4a65c_elementData_915e3 (Nat.le_of_ble_eq_true rfl) ?_
          refine rr rfl (s_aload_n rfl) ?_
          refine rr rfl (s_getf rfl rfl) ?_
          refine rr rfl (s_iload_n rfl) ?_
          refine rr rfl (s_aaload (j := 0) (z := 61) rfl rfl rfl) ?_
          exact rrt rfl rfl rfl rfl
        refine rrc rfl rfl rfl (do_of g_Jx4a65c_elementData_915e3 rfl rfl e20) ?_
        exact rrt rfl rfl rfl rfl
      refine rrc rfl rfl rfl (do_of g_Jx4a65c_get_915e3 rfl rfl e17) ?_
      refine rr rfl rfl ?_
      have e21 : a_m MT [] 100000 8 miX2_isSpare [.ref 61] ((((hF.set 3 (.inr (.inr (0, [.int 1, .ref 62, .int 1])))).set 4 (.inl ((List.replicate 8 (0 : Int32)).set (Int32.toNatClampNeg x3) 1))).set 5 (.inl ((List.replicate 8 (0 : Int32)).set (Int32.toNatClampNeg x3) 1))) ++ [.inr (.inr (2, [.int x1, .int x2, .int x3, .int x4, .int x5, .int x6, .int x7, .int ((1 <<< (x4 &&& 31) : Int32) ||| (1 <<< (x5 &&& 31) : Int32)), .int (1 <<< (x6 &&& 31) : Int32), .int (-1)])), .inr (.inl [some 61, none, none, none, none, none, none, none, none, none])]) = some ((some (.int 0)), ((((hF.set 3 (.inr (.inr (0, [.int 1, .ref 62, .int 1])))).set 4 (.inl ((List.replicate 8 (0 : Int32)).set (Int32.toNatClampNeg x3) 1))).set 5 (.inl ((List.replicate 8 (0 : Int32)).set (Int32.toNatClampNeg x3) 1))) ++ [.inr (.inr (2, [.int x1, .int x2, .int x3, .int x4, .int x5, .int x6, .int x7, .int ((1 <<< (x4 &&& 31) : Int32) ||| (1 <<< (x5 &&& 31) : Int32)), .int (1 <<< (x6 &&& 31) : Int32), .int (-1)])), .inr (.inl [some 61, none, none, none, none, none, none, none, none, none])]), 0, 0) := by
        refine me (d := 7) g_X2_isSpare (Nat.le_of_ble_eq_true rfl) ?_
        refine rr rfl (s_aload_n rfl) ?_
        refine rr rfl (s_getf rfl rfl) ?_
        refine rr rfl (s_iconst (v := (-1)) (by decide)) ?_
        refine rr rfl (s_icT (by decide)) ?_
        refine rr rfl (s_iconst (v := 0) (by decide)) ?_
        exact rrt rfl rfl rfl rfl
      refine rrc rfl rfl rfl (do_of g_X2_isSpare rfl rfl e21) ?_
      refine rr rfl (s_ifF (by decide)) ?_
      refine rr rfl (s_iload_n rfl) ?_
      refine rr rfl (s_iconst (v := 1) (by decide)) ?_
      refine rr rfl (s_iload_n rfl) ?_
      refine rr rfl (s_ishl (v := 1) (by decide)) ?_
      refine rr rfl (s_ior (v := 1) (by decide)) ?_
      refine rr rfl (s_istore_n rfl) ?_
      refine rr rfl (s_iinc (v := 1) rfl (by decide) rfl) ?_
      refine rr rfl s_goto ?_
      refine rr rfl (s_iload_n rfl) ?_
      refine rr rfl (s_aload_n rfl) ?_
      refine rr rfl (s_getf rfl rfl) ?_
      have e22 : a_m MT [] 100000 8 miJx4a65c_size_8abf5 [.ref 3] ((((hF.set 3 (.inr (.inr (0, [.int 1, .ref 62, .int 1])))).set 4 (.inl ((List.replicate 8 (0 : Int32)).set (Int32.toNatClampNeg x3) 1))).set 5 (.inl ((List.replicate 8 (0 : Int32)).set (Int32.toNatClampNeg x3) 1))) ++ [.inr (.inr (2, [.int x1, .int x2, .int x3, .int x4, .int x5, .int x6, .int x7, .int ((1 <<< (x4 &&& 31) : Int32) ||| (1 <<< (x5 &&& 31) : Int32)), .int (1 <<< (x6 &&& 31) : Int32), .int (-1)])), .inr (.inl [some 61, none, none, none, none, none, none, none, none, none])]) = some ((some (.int 1)), ((((hF.set 3 (.inr (.inr (0, [.int 1, .ref 62, .int 1])))).set 4 (.inl ((List.replicate 8 (0 : Int32)).set (Int32.toNatClampNeg x3) 1))).set 5 (.inl ((List.replicate 8 (0 : Int32)).set (Int32.toNatClampNeg x3) 1))) ++ [.inr (.inr (2, [.int x1, .int x2, .int x3, .int x4, .int x5, .int x6, .int x7, .int ((1 <<< (x4 &&& 31) : Int32) ||| (1 <<< (x5 &&& 31) : Int32)), .int (1 <<< (x6 &&& 31) : Int32), .int (-1)])), .inr (.inl [some 61, none, none, none, none, none, none, none, none, none])]), 0, 0) := by
        refine me (d := 7) g_Jx4a65c_size_8abf5 (Nat.le_of_ble_eq_true rfl) ?_
        refine rr rfl (s_aload_n rfl) ?_
        refine rr rfl (s_getf rfl rfl) ?_
        exact rrt rfl rfl rfl rfl
      refine rrc rfl rfl rfl (do_of g_Jx4a65c_size_8abf5 rfl rfl e22) ?_
      refine rr rfl (s_icT (by decide)) ?_
      refine rr rfl (s_iload_n rfl) ?_
      exact rrt rfl rfl rfl rfl
    refine rrc rfl rfl rfl (do_of g_X3_notSpare rfl rfl e15) ?_
    have e23 : a_m MT [] 100000 9 miX6_countOnly [.ref 6, .int 1] ((((hF.set 3 (.inr (.inr (0, [.int 1, .ref 62, .int 1])))).set 4 (.inl ((List.replicate 8 (0 : Int32)).set (Int32.toNatClampNeg x3) 1))).set 5 (.inl ((List.replicate 8 (0 : Int32)).set (Int32.toNatClampNeg x3) 1))) ++ [.inr (.inr (2, [.int x1, .int x2, .int x3, .int x4, .int x5, .int x6, .int x7, .int ((1 <<< (x4 &&& 31) : Int32) ||| (1 <<< (x5 &&& 31) : Int32)), .int (1 <<< (x6 &&& 31) : Int32), .int (-1)])), .inr (.inl [some 61, none, none, none, none, none, none, none, none, none])]) = some (none, (((((hF.set 3 (.inr (.inr (0, [.int 1, .ref 62, .int 1])))).set 4 (.inl ((List.replicate 8 (0 : Int32)).set (Int32.toNatClampNeg x3) 1))).set 5 (.inl ((List.replicate 8 (0 : Int32)).set (Int32.toNatClampNeg x3) 1))).set 6 (.inr (.inr (6, [.ref 2, .ref 7, .ref 8, .ref 9, .int 1])))) ++ [.inr (.inr (2, [.int x1, .int x2, .int x3, .int x4, .int x5, .int x6, .int x7, .int ((1 <<< (x4 &&& 31) : Int32) ||| (1 <<< (x5 &&& 31) : Int32)), .int (1 <<< (x6 &&& 31) : Int32), .int (-1)])), .inr (.inl [some 61, none, none, none, none, none, none, none, none, none])]), 0, 0) := by
      refine me (d := 8) g_X6_countOnly (Nat.le_of_ble_eq_true rfl) ?_
      refine rr rfl (s_aload_n rfl) ?_
      refine rr rfl (s_iload_n rfl) ?_
      refine rr rfl (s_putf rfl rfl (Nat.le_of_ble_eq_true rfl) rfl (Nat.le_of_ble_eq_true rfl) rfl (h' := (((((hF.set 3 (.inr (.inr (0, [.int 1, .ref 62, .int 1])))).set 4 (.inl ((List.replicate 8 (0 : Int32)).set (Int32.toNatClampNeg x3) 1))).set 5 (.inl ((List.replicate 8 (0 : Int32)).set (Int32.toNatClampNeg x3) 1))).set 6 (.inr (.inr (6, [.ref 2, .ref 7, .ref 8, .ref 9, .int 1])))) ++ [.inr (.inr (2, [.int x1, .int x2, .int x3, .int x4, .int x5, .int x6, .int x7, .int ((1 <<< (x4 &&& 31) : Int32) ||| (1 <<< (x5 &&& 31) : Int32)), .int (1 <<< (x6 &&& 31) : Int32), .int (-1)])), .inr (.inl [some 61, none, none, none, none, none, none, none, none, none])]))) ?_
      refine rr rfl (s_aload_n rfl) ?_
      refine rr rfl (s_getf rfl rfl) ?_
      refine rr rfl (s_iconst (v := (-1)) (by decide)) ?_
      have e24 : a_m MT [] 100000 8 miJ7_fill_53178 [.ref 7, .int (-1)] (((((hF.set 3 (.inr (.inr (0, [.int 1, .ref 62, .int 1])))).set 4 (.inl ((List.replicate 8 (0 : Int32)).set (Int32.toNatClampNeg x3) 1))).set 5 (.inl ((List.replicate 8 (0 : Int32)).set (Int32.toNatClampNeg x3) 1))).set 6 (.inr (.inr (6, [.ref 2, .ref 7, .ref 8, .ref 9, .int 1])))) ++ [.inr (.inr (2, [.int x1, .int x2, .int x3, .int x4, .int x5, .int x6, .int x7, .int ((1 <<< (x4 &&& 31) : Int32) ||| (1 <<< (x5 &&& 31) : Int32)), .int (1 <<< (x6 &&& 31) : Int32), .int (-1)])), .inr (.inl [some 61, none, none, none, none, none, none, none, none, none])]) = some (none, (((((hF.set 3 (.inr (.inr (0, [.int 1, .ref 62, .int 1])))).set 4 (.inl ((List.replicate 8 (0 : Int32)).set (Int32.toNatClampNeg x3) 1))).set 5 (.inl ((List.replicate 8 (0 : Int32)).set (Int32.toNatClampNeg x3) 1))).set 6 (.inr (.inr (6, [.ref 2, .ref 7, .ref 8, .ref 9, .int 1])))) ++ [.inr (.inr (2, [.int x1, .int x2, .int x3, .int x4, .int x5, .int x6, .int x7, .int ((1 <<< (x4 &&& 31) : Int32) ||| (1 <<< (x5 &&& 31) : Int32)), .int (1 <<< (x6 &&& 31) : Int32), .int (-1)])), .inr (.inl [some 61, none, none, none, none, none, none, none, none, none])]), 0, 0) := fill_n rfl (Nat.le_of_ble_eq_true rfl) rfl
      refine rrc rfl rfl rfl (do_of g_J7_fill_53178 rfl rfl e24) ?_
      exact rrt rfl rfl rfl rfl
    refine rrc rfl rfl rfl (do_of g_X6_countOnly rfl rfl e23) ?_
    refine rr rfl (s_aload_n rfl) ?_
    have e25 : a_m MT [] 100000 9 miX8_forgetRuns [.ref 0] (((((hF.set 3 (.inr (.inr (0, [.int 1, .ref 62, .int 1])))).set 4 (.inl ((List.replicate 8 (0 : Int32)).set (Int32.toNatClampNeg x3) 1))).set 5 (.inl ((List.replicate 8 (0 : Int32)).set (Int32.toNatClampNeg x3) 1))).set 6 (.inr (.inr (6, [.ref 2, .ref 7, .ref 8, .ref 9, .int 1])))) ++ [.inr (.inr (2, [.int x1, .int x2, .int x3, .int x4, .int x5, .int x6, .int x7, .int ((1 <<< (x4 &&& 31) : Int32) ||| (1 <<< (x5 &&& 31) : Int32)), .int (1 <<< (x6 &&& 31) : Int32), .int (-1)])), .inr (.inl [some 61, none, none, none, none, none, none, none, none, none])]) = some (none, (((((hF.set 3 (.inr (.inr (0, [.int 1, .ref 62, .int 1])))).set 4 (.inl ((List.replicate 8 (0 : Int32)).set (Int32.toNatClampNeg x3) 1))).set 5 (.inl ((List.replicate 8 (0 : Int32)).set (Int32.toNatClampNeg x3) 1))).set 6 (.inr (.inr (6, [.ref 2, .ref 7, .ref 8, .ref 9, .int 1])))) ++ [.inr (.inr (2, [.int x1, .int x2, .int x3, .int x4, .int x5, .int x6, .int x7, .int ((1 <<< (x4 &&& 31) : Int32) ||| (1 <<< (x5 &&& 31) : Int32)), .int (1 <<< (x6 &&& 31) : Int32), .int (-1)])), .inr (.inl [some 61, none, none, none, none, none, none, none, none, none])]), 0, 0) := by
      refine me (d := 8) g_X8_forgetRuns (Nat.le_of_ble_eq_true rfl) ?_
      refine rr rfl (s_aload_n rfl) ?_
      refine rr rfl (s_iconst (v := 0) (by decide)) ?_
      refine rr rfl (s_putf rfl rfl (Nat.le_of_ble_eq_true rfl) rfl (Nat.le_of_ble_eq_true rfl) rfl (h' := (((((hF.set 3 (.inr (.inr (0, [.int 1, .ref 62, .int 1])))).set 4 (.inl ((List.replicate 8 (0 : Int32)).set (Int32.toNatClampNeg x3) 1))).set 5 (.inl ((List.replicate 8 (0 : Int32)).set (Int32.toNatClampNeg x3) 1))).set 6 (.inr (.inr (6, [.ref 2, .ref 7, .ref 8, .ref 9, .int 1])))) ++ [.inr (.inr (2, [.int x1, .int x2, .int x3, .int x4, .int x5, .int x6, .int x7, .int ((1 <<< (x4 &&& 31) : Int32) ||| (1 <<< (x5 &&& 31) : Int32)), .int (1 <<< (x6 &&& 31) : Int32), .int (-1)])), .inr (.inl [some 61, none, none, none, none, none, none, none, none, none])]))) ?_
      refine rr rfl (s_aload_n rfl) ?_
      refine rr rfl (s_getf rfl rfl) ?_
      refine rr rfl (s_iconst (v := 0) (by decide)) ?_
      refine rr rfl (s_putf rfl rfl (Nat.le_of_ble_eq_true rfl) rfl (Nat.le_of_ble_eq_true rfl) rfl (h' := (((((hF.set 3 (.inr (.inr (0, [.int 1, .ref 62, .int 1])))).set 4 (.inl ((List.replicate 8 (0 : Int32)).set (Int32.toNatClampNeg x3) 1))).set 5 (.inl ((List.replicate 8 (0 : Int32)).set (Int32.toNatClampNeg x3) 1))).set 6 (.inr (.inr (6, [.ref 2, .ref 7, .ref 8, .ref 9, .int 1])))) ++ [.inr (.inr (2, [.int x1, .int x2, .int x3, .int x4, .int x5, .int x6, .int x7, .int ((1 <<< (x4 &&& 31) : Int32) ||| (1 <<< (x5 &&& 31) : Int32)), .int (1 <<< (x6 &&& 31) : Int32), .int (-1)])), .inr (.inl [some 61, none, none, none, none, none, none, none, none, none])]))) ?_
      exact rrt rfl rfl rfl rfl
    refine rrc rfl rfl rfl (do_of g_X8_forgetRuns rfl rfl e25) ?_
    exact rrt rfl rfl rfl rfl
  refine rrc rfl rfl rfl (do_of g_X8_forgetRules rfl rfl e14) ?_
  refine rr rfl (s_aload_n rfl) ?_
  refine rr rfl (s_getf rfl rfl) ?_
  refine rr rfl (s_getf rfl rfl) ?_
  refine rr rfl (s_getf rfl rfl) ?_
  have e26 : a_m MT [] 100000 10 miJx4a65c_size_8abf5 [.ref 3] (((((hF.set 3 (.inr (.inr (0, [.int 1, .ref 62, .int 1])))).set 4 (.inl ((List.replicate 8 (0 : Int32)).set (Int32.toNatClampNeg x3) 1))).set 5 (.inl ((List.replicate 8 (0 : Int32)).set (Int32.toNatClampNeg x3) 1))).set 6 (.inr (.inr (6, [.ref 2, .ref 7, .ref 8, .ref 9, .int 1])))) ++ [.inr (.inr (2, [.int x1, .int x2, .int x3, .int x4, .int x5, .int x6, .int x7, .int ((1 <<< (x4 &&& 31) : Int32) ||| (1 <<< (x5 &&& 31) : Int32)), .int (1 <<< (x6 &&& 31) : Int32), .int (-1)])), .inr (.inl [some 61, none, none, none, none, none, none, none, none, none])]) = some ((some (.int 1)), (((((hF.set 3 (.inr (.inr (0, [.int 1, .ref 62, .int 1])))).set 4 (.inl ((List.replicate 8 (0 : Int32)).set (Int32.toNatClampNeg x3) 1))).set 5 (.inl ((List.replicate 8 (0 : Int32)).set (Int32.toNatClampNeg x3) 1))).set 6 (.inr (.inr (6, [.ref 2, .ref 7, .ref 8, .ref 9, .int 1])))) ++ [.inr (.inr (2, [.int x1, .int x2, .int x3, .int x4, .int x5, .int x6, .int x7, .int ((1 <<< (x4 &&& 31) : Int32) ||| (1 <<< (x5 &&& 31) : Int32)), .int (1 <<< (x6 &&& 31) : Int32), .int (-1)])), .inr (.inl [some 61, none, none, none, none, none, none, none, none, none])]), 0, 0) := by
    refine me (d := 9) g_Jx4a65c_size_8abf5 (Nat.le_of_ble_eq_true rfl) ?_
    refine rr rfl (s_aload_n rfl) ?_
    refine rr rfl (s_getf rfl rfl) ?_
    exact rrt rfl rfl rfl rfl
  refine rrc rfl rfl rfl (do_of g_Jx4a65c_size_8abf5 rfl rfl e26) ?_
  refine rr rfl (s_iconst (v := 1) (by decide)) ?_
  refine rr rfl (s_isub (v := 0) (by decide)) ?_
  exact rrt rfl rfl rfl rfl
set_option maxHeartbeats 4000000 in
set_option maxRecDepth 10000 in
theorem rx_Nmho {x1 x2 x3 x4 x5 x6 x7 : Int32} (g1 : x5 = (-1)) (g2 : ¬ x6 = (-1)) (g3 : x2 = 0) (g4 : ¬ x4 < 0) (g5 : x4 < nI 8) (g6 : ¬ x6 < 0) (g7 : x6 < nI 8) (g8 : ¬ x3 < 0) (g9 : x3 < nI 8) (g10 : ¬ x4 = x3) (g11 : x6 = x3) : a_run MT [] (a_m MT [] 100000 10) 11 (some .int) tabX8_rule 90000 140 (alR x1 x2 x3 x4 x5 x6 x7) [] hF 0 0 = some (some (.int (-3)), ((hF.set 5 (.inl ((List.replicate 8 (0 : Int32)).set (Int32.toNatClampNeg x3) 8))) ++ [.inr (.inr (2, [.int x1, .int x2, .int x3, .int x4, .int x4, .int x6, .int x7, .int ((1 <<< (x4 &&& 31) : Int32) ||| (1 <<< (x4 &&& 31) : Int32)), .int (1 <<< (x6 &&& 31) : Int32), .int (-1)]))]), 1, 10) := by
  refine rr rfl (s_new (q := 61) rfl rfl (h' := (hF ++ [.inr (.inr (2, [.int 0, .int 0, .int 0, .int 0, .int 0, .int 0, .int 0, .int 0, .int 0, .int 0]))]))) ?_
  refine rr rfl rfl ?_
  refine rr rfl (s_iload_n rfl) ?_
  refine rr rfl (s_iload_n rfl) ?_
  refine rr rfl (s_iload_n rfl) ?_
  refine rr rfl (s_iload rfl) ?_
  refine rr rfl (s_iload rfl) ?_
  refine rr rfl (s_iload rfl) ?_
  refine rr rfl (s_iload rfl) ?_
  have e1 : a_m MT [] 100000 10 miX2_init [.ref 61, .int x1, .int x2, .int x3, .int x4, .int x5, .int x6, .int x7] (hF ++ [.inr (.inr (2, [.int 0, .int 0, .int 0, .int 0, .int 0, .int 0, .int 0, .int 0, .int 0, .int 0]))]) = some (none, (hF ++ [.inr (.inr (2, [.int x1, .int x2, .int x3, .int x4, .int x4, .int x6, .int x7, .int ((1 <<< (x4 &&& 31) : Int32) ||| (1 <<< (x4 &&& 31) : Int32)), .int (1 <<< (x6 &&& 31) : Int32), .int (-1)]))]), 0, 0) := by
    refine me (d := 9) g_X2_init (Nat.le_of_ble_eq_true rfl) ?_
    refine rr rfl (s_aload_n rfl) ?_
    refine rr rfl rfl ?_
    refine rr rfl (s_aload_n rfl) ?_
    refine rr rfl (s_iconst (v := (-1)) (by decide)) ?_
    refine rr rfl (s_putf rfl rfl (Nat.le_of_ble_eq_true rfl) rfl (Nat.le_of_ble_eq_true rfl) rfl (h' := (hF ++ [.inr (.inr (2, [.int 0, .int 0, .int 0, .int 0, .int 0, .int 0, .int 0, .int 0, .int 0, .int (-1)]))]))) ?_
    refine rr rfl (s_aload_n rfl) ?_
    refine rr rfl (s_iload_n rfl) ?_
    refine rr rfl (s_putf rfl rfl (Nat.le_of_ble_eq_true rfl) rfl (Nat.le_of_ble_eq_true rfl) rfl (h' := (hF ++ [.inr (.inr (2, [.int x1, .int 0, .int 0, .int 0, .int 0, .int 0, .int 0, .int 0, .int 0, .int (-1)]))]))) ?_
    refine rr rfl (s_aload_n rfl) ?_
    refine rr rfl (s_iload_n rfl) ?_
    refine rr rfl (s_putf rfl rfl (Nat.le_of_ble_eq_true rfl) rfl (Nat.le_of_ble_eq_true rfl) rfl (h' := (hF ++ [.inr (.inr (2, [.int x1, .int x2, .int 0, .int 0, .int 0, .int 0, .int 0, .int 0, .int 0, .int (-1)]))]))) ?_
    refine rr rfl (s_aload_n rfl) ?_
    refine rr rfl (s_iload_n rfl) ?_
    refine rr rfl (s_putf rfl rfl (Nat.le_of_ble_eq_true rfl) rfl (Nat.le_of_ble_eq_true rfl) rfl (h' := (hF ++ [.inr (.inr (2, [.int x1, .int x2, .int x3, .int 0, .int 0, .int 0, .int 0, .int 0, .int 0, .int (-1)]))]))) ?_
    refine rr rfl (s_aload_n rfl) ?_
    refine rr rfl (s_iload rfl) ?_
    refine rr rfl (s_putf rfl rfl (Nat.le_of_ble_eq_true rfl) rfl (Nat.le_of_ble_eq_true rfl) rfl (h' := (hF ++ [.inr (.inr (2, [.int x1, .int x2, .int x3, .int x4, .int 0, .int 0, .int 0, .int 0, .int 0, .int (-1)]))]))) ?_
    refine rr rfl (s_aload_n rfl) ?_
    refine rr rfl (s_iload rfl) ?_
    refine rr rfl (s_iconst (v := (-1)) (by decide)) ?_
    refine rr rfl (s_icF (ic_nne g1)) ?_
    refine rr rfl (s_iload rfl) ?_
    refine rr rfl s_goto ?_
    refine rr rfl (s_putf rfl rfl (Nat.le_of_ble_eq_true rfl) rfl (Nat.le_of_ble_eq_true rfl) rfl (h' := (hF ++ [.inr (.inr (2, [.int x1, .int x2, .int x3, .int x4, .int x4, .int 0, .int 0, .int 0, .int 0, .int (-1)]))]))) ?_
    refine rr rfl (s_aload_n rfl) ?_
    refine rr rfl (s_iload rfl) ?_
    refine rr rfl (s_putf rfl rfl (Nat.le_of_ble_eq_true rfl) rfl (Nat.le_of_ble_eq_true rfl) rfl (h' := (hF ++ [.inr (.inr (2, [.int x1, .int x2, .int x3, .int x4, .int x4, .int x6, .int 0, .int 0, .int 0, .int (-1)]))]))) ?_
    refine rr rfl (s_aload_n rfl) ?_
    refine rr rfl (s_iload rfl) ?_
    refine rr rfl (s_putf rfl rfl (Nat.le_of_ble_eq_true rfl) rfl (Nat.le_of_ble_eq_true rfl) rfl (h' := (hF ++ [.inr (.inr (2, [.int x1, .int x2, .int x3, .int x4, .int x4, .int x6, .int x7, .int 0, .int 0, .int (-1)]))]))) ?_
    refine rr rfl (s_aload_n rfl) ?_
    refine rr rfl (s_iconst (v := 1) (by decide)) ?_
    refine rr rfl (s_aload_n rfl) ?_
    refine rr rfl (s_getf rfl rfl) ?_
    refine rr rfl (s_ishl (v := (1 <<< (x4 &&& 31) : Int32)) rfl) ?_
    refine rr rfl (s_iconst (v := 1) (by decide)) ?_
    refine rr rfl (s_aload_n rfl) ?_
    refine rr rfl (s_getf rfl rfl) ?_
    refine rr rfl (s_ishl (v := (1 <<< (x4 &&& 31) : Int32)) rfl) ?_
    refine rr rfl (s_ior (v := ((1 <<< (x4 &&& 31) : Int32) ||| (1 <<< (x4 &&& 31) : Int32))) rfl) ?_
    refine rr rfl (s_putf rfl rfl (Nat.le_of_ble_eq_true rfl) rfl (Nat.le_of_ble_eq_true rfl) rfl (h' := (hF ++ [.inr (.inr (2, [.int x1, .int x2, .int x3, .int x4, .int x4, .int x6, .int x7, .int ((1 <<< (x4 &&& 31) : Int32) ||| (1 <<< (x4 &&& 31) : Int32)), .int 0, .int (-1)]))]))) ?_
    refine rr rfl (s_aload_n rfl) ?_
    refine rr rfl (s_iload rfl) ?_
    refine rr rfl (s_iconst (v := (-1)) (by decide)) ?_
    refine rr rfl (s_icT (ic_ne g2)) ?_
    refine rr rfl (s_iconst (v := 1) (by decide)) ?_
    refine rr rfl (s_iload rfl) ?_
    refine rr rfl (s_ishl (v := (1 <<< (x6 &&& 31) : Int32)) rfl) ?_
    refine rr rfl (s_putf rfl rfl (Nat.le_of_ble_eq_true rfl) rfl (Nat.le_of_ble_eq_true rfl) rfl (h' := (hF ++ [.inr (.inr (2, [.int x1, .int x2, .int x3, .int x4, .int x4, .int x6, .int x7, .int ((1 <<< (x4 &&& 31) : Int32) ||| (1 <<< (x4 &&& 31) : Int32)), .int (1 <<< (x6 &&& 31) : Int32), .int (-1)]))]))) ?_
    exact rrt rfl rfl rfl rfl
  refine rrc rfl rfl rfl (do_of g_X2_init rfl rfl e1) ?_
  refine rr rfl (s_astore rfl) ?_
  refine rr rfl (s_aload_n rfl) ?_
  refine rr rfl (s_getf rfl rfl) ?_
  refine rr rfl (s_getf rfl rfl) ?_
  refine rr rfl (s_aload rfl) ?_
  have e2 : a_m MT [] 100000 10 miX3_hasLayersWith [.ref 2, .ref 61] (hF ++ [.inr (.inr (2, [.int x1, .int x2, .int x3, .int x4, .int x4, .int x6, .int x7, .int ((1 <<< (x4 &&& 31) : Int32) ||| (1 <<< (x4 &&& 31) : Int32)), .int (1 <<< (x6 &&& 31) : Int32), .int (-1)]))]) = some ((some (.int 0)), ((hF.set 5 (.inl ((List.replicate 8 (0 : Int32)).set (Int32.toNatClampNeg x3) 8))) ++ [.inr (.inr (2, [.int x1, .int x2, .int x3, .int x4, .int x4, .int x6, .int x7, .int ((1 <<< (x4 &&& 31) : Int32) ||| (1 <<< (x4 &&& 31) : Int32)), .int (1 <<< (x6 &&& 31) : Int32), .int (-1)]))]), 0, 0) := by
    refine me (d := 9) g_X3_hasLayersWith (Nat.le_of_ble_eq_true rfl) ?_
    refine rr rfl (s_aload_n rfl) ?_
    refine rr rfl (s_getf rfl rfl) ?_
    refine rr rfl (s_iconst (v := 0) (by decide)) ?_
    have e3 : a_m MT [] 100000 9 miJ7_fill_53178 [.ref 5, .int 0] (hF ++ [.inr (.inr (2, [.int x1, .int x2, .int x3, .int x4, .int x4, .int x6, .int x7, .int ((1 <<< (x4 &&& 31) : Int32) ||| (1 <<< (x4 &&& 31) : Int32)), .int (1 <<< (x6 &&& 31) : Int32), .int (-1)]))]) = some (none, (hF ++ [.inr (.inr (2, [.int x1, .int x2, .int x3, .int x4, .int x4, .int x6, .int x7, .int ((1 <<< (x4 &&& 31) : Int32) ||| (1 <<< (x4 &&& 31) : Int32)), .int (1 <<< (x6 &&& 31) : Int32), .int (-1)]))]), 0, 0) := fill_n rfl (Nat.le_of_ble_eq_true rfl) rfl
    refine rrc rfl rfl rfl (do_of g_J7_fill_53178 rfl rfl e3) ?_
    refine rr rfl (s_iconst (v := 1) (by decide)) ?_
    refine rr rfl (s_istore_n rfl) ?_
    refine rr rfl (s_iconst (v := 0) (by decide)) ?_
    refine rr rfl (s_istore_n rfl) ?_
    refine rr rfl (s_iload_n rfl) ?_
    refine rr rfl (s_ifF (by decide)) ?_
    refine rr rfl (s_iload_n rfl) ?_
    refine rr rfl (s_bipush (v := 8) (by decide)) ?_
    refine rr rfl (s_icF (by decide)) ?_
    refine rr rfl (s_aload_n rfl) ?_
    refine rr rfl (s_aload_n rfl) ?_
    have e4 : a_m MT [] 100000 9 miX3_lift [.ref 2, .ref 61] (hF ++ [.inr (.inr (2, [.int x1, .int x2, .int x3, .int x4, .int x4, .int x6, .int x7, .int ((1 <<< (x4 &&& 31) : Int32) ||| (1 <<< (x4 &&& 31) : Int32)), .int (1 <<< (x6 &&& 31) : Int32), .int (-1)]))]) = some ((some (.int 1)), ((hF.set 5 (.inl ((List.replicate 8 (0 : Int32)).set (Int32.toNatClampNeg x3) 1))) ++ [.inr (.inr (2, [.int x1, .int x2, .int x3, .int x4, .int x4, .int x6, .int x7, .int ((1 <<< (x4 &&& 31) : Int32) ||| (1 <<< (x4 &&& 31) : Int32)), .int (1 <<< (x6 &&& 31) : Int32), .int (-1)]))]), 0, 0) := by
      refine me (d := 8) g_X3_lift (Nat.le_of_ble_eq_true rfl) ?_
      refine rr rfl (s_aload_n rfl) ?_
      refine rr rfl (s_getf rfl rfl) ?_
      refine rr rfl (s_ifT (ic_eq g3)) ?_
      refine rr rfl (s_aload_n rfl) ?_
      refine rr rfl (s_getf rfl rfl) ?_
      refine rr rfl (s_aload_n rfl) ?_
      refine rr rfl (s_getf rfl rfl) ?_
      refine rr rfl (s_ialdR (n := 8) (x := 0) rfl g4 g5) ?_
      refine rr rfl (s_aload_n rfl) ?_
      refine rr rfl (s_getf rfl rfl) ?_
      refine rr rfl (s_aload_n rfl) ?_
      refine rr rfl (s_getf rfl rfl) ?_
      refine rr rfl (s_ialdR (n := 8) (x := 0) rfl g4 g5) ?_
      refine rr rfl (s_max (v := 0) rfl (Nat.le_of_ble_eq_true rfl) (by decide)) ?_
      refine rr rfl (s_istore_n rfl) ?_
      refine rr rfl (s_aload_n rfl) ?_
      refine rr rfl (s_getf rfl rfl) ?_
      refine rr rfl (s_iconst (v := (-1)) (by decide)) ?_
      refine rr rfl (s_icF (ic_neq g2)) ?_
      refine rr rfl (s_iload_n rfl) ?_
      refine rr rfl (s_aload_n rfl) ?_
      refine rr rfl (s_getf rfl rfl) ?_
      refine rr rfl (s_aload_n rfl) ?_
      refine rr rfl (s_getf rfl rfl) ?_
      refine rr rfl (s_ialdR (n := 8) (x := 0) rfl g6 g7) ?_
      refine rr rfl (s_iconst (v := 1) (by decide)) ?_
      refine rr rfl (s_iadd (v := 1) (by decide)) ?_
      refine rr rfl (s_max (v := 1) rfl (Nat.le_of_ble_eq_true rfl) (by decide)) ?_
      refine rr rfl (s_istore_n rfl) ?_
      refine rr rfl (s_aload_n rfl) ?_
      refine rr rfl (s_getf rfl rfl) ?_
      refine rr rfl (s_aload_n rfl) ?_
      refine rr rfl (s_getf rfl rfl) ?_
      refine rr rfl (s_ialdR (n := 8) (x := 0) rfl g8 g9) ?_
      refine rr rfl (s_iload_n rfl) ?_
      refine rr rfl (s_icT (by decide)) ?_
      refine rr rfl (s_aload_n rfl) ?_
      refine rr rfl (s_getf rfl rfl) ?_
      refine rr rfl (s_aload_n rfl) ?_
      refine rr rfl (s_getf rfl rfl) ?_
      refine rr rfl (s_iload_n rfl) ?_
      refine rr rfl (s_iastR (n := 8) rfl g8 g9 (Nat.le_of_ble_eq_true rfl) rfl (h' := ((hF.set 5 (.inl ((List.replicate 8 (0 : Int32)).set (Int32.toNatClampNeg x3) 1))) ++ [.inr (.inr (2, [.int x1, .int x2, .int x3, .int x4, .int x4, .int x6, .int x7, .int ((1 <<< (x4 &&& 31) : Int32) ||| (1 <<< (x4 &&& 31) : Int32)), .int (1 <<< (x6 &&& 31) : Int32), .int (-1)]))]))) ?_
      refine rr rfl (s_iconst (v := 1) (by decide)) ?_
      exact rrt rfl rfl rfl rfl
    refine rrc rfl rfl rfl (do_of g_X3_lift rfl rfl e4) ?_
    refine rr rfl (s_istore_n rfl) ?_
    refine rr rfl (s_iconst (v := 0) (by decide)) ?_
    refine rr rfl (s_istore rfl) ?_
    refine rr rfl (s_iload rfl) ?_
    refine rr rfl (s_aload_n rfl) ?_
    refine rr rfl (s_getf rfl rfl) ?_
    have e5 : a_m MT [] 100000 9 miJx4a65c_size_8abf5 [.ref 3] ((hF.set 5 (.inl ((List.replicate 8 (0 : Int32)).set (Int32.toNatClampNeg x3) 1))) ++ [.inr (.inr (2, [.int x1, .int x2, .int x3, .int x4, .int x4, .int x6, .int x7, .int ((1 <<< (x4 &&& 31) : Int32) ||| (1 <<< (x4 &&& 31) : Int32)), .int (1 <<< (x6 &&& 31) : Int32), .int (-1)]))]) = some ((some (.int 0)), ((hF.set 5 (.inl ((List.replicate 8 (0 : Int32)).set (Int32.toNatClampNeg x3) 1))) ++ [.inr (.inr (2, [.int x1, .int x2, .int x3, .int x4, .int x4, .int x6, .int x7, .int ((1 <<< (x4 &&& 31) : Int32) ||| (1 <<< (x4 &&& 31) : Int32)), .int (1 <<< (x6 &&& 31) : Int32), .int (-1)]))]), 0, 0) := by
      refine me (d := 8) g_Jx4a65c_size_8abf5 (Nat.le_of_ble_eq_true rfl) ?_
      refine rr rfl (s_aload_n rfl) ?_
      refine rr rfl (s_getf rfl rfl) ?_
      exact rrt rfl rfl rfl rfl
    refine rrc rfl rfl rfl (do_of g_Jx4a65c_size_8abf5 rfl rfl e5) ?_
    refine rr rfl (s_icT (by decide)) ?_
    refine rr rfl (s_iinc (v := 1) rfl (by decide) rfl) ?_
    refine rr rfl s_goto ?_
    refine rr rfl (s_iload_n rfl) ?_
    refine rr rfl (s_ifF (by decide)) ?_
    refine rr rfl (s_iload_n rfl) ?_
    refine rr rfl (s_bipush (v := 8) (by decide)) ?_
    refine rr rfl (s_icF (by decide)) ?_
    refine rr rfl (s_aload_n rfl) ?_
    refine rr rfl (s_aload_n rfl) ?_
    have e6 : a_m MT [] 100000 9 miX3_lift [.ref 2, .ref 61] ((hF.set 5 (.inl ((List.replicate 8 (0 : Int32)).set (Int32.toNatClampNeg x3) 1))) ++ [.inr (.inr (2, [.int x1, .int x2, .int x3, .int x4, .int x4, .int x6, .int x7, .int ((1 <<< (x4 &&& 31) : Int32) ||| (1 <<< (x4 &&& 31) : Int32)), .int (1 <<< (x6 &&& 31) : Int32), .int (-1)]))]) = some ((some (.int 1)), ((hF.set 5 (.inl ((List.replicate 8 (0 : Int32)).set (Int32.toNatClampNeg x3) 2))) ++ [.inr (.inr (2, [.int x1, .int x2, .int x3, .int x4, .int x4, .int x6, .int x7, .int ((1 <<< (x4 &&& 31) : Int32) ||| (1 <<< (x4 &&& 31) : Int32)), .int (1 <<< (x6 &&& 31) : Int32), .int (-1)]))]), 0, 0) := by
      refine me (d := 8) g_X3_lift (Nat.le_of_ble_eq_true rfl) ?_
      refine rr rfl (s_aload_n rfl) ?_
      refine rr rfl (s_getf rfl rfl) ?_
      refine rr rfl (s_ifT (ic_eq g3)) ?_
      refine rr rfl (s_aload_n rfl) ?_
      refine rr rfl (s_getf rfl rfl) ?_
      refine rr rfl (s_aload_n rfl) ?_
      refine rr rfl (s_getf rfl rfl) ?_
      refine rr rfl (s_ialdN rfl g10 g4 g5 g8) ?_
      refine rr rfl (s_aload_n rfl) ?_
      refine rr rfl (s_getf rfl rfl) ?_
      refine rr rfl (s_aload_n rfl) ?_
      refine rr rfl (s_getf rfl rfl) ?_
      refine rr rfl (s_ialdN rfl g10 g4 g5 g8) ?_
      refine rr rfl (s_max (v := 0) rfl (Nat.le_of_ble_eq_true rfl) (by decide)) ?_
      refine rr rfl (s_istore_n rfl) ?_
      refine rr rfl (s_aload_n rfl) ?_
      refine rr rfl (s_getf rfl rfl) ?_
      refine rr rfl (s_iconst (v := (-1)) (by decide)) ?_
      refine rr rfl (s_icF (ic_neq g2)) ?_
      refine rr rfl (s_iload_n rfl) ?_
      refine rr rfl (s_aload_n rfl) ?_
      refine rr rfl (s_getf rfl rfl) ?_
      refine rr rfl (s_aload_n rfl) ?_
      refine rr rfl (s_getf rfl rfl) ?_
      refine rr rfl (s_ialdH rfl g11 g8 g9) ?_
      refine rr rfl (s_iconst (v := 1) (by decide)) ?_
      refine rr rfl (s_iadd (v := 2) (by decide)) ?_
      refine rr rfl (s_max (v := 2) rfl (Nat.le_of_ble_eq_true rfl) (by decide)) ?_
      refine rr rfl (s_istore_n rfl) ?_
      refine rr rfl (s_aload_n rfl) ?_
      refine rr rfl (s_getf rfl rfl) ?_
      refine rr rfl (s_aload_n rfl) ?_
      refine rr rfl (s_getf rfl rfl) ?_
      refine rr rfl (s_ialdH rfl rfl g8 g9) ?_
      refine rr rfl (s_iload_n rfl) ?_
      refine rr rfl (s_icT (by decide)) ?_
      refine rr rfl (s_aload_n rfl) ?_
      refine rr rfl (s_getf rfl rfl) ?_
      refine rr rfl (s_aload_n rfl) ?_
      refine rr rfl (s_getf rfl rfl) ?_
      refine rr rfl (s_iload_n rfl) ?_
      refine rr rfl (s_iastH (v := 2) rfl rfl g8 g9 (Nat.le_of_ble_eq_true rfl) rfl (h' := ((hF.set 5 (.inl ((List.replicate 8 (0 : Int32)).set (Int32.toNatClampNeg x3) 2))) ++ [.inr (.inr (2, [.int x1, .int x2, .int x3, .int x4, .int x4, .int x6, .int x7, .int ((1 <<< (x4 &&& 31) : Int32) ||| (1 <<< (x4 &&& 31) : Int32)), .int (1 <<< (x6 &&& 31) : Int32), .int (-1)]))]))) ?_
      refine rr rfl (s_iconst (v := 1) (by decide)) ?_
      exact rrt rfl rfl rfl rfl
    refine rrc rfl rfl rfl (do_of g_X3_lift rfl rfl e6) ?_
    refine rr rfl (s_istore_n rfl) ?_
    refine rr rfl (s_iconst (v := 0) (by decide)) ?_
    refine rr rfl (s_istore rfl) ?_
    refine rr rfl (s_iload rfl) ?_
    refine rr rfl (s_aload_n rfl) ?_
    refine rr rfl (s_getf rfl rfl) ?_
    have e7 : a_m MT [] 100000 9 miJx4a65c_size_8abf5 [.ref 3] ((hF.set 5 (.inl ((List.replicate 8 (0 : Int32)).set (Int32.toNatClampNeg x3) 2))) ++ [.inr (.inr (2, [.int x1, .int x2, .int x3, .int x4, .int x4, .int x6, .int x7, .int ((1 <<< (x4 &&& 31) : Int32) ||| (1 <<< (x4 &&& 31) : Int32)), .int (1 <<< (x6 &&& 31) : Int32), .int (-1)]))]) = some ((some (.int 0)), ((hF.set 5 (.inl ((List.replicate 8 (0 : Int32)).set (Int32.toNatClampNeg x3) 2))) ++ [.inr (.inr (2, [.int x1, .int x2, .int x3, .int x4, .int x4, .int x6, .int x7, .int ((1 <<< (x4 &&& 31) : Int32) ||| (1 <<< (x4 &&& 31) : Int32)), .int (1 <<< (x6 &&& 31) : Int32), .int (-1)]))]), 0, 0) := by
      refine me (d := 8) g_Jx4a65c_size_8abf5 (Nat.le_of_ble_eq_true rfl) ?_
      refine rr rfl (s_aload_n rfl) ?_
      refine rr rfl (s_getf rfl rfl) ?_
      exact rrt rfl rfl rfl rfl
    refine rrc rfl rfl rfl (do_of g_Jx4a65c_size_8abf5 rfl rfl e7) ?_
    refine rr rfl (s_icT (by decide)) ?_
    refine rr rfl (s_iinc (v := 2) rfl (by decide) rfl) ?_
    refine rr rfl s_goto ?_
    refine rr rfl (s_iload_n rfl) ?_
    refine rr rfl (s_ifF (by decide)) ?_
    refine rr rfl (s_iload_n rfl) ?_
    refine rr rfl (s_bipush (v := 8) (by decide)) ?_
    refine rr rfl (s_icF (by decide)) ?_
    refine rr rfl (s_aload_n rfl) ?_
    refine rr rfl (s_aload_n rfl) ?_
    have e8 : a_m MT [] 100000 9 miX3_lift [.ref 2, .ref 61] ((hF.set 5 (.inl ((List.replicate 8 (0 : Int32)).set (Int32.toNatClampNeg x3) 2))) ++ [.inr (.inr (2, [.int x1, .int x2, .int x3, .int x4, .int x4, .int x6, .int x7, .int ((1 <<< (x4 &&& 31) : Int32) ||| (1 <<< (x4 &&& 31) : Int32)), .int (1 <<< (x6 &&& 31) : Int32), .int (-1)]))]) = some ((some (.int 1)), ((hF.set 5 (.inl ((List.replicate 8 (0 : Int32)).set (Int32.toNatClampNeg x3) 3))) ++ [.inr (.inr (2, [.int x1, .int x2, .int x3, .int x4, .int x4, .int x6, .int x7, .int ((1 <<< (x4 &&& 31) : Int32) ||| (1 <<< (x4 &&& 31) : Int32)), .int (1 <<< (x6 &&& 31) : Int32), .int (-1)]))]), 0, 0) := by
      refine me (d := 8) g_X3_lift (Nat.le_of_ble_eq_true rfl) ?_
      refine rr rfl (s_aload_n rfl) ?_
      refine rr rfl (s_getf rfl rfl) ?_
      refine rr rfl (s_ifT (ic_eq g3)) ?_
      refine rr rfl (s_aload_n rfl) ?_
      refine rr rfl (s_getf rfl rfl) ?_
      refine rr rfl (s_aload_n rfl) ?_
      refine rr rfl (s_getf rfl rfl) ?_
      refine rr rfl (s_ialdN rfl g10 g4 g5 g8) ?_
      refine rr rfl (s_aload_n rfl) ?_
      refine rr rfl (s_getf rfl rfl) ?_
      refine rr rfl (s_aload_n rfl) ?_
      refine rr rfl (s_getf rfl rfl) ?_
      refine rr rfl (s_ialdN rfl g10 g4 g5 g8) ?_
      refine rr rfl (s_max (v := 0) rfl (Nat.le_of_ble_eq_true rfl) (by decide)) ?_
      refine rr rfl (s_istore_n rfl) ?_
      refine rr rfl (s_aload_n rfl) ?_
      refine rr rfl (s_getf rfl rfl) ?_
      refine rr rfl (s_iconst (v := (-1)) (by decide)) ?_
      refine rr rfl (s_icF (ic_neq g2)) ?_
      refine rr rfl (s_iload_n rfl) ?_
      refine rr rfl (s_aload_n rfl) ?_
      refine rr rfl (s_getf rfl rfl) ?_
      refine rr rfl (s_aload_n rfl) ?_
      refine rr rfl (s_getf rfl rfl) ?_
      refine rr rfl (s_ialdH rfl g11 g8 g9) ?_
      refine rr rfl (s_iconst (v := 1) (by decide)) ?_
      refine rr rfl (s_iadd (v := 3) (by decide)) ?_
      refine rr rfl (s_max (v := 3) rfl (Nat.le_of_ble_eq_true rfl) (by decide)) ?_
      refine rr rfl (s_istore_n rfl) ?_
      refine rr rfl (s_aload_n rfl) ?_
      refine rr rfl (s_getf rfl rfl) ?_
      refine rr rfl (s_aload_n rfl) ?_
      refine rr rfl (s_getf rfl rfl) ?_
      refine rr rfl (s_ialdH rfl rfl g8 g9) ?_
      refine rr rfl (s_iload_n rfl) ?_
      refine rr rfl (s_icT (by decide)) ?_
      refine rr rfl (s_aload_n rfl) ?_
      refine rr rfl (s_getf rfl rfl) ?_
      refine rr rfl (s_aload_n rfl) ?_
      refine rr rfl (s_getf rfl rfl) ?_
      refine rr rfl (s_iload_n rfl) ?_
      refine rr rfl (s_iastH (v := 3) rfl rfl g8 g9 (Nat.le_of_ble_eq_true rfl) rfl (h' := ((hF.set 5 (.inl ((List.replicate 8 (0 : Int32)).set (Int32.toNatClampNeg x3) 3))) ++ [.inr (.inr (2, [.int x1, .int x2, .int x3, .int x4, .int x4, .int x6, .int x7, .int ((1 <<< (x4 &&& 31) : Int32) ||| (1 <<< (x4 &&& 31) : Int32)), .int (1 <<< (x6 &&& 31) : Int32), .int (-1)]))]))) ?_
      refine rr rfl (s_iconst (v := 1) (by decide)) ?_
      exact rrt rfl rfl rfl rfl
    refine rrc rfl rfl rfl (do_of g_X3_lift rfl rfl e8) ?_
    refine rr rfl (s_istore_n rfl) ?_
    refine rr rfl (s_iconst (v := 0) (by decide)) ?_
    refine rr rfl (s_istore rfl) ?_
    refine rr rfl (s_iload rfl) ?_
    refine rr rfl (s_aload_n rfl) ?_
    refine rr rfl (s_getf rfl rfl) ?_
    have e9 : a_m MT [] 100000 9 miJx4a65c_size_8abf5 [.ref 3] ((hF.set 5 (.inl ((List.replicate 8 (0 : Int32)).set (Int32.toNatClampNeg x3) 3))) ++ [.inr (.inr (2, [.int x1, .int x2, .int x3, .int x4, .int x4, .int x6, .int x7, .int ((1 <<< (x4 &&& 31) : Int32) ||| (1 <<< (x4 &&& 31) : Int32)), .int (1 <<< (x6 &&& 31) : Int32), .int (-1)]))]) = some ((some (.int 0)), ((hF.set 5 (.inl ((List.replicate 8 (0 : Int32)).set (Int32.toNatClampNeg x3) 3))) ++ [.inr (.inr (2, [.int x1, .int x2, .int x3, .int x4, .int x4, .int x6, .int x7, .int ((1 <<< (x4 &&& 31) : Int32) ||| (1 <<< (x4 &&& 31) : Int32)), .int (1 <<< (x6 &&& 31) : Int32), .int (-1)]))]), 0, 0) := by
      refine me (d := 8) g_Jx4a65c_size_8abf5 (Nat.le_of_ble_eq_true rfl) ?_
      refine rr rfl (s_aload_n rfl) ?_
      refine rr rfl (s_getf rfl rfl) ?_
      exact rrt rfl rfl rfl rfl
    refine rrc rfl rfl rfl (do_of g_Jx4a65c_size_8abf5 rfl rfl e9) ?_
    refine rr rfl (s_icT (by decide)) ?_
    refine rr rfl (s_iinc (v := 3) rfl (by decide) rfl) ?_
    refine rr rfl s_goto ?_
    refine rr rfl (s_iload_n rfl) ?_
    refine rr rfl (s_ifF (by decide)) ?_
    refine rr rfl (s_iload_n rfl) ?_
    refine rr rfl (s_bipush (v := 8) (by decide)) ?_
    refine rr rfl (s_icF (by decide)) ?_
    refine rr rfl (s_aload_n rfl) ?_
    refine rr rfl (s_aload_n rfl) ?_
    have e10 : a_m MT [] 100000 9 miX3_lift [.ref 2, .ref 61] ((hF.set 5 (.inl ((List.replicate 8 (0 : Int32)).set (Int32.toNatClampNeg x3) 3))) ++ [.inr (.inr (2, [.int x1, .int x2, .int x3, .int x4, .int x4, .int x6, .int x7, .int ((1 <<< (x4 &&& 31) : Int32) ||| (1 <<< (x4 &&& 31) : Int32)), .int (1 <<< (x6 &&& 31) : Int32), .int (-1)]))]) = some ((some (.int 1)), ((hF.set 5 (.inl ((List.replicate 8 (0 : Int32)).set (Int32.toNatClampNeg x3) 4))) ++ [.inr (.inr (2, [.int x1, .int x2, .int x3, .int x4, .int x4, .int x6, .int x7, .int ((1 <<< (x4 &&& 31) : Int32) ||| (1 <<< (x4 &&& 31) : Int32)), .int (1 <<< (x6 &&& 31) : Int32), .int (-1)]))]), 0, 0) := by
      refine me (d := 8) g_X3_lift (Nat.le_of_ble_eq_true rfl) ?_
      refine rr rfl (s_aload_n rfl) ?_
      refine rr rfl (s_getf rfl rfl) ?_
      refine rr rfl (s_ifT (ic_eq g3)) ?_
      refine rr rfl (s_aload_n rfl) ?_
      refine rr rfl (s_getf rfl rfl) ?_
      refine rr rfl (s_aload_n rfl) ?_
      refine rr rfl (s_getf rfl rfl) ?_
      refine rr rfl (s_ialdN rfl g10 g4 g5 g8) ?_
      refine rr rfl (s_aload_n rfl) ?_
      refine rr rfl (s_getf rfl rfl) ?_
      refine rr rfl (s_aload_n rfl) ?_
      refine rr rfl (s_getf rfl rfl) ?_
      refine rr rfl (s_ialdN rfl g10 g4 g5 g8) ?_
      refine rr rfl (s_max (v := 0) rfl (Nat.le_of_ble_eq_true rfl) (by decide)) ?_
      refine rr rfl (s_istore_n rfl) ?_
      refine rr rfl (s_aload_n rfl) ?_
      refine rr rfl (s_getf rfl rfl) ?_
      refine rr rfl (s_iconst (v := (-1)) (by decide)) ?_
      refine rr rfl (s_icF (ic_neq g2)) ?_
      refine rr rfl (s_iload_n rfl) ?_
      refine rr rfl (s_aload_n rfl) ?_
      refine rr rfl (s_getf rfl rfl) ?_
      refine rr rfl (s_aload_n rfl) ?_
      refine rr rfl (s_getf rfl rfl) ?_
      refine rr rfl (s_ialdH rfl g11 g8 g9) ?_
      refine rr rfl (s_iconst (v := 1) (by decide)) ?_
      refine rr rfl (s_iadd (v := 4) (by decide)) ?_
      refine rr rfl (s_max (v := 4) rfl (Nat.le_of_ble_eq_true rfl) (by decide)) ?_
      refine rr rfl (s_istore_n rfl) ?_
      refine rr rfl (s_aload_n rfl) ?_
      refine rr rfl (s_getf rfl rfl) ?_
      refine rr rfl (s_aload_n rfl) ?_
      refine rr rfl (s_getf rfl rfl) ?_
      refine rr rfl (s_ialdH rfl rfl g8 g9) ?_
      refine rr rfl (s_iload_n rfl) ?_
      refine rr rfl (s_icT (by decide)) ?_
      refine rr rfl (s_aload_n rfl) ?_
      refine rr rfl (s_getf rfl rfl) ?_
      refine rr rfl (s_aload_n rfl) ?_
      refine rr rfl (s_getf rfl rfl) ?_
      refine rr rfl (s_iload_n rfl) ?_
      refine rr rfl (s_iastH (v := 4) rfl rfl g8 g9 (Nat.le_of_ble_eq_true rfl) rfl (h' := ((hF.set 5 (.inl ((List.replicate 8 (0 : Int32)).set (Int32.toNatClampNeg x3) 4))) ++ [.inr (.inr (2, [.int x1, .int x2, .int x3, .int x4, .int x4, .int x6, .int x7, .int ((1 <<< (x4 &&& 31) : Int32) ||| (1 <<< (x4 &&& 31) : Int32)), .int (1 <<< (x6 &&& 31) : Int32), .int (-1)]))]))) ?_
      refine rr rfl (s_iconst (v := 1) (by decide)) ?_
      exact rrt rfl rfl rfl rfl
    refine rrc rfl rfl rfl (do_of g_X3_lift rfl rfl e10) ?_
    refine rr rfl (s_istore_n rfl) ?_
    refine rr rfl (s_iconst (v := 0) (by decide)) ?_
    refine rr rfl (s_istore rfl) ?_
    refine rr rfl (s_iload rfl) ?_
    refine rr rfl (s_aload_n rfl) ?_
    refine rr rfl (s_getf rfl rfl) ?_
    have e11 : a_m MT [] 100000 9 miJx4a65c_size_8abf5 [.ref 3] ((hF.set 5 (.inl ((List.replicate 8 (0 : Int32)).set (Int32.toNatClampNeg x3) 4))) ++ [.inr (.inr (2, [.int x1, .int x2, .int x3, .int x4, .int x4, .int x6, .int x7, .int ((1 <<< (x4 &&& 31) : Int32) ||| (1 <<< (x4 &&& 31) : Int32)), .int (1 <<< (x6 &&& 31) : Int32), .int (-1)]))]) = some ((some (.int 0)), ((hF.set 5 (.inl ((List.replicate 8 (0 : Int32)).set (Int32.toNatClampNeg x3) 4))) ++ [.inr (.inr (2, [.int x1, .int x2, .int x3, .int x4, .int x4, .int x6, .int x7, .int ((1 <<< (x4 &&& 31) : Int32) ||| (1 <<< (x4 &&& 31) : Int32)), .int (1 <<< (x6 &&& 31) : Int32), .int (-1)]))]), 0, 0) := by
      refine me (d := 8) g_Jx4a65c_size_8abf5 (Nat.le_of_ble_eq_true rfl) ?_
      refine rr rfl (s_aload_n rfl) ?_
      refine rr rfl (s_getf rfl rfl) ?_
      exact rrt rfl rfl rfl rfl
    refine rrc rfl rfl rfl (do_of g_Jx4a65c_size_8abf5 rfl rfl e11) ?_
    refine rr rfl (s_icT (by decide)) ?_
    refine rr rfl (s_iinc (v := 4) rfl (by decide) rfl) ?_
    refine rr rfl s_goto ?_
    refine rr rfl (s_iload_n rfl) ?_
    refine rr rfl (s_ifF (by decide)) ?_
    refine rr rfl (s_iload_n rfl) ?_
    refine rr rfl (s_bipush (v := 8) (by decide)) ?_
    refine rr rfl (s_icF (by decide)) ?_
    refine rr rfl (s_aload_n rfl) ?_
    refine rr rfl (s_aload_n rfl) ?_
    have e12 : a_m MT [] 100000 9 miX3_lift [.ref 2, .ref 61] ((hF.set 5 (.inl ((List.replicate 8 (0 : Int32)).set (Int32.toNatClampNeg x3) 4))) ++ [.inr (.inr (2, [.int x1, .int x2, .int x3, .int x4, .int x4, .int x6, .int x7, .int ((1 <<< (x4 &&& 31) : Int32) ||| (1 <<< (x4 &&& 31) : Int32)), .int (1 <<< (x6 &&& 31) : Int32), .int (-1)]))]) = some ((some (.int 1)), ((hF.set 5 (.inl ((List.replicate 8 (0 : Int32)).set (Int32.toNatClampNeg x3) 5))) ++ [.inr (.inr (2, [.int x1, .int x2, .int x3, .int x4, .int x4, .int x6, .int x7, .int ((1 <<< (x4 &&& 31) : Int32) ||| (1 <<< (x4 &&& 31) : Int32)), .int (1 <<< (x6 &&& 31) : Int32), .int (-1)]))]), 0, 0) := by
      refine me (d := 8) g_X3_lift (Nat.le_of_ble_eq_true rfl) ?_
      refine rr rfl (s_aload_n rfl) ?_
      refine rr rfl (s_getf rfl rfl) ?_
      refine rr rfl (s_ifT (ic_eq g3)) ?_
      refine rr rfl (s_aload_n rfl) ?_
      refine rr rfl (s_getf rfl rfl) ?_
      refine rr rfl (s_aload_n rfl) ?_
      refine rr rfl (s_getf rfl rfl) ?_
      refine rr rfl (s_ialdN rfl g10 g4 g5 g8) ?_
      refine rr rfl (s_aload_n rfl) ?_
      refine rr rfl (s_getf rfl rfl) ?_
      refine rr rfl (s_aload_n rfl) ?_
      refine rr rfl (s_getf rfl rfl) ?_
      refine rr rfl (s_ialdN rfl g10 g4 g5 g8) ?_
      refine rr rfl (s_max (v := 0) rfl (Nat.le_of_ble_eq_true rfl) (by decide)) ?_
      refine rr rfl (s_istore_n rfl) ?_
      refine rr rfl (s_aload_n rfl) ?_
      refine rr rfl (s_getf rfl rfl) ?_
      refine rr rfl (s_iconst (v := (-1)) (by decide)) ?_
      refine rr rfl (s_icF (ic_neq g2)) ?_
      refine rr rfl (s_iload_n rfl) ?_
      refine rr rfl (s_aload_n rfl) ?_
      refine rr rfl (s_getf rfl rfl) ?_
      refine rr rfl (s_aload_n rfl) ?_
      refine rr rfl (s_getf rfl rfl) ?_
      refine rr rfl (s_ialdH rfl g11 g8 g9) ?_
      refine rr rfl (s_iconst (v := 1) (by decide)) ?_
      refine rr rfl (s_iadd (v := 5) (by decide)) ?_
      refine rr rfl (s_max (v := 5) rfl (Nat.le_of_ble_eq_true rfl) (by decide)) ?_
      refine rr rfl (s_istore_n rfl) ?_
      refine rr rfl (s_aload_n rfl) ?_
      refine rr rfl (s_getf rfl rfl) ?_
      refine rr rfl (s_aload_n rfl) ?_
      refine rr rfl (s_getf rfl rfl) ?_
      refine rr rfl (s_ialdH rfl rfl g8 g9) ?_
      refine rr rfl (s_iload_n rfl) ?_
      refine rr rfl (s_icT (by decide)) ?_
      refine rr rfl (s_aload_n rfl) ?_
      refine rr rfl (s_getf rfl rfl) ?_
      refine rr rfl (s_aload_n rfl) ?_
      refine rr rfl (s_getf rfl rfl) ?_
      refine rr rfl (s_iload_n rfl) ?_
      refine rr rfl (s_iastH (v := 5) rfl rfl g8 g9 (Nat.le_of_ble_eq_true rfl) rfl (h' := ((hF.set 5 (.inl ((List.replicate 8 (0 : Int32)).set (Int32.toNatClampNeg x3) 5))) ++ [.inr (.inr (2, [.int x1, .int x2, .int x3, .int x4, .int x4, .int x6, .int x7, .int ((1 <<< (x4 &&& 31) : Int32) ||| (1 <<< (x4 &&& 31) : Int32)), .int (1 <<< (x6 &&& 31) : Int32), .int (-1)]))]))) ?_
      refine rr rfl (s_iconst (v := 1) (by decide)) ?_
      exact rrt rfl rfl rfl rfl
    refine rrc rfl rfl rfl (do_of g_X3_lift rfl rfl e12) ?_
    refine rr rfl (s_istore_n rfl) ?_
    refine rr rfl (s_iconst (v := 0) (by decide)) ?_
    refine rr rfl (s_istore rfl) ?_
    refine rr rfl (s_iload rfl) ?_
    refine rr rfl (s_aload_n rfl) ?_
    refine rr rfl (s_getf rfl rfl) ?_
    have e13 : a_m MT [] 100000 9 miJx4a65c_size_8abf5 [.ref 3] ((hF.set 5 (.inl ((List.replicate 8 (0 : Int32)).set (Int32.toNatClampNeg x3) 5))) ++ [.inr (.inr (2, [.int x1, .int x2, .int x3, .int x4, .int x4, .int x6, .int x7, .int ((1 <<< (x4 &&& 31) : Int32) ||| (1 <<< (x4 &&& 31) : Int32)), .int (1 <<< (x6 &&& 31) : Int32), .int (-1)]))]) = some ((some (.int 0)), ((hF.set 5 (.inl ((List.replicate 8 (0 : Int32)).set (Int32.toNatClampNeg x3) 5))) ++ [.inr (.inr (2, [.int x1, .int x2, .int x3, .int x4, .int x4, .int x6, .int x7, .int ((1 <<< (x4 &&& 31) : Int32) ||| (1 <<< (x4 &&& 31) : Int32)), .int (1 <<< (x6 &&& 31) : Int32), .int (-1)]))]), 0, 0) := by
      refine me (d := 8) g_Jx4a65c_size_8abf5 (Nat.le_of_ble_eq_true rfl) ?_
      refine rr rfl (s_aload_n rfl) ?_
      refine rr rfl (s_getf rfl rfl) ?_
      exact rrt rfl rfl rfl rfl
    refine rrc rfl rfl rfl (do_of g_Jx4a65c_size_8abf5 rfl rfl e13) ?_
    refine rr rfl (s_icT (by decide)) ?_
    refine rr rfl (s_iinc (v := 5) rfl (by decide) rfl) ?_
    refine rr rfl s_goto ?_
    refine rr rfl (s_iload_n rfl) ?_
    refine rr rfl (s_ifF (by decide)) ?_
    refine rr rfl (s_iload_n rfl) ?_
    refine rr rfl (s_bipush (v := 8) (by decide)) ?_
    refine rr rfl (s_icF (by decide)) ?_
    refine rr rfl (s_aload_n rfl) ?_
    refine rr rfl (s_aload_n rfl) ?_
    have e14 : a_m MT [] 100000 9 miX3_lift [.ref 2, .ref 61] ((hF.set 5 (.inl ((List.replicate 8 (0 : Int32)).set (Int32.toNatClampNeg x3) 5))) ++ [.inr (.inr (2, [.int x1, .int x2, .int x3, .int x4, .int x4, .int x6, .int x7, .int ((1 <<< (x4 &&& 31) : Int32) ||| (1 <<< (x4 &&& 31) : Int32)), .int (1 <<< (x6 &&& 31) : Int32), .int (-1)]))]) = some ((some (.int 1)), ((hF.set 5 (.inl ((List.replicate 8 (0 : Int32)).set (Int32.toNatClampNeg x3) 6))) ++ [.inr (.inr (2, [.int x1, .int x2, .int x3, .int x4, .int x4, .int x6, .int x7, .int ((1 <<< (x4 &&& 31) : Int32) ||| (1 <<< (x4 &&& 31) : Int32)), .int (1 <<< (x6 &&& 31) : Int32), .int (-1)]))]), 0, 0) := by
      refine me (d := 8) g_X3_lift (Nat.le_of_ble_eq_true rfl) ?_
      refine rr rfl (s_aload_n rfl) ?_
      refine rr rfl (s_getf rfl rfl) ?_
      refine rr rfl (s_ifT (ic_eq g3)) ?_
      refine rr rfl (s_aload_n rfl) ?_
      refine rr rfl (s_getf rfl rfl) ?_
      refine rr rfl (s_aload_n rfl) ?_
      refine rr rfl (s_getf rfl rfl) ?_
      refine rr rfl (s_ialdN rfl g10 g4 g5 g8) ?_
      refine rr rfl (s_aload_n rfl) ?_
      refine rr rfl (s_getf rfl rfl) ?_
      refine rr rfl (s_aload_n rfl) ?_
      refine rr rfl (s_getf rfl rfl) ?_
      refine rr rfl (s_ialdN rfl g10 g4 g5 g8) ?_
      refine rr rfl (s_max (v := 0) rfl (Nat.le_of_ble_eq_true rfl) (by decide)) ?_
      refine rr rfl (s_istore_n rfl) ?_
      refine rr rfl (s_aload_n rfl) ?_
      refine rr rfl (s_getf rfl rfl) ?_
      refine rr rfl (s_iconst (v := (-1)) (by decide)) ?_
      refine rr rfl (s_icF (ic_neq g2)) ?_
      refine rr rfl (s_iload_n rfl) ?_
      refine rr rfl (s_aload_n rfl) ?_
      refine rr rfl (s_getf rfl rfl) ?_
      refine rr rfl (s_aload_n rfl) ?_
      refine rr rfl (s_getf rfl rfl) ?_
      refine rr rfl (s_ialdH rfl g11 g8 g9) ?_
      refine rr rfl (s_iconst (v := 1) (by decide)) ?_
      refine rr rfl (s_iadd (v := 6) (by decide)) ?_
      refine rr rfl (s_max (v := 6) rfl (Nat.le_of_ble_eq_true rfl) (by decide)) ?_
      refine rr rfl (s_istore_n rfl) ?_
      refine rr rfl (s_aload_n rfl) ?_
      refine rr rfl (s_getf rfl rfl) ?_
      refine rr rfl (s_aload_n rfl) ?_
      refine rr rfl (s_getf rfl rfl) ?_
      refine rr rfl (s_ialdH rfl rfl g8 g9) ?_
      refine rr rfl (s_iload_n rfl) ?_
      refine rr rfl (s_icT (by decide)) ?_
      refine rr rfl (s_aload_n rfl) ?_
      refine rr rfl (s_getf rfl rfl) ?_
      refine rr rfl (s_aload_n rfl) ?_
      refine rr rfl (s_getf rfl rfl) ?_
      refine rr rfl (s_iload_n rfl) ?_
      refine rr rfl (s_iastH (v := 6) rfl rfl g8 g9 (Nat.le_of_ble_eq_true rfl) rfl (h' := ((hF.set 5 (.inl ((List.replicate 8 (0 : Int32)).set (Int32.toNatClampNeg x3) 6))) ++ [.inr (.inr (2, [.int x1, .int x2, .int x3, .int x4, .int x4, .int x6, .int x7, .int ((1 <<< (x4 &&& 31) : Int32) ||| (1 <<< (x4 &&& 31) : Int32)), .int (1 <<< (x6 &&& 31) : Int32), .int (-1)]))]))) ?_
      refine rr rfl (s_iconst (v := 1) (by decide)) ?_
      exact rrt rfl rfl rfl rfl
    refine rrc rfl rfl rfl (do_of g_X3_lift rfl rfl e14) ?_
    refine rr rfl (s_istore_n rfl) ?_
    refine rr rfl (s_iconst (v := 0) (by decide)) ?_
    refine rr rfl (s_istore rfl) ?_
    refine rr rfl (s_iload rfl) ?_
    refine rr rfl (s_aload_n rfl) ?_
    refine rr rfl (s_getf rfl rfl) ?_
    have e15 : a_m MT [] 100000 9 miJx4a65c_size_8abf5 [.ref 3] ((hF.set 5 (.inl ((List.replicate 8 (0 : Int32)).set (Int32.toNatClampNeg x3) 6))) ++ [.inr (.inr (2, [.int x1, .int x2, .int x3, .int x4, .int x4, .int x6, .int x7, .int ((1 <<< (x4 &&& 31) : Int32) ||| (1 <<< (x4 &&& 31) : Int32)), .int (1 <<< (x6 &&& 31) : Int32), .int (-1)]))]) = some ((some (.int 0)), ((hF.set 5 (.inl ((List.replicate 8 (0 : Int32)).set (Int32.toNatClampNeg x3) 6))) ++ [.inr (.inr (2, [.int x1, .int x2, .int x3, .int x4, .int x4, .int x6, .int x7, .int ((1 <<< (x4 &&& 31) : Int32) ||| (1 <<< (x4 &&& 31) : Int32)), .int (1 <<< (x6 &&& 31) : Int32), .int (-1)]))]), 0, 0) := by
      refine me (d := 8) g_Jx4a65c_size_8abf5 (Nat.le_of_ble_eq_true rfl) ?_
      refine rr rfl (s_aload_n rfl) ?_
      refine rr rfl (s_getf rfl rfl) ?_
      exact rrt rfl rfl rfl rfl
    refine rrc rfl rfl rfl (do_of g_Jx4a65c_size_8abf5 rfl rfl e15) ?_
    refine rr rfl (s_icT (by decide)) ?_
    refine rr rfl (s_iinc (v := 6) rfl (by decide) rfl) ?_
    refine rr rfl s_goto ?_
    refine rr rfl (s_iload_n rfl) ?_
    refine rr rfl (s_ifF (by decide)) ?_
    refine rr rfl (s_iload_n rfl) ?_
    refine rr rfl (s_bipush (v := 8) (by decide)) ?_
    refine rr rfl (s_icF (by decide)) ?_
    refine rr rfl (s_aload_n rfl) ?_
    refine rr rfl (s_aload_n rfl) ?_
    have e16 : a_m MT [] 100000 9 miX3_lift [.ref 2, .ref 61] ((hF.set 5 (.inl ((List.replicate 8 (0 : Int32)).set (Int32.toNatClampNeg x3) 6))) ++ [.inr (.inr (2, [.int x1, .int x2, .int x3, .int x4, .int x4, .int x6, .int x7, .int ((1 <<< (x4 &&& 31) : Int32) ||| (1 <<< (x4 &&& 31) : Int32)), .int (1 <<< (x6 &&& 31) : Int32), .int (-1)]))]) = some ((some (.int 1)), ((hF.set 5 (.inl ((List.replicate 8 (0 : Int32)).set (Int32.toNatClampNeg x3) 7))) ++ [.inr (.inr (2, [.int x1, .int x2, .int x3, .int x4, .int x4, .int x6, .int x7, .int ((1 <<< (x4 &&& 31) : Int32) ||| (1 <<< (x4 &&& 31) : Int32)), .int (1 <<< (x6 &&& 31) : Int32), .int (-1)]))]), 0, 0) := by
      refine me (d := 8) g_X3_lift (Nat.le_of_ble_eq_true rfl) ?_
      refine rr rfl (s_aload_n rfl) ?_
      refine rr rfl (s_getf rfl rfl) ?_
      refine rr rfl (s_ifT (ic_eq g3)) ?_
      refine rr rfl (s_aload_n rfl) ?_
      refine rr rfl (s_getf rfl rfl) ?_
      refine rr rfl (s_aload_n rfl) ?_
      refine rr rfl (s_getf rfl rfl) ?_
      refine rr rfl (s_ialdN rfl g10 g4 g5 g8) ?_
      refine rr rfl (s_aload_n rfl) ?_
      refine rr rfl (s_getf rfl rfl) ?_
      refine rr rfl (s_aload_n rfl) ?_
      refine rr rfl (s_getf rfl rfl) ?_
      refine rr rfl (s_ialdN rfl g10 g4 g5 g8) ?_
      refine rr rfl (s_max (v := 0) rfl (Nat.le_of_ble_eq_true rfl) (by decide)) ?_
      refine rr rfl (s_istore_n rfl) ?_
      refine rr rfl (s_aload_n rfl) ?_
      refine rr rfl (s_getf rfl rfl) ?_
      refine rr rfl (s_iconst (v := (-1)) (by decide)) ?_
      refine rr rfl (s_icF (ic_neq g2)) ?_
      refine rr rfl (s_iload_n rfl) ?_
      refine rr rfl (s_aload_n rfl) ?_
      refine rr rfl (s_getf rfl rfl) ?_
      refine rr rfl (s_aload_n rfl) ?_
      refine rr rfl (s_getf rfl rfl) ?_
      refine rr rfl (s_ialdH rfl g11 g8 g9) ?_
      refine rr rfl (s_iconst (v := 1) (by decide)) ?_
      refine rr rfl (s_iadd (v := 7) (by decide)) ?_
      refine rr rfl (s_max (v := 7) rfl (Nat.le_of_ble_eq_true rfl) (by decide)) ?_
      refine rr rfl (s_istore_n rfl) ?_
      refine rr rfl (s_aload_n rfl) ?_
      refine rr rfl (s_getf rfl rfl) ?_
      refine rr rfl (s_aload_n rfl) ?_
      refine rr rfl (s_getf rfl rfl) ?_
      refine rr rfl (s_ialdH rfl rfl g8 g9) ?_
      refine rr rfl (s_iload_n rfl) ?_
      refine rr rfl (s_icT (by decide)) ?_
      refine rr rfl (s_aload_n rfl) ?_
      refine rr rfl (s_getf rfl rfl) ?_
      refine rr rfl (s_aload_n rfl) ?_
      refine rr rfl (s_getf rfl rfl) ?_
      refine rr rfl (s_iload_n rfl) ?_
      refine rr rfl (s_iastH (v := 7) rfl rfl g8 g9 (Nat.le_of_ble_eq_true rfl) rfl (h' := ((hF.set 5 (.inl ((List.replicate 8 (0 : Int32)).set (Int32.toNatClampNeg x3) 7))) ++ [.inr (.inr (2, [.int x1, .int x2, .int x3, .int x4, .int x4, .int x6, .int x7, .int ((1 <<< (x4 &&& 31) : Int32) ||| (1 <<< (x4 &&& 31) : Int32)), .int (1 <<< (x6 &&& 31) : Int32), .int (-1)]))]))) ?_
      refine rr rfl (s_iconst (v := 1) (by decide)) ?_
      exact rrt rfl rfl rfl rfl
    refine rrc rfl rfl rfl (do_of g_X3_lift rfl rfl e16) ?_
    refine rr rfl (s_istore_n rfl) ?_
    refine rr rfl (s_iconst (v := 0) (by decide)) ?_
    refine rr rfl (s_istore rfl) ?_
    refine rr rfl (s_iload rfl) ?_
    refine rr rfl (s_aload_n rfl) ?_
    refine rr rfl (s_getf rfl rfl) ?_
    have e17 : a_m MT [] 100000 9 miJx4a65c_size_8abf5 [.ref 3] ((hF.set 5 (.inl ((List.replicate 8 (0 : Int32)).set (Int32.toNatClampNeg x3) 7))) ++ [.inr (.inr (2, [.int x1, .int x2, .int x3, .int x4, .int x4, .int x6, .int x7, .int ((1 <<< (x4 &&& 31) : Int32) ||| (1 <<< (x4 &&& 31) : Int32)), .int (1 <<< (x6 &&& 31) : Int32), .int (-1)]))]) = some ((some (.int 0)), ((hF.set 5 (.inl ((List.replicate 8 (0 : Int32)).set (Int32.toNatClampNeg x3) 7))) ++ [.inr (.inr (2, [.int x1, .int x2, .int x3, .int x4, .int x4, .int x6, .int x7, .int ((1 <<< (x4 &&& 31) : Int32) ||| (1 <<< (x4 &&& 31) : Int32)), .int (1 <<< (x6 &&& 31) : Int32), .int (-1)]))]), 0, 0) := by
      refine me (d := 8) g_Jx4a65c_size_8abf5 (Nat.le_of_ble_eq_true rfl) ?_
      refine rr rfl (s_aload_n rfl) ?_
      refine rr rfl (s_getf rfl rfl) ?_
      exact rrt rfl rfl rfl rfl
    refine rrc rfl rfl rfl (do_of g_Jx4a65c_size_8abf5 rfl rfl e17) ?_
    refine rr rfl (s_icT (by decide)) ?_
    refine rr rfl (s_iinc (v := 7) rfl (by decide) rfl) ?_
    refine rr rfl s_goto ?_
    refine rr rfl (s_iload_n rfl) ?_
    refine rr rfl (s_ifF (by decide)) ?_
    refine rr rfl (s_iload_n rfl) ?_
    refine rr rfl (s_bipush (v := 8) (by decide)) ?_
    refine rr rfl (s_icF (by decide)) ?_
    refine rr rfl (s_aload_n rfl) ?_
    refine rr rfl (s_aload_n rfl) ?_
    have e18 : a_m MT [] 100000 9 miX3_lift [.ref 2, .ref 61] ((hF.set 5 (.inl ((List.replicate 8 (0 : Int32)).set (Int32.toNatClampNeg x3) 7))) ++ [.inr (.inr (2, [.int x1, .int x2, .int x3, .int x4, .int x4, .int x6, .int x7, .int ((1 <<< (x4 &&& 31) : Int32) ||| (1 <<< (x4 &&& 31) : Int32)), .int (1 <<< (x6 &&& 31) : Int32), .int (-1)]))]) = some ((some (.int 1)), ((hF.set 5 (.inl ((List.replicate 8 (0 : Int32)).set (Int32.toNatClampNeg x3) 8))) ++ [.inr (.inr (2, [.int x1, .int x2, .int x3, .int x4, .int x4, .int x6, .int x7, .int ((1 <<< (x4 &&& 31) : Int32) ||| (1 <<< (x4 &&& 31) : Int32)), .int (1 <<< (x6 &&& 31) : Int32), .int (-1)]))]), 0, 0) := by
      refine me (d := 8) g_X3_lift (Nat.le_of_ble_eq_true rfl) ?_
      refine rr rfl (s_aload_n rfl) ?_
      refine rr rfl (s_getf rfl rfl) ?_
      refine rr rfl (s_ifT (ic_eq g3)) ?_
      refine rr rfl (s_aload_n rfl) ?_
      refine rr rfl (s_getf rfl rfl) ?_
      refine rr rfl (s_aload_n rfl) ?_
      refine rr rfl (s_getf rfl rfl) ?_
      refine rr rfl (s_ialdN rfl g10 g4 g5 g8) ?_
      refine rr rfl (s_aload_n rfl) ?_
      refine rr rfl (s_getf rfl rfl) ?_
      refine rr rfl (s_aload_n rfl) ?_
      refine rr rfl (s_getf rfl rfl) ?_
      refine rr rfl (s_ialdN rfl g10 g4 g5 g8) ?_
      refine rr rfl (s_max (v := 0) rfl (Nat.le_of_ble_eq_true rfl) (by decide)) ?_
      refine rr rfl (s_istore_n rfl) ?_
      refine rr rfl (s_aload_n rfl) ?_
      refine rr rfl (s_getf rfl rfl) ?_
      refine rr rfl (s_iconst (v := (-1)) (by decide)) ?_
      refine rr rfl (s_icF (ic_neq g2)) ?_
      refine rr rfl (s_iload_n rfl) ?_
      refine rr rfl (s_aload_n rfl) ?_
      refine rr rfl (s_getf rfl rfl) ?_
      refine rr rfl (s_aload_n rfl) ?_
      refine rr rfl (s_getf rfl rfl) ?_
      refine rr rfl (s_ialdH rfl g11 g8 g9) ?_
      refine rr rfl (s_iconst (v := 1) (by decide)) ?_
      refine rr rfl (s_iadd (v := 8) (by decide)) ?_
      refine rr rfl (s_max (v := 8) rfl (Nat.le_of_ble_eq_true rfl) (by decide)) ?_
      refine rr rfl (s_istore_n rfl) ?_
      refine rr rfl (s_aload_n rfl) ?_
      refine rr rfl (s_getf rfl rfl) ?_
      refine rr rfl (s_aload_n rfl) ?_
      refine rr rfl (s_getf rfl rfl) ?_
      refine rr rfl (s_ialdH rfl rfl g8 g9) ?_
      refine rr rfl (s_iload_n rfl) ?_
      refine rr rfl (s_icT (by decide)) ?_
      refine rr rfl (s_aload_n rfl) ?_
      refine rr rfl (s_getf rfl rfl) ?_
      refine rr rfl (s_aload_n rfl) ?_
      refine rr rfl (s_getf rfl rfl) ?_
      refine rr rfl (s_iload_n rfl) ?_
      refine rr rfl (s_iastH (v := 8) rfl rfl g8 g9 (Nat.le_of_ble_eq_true rfl) rfl (h' := ((hF.set 5 (.inl ((List.replicate 8 (0 : Int32)).set (Int32.toNatClampNeg x3) 8))) ++ [.inr (.inr (2, [.int x1, .int x2, .int x3, .int x4, .int x4, .int x6, .int x7, .int ((1 <<< (x4 &&& 31) : Int32) ||| (1 <<< (x4 &&& 31) : Int32)), .int (1 <<< (x6 &&& 31) : Int32), .int (-1)]))]))) ?_
      refine rr rfl (s_iconst (v := 1) (by decide)) ?_
      exact rrt rfl rfl rfl rfl
    refine rrc rfl rfl rfl (do_of g_X3_lift rfl rfl e18) ?_
    refine rr rfl (s_istore_n rfl) ?_
    refine rr rfl (s_iconst (v := 0) (by decide)) ?_
    refine rr rfl (s_istore rfl) ?_
    refine rr rfl (s_iload rfl) ?_
    refine rr rfl (s_aload_n rfl) ?_
    refine rr rfl (s_getf rfl rfl) ?_
    have e19 : a_m MT [] 100000 9 miJx4a65c_size_8abf5 [.ref 3] ((hF.set 5 (.inl ((List.replicate 8 (0 : Int32)).set (Int32.toNatClampNeg x3) 8))) ++ [.inr (.inr (2, [.int x1, .int x2, .int x3, .int x4, .int x4, .int x6, .int x7, .int ((1 <<< (x4 &&& 31) : Int32) ||| (1 <<< (x4 &&& 31) : Int32)), .int (1 <<< (x6 &&& 31) : Int32), .int (-1)]))]) = some ((some (.int 0)), ((hF.set 5 (.inl ((List.replicate 8 (0 : Int32)).set (Int32.toNatClampNeg x3) 8))) ++ [.inr (.inr (2, [.int x1, .int x2, .int x3, .int x4, .int x4, .int x6, .int x7, .int ((1 <<< (x4 &&& 31) : Int32) ||| (1 <<< (x4 &&& 31) : Int32)), .int (1 <<< (x6 &&& 31) : Int32), .int (-1)]))]), 0, 0) := by
      refine me (d := 8) g_Jx4a65c_size_8abf5 (Nat.le_of_ble_eq_true rfl) ?_
      refine rr rfl (s_aload_n rfl) ?_
      refine rr rfl (s_getf rfl rfl) ?_
      exact rrt rfl rfl rfl rfl
    refine rrc rfl rfl rfl (do_of g_Jx4a65c_size_8abf5 rfl rfl e19) ?_
    refine rr rfl (s_icT (by decide)) ?_
    refine rr rfl (s_iinc (v := 8) rfl (by decide) rfl) ?_
    refine rr rfl s_goto ?_
    refine rr rfl (s_iload_n rfl) ?_
    refine rr rfl (s_ifF (by decide)) ?_
    refine rr rfl (s_iload_n rfl) ?_
    refine rr rfl (s_bipush (v := 8) (by decide)) ?_
    refine rr rfl (s_icT (by decide)) ?_
    refine rr rfl (s_iload_n rfl) ?_
    refine rr rfl (s_ifT (by decide)) ?_
    refine rr rfl (s_iconst (v := 0) (by decide)) ?_
    exact rrt rfl rfl rfl rfl
  refine rrc rfl rfl rfl (do_of g_X3_hasLayersWith rfl rfl e2) ?_
  refine rr rfl (s_ifF (by decide)) ?_
  refine rr rfl (s_bipush (v := (-3)) (by decide)) ?_
  exact rrt rfl rfl rfl rfl
set_option maxHeartbeats 4000000 in
set_option maxRecDepth 10000 in
theorem rx_Noho {x1 x2 x3 x4 x5 x6 x7 : Int32} (g1 : ¬ x5 = (-1)) (g2 : ¬ x6 = (-1)) (g3 : x2 = 0) (g4 : ¬ x4 < 0) (g5 : x4 < nI 8) (g6 : ¬ x5 < 0) (g7 : x5 < nI 8) (g8 : ¬ x6 < 0) (g9 : x6 < nI 8) (g10 : ¬ x3 < 0) (g11 : x3 < nI 8) (g12 : ¬ x4 = x3) (g13 : ¬ x5 = x3) (g14 : x6 = x3) : a_run MT [] (a_m MT [] 100000 10) 11 (some .int) tabX8_rule 90000 140 (alR x1 x2 x3 x4 x5 x6 x7) [] hF 0 0 = some (some (.int (-3)), ((hF.set 5 (.inl ((List.replicate 8 (0 : Int32)).set (Int32.toNatClampNeg x3) 8))) ++ [.inr (.inr (2, [.int x1, .int x2, .int x3, .int x4, .int x5, .int x6, .int x7, .int ((1 <<< (x4 &&& 31) : Int32) ||| (1 <<< (x5 &&& 31) : Int32)), .int (1 <<< (x6 &&& 31) : Int32), .int (-1)]))]), 1, 10) := by
  refine rr rfl (s_new (q := 61) rfl rfl (h' := (hF ++ [.inr (.inr (2, [.int 0, .int 0, .int 0, .int 0, .int 0, .int 0, .int 0, .int 0, .int 0, .int 0]))]))) ?_
  refine rr rfl rfl ?_
  refine rr rfl (s_iload_n rfl) ?_
  refine rr rfl (s_iload_n rfl) ?_
  refine rr rfl (s_iload_n rfl) ?_
  refine rr rfl (s_iload rfl) ?_
  refine rr rfl (s_iload rfl) ?_
  refine rr rfl (s_iload rfl) ?_
  refine rr rfl (s_iload rfl) ?_
  have e1 : a_m MT [] 100000 10 miX2_init [.ref 61, .int x1, .int x2, .int x3, .int x4, .int x5, .int x6, .int x7] (hF ++ [.inr (.inr (2, [.int 0, .int 0, .int 0, .int 0, .int 0, .int 0, .int 0, .int 0, .int 0, .int 0]))]) = some (none, (hF ++ [.inr (.inr (2, [.int x1, .int x2, .int x3, .int x4, .int x5, .int x6, .int x7, .int ((1 <<< (x4 &&& 31) : Int32) ||| (1 <<< (x5 &&& 31) : Int32)), .int (1 <<< (x6 &&& 31) : Int32), .int (-1)]))]), 0, 0) := by
    refine me (d := 9) g_X2_init (Nat.le_of_ble_eq_true rfl) ?_
    refine rr rfl (s_aload_n rfl) ?_
    refine rr rfl rfl ?_
    refine rr rfl (s_aload_n rfl) ?_
    refine rr rfl (s_iconst (v := (-1)) (by decide)) ?_
    refine rr rfl (s_putf rfl rfl (Nat.le_of_ble_eq_true rfl) rfl (Nat.le_of_ble_eq_true rfl) rfl (h' := (hF ++ [.inr (.inr (2, [.int 0, .int 0, .int 0, .int 0, .int 0, .int 0, .int 0, .int 0, .int 0, .int (-1)]))]))) ?_
    refine rr rfl (s_aload_n rfl) ?_
    refine rr rfl (s_iload_n rfl) ?_
    refine rr rfl (s_putf rfl rfl (Nat.le_of_ble_eq_true rfl) rfl (Nat.le_of_ble_eq_true rfl) rfl (h' := (hF ++ [.inr (.inr (2, [.int x1, .int 0, .int 0, .int 0, .int 0, .int 0, .int 0, .int 0, .int 0, .int (-1)]))]))) ?_
    refine rr rfl (s_aload_n rfl) ?_
    refine rr rfl (s_iload_n rfl) ?_
    refine rr rfl (s_putf rfl rfl (Nat.le_of_ble_eq_true rfl) rfl (Nat.le_of_ble_eq_true rfl) rfl (h' := (hF ++ [.inr (.inr (2, [.int x1, .int x2, .int 0, .int 0, .int 0, .int 0, .int 0, .int 0, .int 0, .int (-1)]))]))) ?_
    refine rr rfl (s_aload_n rfl) ?_
    refine rr rfl (s_iload_n rfl) ?_
    refine rr rfl (s_putf rfl rfl (Nat.le_of_ble_eq_true rfl) rfl (Nat.le_of_ble_eq_true rfl) rfl (h' := (hF ++ [.inr (.inr (2, [.int x1, .int x2, .int x3, .int 0, .int 0, .int 0, .int 0, .int 0, .int 0, .int (-1)]))]))) ?_
    refine rr rfl (s_aload_n rfl) ?_
    refine rr rfl (s_iload rfl) ?_
    refine rr rfl (s_putf rfl rfl (Nat.le_of_ble_eq_true rfl) rfl (Nat.le_of_ble_eq_true rfl) rfl (h' := (hF ++ [.inr (.inr (2, [.int x1, .int x2, .int x3, .int x4, .int 0, .int 0, .int 0, .int 0, .int 0, .int (-1)]))]))) ?_
    refine rr rfl (s_aload_n rfl) ?_
    refine rr rfl (s_iload rfl) ?_
    refine rr rfl (s_iconst (v := (-1)) (by decide)) ?_
    refine rr rfl (s_icT (ic_ne g1)) ?_
    refine rr rfl (s_iload rfl) ?_
    refine rr rfl (s_putf rfl rfl (Nat.le_of_ble_eq_true rfl) rfl (Nat.le_of_ble_eq_true rfl) rfl (h' := (hF ++ [.inr (.inr (2, [.int x1, .int x2, .int x3, .int x4, .int x5, .int 0, .int 0, .int 0, .int 0, .int (-1)]))]))) ?_
    refine rr rfl (s_aload_n rfl) ?_
    refine rr rfl (s_iload rfl) ?_
    refine rr rfl (s_putf rfl rfl (Nat.le_of_ble_eq_true rfl) rfl (Nat.le_of_ble_eq_true rfl) rfl (h' := (hF ++ [.inr (.inr (2, [.int x1, .int x2, .int x3, .int x4, .int x5, .int x6, .int 0, .int 0, .int 0, .int (-1)]))]))) ?_
    refine rr rfl (s_aload_n rfl) ?_
    refine rr rfl (s_iload rfl) ?_
    refine rr rfl (s_putf rfl rfl (Nat.le_of_ble_eq_true rfl) rfl (Nat.le_of_ble_eq_true rfl) rfl (h' := (hF ++ [.inr (.inr (2, [.int x1, .int x2, .int x3, .int x4, .int x5, .int x6, .int x7, .int 0, .int 0, .int (-1)]))]))) ?_
    refine rr rfl (s_aload_n rfl) ?_
    refine rr rfl (s_iconst (v := 1) (by decide)) ?_
    refine rr rfl (s_aload_n rfl) ?_
    refine rr rfl (s_getf rfl rfl) ?_
    refine rr rfl (s_ishl (v := (1 <<< (x4 &&& 31) : Int32)) rfl) ?_
    refine rr rfl (s_iconst (v := 1) (by decide)) ?_
    refine rr rfl (s_aload_n rfl) ?_
    refine rr rfl (s_getf rfl rfl) ?_
    refine rr rfl (s_ishl (v := (1 <<< (x5 &&& 31) : Int32)) rfl) ?_
    refine rr rfl (s_ior (v := ((1 <<< (x4 &&& 31) : Int32) ||| (1 <<< (x5 &&& 31) : Int32))) rfl) ?_
    refine rr rfl (s_putf rfl rfl (Nat.le_of_ble_eq_true rfl) rfl (Nat.le_of_ble_eq_true rfl) rfl (h' := (hF ++ [.inr (.inr (2, [.int x1, .int x2, .int x3, .int x4, .int x5, .int x6, .int x7, .int ((1 <<< (x4 &&& 31) : Int32) ||| (1 <<< (x5 &&& 31) : Int32)), .int 0, .int (-1)]))]))) ?_
    refine rr rfl (s_aload_n rfl) ?_
    refine rr rfl (s_iload rfl) ?_
    refine rr rfl (s_iconst (v := (-1)) (by decide)) ?_
    refine rr rfl (s_icT (ic_ne g2)) ?_
    refine rr rfl (s_iconst (v := 1) (by decide)) ?_
    refine rr rfl (s_iload rfl) ?_
    refine rr rfl (s_ishl (v := (1 <<< (x6 &&& 31) : Int32)) rfl) ?_
    refine rr rfl (s_putf rfl rfl (Nat.le_of_ble_eq_true rfl) rfl (Nat.le_of_ble_eq_true rfl) rfl (h' := (hF ++ [.inr (.inr (2, [.int x1, .int x2, .int x3, .int x4, .int x5, .int x6, .int x7, .int ((1 <<< (x4 &&& 31) : Int32) ||| (1 <<< (x5 &&& 31) : Int32)), .int (1 <<< (x6 &&& 31) : Int32), .int (-1)]))]))) ?_
    exact rrt rfl rfl rfl rfl
  refine rrc rfl rfl rfl (do_of g_X2_init rfl rfl e1) ?_
  refine rr rfl (s_astore rfl) ?_
  refine rr rfl (s_aload_n rfl) ?_
  refine rr rfl (s_getf rfl rfl) ?_
  refine rr rfl (s_getf rfl rfl) ?_
  refine rr rfl (s_aload rfl) ?_
  have e2 : a_m MT [] 100000 10 miX3_hasLayersWith [.ref 2, .ref 61] (hF ++ [.inr (.inr (2, [.int x1, .int x2, .int x3, .int x4, .int x5, .int x6, .int x7, .int ((1 <<< (x4 &&& 31) : Int32) ||| (1 <<< (x5 &&& 31) : Int32)), .int (1 <<< (x6 &&& 31) : Int32), .int (-1)]))]) = some ((some (.int 0)), ((hF.set 5 (.inl ((List.replicate 8 (0 : Int32)).set (Int32.toNatClampNeg x3) 8))) ++ [.inr (.inr (2, [.int x1, .int x2, .int x3, .int x4, .int x5, .int x6, .int x7, .int ((1 <<< (x4 &&& 31) : Int32) ||| (1 <<< (x5 &&& 31) : Int32)), .int (1 <<< (x6 &&& 31) : Int32), .int (-1)]))]), 0, 0) := by
    refine me (d := 9) g_X3_hasLayersWith (Nat.le_of_ble_eq_true rfl) ?_
    refine rr rfl (s_aload_n rfl) ?_
    refine rr rfl (s_getf rfl rfl) ?_
    refine rr rfl (s_iconst (v := 0) (by decide)) ?_
    have e3 : a_m MT [] 100000 9 miJ7_fill_53178 [.ref 5, .int 0] (hF ++ [.inr (.inr (2, [.int x1, .int x2, .int x3, .int x4, .int x5, .int x6, .int x7, .int ((1 <<< (x4 &&& 31) : Int32) ||| (1 <<< (x5 &&& 31) : Int32)), .int (1 <<< (x6 &&& 31) : Int32), .int (-1)]))]) = some (none, (hF ++ [.inr (.inr (2, [.int x1, .int x2, .int x3, .int x4, .int x5, .int x6, .int x7, .int ((1 <<< (x4 &&& 31) : Int32) ||| (1 <<< (x5 &&& 31) : Int32)), .int (1 <<< (x6 &&& 31) : Int32), .int (-1)]))]), 0, 0) := fill_n rfl (Nat.le_of_ble_eq_true rfl) rfl
    refine rrc rfl rfl rfl (do_of g_J7_fill_53178 rfl rfl e3) ?_
    refine rr rfl (s_iconst (v := 1) (by decide)) ?_
    refine rr rfl (s_istore_n rfl) ?_
    refine rr rfl (s_iconst (v := 0) (by decide)) ?_
    refine rr rfl (s_istore_n rfl) ?_
    refine rr rfl (s_iload_n rfl) ?_
    refine rr rfl (s_ifF (by decide)) ?_
    refine rr rfl (s_iload_n rfl) ?_
    refine rr rfl (s_bipush (v := 8) (by decide)) ?_
    refine rr rfl (s_icF (by decide)) ?_
    refine rr rfl (s_aload_n rfl) ?_
    refine rr rfl (s_aload_n rfl) ?_
    have e4 : a_m MT [] 100000 9 miX3_lift [.ref 2, .ref 61] (hF ++ [.inr (.inr (2, [.int x1, .int x2, .int x3, .int x4, .int x5, .int x6, .int x7, .int ((1 <<< (x4 &&& 31) : Int32) ||| (1 <<< (x5 &&& 31) : Int32)), .int (1 <<< (x6 &&& 31) : Int32), .int (-1)]))]) = some ((some (.int 1)), ((hF.set 5 (.inl ((List.replicate 8 (0 : Int32)).set (Int32.toNatClampNeg x3) 1))) ++ [.inr (.inr (2, [.int x1, .int x2, .int x3, .int x4, .int x5, .int x6, .int x7, .int ((1 <<< (x4 &&& 31) : Int32) ||| (1 <<< (x5 &&& 31) : Int32)), .int (1 <<< (x6 &&& 31) : Int32), .int (-1)]))]), 0, 0) := by
      refine me (d := 8) g_X3_lift (Nat.le_of_ble_eq_true rfl) ?_
      refine rr rfl (s_aload_n rfl) ?_
      refine rr rfl (s_getf rfl rfl) ?_
      refine rr rfl (s_ifT (ic_eq g3)) ?_
      refine rr rfl (s_aload_n rfl) ?_
      refine rr rfl (s_getf rfl rfl) ?_
      refine rr rfl (s_aload_n rfl) ?_
      refine rr rfl (s_getf rfl rfl) ?_
      refine rr rfl (s_ialdR (n := 8) (x := 0) rfl g4 g5) ?_
      refine rr rfl (s_aload_n rfl) ?_
      refine rr rfl (s_getf rfl rfl) ?_
      refine rr rfl (s_aload_n rfl) ?_
      refine rr rfl (s_getf rfl rfl) ?_
      refine rr rfl (s_ialdR (n := 8) (x := 0) rfl g6 g7) ?_
      refine rr rfl (s_max (v := 0) rfl (Nat.le_of_ble_eq_true rfl) (by decide)) ?_
      refine rr rfl (s_istore_n rfl) ?_
      refine rr rfl (s_aload_n rfl) ?_
      refine rr rfl (s_getf rfl rfl) ?_
      refine rr rfl (s_iconst (v := (-1)) (by decide)) ?_
      refine rr rfl (s_icF (ic_neq g2)) ?_
      refine rr rfl (s_iload_n rfl) ?_
      refine rr rfl (s_aload_n rfl) ?_
      refine rr rfl (s_getf rfl rfl) ?_
      refine rr rfl (s_aload_n rfl) ?_
      refine rr rfl (s_getf rfl rfl) ?_
      refine rr rfl (s_ialdR (n := 8) (x := 0) rfl g8 g9) ?_
      refine rr rfl (s_iconst (v := 1) (by decide)) ?_
      refine rr rfl (s_iadd (v := 1) (by decide)) ?_
      refine rr rfl (s_max (v := 1) rfl (Nat.le_of_ble_eq_true rfl) (by decide)) ?_
      refine rr rfl (s_istore_n rfl) ?_
      refine rr rfl (s_aload_n rfl) ?_
      refine rr rfl (s_getf rfl rfl) ?_
      refine rr rfl (s_aload_n rfl) ?_
      refine rr rfl (s_getf rfl rfl) ?_
      refine rr rfl (s_ialdR (n := 8) (x := 0) rfl g10 g11) ?_
      refine rr rfl (s_iload_n rfl) ?_
      refine rr rfl (s_icT (by decide)) ?_
      refine rr rfl (s_aload_n rfl) ?_
      refine rr rfl (s_getf rfl rfl) ?_
      refine rr rfl (s_aload_n rfl) ?_
      refine rr rfl (s_getf rfl rfl) ?_
      refine rr rfl (s_iload_n rfl) ?_
      refine rr rfl (s_iastR (n := 8) rfl g10 g11 (Nat.le_of_ble_eq_true rfl) rfl (h' := ((hF.set 5 (.inl ((List.replicate 8 (0 : Int32)).set (Int32.toNatClampNeg x3) 1))) ++ [.inr (.inr (2, [.int x1, .int x2, .int x3, .int x4, .int x5, .int x6, .int x7, .int ((1 <<< (x4 &&& 31) : Int32) ||| (1 <<< (x5 &&& 31) : Int32)), .int (1 <<< (x6 &&& 31) : Int32), .int (-1)]))]))) ?_
      refine rr rfl (s_iconst (v := 1) (by decide)) ?_
      exact rrt rfl rfl rfl rfl
    refine rrc rfl rfl rfl (do_of g_X3_lift rfl rfl e4) ?_
    refine rr rfl (s_istore_n rfl) ?_
    refine rr rfl (s_iconst (v := 0) (by decide)) ?_
    refine rr rfl (s_istore rfl) ?_
    refine rr rfl (s_iload rfl) ?_
    refine rr rfl (s_aload_n rfl) ?_
    refine rr rfl (s_getf rfl rfl) ?_
    have e5 : a_m MT [] 100000 9 miJx4a65c_size_8abf5 [.ref 3] ((hF.set 5 (.inl ((List.replicate 8 (0 : Int32)).set (Int32.toNatClampNeg x3) 1))) ++ [.inr (.inr (2, [.int x1, .int x2, .int x3, .int x4, .int x5, .int x6, .int x7, .int ((1 <<< (x4 &&& 31) : Int32) ||| (1 <<< (x5 &&& 31) : Int32)), .int (1 <<< (x6 &&& 31) : Int32), .int (-1)]))]) = some ((some (.int 0)), ((hF.set 5 (.inl ((List.replicate 8 (0 : Int32)).set (Int32.toNatClampNeg x3) 1))) ++ [.inr (.inr (2, [.int x1, .int x2, .int x3, .int x4, .int x5, .int x6, .int x7, .int ((1 <<< (x4 &&& 31) : Int32) ||| (1 <<< (x5 &&& 31) : Int32)), .int (1 <<< (x6 &&& 31) : Int32), .int (-1)]))]), 0, 0) := by
      refine me (d := 8) g_Jx4a65c_size_8abf5 (Nat.le_of_ble_eq_true rfl) ?_
      refine rr rfl (s_aload_n rfl) ?_
      refine rr rfl (s_getf rfl rfl) ?_
      exact rrt rfl rfl rfl rfl
    refine rrc rfl rfl rfl (do_of g_Jx4a65c_size_8abf5 rfl rfl e5) ?_
    refine rr rfl (s_icT (by decide)) ?_
    refine rr rfl (s_iinc (v := 1) rfl (by decide) rfl) ?_
    refine rr rfl s_goto ?_
    refine rr rfl (s_iload_n rfl) ?_
    refine rr rfl (s_ifF (by decide)) ?_
    refine rr rfl (s_iload_n rfl) ?_
    refine rr rfl (s_bipush (v := 8) (by decide)) ?_
    refine rr rfl (s_icF (by decide)) ?_
    refine rr rfl (s_aload_n rfl) ?_
    refine rr rfl (s_aload_n rfl) ?_
    have e6 : a_m MT [] 100000 9 miX3_lift [.ref 2, .ref 61] ((hF.set 5 (.inl ((List.replicate 8 (0 : Int32)).set (Int32.toNatClampNeg x3) 1))) ++ [.inr (.inr (2, [.int x1, .int x2, .int x3, .int x4, .int x5, .int x6, .int x7, .int ((1 <<< (x4 &&& 31) : Int32) ||| (1 <<< (x5 &&& 31) : Int32)), .int (1 <<< (x6 &&& 31) : Int32), .int (-1)]))]) = some ((some (.int 1)), ((hF.set 5 (.inl ((List.replicate 8 (0 : Int32)).set (Int32.toNatClampNeg x3) 2))) ++ [.inr (.inr (2, [.int x1, .int x2, .int x3, .int x4, .int x5, .int x6, .int x7, .int ((1 <<< (x4 &&& 31) : Int32) ||| (1 <<< (x5 &&& 31) : Int32)), .int (1 <<< (x6 &&& 31) : Int32), .int (-1)]))]), 0, 0) := by
      refine me (d := 8) g_X3_lift (Nat.le_of_ble_eq_true rfl) ?_
      refine rr rfl (s_aload_n rfl) ?_
      refine rr rfl (s_getf rfl rfl) ?_
      refine rr rfl (s_ifT (ic_eq g3)) ?_
      refine rr rfl (s_aload_n rfl) ?_
      refine rr rfl (s_getf rfl rfl) ?_
      refine rr rfl (s_aload_n rfl) ?_
      refine rr rfl (s_getf rfl rfl) ?_
      refine rr rfl (s_ialdN rfl g12 g4 g5 g10) ?_
      refine rr rfl (s_aload_n rfl) ?_
      refine rr rfl (s_getf rfl rfl) ?_
      refine rr rfl (s_aload_n rfl) ?_
      refine rr rfl (s_getf rfl rfl) ?_
      refine rr rfl (s_ialdN rfl g13 g6 g7 g10) ?_
      refine rr rfl (s_max (v := 0) rfl (Nat.le_of_ble_eq_true rfl) (by decide)) ?_
      refine rr rfl (s_istore_n rfl) ?_
      refine rr rfl (s_aload_n rfl) ?_
      refine rr rfl (s_getf rfl rfl) ?_
      refine rr rfl (s_iconst (v := (-1)) (by decide)) ?_
      refine rr rfl (s_icF (ic_neq g2)) ?_
      refine rr rfl (s_iload_n rfl) ?_
      refine rr rfl (s_aload_n rfl) ?_
      refine rr rfl (s_getf rfl rfl) ?_
      refine rr rfl (s_aload_n rfl) ?_
      refine rr rfl (s_getf rfl rfl) ?_
      refine rr rfl (s_ialdH rfl g14 g10 g11) ?_
      refine rr rfl (s_iconst (v := 1) (by decide)) ?_
      refine rr rfl (s_iadd (v := 2) (by decide)) ?_
      refine rr rfl (s_max (v := 2) rfl (Nat.le_of_ble_eq_true rfl) (by decide)) ?_
      refine rr rfl (s_istore_n rfl) ?_
      refine rr rfl (s_aload_n rfl) ?_
      refine rr rfl (s_getf rfl rfl) ?_
      refine rr rfl (s_aload_n rfl) ?_
      refine rr rfl (s_getf rfl rfl) ?_
      refine rr rfl (s_ialdH rfl rfl g10 g11) ?_
      refine rr rfl (s_iload_n rfl) ?_
      refine rr rfl (s_icT (by decide)) ?_
      refine rr rfl (s_aload_n rfl) ?_
      refine rr rfl (s_getf rfl rfl) ?_
      refine rr rfl (s_aload_n rfl) ?_
      refine rr rfl (s_getf rfl rfl) ?_
      refine rr rfl (s_iload_n rfl) ?_
      refine rr rfl (s_iastH (v := 2) rfl rfl g10 g11 (Nat.le_of_ble_eq_true rfl) rfl (h' := ((hF.set 5 (.inl ((List.replicate 8 (0 : Int32)).set (Int32.toNatClampNeg x3) 2))) ++ [.inr (.inr (2, [.int x1, .int x2, .int x3, .int x4, .int x5, .int x6, .int x7, .int ((1 <<< (x4 &&& 31) : Int32) ||| (1 <<< (x5 &&& 31) : Int32)), .int (1 <<< (x6 &&& 31) : Int32), .int (-1)]))]))) ?_
      refine rr rfl (s_iconst (v := 1) (by decide)) ?_
      exact rrt rfl rfl rfl rfl
    refine rrc rfl rfl rfl (do_of g_X3_lift rfl rfl e6) ?_
    refine rr rfl (s_istore_n rfl) ?_
    refine rr rfl (s_iconst (v := 0) (by decide)) ?_
    refine rr rfl (s_istore rfl) ?_
    refine rr rfl (s_iload rfl) ?_
    refine rr rfl (s_aload_n rfl) ?_
    refine rr rfl (s_getf rfl rfl) ?_
    have e7 : a_m MT [] 100000 9 miJx4a65c_size_8abf5 [.ref 3] ((hF.set 5 (.inl ((List.replicate 8 (0 : Int32)).set (Int32.toNatClampNeg x3) 2))) ++ [.inr (.inr (2, [.int x1, .int x2, .int x3, .int x4, .int x5, .int x6, .int x7, .int ((1 <<< (x4 &&& 31) : Int32) ||| (1 <<< (x5 &&& 31) : Int32)), .int (1 <<< (x6 &&& 31) : Int32), .int (-1)]))]) = some ((some (.int 0)), ((hF.set 5 (.inl ((List.replicate 8 (0 : Int32)).set (Int32.toNatClampNeg x3) 2))) ++ [.inr (.inr (2, [.int x1, .int x2, .int x3, .int x4, .int x5, .int x6, .int x7, .int ((1 <<< (x4 &&& 31) : Int32) ||| (1 <<< (x5 &&& 31) : Int32)), .int (1 <<< (x6 &&& 31) : Int32), .int (-1)]))]), 0, 0) := by
      refine me (d := 8) g_Jx4a65c_size_8abf5 (Nat.le_of_ble_eq_true rfl) ?_
      refine rr rfl (s_aload_n rfl) ?_
      refine rr rfl (s_getf rfl rfl) ?_
      exact rrt rfl rfl rfl rfl
    refine rrc rfl rfl rfl (do_of g_Jx4a65c_size_8abf5 rfl rfl e7) ?_
    refine rr rfl (s_icT (by decide)) ?_
    refine rr rfl (s_iinc (v := 2) rfl (by decide) rfl) ?_
    refine rr rfl s_goto ?_
    refine rr rfl (s_iload_n rfl) ?_
    refine rr rfl (s_ifF (by decide)) ?_
    refine rr rfl (s_iload_n rfl) ?_
    refine rr rfl (s_bipush (v := 8) (by decide)) ?_
    refine rr rfl (s_icF (by decide)) ?_
    refine rr rfl (s_aload_n rfl) ?_
    refine rr rfl (s_aload_n rfl) ?_
    have e8 : a_m MT [] 100000 9 miX3_lift [.ref 2, .ref 61] ((hF.set 5 (.inl ((List.replicate 8 (0 : Int32)).set (Int32.toNatClampNeg x3) 2))) ++ [.inr (.inr (2, [.int x1, .int x2, .int x3, .int x4, .int x5, .int x6, .int x7, .int ((1 <<< (x4 &&& 31) : Int32) ||| (1 <<< (x5 &&& 31) : Int32)), .int (1 <<< (x6 &&& 31) : Int32), .int (-1)]))]) = some ((some (.int 1)), ((hF.set 5 (.inl ((List.replicate 8 (0 : Int32)).set (Int32.toNatClampNeg x3) 3))) ++ [.inr (.inr (2, [.int x1, .int x2, .int x3, .int x4, .int x5, .int x6, .int x7, .int ((1 <<< (x4 &&& 31) : Int32) ||| (1 <<< (x5 &&& 31) : Int32)), .int (1 <<< (x6 &&& 31) : Int32), .int (-1)]))]), 0, 0) := by
      refine me (d := 8) g_X3_lift (Nat.le_of_ble_eq_true rfl) ?_
      refine rr rfl (s_aload_n rfl) ?_
      refine rr rfl (s_getf rfl rfl) ?_
      refine rr rfl (s_ifT (ic_eq g3)) ?_
      refine rr rfl (s_aload_n rfl) ?_
      refine rr rfl (s_getf rfl rfl) ?_
      refine rr rfl (s_aload_n rfl) ?_
      refine rr rfl (s_getf rfl rfl) ?_
      refine rr rfl (s_ialdN rfl g12 g4 g5 g10) ?_
      refine rr rfl (s_aload_n rfl) ?_
      refine rr rfl (s_getf rfl rfl) ?_
      refine rr rfl (s_aload_n rfl) ?_
      refine rr rfl (s_getf rfl rfl) ?_
      refine rr rfl (s_ialdN rfl g13 g6 g7 g10) ?_
      refine rr rfl (s_max (v := 0) rfl (Nat.le_of_ble_eq_true rfl) (by decide)) ?_
      refine rr rfl (s_istore_n rfl) ?_
      refine rr rfl (s_aload_n rfl) ?_
      refine rr rfl (s_getf rfl rfl) ?_
      refine rr rfl (s_iconst (v := (-1)) (by decide)) ?_
      refine rr rfl (s_icF (ic_neq g2)) ?_
      refine rr rfl (s_iload_n rfl) ?_
      refine rr rfl (s_aload_n rfl) ?_
      refine rr rfl (s_getf rfl rfl) ?_
      refine rr rfl (s_aload_n rfl) ?_
      refine rr rfl (s_getf rfl rfl) ?_
      refine rr rfl (s_ialdH rfl g14 g10 g11) ?_
      refine rr rfl (s_iconst (v := 1) (by decide)) ?_
      refine rr rfl (s_iadd (v := 3) (by decide)) ?_
      refine rr rfl (s_max (v := 3) rfl (Nat.le_of_ble_eq_true rfl) (by decide)) ?_
      refine rr rfl (s_istore_n rfl) ?_
      refine rr rfl (s_aload_n rfl) ?_
      refine rr rfl (s_getf rfl rfl) ?_
      refine rr rfl (s_aload_n rfl) ?_
      refine rr rfl (s_getf rfl rfl) ?_
      refine rr rfl (s_ialdH rfl rfl g10 g11) ?_
      refine rr rfl (s_iload_n rfl) ?_
      refine rr rfl (s_icT (by decide)) ?_
      refine rr rfl (s_aload_n rfl) ?_
      refine rr rfl (s_getf rfl rfl) ?_
      refine rr rfl (s_aload_n rfl) ?_
      refine rr rfl (s_getf rfl rfl) ?_
      refine rr rfl (s_iload_n rfl) ?_
      refine rr rfl (s_iastH (v := 3) rfl rfl g10 g11 (Nat.le_of_ble_eq_true rfl) rfl (h' := ((hF.set 5 (.inl ((List.replicate 8 (0 : Int32)).set (Int32.toNatClampNeg x3) 3))) ++ [.inr (.inr (2, [.int x1, .int x2, .int x3, .int x4, .int x5, .int x6, .int x7, .int ((1 <<< (x4 &&& 31) : Int32) ||| (1 <<< (x5 &&& 31) : Int32)), .int (1 <<< (x6 &&& 31) : Int32), .int (-1)]))]))) ?_
      refine rr rfl (s_iconst (v := 1) (by decide)) ?_
      exact rrt rfl rfl rfl rfl
    refine rrc rfl rfl rfl (do_of g_X3_lift rfl rfl e8) ?_
    refine rr rfl (s_istore_n rfl) ?_
    refine rr rfl (s_iconst (v := 0) (by decide)) ?_
    refine rr rfl (s_istore rfl) ?_
    refine rr rfl (s_iload rfl) ?_
    refine rr rfl (s_aload_n rfl) ?_
    refine rr rfl (s_getf rfl rfl) ?_
    have e9 : a_m MT [] 100000 9 miJx4a65c_size_8abf5 [.ref 3] ((hF.set 5 (.inl ((List.replicate 8 (0 : Int32)).set (Int32.toNatClampNeg x3) 3))) ++ [.inr (.inr (2, [.int x1, .int x2, .int x3, .int x4, .int x5, .int x6, .int x7, .int ((1 <<< (x4 &&& 31) : Int32) ||| (1 <<< (x5 &&& 31) : Int32)), .int (1 <<< (x6 &&& 31) : Int32), .int (-1)]))]) = some ((some (.int 0)), ((hF.set 5 (.inl ((List.replicate 8 (0 : Int32)).set (Int32.toNatClampNeg x3) 3))) ++ [.inr (.inr (2, [.int x1, .int x2, .int x3, .int x4, .int x5, .int x6, .int x7, .int ((1 <<< (x4 &&& 31) : Int32) ||| (1 <<< (x5 &&& 31) : Int32)), .int (1 <<< (x6 &&& 31) : Int32), .int (-1)]))]), 0, 0) := by
      refine me (d := 8) g_Jx4a65c_size_8abf5 (Nat.le_of_ble_eq_true rfl) ?_
      refine rr rfl (s_aload_n rfl) ?_
      refine rr rfl (s_getf rfl rfl) ?_
      exact rrt rfl rfl rfl rfl
    refine rrc rfl rfl rfl (do_of g_Jx4a65c_size_8abf5 rfl rfl e9) ?_
    refine rr rfl (s_icT (by decide)) ?_
    refine rr rfl (s_iinc (v := 3) rfl (by decide) rfl) ?_
    refine rr rfl s_goto ?_
    refine rr rfl (s_iload_n rfl) ?_
    refine rr rfl (s_ifF (by decide)) ?_
    refine rr rfl (s_iload_n rfl) ?_
    refine rr rfl (s_bipush (v := 8) (by decide)) ?_
    refine rr rfl (s_icF (by decide)) ?_
    refine rr rfl (s_aload_n rfl) ?_
    refine rr rfl (s_aload_n rfl) ?_
    have e10 : a_m MT [] 100000 9 miX3_lift [.ref 2, .ref 61] ((hF.set 5 (.inl ((List.replicate 8 (0 : Int32)).set (Int32.toNatClampNeg x3) 3))) ++ [.inr (.inr (2, [.int x1, .int x2, .int x3, .int x4, .int x5, .int x6, .int x7, .int ((1 <<< (x4 &&& 31) : Int32) ||| (1 <<< (x5 &&& 31) : Int32)), .int (1 <<< (x6 &&& 31) : Int32), .int (-1)]))]) = some ((some (.int 1)), ((hF.set 5 (.inl ((List.replicate 8 (0 : Int32)).set (Int32.toNatClampNeg x3) 4))) ++ [.inr (.inr (2, [.int x1, .int x2, .int x3, .int x4, .int x5, .int x6, .int x7, .int ((1 <<< (x4 &&& 31) : Int32) ||| (1 <<< (x5 &&& 31) : Int32)), .int (1 <<< (x6 &&& 31) : Int32), .int (-1)]))]), 0, 0) := by
      refine me (d := 8) g_X3_lift (Nat.le_of_ble_eq_true rfl) ?_
      refine rr rfl (s_aload_n rfl) ?_
      refine rr rfl (s_getf rfl rfl) ?_
      refine rr rfl (s_ifT (ic_eq g3)) ?_
      refine rr rfl (s_aload_n rfl) ?_
      refine rr rfl (s_getf rfl rfl) ?_
      refine rr rfl (s_aload_n rfl) ?_
      refine rr rfl (s_getf rfl rfl) ?_
      refine rr rfl (s_ialdN rfl g12 g4 g5 g10) ?_
      refine rr rfl (s_aload_n rfl) ?_
      refine rr rfl (s_getf rfl rfl) ?_
      refine rr rfl (s_aload_n rfl) ?_
      refine rr rfl (s_getf rfl rfl) ?_
      refine rr rfl (s_ialdN rfl g13 g6 g7 g10) ?_
      refine rr rfl (s_max (v := 0) rfl (Nat.le_of_ble_eq_true rfl) (by decide)) ?_
      refine rr rfl (s_istore_n rfl) ?_
      refine rr rfl (s_aload_n rfl) ?_
      refine rr rfl (s_getf rfl rfl) ?_
      refine rr rfl (s_iconst (v := (-1)) (by decide)) ?_
      refine rr rfl (s_icF (ic_neq g2)) ?_
      refine rr rfl (s_iload_n rfl) ?_
      refine rr rfl (s_aload_n rfl) ?_
      refine rr rfl (s_getf rfl rfl) ?_
      refine rr rfl (s_aload_n rfl) ?_
      refine rr rfl (s_getf rfl rfl) ?_
      refine rr rfl (s_ialdH rfl g14 g10 g11) ?_
      refine rr rfl (s_iconst (v := 1) (by decide)) ?_
      refine rr rfl (s_iadd (v := 4) (by decide)) ?_
      refine rr rfl (s_max (v := 4) rfl (Nat.le_of_ble_eq_true rfl) (by decide)) ?_
      refine rr rfl (s_istore_n rfl) ?_
      refine rr rfl (s_aload_n rfl) ?_
      refine rr rfl (s_getf rfl rfl) ?_
      refine rr rfl (s_aload_n rfl) ?_
      refine rr rfl (s_getf rfl rfl) ?_
      refine rr rfl (s_ialdH rfl rfl g10 g11) ?_
      refine rr rfl (s_iload_n rfl) ?_
      refine rr rfl (s_icT (by decide)) ?_
      refine rr rfl (s_aload_n rfl) ?_
      refine rr rfl (s_getf rfl rfl) ?_
      refine rr rfl (s_aload_n rfl) ?_
      refine rr rfl (s_getf rfl rfl) ?_
      refine rr rfl (s_iload_n rfl) ?_
      refine rr rfl (s_iastH (v := 4) rfl rfl g10 g11 (Nat.le_of_ble_eq_true rfl) rfl (h' := ((hF.set 5 (.inl ((List.replicate 8 (0 : Int32)).set (Int32.toNatClampNeg x3) 4))) ++ [.inr (.inr (2, [.int x1, .int x2, .int x3, .int x4, .int x5, .int x6, .int x7, .int ((1 <<< (x4 &&& 31) : Int32) ||| (1 <<< (x5 &&& 31) : Int32)), .int (1 <<< (x6 &&& 31) : Int32), .int (-1)]))]))) ?_
      refine rr rfl (s_iconst (v := 1) (by decide)) ?_
      exact rrt rfl rfl rfl rfl
    refine rrc rfl rfl rfl (do_of g_X3_lift rfl rfl e10) ?_
    refine rr rfl (s_istore_n rfl) ?_
    refine rr rfl (s_iconst (v := 0) (by decide)) ?_
    refine rr rfl (s_istore rfl) ?_
    refine rr rfl (s_iload rfl) ?_
    refine rr rfl (s_aload_n rfl) ?_
    refine rr rfl (s_getf rfl rfl) ?_
    have e11 : a_m MT [] 100000 9 miJx4a65c_size_8abf5 [.ref 3] ((hF.set 5 (.inl ((List.replicate 8 (0 : Int32)).set (Int32.toNatClampNeg x3) 4))) ++ [.inr (.inr (2, [.int x1, .int x2, .int x3, .int x4, .int x5, .int x6, .int x7, .int ((1 <<< (x4 &&& 31) : Int32) ||| (1 <<< (x5 &&& 31) : Int32)), .int (1 <<< (x6 &&& 31) : Int32), .int (-1)]))]) = some ((some (.int 0)), ((hF.set 5 (.inl ((List.replicate 8 (0 : Int32)).set (Int32.toNatClampNeg x3) 4))) ++ [.inr (.inr (2, [.int x1, .int x2, .int x3, .int x4, .int x5, .int x6, .int x7, .int ((1 <<< (x4 &&& 31) : Int32) ||| (1 <<< (x5 &&& 31) : Int32)), .int (1 <<< (x6 &&& 31) : Int32), .int (-1)]))]), 0, 0) := by
      refine me (d := 8) g_Jx4a65c_size_8abf5 (Nat.le_of_ble_eq_true rfl) ?_
      refine rr rfl (s_aload_n rfl) ?_
      refine rr rfl (s_getf rfl rfl) ?_
      exact rrt rfl rfl rfl rfl
    refine rrc rfl rfl rfl (do_of g_Jx4a65c_size_8abf5 rfl rfl e11) ?_
    refine rr rfl (s_icT (by decide)) ?_
    refine rr rfl (s_iinc (v := 4) rfl (by decide) rfl) ?_
    refine rr rfl s_goto ?_
    refine rr rfl (s_iload_n rfl) ?_
    refine rr rfl (s_ifF (by decide)) ?_
    refine rr rfl (s_iload_n rfl) ?_
    refine rr rfl (s_bipush (v := 8) (by decide)) ?_
    refine rr rfl (s_icF (by decide)) ?_
    refine rr rfl (s_aload_n rfl) ?_
    refine rr rfl (s_aload_n rfl) ?_
    have e12 : a_m MT [] 100000 9 miX3_lift [.ref 2, .ref 61] ((hF.set 5 (.inl ((List.replicate 8 (0 : Int32)).set (Int32.toNatClampNeg x3) 4))) ++ [.inr (.inr (2, [.int x1, .int x2, .int x3, .int x4, .int x5, .int x6, .int x7, .int ((1 <<< (x4 &&& 31) : Int32) ||| (1 <<< (x5 &&& 31) : Int32)), .int (1 <<< (x6 &&& 31) : Int32), .int (-1)]))]) = some ((some (.int 1)), ((hF.set 5 (.inl ((List.replicate 8 (0 : Int32)).set (Int32.toNatClampNeg x3) 5))) ++ [.inr (.inr (2, [.int x1, .int x2, .int x3, .int x4, .int x5, .int x6, .int x7, .int ((1 <<< (x4 &&& 31) : Int32) ||| (1 <<< (x5 &&& 31) : Int32)), .int (1 <<< (x6 &&& 31) : Int32), .int (-1)]))]), 0, 0) := by
      refine me (d := 8) g_X3_lift (Nat.le_of_ble_eq_true rfl) ?_
      refine rr rfl (s_aload_n rfl) ?_
      refine rr rfl (s_getf rfl rfl) ?_
      refine rr rfl (s_ifT (ic_eq g3)) ?_
      refine rr rfl (s_aload_n rfl) ?_
      refine rr rfl (s_getf rfl rfl) ?_
      refine rr rfl (s_aload_n rfl) ?_
      refine rr rfl (s_getf rfl rfl) ?_
      refine rr rfl (s_ialdN rfl g12 g4 g5 g10) ?_
      refine rr rfl (s_aload_n rfl) ?_
      refine rr rfl (s_getf rfl rfl) ?_
      refine rr rfl (s_aload_n rfl) ?_
      refine rr rfl (s_getf rfl rfl) ?_
      refine rr rfl (s_ialdN rfl g13 g6 g7 g10) ?_
      refine rr rfl (s_max (v := 0) rfl (Nat.le_of_ble_eq_true rfl) (by decide)) ?_
      refine rr rfl (s_istore_n rfl) ?_
      refine rr rfl (s_aload_n rfl) ?_
      refine rr rfl (s_getf rfl rfl) ?_
      refine rr rfl (s_iconst (v := (-1)) (by decide)) ?_
      refine rr rfl (s_icF (ic_neq g2)) ?_
      refine rr rfl (s_iload_n rfl) ?_
      refine rr rfl (s_aload_n rfl) ?_
      refine rr rfl (s_getf rfl rfl) ?_
      refine rr rfl (s_aload_n rfl) ?_
      refine rr rfl (s_getf rfl rfl) ?_
      refine rr rfl (s_ialdH rfl g14 g10 g11) ?_
      refine rr rfl (s_iconst (v := 1) (by decide)) ?_
      refine rr rfl (s_iadd (v := 5) (by decide)) ?_
      refine rr rfl (s_max (v := 5) rfl (Nat.le_of_ble_eq_true rfl) (by decide)) ?_
      refine rr rfl (s_istore_n rfl) ?_
      refine rr rfl (s_aload_n rfl) ?_
      refine rr rfl (s_getf rfl rfl) ?_
      refine rr rfl (s_aload_n rfl) ?_
      refine rr rfl (s_getf rfl rfl) ?_
      refine rr rfl (s_ialdH rfl rfl g10 g11) ?_
      refine rr rfl (s_iload_n rfl) ?_
      refine rr rfl (s_icT (by decide)) ?_
      refine rr rfl (s_aload_n rfl) ?_
      refine rr rfl (s_getf rfl rfl) ?_
      refine rr rfl (s_aload_n rfl) ?_
      refine rr rfl (s_getf rfl rfl) ?_
      refine rr rfl (s_iload_n rfl) ?_
      refine rr rfl (s_iastH (v := 5) rfl rfl g10 g11 (Nat.le_of_ble_eq_true rfl) rfl (h' := ((hF.set 5 (.inl ((List.replicate 8 (0 : Int32)).set (Int32.toNatClampNeg x3) 5))) ++ [.inr (.inr (2, [.int x1, .int x2, .int x3, .int x4, .int x5, .int x6, .int x7, .int ((1 <<< (x4 &&& 31) : Int32) ||| (1 <<< (x5 &&& 31) : Int32)), .int (1 <<< (x6 &&& 31) : Int32), .int (-1)]))]))) ?_
      refine rr rfl (s_iconst (v := 1) (by decide)) ?_
      exact rrt rfl rfl rfl rfl
    refine rrc rfl rfl rfl (do_of g_X3_lift rfl rfl e12) ?_
    refine rr rfl (s_istore_n rfl) ?_
    refine rr rfl (s_iconst (v := 0) (by decide)) ?_
    refine rr rfl (s_istore rfl) ?_
    refine rr rfl (s_iload rfl) ?_
    refine rr rfl (s_aload_n rfl) ?_
    refine rr rfl (s_getf rfl rfl) ?_
    have e13 : a_m MT [] 100000 9 miJx4a65c_size_8abf5 [.ref 3] ((hF.set 5 (.inl ((List.replicate 8 (0 : Int32)).set (Int32.toNatClampNeg x3) 5))) ++ [.inr (.inr (2, [.int x1, .int x2, .int x3, .int x4, .int x5, .int x6, .int x7, .int ((1 <<< (x4 &&& 31) : Int32) ||| (1 <<< (x5 &&& 31) : Int32)), .int (1 <<< (x6 &&& 31) : Int32), .int (-1)]))]) = some ((some (.int 0)), ((hF.set 5 (.inl ((List.replicate 8 (0 : Int32)).set (Int32.toNatClampNeg x3) 5))) ++ [.inr (.inr (2, [.int x1, .int x2, .int x3, .int x4, .int x5, .int x6, .int x7, .int ((1 <<< (x4 &&& 31) : Int32) ||| (1 <<< (x5 &&& 31) : Int32)), .int (1 <<< (x6 &&& 31) : Int32), .int (-1)]))]), 0, 0) := by
      refine me (d := 8) g_Jx4a65c_size_8abf5 (Nat.le_of_ble_eq_true rfl) ?_
      refine rr rfl (s_aload_n rfl) ?_
      refine rr rfl (s_getf rfl rfl) ?_
      exact rrt rfl rfl rfl rfl
    refine rrc rfl rfl rfl (do_of g_Jx4a65c_size_8abf5 rfl rfl e13) ?_
    refine rr rfl (s_icT (by decide)) ?_
    refine rr rfl (s_iinc (v := 5) rfl (by decide) rfl) ?_
    refine rr rfl s_goto ?_
    refine rr rfl (s_iload_n rfl) ?_
    refine rr rfl (s_ifF (by decide)) ?_
    refine rr rfl (s_iload_n rfl) ?_
    refine rr rfl (s_bipush (v := 8) (by decide)) ?_
    refine rr rfl (s_icF (by decide)) ?_
    refine rr rfl (s_aload_n rfl) ?_
    refine rr rfl (s_aload_n rfl) ?_
    have e14 : a_m MT [] 100000 9 miX3_lift [.ref 2, .ref 61] ((hF.set 5 (.inl ((List.replicate 8 (0 : Int32)).set (Int32.toNatClampNeg x3) 5))) ++ [.inr (.inr (2, [.int x1, .int x2, .int x3, .int x4, .int x5, .int x6, .int x7, .int ((1 <<< (x4 &&& 31) : Int32) ||| (1 <<< (x5 &&& 31) : Int32)), .int (1 <<< (x6 &&& 31) : Int32), .int (-1)]))]) = some ((some (.int 1)), ((hF.set 5 (.inl ((List.replicate 8 (0 : Int32)).set (Int32.toNatClampNeg x3) 6))) ++ [.inr (.inr (2, [.int x1, .int x2, .int x3, .int x4, .int x5, .int x6, .int x7, .int ((1 <<< (x4 &&& 31) : Int32) ||| (1 <<< (x5 &&& 31) : Int32)), .int (1 <<< (x6 &&& 31) : Int32), .int (-1)]))]), 0, 0) := by
      refine me (d := 8) g_X3_lift (Nat.le_of_ble_eq_true rfl) ?_
      refine rr rfl (s_aload_n rfl) ?_
      refine rr rfl (s_getf rfl rfl) ?_
      refine rr rfl (s_ifT (ic_eq g3)) ?_
      refine rr rfl (s_aload_n rfl) ?_
      refine rr rfl (s_getf rfl rfl) ?_
      refine rr rfl (s_aload_n rfl) ?_
      refine rr rfl (s_getf rfl rfl) ?_
      refine rr rfl (s_ialdN rfl g12 g4 g5 g10) ?_
      refine rr rfl (s_aload_n rfl) ?_
      refine rr rfl (s_getf rfl rfl) ?_
      refine rr rfl (s_aload_n rfl) ?_
      refine rr rfl (s_getf rfl rfl) ?_
      refine rr rfl (s_ialdN rfl g13 g6 g7 g10) ?_
      refine rr rfl (s_max (v := 0) rfl (Nat.le_of_ble_eq_true rfl) (by decide)) ?_
      refine rr rfl (s_istore_n rfl) ?_
      refine rr rfl (s_aload_n rfl) ?_
      refine rr rfl (s_getf rfl rfl) ?_
      refine rr rfl (s_iconst (v := (-1)) (by decide)) ?_
      refine rr rfl (s_icF (ic_neq g2)) ?_
      refine rr rfl (s_iload_n rfl) ?_
      refine rr rfl (s_aload_n rfl) ?_
      refine rr rfl (s_getf rfl rfl) ?_
      refine rr rfl (s_aload_n rfl) ?_
      refine rr rfl (s_getf rfl rfl) ?_
      refine rr rfl (s_ialdH rfl g14 g10 g11) ?_
      refine rr rfl (s_iconst (v := 1) (by decide)) ?_
      refine rr rfl (s_iadd (v := 6) (by decide)) ?_
      refine rr rfl (s_max (v := 6) rfl (Nat.le_of_ble_eq_true rfl) (by decide)) ?_
      refine rr rfl (s_istore_n rfl) ?_
      refine rr rfl (s_aload_n rfl) ?_
      refine rr rfl (s_getf rfl rfl) ?_
      refine rr rfl (s_aload_n rfl) ?_
      refine rr rfl (s_getf rfl rfl) ?_
      refine rr rfl (s_ialdH rfl rfl g10 g11) ?_
      refine rr rfl (s_iload_n rfl) ?_
      refine rr rfl (s_icT (by decide)) ?_
      refine rr rfl (s_aload_n rfl) ?_
      refine rr rfl (s_getf rfl rfl) ?_
      refine rr rfl (s_aload_n rfl) ?_
      refine rr rfl (s_getf rfl rfl) ?_
      refine rr rfl (s_iload_n rfl) ?_
      refine rr rfl (s_iastH (v := 6) rfl rfl g10 g11 (Nat.le_of_ble_eq_true rfl) rfl (h' := ((hF.set 5 (.inl ((List.replicate 8 (0 : Int32)).set (Int32.toNatClampNeg x3) 6))) ++ [.inr (.inr (2, [.int x1, .int x2, .int x3, .int x4, .int x5, .int x6, .int x7, .int ((1 <<< (x4 &&& 31) : Int32) ||| (1 <<< (x5 &&& 31) : Int32)), .int (1 <<< (x6 &&& 31) : Int32), .int (-1)]))]))) ?_
      refine rr rfl (s_iconst (v := 1) (by decide)) ?_
      exact rrt rfl rfl rfl rfl
    refine rrc rfl rfl rfl (do_of g_X3_lift rfl rfl e14) ?_
    refine rr rfl (s_istore_n rfl) ?_
    refine rr rfl (s_iconst (v := 0) (by decide)) ?_
    refine rr rfl (s_istore rfl) ?_
    refine rr rfl (s_iload rfl) ?_
    refine rr rfl (s_aload_n rfl) ?_
    refine rr rfl (s_getf rfl rfl) ?_
    have e15 : a_m MT [] 100000 9 miJx4a65c_size_8abf5 [.ref 3] ((hF.set 5 (.inl ((List.replicate 8 (0 : Int32)).set (Int32.toNatClampNeg x3) 6))) ++ [.inr (.inr (2, [.int x1, .int x2, .int x3, .int x4, .int x5, .int x6, .int x7, .int ((1 <<< (x4 &&& 31) : Int32) ||| (1 <<< (x5 &&& 31) : Int32)), .int (1 <<< (x6 &&& 31) : Int32), .int (-1)]))]) = some ((some (.int 0)), ((hF.set 5 (.inl ((List.replicate 8 (0 : Int32)).set (Int32.toNatClampNeg x3) 6))) ++ [.inr (.inr (2, [.int x1, .int x2, .int x3, .int x4, .int x5, .int x6, .int x7, .int ((1 <<< (x4 &&& 31) : Int32) ||| (1 <<< (x5 &&& 31) : Int32)), .int (1 <<< (x6 &&& 31) : Int32), .int (-1)]))]), 0, 0) := by
      refine me (d := 8) g_Jx4a65c_size_8abf5 (Nat.le_of_ble_eq_true rfl) ?_
      refine rr rfl (s_aload_n rfl) ?_
      refine rr rfl (s_getf rfl rfl) ?_
      exact rrt rfl rfl rfl rfl
    refine rrc rfl rfl rfl (do_of g_Jx4a65c_size_8abf5 rfl rfl e15) ?_
    refine rr rfl (s_icT (by decide)) ?_
    refine rr rfl (s_iinc (v := 6) rfl (by decide) rfl) ?_
    refine rr rfl s_goto ?_
    refine rr rfl (s_iload_n rfl) ?_
    refine rr rfl (s_ifF (by decide)) ?_
    refine rr rfl (s_iload_n rfl) ?_
    refine rr rfl (s_bipush (v := 8) (by decide)) ?_
    refine rr rfl (s_icF (by decide)) ?_
    refine rr rfl (s_aload_n rfl) ?_
    refine rr rfl (s_aload_n rfl) ?_
    have e16 : a_m MT [] 100000 9 miX3_lift [.ref 2, .ref 61] ((hF.set 5 (.inl ((List.replicate 8 (0 : Int32)).set (Int32.toNatClampNeg x3) 6))) ++ [.inr (.inr (2, [.int x1, .int x2, .int x3, .int x4, .int x5, .int x6, .int x7, .int ((1 <<< (x4 &&& 31) : Int32) ||| (1 <<< (x5 &&& 31) : Int32)), .int (1 <<< (x6 &&& 31) : Int32), .int (-1)]))]) = some ((some (.int 1)), ((hF.set 5 (.inl ((List.replicate 8 (0 : Int32)).set (Int32.toNatClampNeg x3) 7))) ++ [.inr (.inr (2, [.int x1, .int x2, .int x3, .int x4, .int x5, .int x6, .int x7, .int ((1 <<< (x4 &&& 31) : Int32) ||| (1 <<< (x5 &&& 31) : Int32)), .int (1 <<< (x6 &&& 31) : Int32), .int (-1)]))]), 0, 0) := by
      refine me (d := 8) g_X3_lift (Nat.le_of_ble_eq_true rfl) ?_
      refine rr rfl (s_aload_n rfl) ?_
      refine rr rfl (s_getf rfl rfl) ?_
      refine rr rfl (s_ifT (ic_eq g3)) ?_
      refine rr rfl (s_aload_n rfl) ?_
      refine rr rfl (s_getf rfl rfl) ?_
      refine rr rfl (s_aload_n rfl) ?_
      refine rr rfl (s_getf rfl rfl) ?_
      refine rr rfl (s_ialdN rfl g12 g4 g5 g10) ?_
      refine rr rfl (s_aload_n rfl) ?_
      refine rr rfl (s_getf rfl rfl) ?_
      refine rr rfl (s_aload_n rfl) ?_
      refine rr rfl (s_getf rfl rfl) ?_
      refine rr rfl (s_ialdN rfl g13 g6 g7 g10) ?_
      refine rr rfl (s_max (v := 0) rfl (Nat.le_of_ble_eq_true rfl) (by decide)) ?_
      refine rr rfl (s_istore_n rfl) ?_
      refine rr rfl (s_aload_n rfl) ?_
      refine rr rfl (s_getf rfl rfl) ?_
      refine rr rfl (s_iconst (v := (-1)) (by decide)) ?_
      refine rr rfl (s_icF (ic_neq g2)) ?_
      refine rr rfl (s_iload_n rfl) ?_
      refine rr rfl (s_aload_n rfl) ?_
      refine rr rfl (s_getf rfl rfl) ?_
      refine rr rfl (s_aload_n rfl) ?_
      refine rr rfl (s_getf rfl rfl) ?_
      refine rr rfl (s_ialdH rfl g14 g10 g11) ?_
      refine rr rfl (s_iconst (v := 1) (by decide)) ?_
      refine rr rfl (s_iadd (v := 7) (by decide)) ?_
      refine rr rfl (s_max (v := 7) rfl (Nat.le_of_ble_eq_true rfl) (by decide)) ?_
      refine rr rfl (s_istore_n rfl) ?_
      refine rr rfl (s_aload_n rfl) ?_
      refine rr rfl (s_getf rfl rfl) ?_
      refine rr rfl (s_aload_n rfl) ?_
      refine rr rfl (s_getf rfl rfl) ?_
      refine rr rfl (s_ialdH rfl rfl g10 g11) ?_
      refine rr rfl (s_iload_n rfl) ?_
      refine rr rfl (s_icT (by decide)) ?_
      refine rr rfl (s_aload_n rfl) ?_
      refine rr rfl (s_getf rfl rfl) ?_
      refine rr rfl (s_aload_n rfl) ?_
      refine rr rfl (s_getf rfl rfl) ?_
      refine rr rfl (s_iload_n rfl) ?_
      refine rr rfl (s_iastH (v := 7) rfl rfl g10 g11 (Nat.le_of_ble_eq_true rfl) rfl (h' := ((hF.set 5 (.inl ((List.replicate 8 (0 : Int32)).set (Int32.toNatClampNeg x3) 7))) ++ [.inr (.inr (2, [.int x1, .int x2, .int x3, .int x4, .int x5, .int x6, .int x7, .int ((1 <<< (x4 &&& 31) : Int32) ||| (1 <<< (x5 &&& 31) : Int32)), .int (1 <<< (x6 &&& 31) : Int32), .int (-1)]))]))) ?_
      refine rr rfl (s_iconst (v := 1) (by decide)) ?_
      exact rrt rfl rfl rfl rfl
    refine rrc rfl rfl rfl (do_of g_X3_lift rfl rfl e16) ?_
    refine rr rfl (s_istore_n rfl) ?_
    refine rr rfl (s_iconst (v := 0) (by decide)) ?_
    refine rr rfl (s_istore rfl) ?_
    refine rr rfl (s_iload rfl) ?_
    refine rr rfl (s_aload_n rfl) ?_
    refine rr rfl (s_getf rfl rfl) ?_
    have e17 : a_m MT [] 100000 9 miJx4a65c_size_8abf5 [.ref 3] ((hF.set 5 (.inl ((List.replicate 8 (0 : Int32)).set (Int32.toNatClampNeg x3) 7))) ++ [.inr (.inr (2, [.int x1, .int x2, .int x3, .int x4, .int x5, .int x6, .int x7, .int ((1 <<< (x4 &&& 31) : Int32) ||| (1 <<< (x5 &&& 31) : Int32)), .int (1 <<< (x6 &&& 31) : Int32), .int (-1)]))]) = some ((some (.int 0)), ((hF.set 5 (.inl ((List.replicate 8 (0 : Int32)).set (Int32.toNatClampNeg x3) 7))) ++ [.inr (.inr (2, [.int x1, .int x2, .int x3, .int x4, .int x5, .int x6, .int x7, .int ((1 <<< (x4 &&& 31) : Int32) ||| (1 <<< (x5 &&& 31) : Int32)), .int (1 <<< (x6 &&& 31) : Int32), .int (-1)]))]), 0, 0) := by
      refine me (d := 8) g_Jx4a65c_size_8abf5 (Nat.le_of_ble_eq_true rfl) ?_
      refine rr rfl (s_aload_n rfl) ?_
      refine rr rfl (s_getf rfl rfl) ?_
      exact rrt rfl rfl rfl rfl
    refine rrc rfl rfl rfl (do_of g_Jx4a65c_size_8abf5 rfl rfl e17) ?_
    refine rr rfl (s_icT (by decide)) ?_
    refine rr rfl (s_iinc (v := 7) rfl (by decide) rfl) ?_
    refine rr rfl s_goto ?_
    refine rr rfl (s_iload_n rfl) ?_
    refine rr rfl (s_ifF (by decide)) ?_
    refine rr rfl (s_iload_n rfl) ?_
    refine rr rfl (s_bipush (v := 8) (by decide)) ?_
    refine rr rfl (s_icF (by decide)) ?_
    refine rr rfl (s_aload_n rfl) ?_
    refine rr rfl (s_aload_n rfl) ?_
    have e18 : a_m MT [] 100000 9 miX3_lift [.ref 2, .ref 61] ((hF.set 5 (.inl ((List.replicate 8 (0 : Int32)).set (Int32.toNatClampNeg x3) 7))) ++ [.inr (.inr (2, [.int x1, .int x2, .int x3, .int x4, .int x5, .int x6, .int x7, .int ((1 <<< (x4 &&& 31) : Int32) ||| (1 <<< (x5 &&& 31) : Int32)), .int (1 <<< (x6 &&& 31) : Int32), .int (-1)]))]) = some ((some (.int 1)), ((hF.set 5 (.inl ((List.replicate 8 (0 : Int32)).set (Int32.toNatClampNeg x3) 8))) ++ [.inr (.inr (2, [.int x1, .int x2, .int x3, .int x4, .int x5, .int x6, .int x7, .int ((1 <<< (x4 &&& 31) : Int32) ||| (1 <<< (x5 &&& 31) : Int32)), .int (1 <<< (x6 &&& 31) : Int32), .int (-1)]))]), 0, 0) := by
      refine me (d := 8) g_X3_lift (Nat.le_of_ble_eq_true rfl) ?_
      refine rr rfl (s_aload_n rfl) ?_
      refine rr rfl (s_getf rfl rfl) ?_
      refine rr rfl (s_ifT (ic_eq g3)) ?_
      refine rr rfl (s_aload_n rfl) ?_
      refine rr rfl (s_getf rfl rfl) ?_
      refine rr rfl (s_aload_n rfl) ?_
      refine rr rfl (s_getf rfl rfl) ?_
      refine rr rfl (s_ialdN rfl g12 g4 g5 g10) ?_
      refine rr rfl (s_aload_n rfl) ?_
      refine rr rfl (s_getf rfl rfl) ?_
      refine rr rfl (s_aload_n rfl) ?_
      refine rr rfl (s_getf rfl rfl) ?_
      refine rr rfl (s_ialdN rfl g13 g6 g7 g10) ?_
      refine rr rfl (s_max (v := 0) rfl (Nat.le_of_ble_eq_true rfl) (by decide)) ?_
      refine rr rfl (s_istore_n rfl) ?_
      refine rr rfl (s_aload_n rfl) ?_
      refine rr rfl (s_getf rfl rfl) ?_
      refine rr rfl (s_iconst (v := (-1)) (by decide)) ?_
      refine rr rfl (s_icF (ic_neq g2)) ?_
      refine rr rfl (s_iload_n rfl) ?_
      refine rr rfl (s_aload_n rfl) ?_
      refine rr rfl (s_getf rfl rfl) ?_
      refine rr rfl (s_aload_n rfl) ?_
      refine rr rfl (s_getf rfl rfl) ?_
      refine rr rfl (s_ialdH rfl g14 g10 g11) ?_
      refine rr rfl (s_iconst (v := 1) (by decide)) ?_
      refine rr rfl (s_iadd (v := 8) (by decide)) ?_
      refine rr rfl (s_max (v := 8) rfl (Nat.le_of_ble_eq_true rfl) (by decide)) ?_
      refine rr rfl (s_istore_n rfl) ?_
      refine rr rfl (s_aload_n rfl) ?_
      refine rr rfl (s_getf rfl rfl) ?_
      refine rr rfl (s_aload_n rfl) ?_
      refine rr rfl (s_getf rfl rfl) ?_
      refine rr rfl (s_ialdH rfl rfl g10 g11) ?_
      refine rr rfl (s_iload_n rfl) ?_
      refine rr rfl (s_icT (by decide)) ?_
      refine rr rfl (s_aload_n rfl) ?_
      refine rr rfl (s_getf rfl rfl) ?_
      refine rr rfl (s_aload_n rfl) ?_
      refine rr rfl (s_getf rfl rfl) ?_
      refine rr rfl (s_iload_n rfl) ?_
      refine rr rfl (s_iastH (v := 8) rfl rfl g10 g11 (Nat.le_of_ble_eq_true rfl) rfl (h' := ((hF.set 5 (.inl ((List.replicate 8 (0 : Int32)).set (Int32.toNatClampNeg x3) 8))) ++ [.inr (.inr (2, [.int x1, .int x2, .int x3, .int x4, .int x5, .int x6, .int x7, .int ((1 <<< (x4 &&& 31) : Int32) ||| (1 <<< (x5 &&& 31) : Int32)), .int (1 <<< (x6 &&& 31) : Int32), .int (-1)]))]))) ?_
      refine rr rfl (s_iconst (v := 1) (by decide)) ?_
      exact rrt rfl rfl rfl rfl
    refine rrc rfl rfl rfl (do_of g_X3_lift rfl rfl e18) ?_
    refine rr rfl (s_istore_n rfl) ?_
    refine rr rfl (s_iconst (v := 0) (by decide)) ?_
    refine rr rfl (s_istore rfl) ?_
    refine rr rfl (s_iload rfl) ?_
    refine rr rfl (s_aload_n rfl) ?_
    refine rr rfl (s_getf rfl rfl) ?_
    have e19 : a_m MT [] 100000 9 miJx4a65c_size_8abf5 [.ref 3] ((hF.set 5 (.inl ((List.replicate 8 (0 : Int32)).set (Int32.toNatClampNeg x3) 8))) ++ [.inr (.inr (2, [.int x1, .int x2, .int x3, .int x4, .int x5, .int x6, .int x7, .int ((1 <<< (x4 &&& 31) : Int32) ||| (1 <<< (x5 &&& 31) : Int32)), .int (1 <<< (x6 &&& 31) : Int32), .int (-1)]))]) = some ((some (.int 0)), ((hF.set 5 (.inl ((List.replicate 8 (0 : Int32)).set (Int32.toNatClampNeg x3) 8))) ++ [.inr (.inr (2, [.int x1, .int x2, .int x3, .int x4, .int x5, .int x6, .int x7, .int ((1 <<< (x4 &&& 31) : Int32) ||| (1 <<< (x5 &&& 31) : Int32)), .int (1 <<< (x6 &&& 31) : Int32), .int (-1)]))]), 0, 0) := by
      refine me (d := 8) g_Jx4a65c_size_8abf5 (Nat.le_of_ble_eq_true rfl) ?_
      refine rr rfl (s_aload_n rfl) ?_
      refine rr rfl (s_getf rfl rfl) ?_
      exact rrt rfl rfl rfl rfl
    refine rrc rfl rfl rfl (do_of g_Jx4a65c_size_8abf5 rfl rfl e19) ?_
    refine rr rfl (s_icT (by decide)) ?_
    refine rr rfl (s_iinc (v := 8) rfl (by decide) rfl) ?_
    refine rr rfl s_goto ?_
    refine rr rfl (s_iload_n rfl) ?_
    refine rr rfl (s_ifF (by decide)) ?_
    refine rr rfl (s_iload_n rfl) ?_
    refine rr rfl (s_bipush (v := 8) (by decide)) ?_
    refine rr rfl (s_icT (by decide)) ?_
    refine rr rfl (s_iload_n rfl) ?_
    refine rr rfl (s_ifT (by decide)) ?_
    refine rr rfl (s_iconst (v := 0) (by decide)) ?_
    exact rrt rfl rfl rfl rfl
  refine rrc rfl rfl rfl (do_of g_X3_hasLayersWith rfl rfl e2) ?_
  refine rr rfl (s_ifF (by decide)) ?_
  refine rr rfl (s_bipush (v := (-3)) (by decide)) ?_
  exact rrt rfl rfl rfl rfl
set_option maxHeartbeats 4000000 in
set_option maxRecDepth 10000 in
theorem rx_Nhho {x1 x2 x3 x4 x5 x6 x7 : Int32} (g1 : ¬ x5 = (-1)) (g2 : ¬ x6 = (-1)) (g3 : x2 = 0) (g4 : ¬ x4 < 0) (g5 : x4 < nI 8) (g6 : ¬ x5 < 0) (g7 : x5 < nI 8) (g8 : ¬ x6 < 0) (g9 : x6 < nI 8) (g10 : ¬ x3 < 0) (g11 : x3 < nI 8) (g12 : ¬ x4 = x3) (g13 : x5 = x3) (g14 : x6 = x3) : a_run MT [] (a_m MT [] 100000 10) 11 (some .int) tabX8_rule 90000 140 (alR x1 x2 x3 x4 x5 x6 x7) [] hF 0 0 = some (some (.int (-3)), ((hF.set 5 (.inl ((List.replicate 8 (0 : Int32)).set (Int32.toNatClampNeg x3) 8))) ++ [.inr (.inr (2, [.int x1, .int x2, .int x3, .int x4, .int x5, .int x6, .int x7, .int ((1 <<< (x4 &&& 31) : Int32) ||| (1 <<< (x5 &&& 31) : Int32)), .int (1 <<< (x6 &&& 31) : Int32), .int (-1)]))]), 1, 10) := by
  refine rr rfl (s_new (q := 61) rfl rfl (h' := (hF ++ [.inr (.inr (2, [.int 0, .int 0, .int 0, .int 0, .int 0, .int 0, .int 0, .int 0, .int 0, .int 0]))]))) ?_
  refine rr rfl rfl ?_
  refine rr rfl (s_iload_n rfl) ?_
  refine rr rfl (s_iload_n rfl) ?_
  refine rr rfl (s_iload_n rfl) ?_
  refine rr rfl (s_iload rfl) ?_
  refine rr rfl (s_iload rfl) ?_
  refine rr rfl (s_iload rfl) ?_
  refine rr rfl (s_iload rfl) ?_
  have e1 : a_m MT [] 100000 10 miX2_init [.ref 61, .int x1, .int x2, .int x3, .int x4, .int x5, .int x6, .int x7] (hF ++ [.inr (.inr (2, [.int 0, .int 0, .int 0, .int 0, .int 0, .int 0, .int 0, .int 0, .int 0, .int 0]))]) = some (none, (hF ++ [.inr (.inr (2, [.int x1, .int x2, .int x3, .int x4, .int x5, .int x6, .int x7, .int ((1 <<< (x4 &&& 31) : Int32) ||| (1 <<< (x5 &&& 31) : Int32)), .int (1 <<< (x6 &&& 31) : Int32), .int (-1)]))]), 0, 0) := by
    refine me (d := 9) g_X2_init (Nat.le_of_ble_eq_true rfl) ?_
    refine rr rfl (s_aload_n rfl) ?_
    refine rr rfl rfl ?_
    refine rr rfl (s_aload_n rfl) ?_
    refine rr rfl (s_iconst (v := (-1)) (by decide)) ?_
    refine rr rfl (s_putf rfl rfl (Nat.le_of_ble_eq_true rfl) rfl (Nat.le_of_ble_eq_true rfl) rfl (h' := (hF ++ [.inr (.inr (2, [.int 0, .int 0, .int 0, .int 0, .int 0, .int 0, .int 0, .int 0, .int 0, .int (-1)]))]))) ?_
    refine rr rfl (s_aload_n rfl) ?_
    refine rr rfl (s_iload_n rfl) ?_
    refine rr rfl (s_putf rfl rfl (Nat.le_of_ble_eq_true rfl) rfl (Nat.le_of_ble_eq_true rfl) rfl (h' := (hF ++ [.inr (.inr (2, [.int x1, .int 0, .int 0, .int 0, .int 0, .int 0, .int 0, .int 0, .int 0, .int (-1)]))]))) ?_
    refine rr rfl (s_aload_n rfl) ?_
    refine rr rfl (s_iload_n rfl) ?_
    refine rr rfl (s_putf rfl rfl (Nat.le_of_ble_eq_true rfl) rfl (Nat.le_of_ble_eq_true rfl) rfl (h' := (hF ++ [.inr (.inr (2, [.int x1, .int x2, .int 0, .int 0, .int 0, .int 0, .int 0, .int 0, .int 0, .int (-1)]))]))) ?_
    refine rr rfl (s_aload_n rfl) ?_
    refine rr rfl (s_iload_n rfl) ?_
    refine rr rfl (s_putf rfl rfl (Nat.le_of_ble_eq_true rfl) rfl (Nat.le_of_ble_eq_true rfl) rfl (h' := (hF ++ [.inr (.inr (2, [.int x1, .int x2, .int x3, .int 0, .int 0, .int 0, .int 0, .int 0, .int 0, .int (-1)]))]))) ?_
    refine rr rfl (s_aload_n rfl) ?_
    refine rr rfl (s_iload rfl) ?_
    refine rr rfl (s_putf rfl rfl (Nat.le_of_ble_eq_true rfl) rfl (Nat.le_of_ble_eq_true rfl) rfl (h' := (hF ++ [.inr (.inr (2, [.int x1, .int x2, .int x3, .int x4, .int 0, .int 0, .int 0, .int 0, .int 0, .int (-1)]))]))) ?_
    refine rr rfl (s_aload_n rfl) ?_
    refine rr rfl (s_iload rfl) ?_
    refine rr rfl (s_iconst (v := (-1)) (by decide)) ?_
    refine rr rfl (s_icT (ic_ne g1)) ?_
    refine rr rfl (s_iload rfl) ?_
    refine rr rfl (s_putf rfl rfl (Nat.le_of_ble_eq_true rfl) rfl (Nat.le_of_ble_eq_true rfl) rfl (h' := (hF ++ [.inr (.inr (2, [.int x1, .int x2, .int x3, .int x4, .int x5, .int 0, .int 0, .int 0, .int 0, .int (-1)]))]))) ?_
    refine rr rfl (s_aload_n rfl) ?_
    refine rr rfl (s_iload rfl) ?_
    refine rr rfl (s_putf rfl rfl (Nat.le_of_ble_eq_true rfl) rfl (Nat.le_of_ble_eq_true rfl) rfl (h' := (hF ++ [.inr (.inr (2, [.int x1, .int x2, .int x3, .int x4, .int x5, .int x6, .int 0, .int 0, .int 0, .int (-1)]))]))) ?_
    refine rr rfl (s_aload_n rfl) ?_
    refine rr rfl (s_iload rfl) ?_
    refine rr rfl (s_putf rfl rfl (Nat.le_of_ble_eq_true rfl) rfl (Nat.le_of_ble_eq_true rfl) rfl (h' := (hF ++ [.inr (.inr (2, [.int x1, .int x2, .int x3, .int x4, .int x5, .int x6, .int x7, .int 0, .int 0, .int (-1)]))]))) ?_
    refine rr rfl (s_aload_n rfl) ?_
    refine rr rfl (s_iconst (v := 1) (by decide)) ?_
    refine rr rfl (s_aload_n rfl) ?_
    refine rr rfl (s_getf rfl rfl) ?_
    refine rr rfl (s_ishl (v := (1 <<< (x4 &&& 31) : Int32)) rfl) ?_
    refine rr rfl (s_iconst (v := 1) (by decide)) ?_
    refine rr rfl (s_aload_n rfl) ?_
    refine rr rfl (s_getf rfl rfl) ?_
    refine rr rfl (s_ishl (v := (1 <<< (x5 &&& 31) : Int32)) rfl) ?_
    refine rr rfl (s_ior (v := ((1 <<< (x4 &&& 31) : Int32) ||| (1 <<< (x5 &&& 31) : Int32))) rfl) ?_
    refine rr rfl (s_putf rfl rfl (Nat.le_of_ble_eq_true rfl) rfl (Nat.le_of_ble_eq_true rfl) rfl (h' := (hF ++ [.inr (.inr (2, [.int x1, .int x2, .int x3, .int x4, .int x5, .int x6, .int x7, .int ((1 <<< (x4 &&& 31) : Int32) ||| (1 <<< (x5 &&& 31) : Int32)), .int 0, .int (-1)]))]))) ?_
    refine rr rfl (s_aload_n rfl) ?_
    refine rr rfl (s_iload rfl) ?_
    refine rr rfl (s_iconst (v := (-1)) (by decide)) ?_
    refine rr rfl (s_icT (ic_ne g2)) ?_
    refine rr rfl (s_iconst (v := 1) (by decide)) ?_
    refine rr rfl (s_iload rfl) ?_
    refine rr rfl (s_ishl (v := (1 <<< (x6 &&& 31) : Int32)) rfl) ?_
    refine rr rfl (s_putf rfl rfl (Nat.le_of_ble_eq_true rfl) rfl (Nat.le_of_ble_eq_true rfl) rfl (h' := (hF ++ [.inr (.inr (2, [.int x1, .int x2, .int x3, .int x4, .int x5, .int x6, .int x7, .int ((1 <<< (x4 &&& 31) : Int32) ||| (1 <<< (x5 &&& 31) : Int32)), .int (1 <<< (x6 &&& 31) : Int32), .int (-1)]))]))) ?_
    exact rrt rfl rfl rfl rfl
  refine rrc rfl rfl rfl (do_of g_X2_init rfl rfl e1) ?_
  refine rr rfl (s_astore rfl) ?_
  refine rr rfl (s_aload_n rfl) ?_
  refine rr rfl (s_getf rfl rfl) ?_
  refine rr rfl (s_getf rfl rfl) ?_
  refine rr rfl (s_aload rfl) ?_
  have e2 : a_m MT [] 100000 10 miX3_hasLayersWith [.ref 2, .ref 61] (hF ++ [.inr (.inr (2, [.int x1, .int x2, .int x3, .int x4, .int x5, .int x6, .int x7, .int ((1 <<< (x4 &&& 31) : Int32) ||| (1 <<< (x5 &&& 31) : Int32)), .int (1 <<< (x6 &&& 31) : Int32), .int (-1)]))]) = some ((some (.int 0)), ((hF.set 5 (.inl ((List.replicate 8 (0 : Int32)).set (Int32.toNatClampNeg x3) 8))) ++ [.inr (.inr (2, [.int x1, .int x2, .int x3, .int x4, .int x5, .int x6, .int x7, .int ((1 <<< (x4 &&& 31) : Int32) ||| (1 <<< (x5 &&& 31) : Int32)), .int (1 <<< (x6 &&& 31) : Int32), .int (-1)]))]), 0, 0) := by
    refine me (d := 9) g_X3_hasLayersWith (Nat.le_of_ble_eq_true rfl) ?_
    refine rr rfl (s_aload_n rfl) ?_
    refine rr rfl (s_getf rfl rfl) ?_
    refine rr rfl (s_iconst (v := 0) (by decide)) ?_
    have e3 : a_m MT [] 100000 9 miJ7_fill_53178 [.ref 5, .int 0] (hF ++ [.inr (.inr (2, [.int x1, .int x2, .int x3, .int x4, .int x5, .int x6, .int x7, .int ((1 <<< (x4 &&& 31) : Int32) ||| (1 <<< (x5 &&& 31) : Int32)), .int (1 <<< (x6 &&& 31) : Int32), .int (-1)]))]) = some (none, (hF ++ [.inr (.inr (2, [.int x1, .int x2, .int x3, .int x4, .int x5, .int x6, .int x7, .int ((1 <<< (x4 &&& 31) : Int32) ||| (1 <<< (x5 &&& 31) : Int32)), .int (1 <<< (x6 &&& 31) : Int32), .int (-1)]))]), 0, 0) := fill_n rfl (Nat.le_of_ble_eq_true rfl) rfl
    refine rrc rfl rfl rfl (do_of g_J7_fill_53178 rfl rfl e3) ?_
    refine rr rfl (s_iconst (v := 1) (by decide)) ?_
    refine rr rfl (s_istore_n rfl) ?_
    refine rr rfl (s_iconst (v := 0) (by decide)) ?_
    refine rr rfl (s_istore_n rfl) ?_
    refine rr rfl (s_iload_n rfl) ?_
    refine rr rfl (s_ifF (by decide)) ?_
    refine rr rfl (s_iload_n rfl) ?_
    refine rr rfl (s_bipush (v := 8) (by decide)) ?_
    refine rr rfl (s_icF (by decide)) ?_
    refine rr rfl (s_aload_n rfl) ?_
    refine rr rfl (s_aload_n rfl) ?_
    have e4 : a_m MT [] 100000 9 miX3_lift [.ref 2, .ref 61] (hF ++ [.inr (.inr (2, [.int x1, .int x2, .int x3, .int x4, .int x5, .int x6, .int x7, .int ((1 <<< (x4 &&& 31) : Int32) ||| (1 <<< (x5 &&& 31) : Int32)), .int (1 <<< (x6 &&& 31) : Int32), .int (-1)]))]) = some ((some (.int 1)), ((hF.set 5 (.inl ((List.replicate 8 (0 : Int32)).set (Int32.toNatClampNeg x3) 1))) ++ [.inr (.inr (2, [.int x1, .int x2, .int x3, .int x4, .int x5, .int x6, .int x7, .int ((1 <<< (x4 &&& 31) : Int32) ||| (1 <<< (x5 &&& 31) : Int32)), .int (1 <<< (x6 &&& 31) : Int32), .int (-1)]))]), 0, 0) := by
      refine me (d := 8) g_X3_lift (Nat.le_of_ble_eq_true rfl) ?_
      refine rr rfl (s_aload_n rfl) ?_
      refine rr rfl (s_getf rfl rfl) ?_
      refine rr rfl (s_ifT (ic_eq g3)) ?_
      refine rr rfl (s_aload_n rfl) ?_
      refine rr rfl (s_getf rfl rfl) ?_
      refine rr rfl (s_aload_n rfl) ?_
      refine rr rfl (s_getf rfl rfl) ?_
      refine rr rfl (s_ialdR (n := 8) (x := 0) rfl g4 g5) ?_
      refine rr rfl (s_aload_n rfl) ?_
      refine rr rfl (s_getf rfl rfl) ?_
      refine rr rfl (s_aload_n rfl) ?_
      refine rr rfl (s_getf rfl rfl) ?_
      refine rr rfl (s_ialdR (n := 8) (x := 0) rfl g6 g7) ?_
      refine rr rfl (s_max (v := 0) rfl (Nat.le_of_ble_eq_true rfl) (by decide)) ?_
      refine rr rfl (s_istore_n rfl) ?_
      refine rr rfl (s_aload_n rfl) ?_
      refine rr rfl (s_getf rfl rfl) ?_
      refine rr rfl (s_iconst (v := (-1)) (by decide)) ?_
      refine rr rfl (s_icF (ic_neq g2)) ?_
      refine rr rfl (s_iload_n rfl) ?_
      refine rr rfl (s_aload_n rfl) ?_
      refine rr rfl (s_getf rfl rfl) ?_
      refine rr rfl (s_aload_n rfl) ?_
      refine rr rfl (s_getf rfl rfl) ?_
      refine rr rfl (s_ialdR (n := 8) (x := 0) rfl g8 g9) ?_
      refine rr rfl (s_iconst (v := 1) (by decide)) ?_
      refine rr rfl (s_iadd (v := 1) (by decide)) ?_
      refine rr rfl (s_max (v := 1) rfl (Nat.le_of_ble_eq_true rfl) (by decide)) ?_
      refine rr rfl (s_istore_n rfl) ?_
      refine rr rfl (s_aload_n rfl) ?_
      refine rr rfl (s_getf rfl rfl) ?_
      refine rr rfl (s_aload_n rfl) ?_
      refine rr rfl (s_getf rfl rfl) ?_
      refine rr rfl (s_ialdR (n := 8) (x := 0) rfl g10 g11) ?_
      refine rr rfl (s_iload_n rfl) ?_
      refine rr rfl (s_icT (by decide)) ?_
      refine rr rfl (s_aload_n rfl) ?_
      refine rr rfl (s_getf rfl rfl) ?_
      refine rr rfl (s_aload_n rfl) ?_
      refine rr rfl (s_getf rfl rfl) ?_
      refine rr rfl (s_iload_n rfl) ?_
      refine rr rfl (s_iastR (n := 8) rfl g10 g11 (Nat.le_of_ble_eq_true rfl) rfl (h' := ((hF.set 5 (.inl ((List.replicate 8 (0 : Int32)).set (Int32.toNatClampNeg x3) 1))) ++ [.inr (.inr (2, [.int x1, .int x2, .int x3, .int x4, .int x5, .int x6, .int x7, .int ((1 <<< (x4 &&& 31) : Int32) ||| (1 <<< (x5 &&& 31) : Int32)), .int (1 <<< (x6 &&& 31) : Int32), .int (-1)]))]))) ?_
      refine rr rfl (s_iconst (v := 1) (by decide)) ?_
      exact rrt rfl rfl rfl rfl
    refine rrc rfl rfl rfl (do_of g_X3_lift rfl rfl e4) ?_
    refine rr rfl (s_istore_n rfl) ?_
    refine rr rfl (s_iconst (v := 0) (by decide)) ?_
    refine rr rfl (s_istore rfl) ?_
    refine rr rfl (s_iload rfl) ?_
    refine rr rfl (s_aload_n rfl) ?_
    refine rr rfl (s_getf rfl rfl) ?_
    have e5 : a_m MT [] 100000 9 miJx4a65c_size_8abf5 [.ref 3] ((hF.set 5 (.inl ((List.replicate 8 (0 : Int32)).set (Int32.toNatClampNeg x3) 1))) ++ [.inr (.inr (2, [.int x1, .int x2, .int x3, .int x4, .int x5, .int x6, .int x7, .int ((1 <<< (x4 &&& 31) : Int32) ||| (1 <<< (x5 &&& 31) : Int32)), .int (1 <<< (x6 &&& 31) : Int32), .int (-1)]))]) = some ((some (.int 0)), ((hF.set 5 (.inl ((List.replicate 8 (0 : Int32)).set (Int32.toNatClampNeg x3) 1))) ++ [.inr (.inr (2, [.int x1, .int x2, .int x3, .int x4, .int x5, .int x6, .int x7, .int ((1 <<< (x4 &&& 31) : Int32) ||| (1 <<< (x5 &&& 31) : Int32)), .int (1 <<< (x6 &&& 31) : Int32), .int (-1)]))]), 0, 0) := by
      refine me (d := 8) g_Jx4a65c_size_8abf5 (Nat.le_of_ble_eq_true rfl) ?_
      refine rr rfl (s_aload_n rfl) ?_
      refine rr rfl (s_getf rfl rfl) ?_
      exact rrt rfl rfl rfl rfl
    refine rrc rfl rfl rfl (do_of g_Jx4a65c_size_8abf5 rfl rfl e5) ?_
    refine rr rfl (s_icT (by decide)) ?_
    refine rr rfl (s_iinc (v := 1) rfl (by decide) rfl) ?_
    refine rr rfl s_goto ?_
    refine rr rfl (s_iload_n rfl) ?_
    refine rr rfl (s_ifF (by decide)) ?_
    refine rr rfl (s_iload_n rfl) ?_
    refine rr rfl (s_bipush (v := 8) (by decide)) ?_
    refine rr rfl (s_icF (by decide)) ?_
    refine rr rfl (s_aload_n rfl) ?_
    refine rr rfl (s_aload_n rfl) ?_
    have e6 : a_m MT [] 100000 9 miX3_lift [.ref 2, .ref 61] ((hF.set 5 (.inl ((List.replicate 8 (0 : Int32)).set (Int32.toNatClampNeg x3) 1))) ++ [.inr (.inr (2, [.int x1, .int x2, .int x3, .int x4, .int x5, .int x6, .int x7, .int ((1 <<< (x4 &&& 31) : Int32) ||| (1 <<< (x5 &&& 31) : Int32)), .int (1 <<< (x6 &&& 31) : Int32), .int (-1)]))]) = some ((some (.int 1)), ((hF.set 5 (.inl ((List.replicate 8 (0 : Int32)).set (Int32.toNatClampNeg x3) 2))) ++ [.inr (.inr (2, [.int x1, .int x2, .int x3, .int x4, .int x5, .int x6, .int x7, .int ((1 <<< (x4 &&& 31) : Int32) ||| (1 <<< (x5 &&& 31) : Int32)), .int (1 <<< (x6 &&& 31) : Int32), .int (-1)]))]), 0, 0) := by
      refine me (d := 8) g_X3_lift (Nat.le_of_ble_eq_true rfl) ?_
      refine rr rfl (s_aload_n rfl) ?_
      refine rr rfl (s_getf rfl rfl) ?_
      refine rr rfl (s_ifT (ic_eq g3)) ?_
      refine rr rfl (s_aload_n rfl) ?_
      refine rr rfl (s_getf rfl rfl) ?_
      refine rr rfl (s_aload_n rfl) ?_
      refine rr rfl (s_getf rfl rfl) ?_
      refine rr rfl (s_ialdN rfl g12 g4 g5 g10) ?_
      refine rr rfl (s_aload_n rfl) ?_
      refine rr rfl (s_getf rfl rfl) ?_
      refine rr rfl (s_aload_n rfl) ?_
      refine rr rfl (s_getf rfl rfl) ?_
      refine rr rfl (s_ialdH rfl g13 g10 g11) ?_
      refine rr rfl (s_max (v := 1) rfl (Nat.le_of_ble_eq_true rfl) (by decide)) ?_
      refine rr rfl (s_istore_n rfl) ?_
      refine rr rfl (s_aload_n rfl) ?_
      refine rr rfl (s_getf rfl rfl) ?_
      refine rr rfl (s_iconst (v := (-1)) (by decide)) ?_
      refine rr rfl (s_icF (ic_neq g2)) ?_
      refine rr rfl (s_iload_n rfl) ?_
      refine rr rfl (s_aload_n rfl) ?_
      refine rr rfl (s_getf rfl rfl) ?_
      refine rr rfl (s_aload_n rfl) ?_
      refine rr rfl (s_getf rfl rfl) ?_
      refine rr rfl (s_ialdH rfl g14 g10 g11) ?_
      refine rr rfl (s_iconst (v := 1) (by decide)) ?_
      refine rr rfl (s_iadd (v := 2) (by decide)) ?_
      refine rr rfl (s_max (v := 2) rfl (Nat.le_of_ble_eq_true rfl) (by decide)) ?_
      refine rr rfl (s_istore_n rfl) ?_
      refine rr rfl (s_aload_n rfl) ?_
      refine rr rfl (s_getf rfl rfl) ?_
      refine rr rfl (s_aload_n rfl) ?_
      refine rr rfl (s_getf rfl rfl) ?_
      refine rr rfl (s_ialdH rfl rfl g10 g11) ?_
      refine rr rfl (s_iload_n rfl) ?_
      refine rr rfl (s_icT (by decide)) ?_
      refine rr rfl (s_aload_n rfl) ?_
      refine rr rfl (s_getf rfl rfl) ?_
      refine rr rfl (s_aload_n rfl) ?_
      refine rr rfl (s_getf rfl rfl) ?_
      refine rr rfl (s_iload_n rfl) ?_
      refine rr rfl (s_iastH (v := 2) rfl rfl g10 g11 (Nat.le_of_ble_eq_true rfl) rfl (h' := ((hF.set 5 (.inl ((List.replicate 8 (0 : Int32)).set (Int32.toNatClampNeg x3) 2))) ++ [.inr (.inr (2, [.int x1, .int x2, .int x3, .int x4, .int x5, .int x6, .int x7, .int ((1 <<< (x4 &&& 31) : Int32) ||| (1 <<< (x5 &&& 31) : Int32)), .int (1 <<< (x6 &&& 31) : Int32), .int (-1)]))]))) ?_
      refine rr rfl (s_iconst (v := 1) (by decide)) ?_
      exact rrt rfl rfl rfl rfl
    refine rrc rfl rfl rfl (do_of g_X3_lift rfl rfl e6) ?_
    refine rr rfl (s_istore_n rfl) ?_
    refine rr rfl (s_iconst (v := 0) (by decide)) ?_
    refine rr rfl (s_istore rfl) ?_
    refine rr rfl (s_iload rfl) ?_
    refine rr rfl (s_aload_n rfl) ?_
    refine rr rfl (s_getf rfl rfl) ?_
    have e7 : a_m MT [] 100000 9 miJx4a65c_size_8abf5 [.ref 3] ((hF.set 5 (.inl ((List.replicate 8 (0 : Int32)).set (Int32.toNatClampNeg x3) 2))) ++ [.inr (.inr (2, [.int x1, .int x2, .int x3, .int x4, .int x5, .int x6, .int x7, .int ((1 <<< (x4 &&& 31) : Int32) ||| (1 <<< (x5 &&& 31) : Int32)), .int (1 <<< (x6 &&& 31) : Int32), .int (-1)]))]) = some ((some (.int 0)), ((hF.set 5 (.inl ((List.replicate 8 (0 : Int32)).set (Int32.toNatClampNeg x3) 2))) ++ [.inr (.inr (2, [.int x1, .int x2, .int x3, .int x4, .int x5, .int x6, .int x7, .int ((1 <<< (x4 &&& 31) : Int32) ||| (1 <<< (x5 &&& 31) : Int32)), .int (1 <<< (x6 &&& 31) : Int32), .int (-1)]))]), 0, 0) := by
      refine me (d := 8) g_Jx4a65c_size_8abf5 (Nat.le_of_ble_eq_true rfl) ?_
      refine rr rfl (s_aload_n rfl) ?_
      refine rr rfl (s_getf rfl rfl) ?_
      exact rrt rfl rfl rfl rfl
    refine rrc rfl rfl rfl (do_of g_Jx4a65c_size_8abf5 rfl rfl e7) ?_
    refine rr rfl (s_icT (by decide)) ?_
    refine rr rfl (s_iinc (v := 2) rfl (by decide) rfl) ?_
    refine rr rfl s_goto ?_
    refine rr rfl (s_iload_n rfl) ?_
    refine rr rfl (s_ifF (by decide)) ?_
    refine rr rfl (s_iload_n rfl) ?_
    refine rr rfl (s_bipush (v := 8) (by decide)) ?_
    refine rr rfl (s_icF (by decide)) ?_
    refine rr rfl (s_aload_n rfl) ?_
    refine rr rfl (s_aload_n rfl) ?_
    have e8 : a_m MT [] 100000 9 miX3_lift [.ref 2, .ref 61] ((hF.set 5 (.inl ((List.replicate 8 (0 : Int32)).set (Int32.toNatClampNeg x3) 2))) ++ [.inr (.inr (2, [.int x1, .int x2, .int x3, .int x4, .int x5, .int x6, .int x7, .int ((1 <<< (x4 &&& 31) : Int32) ||| (1 <<< (x5 &&& 31) : Int32)), .int (1 <<< (x6 &&& 31) : Int32), .int (-1)]))]) = some ((some (.int 1)), ((hF.set 5 (.inl ((List.replicate 8 (0 : Int32)).set (Int32.toNatClampNeg x3) 3))) ++ [.inr (.inr (2, [.int x1, .int x2, .int x3, .int x4, .int x5, .int x6, .int x7, .int ((1 <<< (x4 &&& 31) : Int32) ||| (1 <<< (x5 &&& 31) : Int32)), .int (1 <<< (x6 &&& 31) : Int32), .int (-1)]))]), 0, 0) := by
      refine me (d := 8) g_X3_lift (Nat.le_of_ble_eq_true rfl) ?_
      refine rr rfl (s_aload_n rfl) ?_
      refine rr rfl (s_getf rfl rfl) ?_
      refine rr rfl (s_ifT (ic_eq g3)) ?_
      refine rr rfl (s_aload_n rfl) ?_
      refine rr rfl (s_getf rfl rfl) ?_
      refine rr rfl (s_aload_n rfl) ?_
      refine rr rfl (s_getf rfl rfl) ?_
      refine rr rfl (s_ialdN rfl g12 g4 g5 g10) ?_
      refine rr rfl (s_aload_n rfl) ?_
      refine rr rfl (s_getf rfl rfl) ?_
      refine rr rfl (s_aload_n rfl) ?_
      refine rr rfl (s_getf rfl rfl) ?_
      refine rr rfl (s_ialdH rfl g13 g10 g11) ?_
      refine rr rfl (s_max (v := 2) rfl (Nat.le_of_ble_eq_true rfl) (by decide)) ?_
      refine rr rfl (s_istore_n rfl) ?_
      refine rr rfl (s_aload_n rfl) ?_
      refine rr rfl (s_getf rfl rfl) ?_
      refine rr rfl (s_iconst (v := (-1)) (by decide)) ?_
      refine rr rfl (s_icF (ic_neq g2)) ?_
      refine rr rfl (s_iload_n rfl) ?_
      refine rr rfl (s_aload_n rfl) ?_
      refine rr rfl (s_getf rfl rfl) ?_
      refine rr rfl (s_aload_n rfl) ?_
      refine rr rfl (s_getf rfl rfl) ?_
      refine rr rfl (s_ialdH rfl g14 g10 g11) ?_
      refine rr rfl (s_iconst (v := 1) (by decide)) ?_
      refine rr rfl (s_iadd (v := 3) (by decide)) ?_
      refine rr rfl (s_max (v := 3) rfl (Nat.le_of_ble_eq_true rfl) (by decide)) ?_
      refine rr rfl (s_istore_n rfl) ?_
      refine rr rfl (s_aload_n rfl) ?_
      refine rr rfl (s_getf rfl rfl) ?_
      refine rr rfl (s_aload_n rfl) ?_
      refine rr rfl (s_getf rfl rfl) ?_
      refine rr rfl (s_ialdH rfl rfl g10 g11) ?_
      refine rr rfl (s_iload_n rfl) ?_
      refine rr rfl (s_icT (by decide)) ?_
      refine rr rfl (s_aload_n rfl) ?_
      refine rr rfl (s_getf rfl rfl) ?_
      refine rr rfl (s_aload_n rfl) ?_
      refine rr rfl (s_getf rfl rfl) ?_
      refine rr rfl (s_iload_n rfl) ?_
      refine rr rfl (s_iastH (v := 3) rfl rfl g10 g11 (Nat.le_of_ble_eq_true rfl) rfl (h' := ((hF.set 5 (.inl ((List.replicate 8 (0 : Int32)).set (Int32.toNatClampNeg x3) 3))) ++ [.inr (.inr (2, [.int x1, .int x2, .int x3, .int x4, .int x5, .int x6, .int x7, .int ((1 <<< (x4 &&& 31) : Int32) ||| (1 <<< (x5 &&& 31) : Int32)), .int (1 <<< (x6 &&& 31) : Int32), .int (-1)]))]))) ?_
      refine rr rfl (s_iconst (v := 1) (by decide)) ?_
      exact rrt rfl rfl rfl rfl
    refine rrc rfl rfl rfl (do_of g_X3_lift rfl rfl e8) ?_
    refine rr rfl (s_istore_n rfl) ?_
    refine rr rfl (s_iconst (v := 0) (by decide)) ?_
    refine rr rfl (s_istore rfl) ?_
    refine rr rfl (s_iload rfl) ?_
    refine rr rfl (s_aload_n rfl) ?_
    refine rr rfl (s_getf rfl rfl) ?_
    have e9 : a_m MT [] 100000 9 miJx4a65c_size_8abf5 [.ref 3] ((hF.set 5 (.inl ((List.replicate 8 (0 : Int32)).set (Int32.toNatClampNeg x3) 3))) ++ [.inr (.inr (2, [.int x1, .int x2, .int x3, .int x4, .int x5, .int x6, .int x7, .int ((1 <<< (x4 &&& 31) : Int32) ||| (1 <<< (x5 &&& 31) : Int32)), .int (1 <<< (x6 &&& 31) : Int32), .int (-1)]))]) = some ((some (.int 0)), ((hF.set 5 (.inl ((List.replicate 8 (0 : Int32)).set (Int32.toNatClampNeg x3) 3))) ++ [.inr (.inr (2, [.int x1, .int x2, .int x3, .int x4, .int x5, .int x6, .int x7, .int ((1 <<< (x4 &&& 31) : Int32) ||| (1 <<< (x5 &&& 31) : Int32)), .int (1 <<< (x6 &&& 31) : Int32), .int (-1)]))]), 0, 0) := by
      refine me (d := 8) g_Jx4a65c_size_8abf5 (Nat.le_of_ble_eq_true rfl) ?_
      refine rr rfl (s_aload_n rfl) ?_
      refine rr rfl (s_getf rfl rfl) ?_
      exact rrt rfl rfl rfl rfl
    refine rrc rfl rfl rfl (do_of g_Jx4a65c_size_8abf5 rfl rfl e9) ?_
    refine rr rfl (s_icT (by decide)) ?_
    refine rr rfl (s_iinc (v := 3) rfl (by decide) rfl) ?_
    refine rr rfl s_goto ?_
    refine rr rfl (s_iload_n rfl) ?_
    refine rr rfl (s_ifF (by decide)) ?_
    refine rr rfl (s_iload_n rfl) ?_
    refine rr rfl (s_bipush (v := 8) (by decide)) ?_
    refine rr rfl (s_icF (by decide)) ?_
    refine rr rfl (s_aload_n rfl) ?_
    refine rr rfl (s_aload_n rfl) ?_
    have e10 : a_m MT [] 100000 9 miX3_lift [.ref 2, .ref 61] ((hF.set 5 (.inl ((List.replicate 8 (0 : Int32)).set (Int32.toNatClampNeg x3) 3))) ++ [.inr (.inr (2, [.int x1, .int x2, .int x3, .int x4, .int x5, .int x6, .int x7, .int ((1 <<< (x4 &&& 31) : Int32) ||| (1 <<< (x5 &&& 31) : Int32)), .int (1 <<< (x6 &&& 31) : Int32), .int (-1)]))]) = some ((some (.int 1)), ((hF.set 5 (.inl ((List.replicate 8 (0 : Int32)).set (Int32.toNatClampNeg x3) 4))) ++ [.inr (.inr (2, [.int x1, .int x2, .int x3, .int x4, .int x5, .int x6, .int x7, .int ((1 <<< (x4 &&& 31) : Int32) ||| (1 <<< (x5 &&& 31) : Int32)), .int (1 <<< (x6 &&& 31) : Int32), .int (-1)]))]), 0, 0) := by
      refine me (d := 8) g_X3_lift (Nat.le_of_ble_eq_true rfl) ?_
      refine rr rfl (s_aload_n rfl) ?_
      refine rr rfl (s_getf rfl rfl) ?_
      refine rr rfl (s_ifT (ic_eq g3)) ?_
      refine rr rfl (s_aload_n rfl) ?_
      refine rr rfl (s_getf rfl rfl) ?_
      refine rr rfl (s_aload_n rfl) ?_
      refine rr rfl (s_getf rfl rfl) ?_
      refine rr rfl (s_ialdN rfl g12 g4 g5 g10) ?_
      refine rr rfl (s_aload_n rfl) ?_
      refine rr rfl (s_getf rfl rfl) ?_
      refine rr rfl (s_aload_n rfl) ?_
      refine rr rfl (s_getf rfl rfl) ?_
      refine rr rfl (s_ialdH rfl g13 g10 g11) ?_
      refine rr rfl (s_max (v := 3) rfl (Nat.le_of_ble_eq_true rfl) (by decide)) ?_
      refine rr rfl (s_istore_n rfl) ?_
      refine rr rfl (s_aload_n rfl) ?_
      refine rr rfl (s_getf rfl rfl) ?_
      refine rr rfl (s_iconst (v := (-1)) (by decide)) ?_
      refine rr rfl (s_icF (ic_neq g2)) ?_
      refine rr rfl (s_iload_n rfl) ?_
      refine rr rfl (s_aload_n rfl) ?_
      refine rr rfl (s_getf rfl rfl) ?_
      refine rr rfl (s_aload_n rfl) ?_
      refine rr rfl (s_getf rfl rfl) ?_
      refine rr rfl (s_ialdH rfl g14 g10 g11) ?_
      refine rr rfl (s_iconst (v := 1) (by decide)) ?_
      refine rr rfl (s_iadd (v := 4) (by decide)) ?_
      refine rr rfl (s_max (v := 4) rfl (Nat.le_of_ble_eq_true rfl) (by decide)) ?_
      refine rr rfl (s_istore_n rfl) ?_
      refine rr rfl (s_aload_n rfl) ?_
      refine rr rfl (s_getf rfl rfl) ?_
      refine rr rfl (s_aload_n rfl) ?_
      refine rr rfl (s_getf rfl rfl) ?_
      refine rr rfl (s_ialdH rfl rfl g10 g11) ?_
      refine rr rfl (s_iload_n rfl) ?_
      refine rr rfl (s_icT (by decide)) ?_
      refine rr rfl (s_aload_n rfl) ?_
      refine rr rfl (s_getf rfl rfl) ?_
      refine rr rfl (s_aload_n rfl) ?_
      refine rr rfl (s_getf rfl rfl) ?_
      refine rr rfl (s_iload_n rfl) ?_
      refine rr rfl (s_iastH (v := 4) rfl rfl g10 g11 (Nat.le_of_ble_eq_true rfl) rfl (h' := ((hF.set 5 (.inl ((List.replicate 8 (0 : Int32)).set (Int32.toNatClampNeg x3) 4))) ++ [.inr (.inr (2, [.int x1, .int x2, .int x3, .int x4, .int x5, .int x6, .int x7, .int ((1 <<< (x4 &&& 31) : Int32) ||| (1 <<< (x5 &&& 31) : Int32)), .int (1 <<< (x6 &&& 31) : Int32), .int (-1)]))]))) ?_
      refine rr rfl (s_iconst (v := 1) (by decide)) ?_
      exact rrt rfl rfl rfl rfl
    refine rrc rfl rfl rfl (do_of g_X3_lift rfl rfl e10) ?_
    refine rr rfl (s_istore_n rfl) ?_
    refine rr rfl (s_iconst (v := 0) (by decide)) ?_
    refine rr rfl (s_istore rfl) ?_
    refine rr rfl (s_iload rfl) ?_
    refine rr rfl (s_aload_n rfl) ?_
    refine rr rfl (s_getf rfl rfl) ?_
    have e11 : a_m MT [] 100000 9 miJx4a65c_size_8abf5 [.ref 3] ((hF.set 5 (.inl ((List.replicate 8 (0 : Int32)).set (Int32.toNatClampNeg x3) 4))) ++ [.inr (.inr (2, [.int x1, .int x2, .int x3, .int x4, .int x5, .int x6, .int x7, .int ((1 <<< (x4 &&& 31) : Int32) ||| (1 <<< (x5 &&& 31) : Int32)), .int (1 <<< (x6 &&& 31) : Int32), .int (-1)]))]) = some ((some (.int 0)), ((hF.set 5 (.inl ((List.replicate 8 (0 : Int32)).set (Int32.toNatClampNeg x3) 4))) ++ [.inr (.inr (2, [.int x1, .int x2, .int x3, .int x4, .int x5, .int x6, .int x7, .int ((1 <<< (x4 &&& 31) : Int32) ||| (1 <<< (x5 &&& 31) : Int32)), .int (1 <<< (x6 &&& 31) : Int32), .int (-1)]))]), 0, 0) := by
      refine me (d := 8) g_Jx4a65c_size_8abf5 (Nat.le_of_ble_eq_true rfl) ?_
      refine rr rfl (s_aload_n rfl) ?_
      refine rr rfl (s_getf rfl rfl) ?_
      exact rrt rfl rfl rfl rfl
    refine rrc rfl rfl rfl (do_of g_Jx4a65c_size_8abf5 rfl rfl e11) ?_
    refine rr rfl (s_icT (by decide)) ?_
    refine rr rfl (s_iinc (v := 4) rfl (by decide) rfl) ?_
    refine rr rfl s_goto ?_
    refine rr rfl (s_iload_n rfl) ?_
    refine rr rfl (s_ifF (by decide)) ?_
    refine rr rfl (s_iload_n rfl) ?_
    refine rr rfl (s_bipush (v := 8) (by decide)) ?_
    refine rr rfl (s_icF (by decide)) ?_
    refine rr rfl (s_aload_n rfl) ?_
    refine rr rfl (s_aload_n rfl) ?_
    have e12 : a_m MT [] 100000 9 miX3_lift [.ref 2, .ref 61] ((hF.set 5 (.inl ((List.replicate 8 (0 : Int32)).set (Int32.toNatClampNeg x3) 4))) ++ [.inr (.inr (2, [.int x1, .int x2, .int x3, .int x4, .int x5, .int x6, .int x7, .int ((1 <<< (x4 &&& 31) : Int32) ||| (1 <<< (x5 &&& 31) : Int32)), .int (1 <<< (x6 &&& 31) : Int32), .int (-1)]))]) = some ((some (.int 1)), ((hF.set 5 (.inl ((List.replicate 8 (0 : Int32)).set (Int32.toNatClampNeg x3) 5))) ++ [.inr (.inr (2, [.int x1, .int x2, .int x3, .int x4, .int x5, .int x6, .int x7, .int ((1 <<< (x4 &&& 31) : Int32) ||| (1 <<< (x5 &&& 31) : Int32)), .int (1 <<< (x6 &&& 31) : Int32), .int (-1)]))]), 0, 0) := by
      refine me (d := 8) g_X3_lift (Nat.le_of_ble_eq_true rfl) ?_
      refine rr rfl (s_aload_n rfl) ?_
      refine rr rfl (s_getf rfl rfl) ?_
      refine rr rfl (s_ifT (ic_eq g3)) ?_
      refine rr rfl (s_aload_n rfl) ?_
      refine rr rfl (s_getf rfl rfl) ?_
      refine rr rfl (s_aload_n rfl) ?_
      refine rr rfl (s_getf rfl rfl) ?_
      refine rr rfl (s_ialdN rfl g12 g4 g5 g10) ?_
      refine rr rfl (s_aload_n rfl) ?_
      refine rr rfl (s_getf rfl rfl) ?_
      refine rr rfl (s_aload_n rfl) ?_
      refine rr rfl (s_getf rfl rfl) ?_
      refine rr rfl (s_ialdH rfl g13 g10 g11) ?_
      refine rr rfl (s_max (v := 4) rfl (Nat.le_of_ble_eq_true rfl) (by decide)) ?_
      refine rr rfl (s_istore_n rfl) ?_
      refine rr rfl (s_aload_n rfl) ?_
      refine rr rfl (s_getf rfl rfl) ?_
      refine rr rfl (s_iconst (v := (-1)) (by decide)) ?_
      refine rr rfl (s_icF (ic_neq g2)) ?_
      refine rr rfl (s_iload_n rfl) ?_
      refine rr rfl (s_aload_n rfl) ?_
      refine rr rfl (s_getf rfl rfl) ?_
      refine rr rfl (s_aload_n rfl) ?_
      refine rr rfl (s_getf rfl rfl) ?_
      refine rr rfl (s_ialdH rfl g14 g10 g11) ?_
      refine rr rfl (s_iconst (v := 1) (by decide)) ?_
      refine rr rfl (s_iadd (v := 5) (by decide)) ?_
      refine rr rfl (s_max (v := 5) rfl (Nat.le_of_ble_eq_true rfl) (by decide)) ?_
      refine rr rfl (s_istore_n rfl) ?_
      refine rr rfl (s_aload_n rfl) ?_
      refine rr rfl (s_getf rfl rfl) ?_
      refine rr rfl (s_aload_n rfl) ?_
      refine rr rfl (s_getf rfl rfl) ?_
      refine rr rfl (s_ialdH rfl rfl g10 g11) ?_
      refine rr rfl (s_iload_n rfl) ?_
      refine rr rfl (s_icT (by decide)) ?_
      refine rr rfl (s_aload_n rfl) ?_
      refine rr rfl (s_getf rfl rfl) ?_
      refine rr rfl (s_aload_n rfl) ?_
      refine rr rfl (s_getf rfl rfl) ?_
      refine rr rfl (s_iload_n rfl) ?_
      refine rr rfl (s_iastH (v := 5) rfl rfl g10 g11 (Nat.le_of_ble_eq_true rfl) rfl (h' := ((hF.set 5 (.inl ((List.replicate 8 (0 : Int32)).set (Int32.toNatClampNeg x3) 5))) ++ [.inr (.inr (2, [.int x1, .int x2, .int x3, .int x4, .int x5, .int x6, .int x7, .int ((1 <<< (x4 &&& 31) : Int32) ||| (1 <<< (x5 &&& 31) : Int32)), .int (1 <<< (x6 &&& 31) : Int32), .int (-1)]))]))) ?_
      refine rr rfl (s_iconst (v := 1) (by decide)) ?_
      exact rrt rfl rfl rfl rfl
    refine rrc rfl rfl rfl (do_of g_X3_lift rfl rfl e12) ?_
    refine rr rfl (s_istore_n rfl) ?_
    refine rr rfl (s_iconst (v := 0) (by decide)) ?_
    refine rr rfl (s_istore rfl) ?_
    refine rr rfl (s_iload rfl) ?_
    refine rr rfl (s_aload_n rfl) ?_
    refine rr rfl (s_getf rfl rfl) ?_
    have e13 : a_m MT [] 100000 9 miJx4a65c_size_8abf5 [.ref 3] ((hF.set 5 (.inl ((List.replicate 8 (0 : Int32)).set (Int32.toNatClampNeg x3) 5))) ++ [.inr (.inr (2, [.int x1, .int x2, .int x3, .int x4, .int x5, .int x6, .int x7, .int ((1 <<< (x4 &&& 31) : Int32) ||| (1 <<< (x5 &&& 31) : Int32)), .int (1 <<< (x6 &&& 31) : Int32), .int (-1)]))]) = some ((some (.int 0)), ((hF.set 5 (.inl ((List.replicate 8 (0 : Int32)).set (Int32.toNatClampNeg x3) 5))) ++ [.inr (.inr (2, [.int x1, .int x2, .int x3, .int x4, .int x5, .int x6, .int x7, .int ((1 <<< (x4 &&& 31) : Int32) ||| (1 <<< (x5 &&& 31) : Int32)), .int (1 <<< (x6 &&& 31) : Int32), .int (-1)]))]), 0, 0) := by
      refine me (d := 8) g_Jx4a65c_size_8abf5 (Nat.le_of_ble_eq_true rfl) ?_
      refine rr rfl (s_aload_n rfl) ?_
      refine rr rfl (s_getf rfl rfl) ?_
      exact rrt rfl rfl rfl rfl
    refine rrc rfl rfl rfl (do_of g_Jx4a65c_size_8abf5 rfl rfl e13) ?_
    refine rr rfl (s_icT (by decide)) ?_
    refine rr rfl (s_iinc (v := 5) rfl (by decide) rfl) ?_
    refine rr rfl s_goto ?_
    refine rr rfl (s_iload_n rfl) ?_
    refine rr rfl (s_ifF (by decide)) ?_
    refine rr rfl (s_iload_n rfl) ?_
    refine rr rfl (s_bipush (v := 8) (by decide)) ?_
    refine rr rfl (s_icF (by decide)) ?_
    refine rr rfl (s_aload_n rfl) ?_
    refine rr rfl (s_aload_n rfl) ?_
    have e14 : a_m MT [] 100000 9 miX3_lift [.ref 2, .ref 61] ((hF.set 5 (.inl ((List.replicate 8 (0 : Int32)).set (Int32.toNatClampNeg x3) 5))) ++ [.inr (.inr (2, [.int x1, .int x2, .int x3, .int x4, .int x5, .int x6, .int x7, .int ((1 <<< (x4 &&& 31) : Int32) ||| (1 <<< (x5 &&& 31) : Int32)), .int (1 <<< (x6 &&& 31) : Int32), .int (-1)]))]) = some ((some (.int 1)), ((hF.set 5 (.inl ((List.replicate 8 (0 : Int32)).set (Int32.toNatClampNeg x3) 6))) ++ [.inr (.inr (2, [.int x1, .int x2, .int x3, .int x4, .int x5, .int x6, .int x7, .int ((1 <<< (x4 &&& 31) : Int32) ||| (1 <<< (x5 &&& 31) : Int32)), .int (1 <<< (x6 &&& 31) : Int32), .int (-1)]))]), 0, 0) := by
      refine me (d := 8) g_X3_lift (Nat.le_of_ble_eq_true rfl) ?_
      refine rr rfl (s_aload_n rfl) ?_
      refine rr rfl (s_getf rfl rfl) ?_
      refine rr rfl (s_ifT (ic_eq g3)) ?_
      refine rr rfl (s_aload_n rfl) ?_
      refine rr rfl (s_getf rfl rfl) ?_
      refine rr rfl (s_aload_n rfl) ?_
      refine rr rfl (s_getf rfl rfl) ?_
      refine rr rfl (s_ialdN rfl g12 g4 g5 g10) ?_
      refine rr rfl (s_aload_n rfl) ?_
      refine rr rfl (s_getf rfl rfl) ?_
      refine rr rfl (s_aload_n rfl) ?_
      refine rr rfl (s_getf rfl rfl) ?_
      refine rr rfl (s_ialdH rfl g13 g10 g11) ?_
      refine rr rfl (s_max (v := 5) rfl (Nat.le_of_ble_eq_true rfl) (by decide)) ?_
      refine rr rfl (s_istore_n rfl) ?_
      refine rr rfl (s_aload_n rfl) ?_
      refine rr rfl (s_getf rfl rfl) ?_
      refine rr rfl (s_iconst (v := (-1)) (by decide)) ?_
      refine rr rfl (s_icF (ic_neq g2)) ?_
      refine rr rfl (s_iload_n rfl) ?_
      refine rr rfl (s_aload_n rfl) ?_
      refine rr rfl (s_getf rfl rfl) ?_
      refine rr rfl (s_aload_n rfl) ?_
      refine rr rfl (s_getf rfl rfl) ?_
      refine rr rfl (s_ialdH rfl g14 g10 g11) ?_
      refine rr rfl (s_iconst (v := 1) (by decide)) ?_
      refine rr rfl (s_iadd (v := 6) (by decide)) ?_
      refine rr rfl (s_max (v := 6) rfl (Nat.le_of_ble_eq_true rfl) (by decide)) ?_
      refine rr rfl (s_istore_n rfl) ?_
      refine rr rfl (s_aload_n rfl) ?_
      refine rr rfl (s_getf rfl rfl) ?_
      refine rr rfl (s_aload_n rfl) ?_
      refine rr rfl (s_getf rfl rfl) ?_
      refine rr rfl (s_ialdH rfl rfl g10 g11) ?_
      refine rr rfl (s_iload_n rfl) ?_
      refine rr rfl (s_icT (by decide)) ?_
      refine rr rfl (s_aload_n rfl) ?_
      refine rr rfl (s_getf rfl rfl) ?_
      refine rr rfl (s_aload_n rfl) ?_
      refine rr rfl (s_getf rfl rfl) ?_
      refine rr rfl (s_iload_n rfl) ?_
      refine rr rfl (s_iastH (v := 6) rfl rfl g10 g11 (Nat.le_of_ble_eq_true rfl) rfl (h' := ((hF.set 5 (.inl ((List.replicate 8 (0 : Int32)).set (Int32.toNatClampNeg x3) 6))) ++ [.inr (.inr (2, [.int x1, .int x2, .int x3, .int x4, .int x5, .int x6, .int x7, .int ((1 <<< (x4 &&& 31) : Int32) ||| (1 <<< (x5 &&& 31) : Int32)), .int (1 <<< (x6 &&& 31) : Int32), .int (-1)]))]))) ?_
      refine rr rfl (s_iconst (v := 1) (by decide)) ?_
      exact rrt rfl rfl rfl rfl
    refine rrc rfl rfl rfl (do_of g_X3_lift rfl rfl e14) ?_
    refine rr rfl (s_istore_n rfl) ?_
    refine rr rfl (s_iconst (v := 0) (by decide)) ?_
    refine rr rfl (s_istore rfl) ?_
    refine rr rfl (s_iload rfl) ?_
    refine rr rfl (s_aload_n rfl) ?_
    refine rr rfl (s_getf rfl rfl) ?_
    have e15 : a_m MT [] 100000 9 miJx4a65c_size_8abf5 [.ref 3] ((hF.set 5 (.inl ((List.replicate 8 (0 : Int32)).set (Int32.toNatClampNeg x3) 6))) ++ [.inr (.inr (2, [.int x1, .int x2, .int x3, .int x4, .int x5, .int x6, .int x7, .int ((1 <<< (x4 &&& 31) : Int32) ||| (1 <<< (x5 &&& 31) : Int32)), .int (1 <<< (x6 &&& 31) : Int32), .int (-1)]))]) = some ((some (.int 0)), ((hF.set 5 (.inl ((List.replicate 8 (0 : Int32)).set (Int32.toNatClampNeg x3) 6))) ++ [.inr (.inr (2, [.int x1, .int x2, .int x3, .int x4, .int x5, .int x6, .int x7, .int ((1 <<< (x4 &&& 31) : Int32) ||| (1 <<< (x5 &&& 31) : Int32)), .int (1 <<< (x6 &&& 31) : Int32), .int (-1)]))]), 0, 0) := by
      refine me (d := 8) g_Jx4a65c_size_8abf5 (Nat.le_of_ble_eq_true rfl) ?_
      refine rr rfl (s_aload_n rfl) ?_
      refine rr rfl (s_getf rfl rfl) ?_
      exact rrt rfl rfl rfl rfl
    refine rrc rfl rfl rfl (do_of g_Jx4a65c_size_8abf5 rfl rfl e15) ?_
    refine rr rfl (s_icT (by decide)) ?_
    refine rr rfl (s_iinc (v := 6) rfl (by decide) rfl) ?_
    refine rr rfl s_goto ?_
    refine rr rfl (s_iload_n rfl) ?_
    refine rr rfl (s_ifF (by decide)) ?_
    refine rr rfl (s_iload_n rfl) ?_
    refine rr rfl (s_bipush (v := 8) (by decide)) ?_
    refine rr rfl (s_icF (by decide)) ?_
    refine rr rfl (s_aload_n rfl) ?_
    refine rr rfl (s_aload_n rfl) ?_
    have e16 : a_m MT [] 100000 9 miX3_lift [.ref 2, .ref 61] ((hF.set 5 (.inl ((List.replicate 8 (0 : Int32)).set (Int32.toNatClampNeg x3) 6))) ++ [.inr (.inr (2, [.int x1, .int x2, .int x3, .int x4, .int x5, .int x6, .int x7, .int ((1 <<< (x4 &&& 31) : Int32) ||| (1 <<< (x5 &&& 31) : Int32)), .int (1 <<< (x6 &&& 31) : Int32), .int (-1)]))]) = some ((some (.int 1)), ((hF.set 5 (.inl ((List.replicate 8 (0 : Int32)).set (Int32.toNatClampNeg x3) 7))) ++ [.inr (.inr (2, [.int x1, .int x2, .int x3, .int x4, .int x5, .int x6, .int x7, .int ((1 <<< (x4 &&& 31) : Int32) ||| (1 <<< (x5 &&& 31) : Int32)), .int (1 <<< (x6 &&& 31) : Int32), .int (-1)]))]), 0, 0) := by
      refine me (d := 8) g_X3_lift (Nat.le_of_ble_eq_true rfl) ?_
      refine rr rfl (s_aload_n rfl) ?_
      refine rr rfl (s_getf rfl rfl) ?_
      refine rr rfl (s_ifT (ic_eq g3)) ?_
      refine rr rfl (s_aload_n rfl) ?_
      refine rr rfl (s_getf rfl rfl) ?_
      refine rr rfl (s_aload_n rfl) ?_
      refine rr rfl (s_getf rfl rfl) ?_
      refine rr rfl (s_ialdN rfl g12 g4 g5 g10) ?_
      refine rr rfl (s_aload_n rfl) ?_
      refine rr rfl (s_getf rfl rfl) ?_
      refine rr rfl (s_aload_n rfl) ?_
      refine rr rfl (s_getf rfl rfl) ?_
      refine rr rfl (s_ialdH rfl g13 g10 g11) ?_
      refine rr rfl (s_max (v := 6) rfl (Nat.le_of_ble_eq_true rfl) (by decide)) ?_
      refine rr rfl (s_istore_n rfl) ?_
      refine rr rfl (s_aload_n rfl) ?_
      refine rr rfl (s_getf rfl rfl) ?_
      refine rr rfl (s_iconst (v := (-1)) (by decide)) ?_
      refine rr rfl (s_icF (ic_neq g2)) ?_
      refine rr rfl (s_iload_n rfl) ?_
      refine rr rfl (s_aload_n rfl) ?_
      refine rr rfl (s_getf rfl rfl) ?_
      refine rr rfl (s_aload_n rfl) ?_
      refine rr rfl (s_getf rfl rfl) ?_
      refine rr rfl (s_ialdH rfl g14 g10 g11) ?_
      refine rr rfl (s_iconst (v := 1) (by decide)) ?_
      refine rr rfl (s_iadd (v := 7) (by decide)) ?_
      refine rr rfl (s_max (v := 7) rfl (Nat.le_of_ble_eq_true rfl) (by decide)) ?_
      refine rr rfl (s_istore_n rfl) ?_
      refine rr rfl (s_aload_n rfl) ?_
      refine rr rfl (s_getf rfl rfl) ?_
      refine rr rfl (s_aload_n rfl) ?_
      refine rr rfl (s_getf rfl rfl) ?_
      refine rr rfl (s_ialdH rfl rfl g10 g11) ?_
      refine rr rfl (s_iload_n rfl) ?_
      refine rr rfl (s_icT (by decide)) ?_
      refine rr rfl (s_aload_n rfl) ?_
      refine rr rfl (s_getf rfl rfl) ?_
      refine rr rfl (s_aload_n rfl) ?_
      refine rr rfl (s_getf rfl rfl) ?_
      refine rr rfl (s_iload_n rfl) ?_
      refine rr rfl (s_iastH (v := 7) rfl rfl g10 g11 (Nat.le_of_ble_eq_true rfl) rfl (h' := ((hF.set 5 (.inl ((List.replicate 8 (0 : Int32)).set (Int32.toNatClampNeg x3) 7))) ++ [.inr (.inr (2, [.int x1, .int x2, .int x3, .int x4, .int x5, .int x6, .int x7, .int ((1 <<< (x4 &&& 31) : Int32) ||| (1 <<< (x5 &&& 31) : Int32)), .int (1 <<< (x6 &&& 31) : Int32), .int (-1)]))]))) ?_
      refine rr rfl (s_iconst (v := 1) (by decide)) ?_
      exact rrt rfl rfl rfl rfl
    refine rrc rfl rfl rfl (do_of g_X3_lift rfl rfl e16) ?_
    refine rr rfl (s_istore_n rfl) ?_
    refine rr rfl (s_iconst (v := 0) (by decide)) ?_
    refine rr rfl (s_istore rfl) ?_
    refine rr rfl (s_iload rfl) ?_
    refine rr rfl (s_aload_n rfl) ?_
    refine rr rfl (s_getf rfl rfl) ?_
    have e17 : a_m MT [] 100000 9 miJx4a65c_size_8abf5 [.ref 3] ((hF.set 5 (.inl ((List.replicate 8 (0 : Int32)).set (Int32.toNatClampNeg x3) 7))) ++ [.inr (.inr (2, [.int x1, .int x2, .int x3, .int x4, .int x5, .int x6, .int x7, .int ((1 <<< (x4 &&& 31) : Int32) ||| (1 <<< (x5 &&& 31) : Int32)), .int (1 <<< (x6 &&& 31) : Int32), .int (-1)]))]) = some ((some (.int 0)), ((hF.set 5 (.inl ((List.replicate 8 (0 : Int32)).set (Int32.toNatClampNeg x3) 7))) ++ [.inr (.inr (2, [.int x1, .int x2, .int x3, .int x4, .int x5, .int x6, .int x7, .int ((1 <<< (x4 &&& 31) : Int32) ||| (1 <<< (x5 &&& 31) : Int32)), .int (1 <<< (x6 &&& 31) : Int32), .int (-1)]))]), 0, 0) := by
      refine me (d := 8) g_Jx4a65c_size_8abf5 (Nat.le_of_ble_eq_true rfl) ?_
      refine rr rfl (s_aload_n rfl) ?_
      refine rr rfl (s_getf rfl rfl) ?_
      exact rrt rfl rfl rfl rfl
    refine rrc rfl rfl rfl (do_of g_Jx4a65c_size_8abf5 rfl rfl e17) ?_
    refine rr rfl (s_icT (by decide)) ?_
    refine rr rfl (s_iinc (v := 7) rfl (by decide) rfl) ?_
    refine rr rfl s_goto ?_
    refine rr rfl (s_iload_n rfl) ?_
    refine rr rfl (s_ifF (by decide)) ?_
    refine rr rfl (s_iload_n rfl) ?_
    refine rr rfl (s_bipush (v := 8) (by decide)) ?_
    refine rr rfl (s_icF (by decide)) ?_
    refine rr rfl (s_aload_n rfl) ?_
    refine rr rfl (s_aload_n rfl) ?_
    have e18 : a_m MT [] 100000 9 miX3_lift [.ref 2, .ref 61] ((hF.set 5 (.inl ((List.replicate 8 (0 : Int32)).set (Int32.toNatClampNeg x3) 7))) ++ [.inr (.inr (2, [.int x1, .int x2, .int x3, .int x4, .int x5, .int x6, .int x7, .int ((1 <<< (x4 &&& 31) : Int32) ||| (1 <<< (x5 &&& 31) : Int32)), .int (1 <<< (x6 &&& 31) : Int32), .int (-1)]))]) = some ((some (.int 1)), ((hF.set 5 (.inl ((List.replicate 8 (0 : Int32)).set (Int32.toNatClampNeg x3) 8))) ++ [.inr (.inr (2, [.int x1, .int x2, .int x3, .int x4, .int x5, .int x6, .int x7, .int ((1 <<< (x4 &&& 31) : Int32) ||| (1 <<< (x5 &&& 31) : Int32)), .int (1 <<< (x6 &&& 31) : Int32), .int (-1)]))]), 0, 0) := by
      refine me (d := 8) g_X3_lift (Nat.le_of_ble_eq_true rfl) ?_
      refine rr rfl (s_aload_n rfl) ?_
      refine rr rfl (s_getf rfl rfl) ?_
      refine rr rfl (s_ifT (ic_eq g3)) ?_
      refine rr rfl (s_aload_n rfl) ?_
      refine rr rfl (s_getf rfl rfl) ?_
      refine rr rfl (s_aload_n rfl) ?_
      refine rr rfl (s_getf rfl rfl) ?_
      refine rr rfl (s_ialdN rfl g12 g4 g5 g10) ?_
      refine rr rfl (s_aload_n rfl) ?_
      refine rr rfl (s_getf rfl rfl) ?_
      refine rr rfl (s_aload_n rfl) ?_
      refine rr rfl (s_getf rfl rfl) ?_
      refine rr rfl (s_ialdH rfl g13 g10 g11) ?_
      refine rr rfl (s_max (v := 7) rfl (Nat.le_of_ble_eq_true rfl) (by decide)) ?_
      refine rr rfl (s_istore_n rfl) ?_
      refine rr rfl (s_aload_n rfl) ?_
      refine rr rfl (s_getf rfl rfl) ?_
      refine rr rfl (s_iconst (v := (-1)) (by decide)) ?_
      refine rr rfl (s_icF (ic_neq g2)) ?_
      refine rr rfl (s_iload_n rfl) ?_
      refine rr rfl (s_aload_n rfl) ?_
      refine rr rfl (s_getf rfl rfl) ?_
      refine rr rfl (s_aload_n rfl) ?_
      refine rr rfl (s_getf rfl rfl) ?_
      refine rr rfl (s_ialdH rfl g14 g10 g11) ?_
      refine rr rfl (s_iconst (v := 1) (by decide)) ?_
      refine rr rfl (s_iadd (v := 8) (by decide)) ?_
      refine rr rfl (s_max (v := 8) rfl (Nat.le_of_ble_eq_true rfl) (by decide)) ?_
      refine rr rfl (s_istore_n rfl) ?_
      refine rr rfl (s_aload_n rfl) ?_
      refine rr rfl (s_getf rfl rfl) ?_
      refine rr rfl (s_aload_n rfl) ?_
      refine rr rfl (s_getf rfl rfl) ?_
      refine rr rfl (s_ialdH rfl rfl g10 g11) ?_
      refine rr rfl (s_iload_n rfl) ?_
      refine rr rfl (s_icT (by decide)) ?_
      refine rr rfl (s_aload_n rfl) ?_
      refine rr rfl (s_getf rfl rfl) ?_
      refine rr rfl (s_aload_n rfl) ?_
      refine rr rfl (s_getf rfl rfl) ?_
      refine rr rfl (s_iload_n rfl) ?_
      refine rr rfl (s_iastH (v := 8) rfl rfl g10 g11 (Nat.le_of_ble_eq_true rfl) rfl (h' := ((hF.set 5 (.inl ((List.replicate 8 (0 : Int32)).set (Int32.toNatClampNeg x3) 8))) ++ [.inr (.inr (2, [.int x1, .int x2, .int x3, .int x4, .int x5, .int x6, .int x7, .int ((1 <<< (x4 &&& 31) : Int32) ||| (1 <<< (x5 &&& 31) : Int32)), .int (1 <<< (x6 &&& 31) : Int32), .int (-1)]))]))) ?_
      refine rr rfl (s_iconst (v := 1) (by decide)) ?_
      exact rrt rfl rfl rfl rfl
    refine rrc rfl rfl rfl (do_of g_X3_lift rfl rfl e18) ?_
    refine rr rfl (s_istore_n rfl) ?_
    refine rr rfl (s_iconst (v := 0) (by decide)) ?_
    refine rr rfl (s_istore rfl) ?_
    refine rr rfl (s_iload rfl) ?_
    refine rr rfl (s_aload_n rfl) ?_
    refine rr rfl (s_getf rfl rfl) ?_
    have e19 : a_m MT [] 100000 9 miJx4a65c_size_8abf5 [.ref 3] ((hF.set 5 (.inl ((List.replicate 8 (0 : Int32)).set (Int32.toNatClampNeg x3) 8))) ++ [.inr (.inr (2, [.int x1, .int x2, .int x3, .int x4, .int x5, .int x6, .int x7, .int ((1 <<< (x4 &&& 31) : Int32) ||| (1 <<< (x5 &&& 31) : Int32)), .int (1 <<< (x6 &&& 31) : Int32), .int (-1)]))]) = some ((some (.int 0)), ((hF.set 5 (.inl ((List.replicate 8 (0 : Int32)).set (Int32.toNatClampNeg x3) 8))) ++ [.inr (.inr (2, [.int x1, .int x2, .int x3, .int x4, .int x5, .int x6, .int x7, .int ((1 <<< (x4 &&& 31) : Int32) ||| (1 <<< (x5 &&& 31) : Int32)), .int (1 <<< (x6 &&& 31) : Int32), .int (-1)]))]), 0, 0) := by
      refine me (d := 8) g_Jx4a65c_size_8abf5 (Nat.le_of_ble_eq_true rfl) ?_
      refine rr rfl (s_aload_n rfl) ?_
      refine rr rfl (s_getf rfl rfl) ?_
      exact rrt rfl rfl rfl rfl
    refine rrc rfl rfl rfl (do_of g_Jx4a65c_size_8abf5 rfl rfl e19) ?_
    refine rr rfl (s_icT (by decide)) ?_
    refine rr rfl (s_iinc (v := 8) rfl (by decide) rfl) ?_
    refine rr rfl s_goto ?_
    refine rr rfl (s_iload_n rfl) ?_
    refine rr rfl (s_ifF (by decide)) ?_
    refine rr rfl (s_iload_n rfl) ?_
    refine rr rfl (s_bipush (v := 8) (by decide)) ?_
    refine rr rfl (s_icT (by decide)) ?_
    refine rr rfl (s_iload_n rfl) ?_
    refine rr rfl (s_ifT (by decide)) ?_
    refine rr rfl (s_iconst (v := 0) (by decide)) ?_
    exact rrt rfl rfl rfl rfl
  refine rrc rfl rfl rfl (do_of g_X3_hasLayersWith rfl rfl e2) ?_
  refine rr rfl (s_ifF (by decide)) ?_
  refine rr rfl (s_bipush (v := (-3)) (by decide)) ?_
  exact rrt rfl rfl rfl rfl
set_option maxHeartbeats 4000000 in
set_option maxRecDepth 10000 in
theorem rx_Nmhh {x1 x2 x3 x4 x5 x6 x7 : Int32} (g1 : x5 = (-1)) (g2 : ¬ x6 = (-1)) (g3 : x2 = 0) (g4 : ¬ x4 < 0) (g5 : x4 < nI 8) (g6 : ¬ x6 < 0) (g7 : x6 < nI 8) (g8 : ¬ x3 < 0) (g9 : x3 < nI 8) (g10 : x4 = x3) (g11 : x6 = x3) : a_run MT [] (a_m MT [] 100000 10) 11 (some .int) tabX8_rule 90000 140 (alR x1 x2 x3 x4 x5 x6 x7) [] hF 0 0 = some (some (.int (-3)), ((hF.set 5 (.inl ((List.replicate 8 (0 : Int32)).set (Int32.toNatClampNeg x3) 8))) ++ [.inr (.inr (2, [.int x1, .int x2, .int x3, .int x4, .int x4, .int x6, .int x7, .int ((1 <<< (x4 &&& 31) : Int32) ||| (1 <<< (x4 &&& 31) : Int32)), .int (1 <<< (x6 &&& 31) : Int32), .int (-1)]))]), 1, 10) := by
  refine rr rfl (s_new (q := 61) rfl rfl (h' := (hF ++ [.inr (.inr (2, [.int 0, .int 0, .int 0, .int 0, .int 0, .int 0, .int 0, .int 0, .int 0, .int 0]))]))) ?_
  refine rr rfl rfl ?_
  refine rr rfl (s_iload_n rfl) ?_
  refine rr rfl (s_iload_n rfl) ?_
  refine rr rfl (s_iload_n rfl) ?_
  refine rr rfl (s_iload rfl) ?_
  refine rr rfl (s_iload rfl) ?_
  refine rr rfl (s_iload rfl) ?_
  refine rr rfl (s_iload rfl) ?_
  have e1 : a_m MT [] 100000 10 miX2_init [.ref 61, .int x1, .int x2, .int x3, .int x4, .int x5, .int x6, .int x7] (hF ++ [.inr (.inr (2, [.int 0, .int 0, .int 0, .int 0, .int 0, .int 0, .int 0, .int 0, .int 0, .int 0]))]) = some (none, (hF ++ [.inr (.inr (2, [.int x1, .int x2, .int x3, .int x4, .int x4, .int x6, .int x7, .int ((1 <<< (x4 &&& 31) : Int32) ||| (1 <<< (x4 &&& 31) : Int32)), .int (1 <<< (x6 &&& 31) : Int32), .int (-1)]))]), 0, 0) := by
    refine me (d := 9) g_X2_init (Nat.le_of_ble_eq_true rfl) ?_
    refine rr rfl (s_aload_n rfl) ?_
    refine rr rfl rfl ?_
    refine rr rfl (s_aload_n rfl) ?_
    refine rr rfl (s_iconst (v := (-1)) (by decide)) ?_
    refine rr rfl (s_putf rfl rfl (Nat.le_of_ble_eq_true rfl) rfl (Nat.le_of_ble_eq_true rfl) rfl (h' := (hF ++ [.inr (.inr (2, [.int 0, .int 0, .int 0, .int 0, .int 0, .int 0, .int 0, .int 0, .int 0, .int (-1)]))]))) ?_
    refine rr rfl (s_aload_n rfl) ?_
    refine rr rfl (s_iload_n rfl) ?_
    refine rr rfl (s_putf rfl rfl (Nat.le_of_ble_eq_true rfl) rfl (Nat.le_of_ble_eq_true rfl) rfl (h' := (hF ++ [.inr (.inr (2, [.int x1, .int 0, .int 0, .int 0, .int 0, .int 0, .int 0, .int 0, .int 0, .int (-1)]))]))) ?_
    refine rr rfl (s_aload_n rfl) ?_
    refine rr rfl (s_iload_n rfl) ?_
    refine rr rfl (s_putf rfl rfl (Nat.le_of_ble_eq_true rfl) rfl (Nat.le_of_ble_eq_true rfl) rfl (h' := (hF ++ [.inr (.inr (2, [.int x1, .int x2, .int 0, .int 0, .int 0, .int 0, .int 0, .int 0, .int 0, .int (-1)]))]))) ?_
    refine rr rfl (s_aload_n rfl) ?_
    refine rr rfl (s_iload_n rfl) ?_
    refine rr rfl (s_putf rfl rfl (Nat.le_of_ble_eq_true rfl) rfl (Nat.le_of_ble_eq_true rfl) rfl (h' := (hF ++ [.inr (.inr (2, [.int x1, .int x2, .int x3, .int 0, .int 0, .int 0, .int 0, .int 0, .int 0, .int (-1)]))]))) ?_
    refine rr rfl (s_aload_n rfl) ?_
    refine rr rfl (s_iload rfl) ?_
    refine rr rfl (s_putf rfl rfl (Nat.le_of_ble_eq_true rfl) rfl (Nat.le_of_ble_eq_true rfl) rfl (h' := (hF ++ [.inr (.inr (2, [.int x1, .int x2, .int x3, .int x4, .int 0, .int 0, .int 0, .int 0, .int 0, .int (-1)]))]))) ?_
    refine rr rfl (s_aload_n rfl) ?_
    refine rr rfl (s_iload rfl) ?_
    refine rr rfl (s_iconst (v := (-1)) (by decide)) ?_
    refine rr rfl (s_icF (ic_nne g1)) ?_
    refine rr rfl (s_iload rfl) ?_
    refine rr rfl s_goto ?_
    refine rr rfl (s_putf rfl rfl (Nat.le_of_ble_eq_true rfl) rfl (Nat.le_of_ble_eq_true rfl) rfl (h' := (hF ++ [.inr (.inr (2, [.int x1, .int x2, .int x3, .int x4, .int x4, .int 0, .int 0, .int 0, .int 0, .int (-1)]))]))) ?_
    refine rr rfl (s_aload_n rfl) ?_
    refine rr rfl (s_iload rfl) ?_
    refine rr rfl (s_putf rfl rfl (Nat.le_of_ble_eq_true rfl) rfl (Nat.le_of_ble_eq_true rfl) rfl (h' := (hF ++ [.inr (.inr (2, [.int x1, .int x2, .int x3, .int x4, .int x4, .int x6, .int 0, .int 0, .int 0, .int (-1)]))]))) ?_
    refine rr rfl (s_aload_n rfl) ?_
    refine rr rfl (s_iload rfl) ?_
    refine rr rfl (s_putf rfl rfl (Nat.le_of_ble_eq_true rfl) rfl (Nat.le_of_ble_eq_true rfl) rfl (h' := (hF ++ [.inr (.inr (2, [.int x1, .int x2, .int x3, .int x4, .int x4, .int x6, .int x7, .int 0, .int 0, .int (-1)]))]))) ?_
    refine rr rfl (s_aload_n rfl) ?_
    refine rr rfl (s_iconst (v := 1) (by decide)) ?_
    refine rr rfl (s_aload_n rfl) ?_
    refine rr rfl (s_getf rfl rfl) ?_
    refine rr rfl (s_ishl (v := (1 <<< (x4 &&& 31) : Int32)) rfl) ?_
    refine rr rfl (s_iconst (v := 1) (by decide)) ?_
    refine rr rfl (s_aload_n rfl) ?_
    refine rr rfl (s_getf rfl rfl) ?_
    refine rr rfl (s_ishl (v := (1 <<< (x4 &&& 31) : Int32)) rfl) ?_
    refine rr rfl (s_ior (v := ((1 <<< (x4 &&& 31) : Int32) ||| (1 <<< (x4 &&& 31) : Int32))) rfl) ?_
    refine rr rfl (s_putf rfl rfl (Nat.le_of_ble_eq_true rfl) rfl (Nat.le_of_ble_eq_true rfl) rfl (h' := (hF ++ [.inr (.inr (2, [.int x1, .int x2, .int x3, .int x4, .int x4, .int x6, .int x7, .int ((1 <<< (x4 &&& 31) : Int32) ||| (1 <<< (x4 &&& 31) : Int32)), .int 0, .int (-1)]))]))) ?_
    refine rr rfl (s_aload_n rfl) ?_
    refine rr rfl (s_iload rfl) ?_
    refine rr rfl (s_iconst (v := (-1)) (by decide)) ?_
    refine rr rfl (s_icT (ic_ne g2)) ?_
    refine rr rfl (s_iconst (v := 1) (by decide)) ?_
    refine rr rfl (s_iload rfl) ?_
    refine rr rfl (s_ishl (v := (1 <<< (x6 &&& 31) : Int32)) rfl) ?_
    refine rr rfl (s_putf rfl rfl (Nat.le_of_ble_eq_true rfl) rfl (Nat.le_of_ble_eq_true rfl) rfl (h' := (hF ++ [.inr (.inr (2, [.int x1, .int x2, .int x3, .int x4, .int x4, .int x6, .int x7, .int ((1 <<< (x4 &&& 31) : Int32) ||| (1 <<< (x4 &&& 31) : Int32)), .int (1 <<< (x6 &&& 31) : Int32), .int (-1)]))]))) ?_
    exact rrt rfl rfl rfl rfl
  refine rrc rfl rfl rfl (do_of g_X2_init rfl rfl e1) ?_
  refine rr rfl (s_astore rfl) ?_
  refine rr rfl (s_aload_n rfl) ?_
  refine rr rfl (s_getf rfl rfl) ?_
  refine rr rfl (s_getf rfl rfl) ?_
  refine rr rfl (s_aload rfl) ?_
  have e2 : a_m MT [] 100000 10 miX3_hasLayersWith [.ref 2, .ref 61] (hF ++ [.inr (.inr (2, [.int x1, .int x2, .int x3, .int x4, .int x4, .int x6, .int x7, .int ((1 <<< (x4 &&& 31) : Int32) ||| (1 <<< (x4 &&& 31) : Int32)), .int (1 <<< (x6 &&& 31) : Int32), .int (-1)]))]) = some ((some (.int 0)), ((hF.set 5 (.inl ((List.replicate 8 (0 : Int32)).set (Int32.toNatClampNeg x3) 8))) ++ [.inr (.inr (2, [.int x1, .int x2, .int x3, .int x4, .int x4, .int x6, .int x7, .int ((1 <<< (x4 &&& 31) : Int32) ||| (1 <<< (x4 &&& 31) : Int32)), .int (1 <<< (x6 &&& 31) : Int32), .int (-1)]))]), 0, 0) := by
    refine me (d := 9) g_X3_hasLayersWith (Nat.le_of_ble_eq_true rfl) ?_
    refine rr rfl (s_aload_n rfl) ?_
    refine rr rfl (s_getf rfl rfl) ?_
    refine rr rfl (s_iconst (v := 0) (by decide)) ?_
    have e3 : a_m MT [] 100000 9 miJ7_fill_53178 [.ref 5, .int 0] (hF ++ [.inr (.inr (2, [.int x1, .int x2, .int x3, .int x4, .int x4, .int x6, .int x7, .int ((1 <<< (x4 &&& 31) : Int32) ||| (1 <<< (x4 &&& 31) : Int32)), .int (1 <<< (x6 &&& 31) : Int32), .int (-1)]))]) = some (none, (hF ++ [.inr (.inr (2, [.int x1, .int x2, .int x3, .int x4, .int x4, .int x6, .int x7, .int ((1 <<< (x4 &&& 31) : Int32) ||| (1 <<< (x4 &&& 31) : Int32)), .int (1 <<< (x6 &&& 31) : Int32), .int (-1)]))]), 0, 0) := fill_n rfl (Nat.le_of_ble_eq_true rfl) rfl
    refine rrc rfl rfl rfl (do_of g_J7_fill_53178 rfl rfl e3) ?_
    refine rr rfl (s_iconst (v := 1) (by decide)) ?_
    refine rr rfl (s_istore_n rfl) ?_
    refine rr rfl (s_iconst (v := 0) (by decide)) ?_
    refine rr rfl (s_istore_n rfl) ?_
    refine rr rfl (s_iload_n rfl) ?_
    refine rr rfl (s_ifF (by decide)) ?_
    refine rr rfl (s_iload_n rfl) ?_
    refine rr rfl (s_bipush (v := 8) (by decide)) ?_
    refine rr rfl (s_icF (by decide)) ?_
    refine rr rfl (s_aload_n rfl) ?_
    refine rr rfl (s_aload_n rfl) ?_
    have e4 : a_m MT [] 100000 9 miX3_lift [.ref 2, .ref 61] (hF ++ [.inr (.inr (2, [.int x1, .int x2, .int x3, .int x4, .int x4, .int x6, .int x7, .int ((1 <<< (x4 &&& 31) : Int32) ||| (1 <<< (x4 &&& 31) : Int32)), .int (1 <<< (x6 &&& 31) : Int32), .int (-1)]))]) = some ((some (.int 1)), ((hF.set 5 (.inl ((List.replicate 8 (0 : Int32)).set (Int32.toNatClampNeg x3) 1))) ++ [.inr (.inr (2, [.int x1, .int x2, .int x3, .int x4, .int x4, .int x6, .int x7, .int ((1 <<< (x4 &&& 31) : Int32) ||| (1 <<< (x4 &&& 31) : Int32)), .int (1 <<< (x6 &&& 31) : Int32), .int (-1)]))]), 0, 0) := by
      refine me (d := 8) g_X3_lift (Nat.le_of_ble_eq_true rfl) ?_
      refine rr rfl (s_aload_n rfl) ?_
      refine rr rfl (s_getf rfl rfl) ?_
      refine rr rfl (s_ifT (ic_eq g3)) ?_
      refine rr rfl (s_aload_n rfl) ?_
      refine rr rfl (s_getf rfl rfl) ?_
      refine rr rfl (s_aload_n rfl) ?_
      refine rr rfl (s_getf rfl rfl) ?_
      refine rr rfl (s_ialdR (n := 8) (x := 0) rfl g4 g5) ?_
      refine rr rfl (s_aload_n rfl) ?_
      refine rr rfl (s_getf rfl rfl) ?_
      refine rr rfl (s_aload_n rfl) ?_
      refine rr rfl (s_getf rfl rfl) ?_
      refine rr rfl (s_ialdR (n := 8) (x := 0) rfl g4 g5) ?_
      refine rr rfl (s_max (v := 0) rfl (Nat.le_of_ble_eq_true rfl) (by decide)) ?_
      refine rr rfl (s_istore_n rfl) ?_
      refine rr rfl (s_aload_n rfl) ?_
      refine rr rfl (s_getf rfl rfl) ?_
      refine rr rfl (s_iconst (v := (-1)) (by decide)) ?_
      refine rr rfl (s_icF (ic_neq g2)) ?_
      refine rr rfl (s_iload_n rfl) ?_
      refine rr rfl (s_aload_n rfl) ?_
      refine rr rfl (s_getf rfl rfl) ?_
      refine rr rfl (s_aload_n rfl) ?_
      refine rr rfl (s_getf rfl rfl) ?_
      refine rr rfl (s_ialdR (n := 8) (x := 0) rfl g6 g7) ?_
      refine rr rfl (s_iconst (v := 1) (by decide)) ?_
      refine rr rfl (s_iadd (v := 1) (by decide)) ?_
      refine rr rfl (s_max (v := 1) rfl (Nat.le_of_ble_eq_true rfl) (by decide)) ?_
      refine rr rfl (s_istore_n rfl) ?_
      refine rr rfl (s_aload_n rfl) ?_
      refine rr rfl (s_getf rfl rfl) ?_
      refine rr rfl (s_aload_n rfl) ?_
      refine rr rfl (s_getf rfl rfl) ?_
      refine rr rfl (s_ialdR (n := 8) (x := 0) rfl g8 g9) ?_
      refine rr rfl (s_iload_n rfl) ?_
      refine rr rfl (s_icT (by decide)) ?_
      refine rr rfl (s_aload_n rfl) ?_
      refine rr rfl (s_getf rfl rfl) ?_
      refine rr rfl (s_aload_n rfl) ?_
      refine rr rfl (s_getf rfl rfl) ?_
      refine rr rfl (s_iload_n rfl) ?_
      refine rr rfl (s_iastR (n := 8) rfl g8 g9 (Nat.le_of_ble_eq_true rfl) rfl (h' := ((hF.set 5 (.inl ((List.replicate 8 (0 : Int32)).set (Int32.toNatClampNeg x3) 1))) ++ [.inr (.inr (2, [.int x1, .int x2, .int x3, .int x4, .int x4, .int x6, .int x7, .int ((1 <<< (x4 &&& 31) : Int32) ||| (1 <<< (x4 &&& 31) : Int32)), .int (1 <<< (x6 &&& 31) : Int32), .int (-1)]))]))) ?_
      refine rr rfl (s_iconst (v := 1) (by decide)) ?_
      exact rrt rfl rfl rfl rfl
    refine rrc rfl rfl rfl (do_of g_X3_lift rfl rfl e4) ?_
    refine rr rfl (s_istore_n rfl) ?_
    refine rr rfl (s_iconst (v := 0) (by decide)) ?_
    refine rr rfl (s_istore rfl) ?_
    refine rr rfl (s_iload rfl) ?_
    refine rr rfl (s_aload_n rfl) ?_
    refine rr rfl (s_getf rfl rfl) ?_
    have e5 : a_m MT [] 100000 9 miJx4a65c_size_8abf5 [.ref 3] ((hF.set 5 (.inl ((List.replicate 8 (0 : Int32)).set (Int32.toNatClampNeg x3) 1))) ++ [.inr (.inr (2, [.int x1, .int x2, .int x3, .int x4, .int x4, .int x6, .int x7, .int ((1 <<< (x4 &&& 31) : Int32) ||| (1 <<< (x4 &&& 31) : Int32)), .int (1 <<< (x6 &&& 31) : Int32), .int (-1)]))]) = some ((some (.int 0)), ((hF.set 5 (.inl ((List.replicate 8 (0 : Int32)).set (Int32.toNatClampNeg x3) 1))) ++ [.inr (.inr (2, [.int x1, .int x2, .int x3, .int x4, .int x4, .int x6, .int x7, .int ((1 <<< (x4 &&& 31) : Int32) ||| (1 <<< (x4 &&& 31) : Int32)), .int (1 <<< (x6 &&& 31) : Int32), .int (-1)]))]), 0, 0) := by
      refine me (d := 8) g_Jx4a65c_size_8abf5 (Nat.le_of_ble_eq_true rfl) ?_
      refine rr rfl (s_aload_n rfl) ?_
      refine rr rfl (s_getf rfl rfl) ?_
      exact rrt rfl rfl rfl rfl
    refine rrc rfl rfl rfl (do_of g_Jx4a65c_size_8abf5 rfl rfl e5) ?_
    refine rr rfl (s_icT (by decide)) ?_
    refine rr rfl (s_iinc (v := 1) rfl (by decide) rfl) ?_
    refine rr rfl s_goto ?_
    refine rr rfl (s_iload_n rfl) ?_
    refine rr rfl (s_ifF (by decide)) ?_
    refine rr rfl (s_iload_n rfl) ?_
    refine rr rfl (s_bipush (v := 8) (by decide)) ?_
    refine rr rfl (s_icF (by decide)) ?_
    refine rr rfl (s_aload_n rfl) ?_
    refine rr rfl (s_aload_n rfl) ?_
    have e6 : a_m MT [] 100000 9 miX3_lift [.ref 2, .ref 61] ((hF.set 5 (.inl ((List.replicate 8 (0 : Int32)).set (Int32.toNatClampNeg x3) 1))) ++ [.inr (.inr (2, [.int x1, .int x2, .int x3, .int x4, .int x4, .int x6, .int x7, .int ((1 <<< (x4 &&& 31) : Int32) ||| (1 <<< (x4 &&& 31) : Int32)), .int (1 <<< (x6 &&& 31) : Int32), .int (-1)]))]) = some ((some (.int 1)), ((hF.set 5 (.inl ((List.replicate 8 (0 : Int32)).set (Int32.toNatClampNeg x3) 2))) ++ [.inr (.inr (2, [.int x1, .int x2, .int x3, .int x4, .int x4, .int x6, .int x7, .int ((1 <<< (x4 &&& 31) : Int32) ||| (1 <<< (x4 &&& 31) : Int32)), .int (1 <<< (x6 &&& 31) : Int32), .int (-1)]))]), 0, 0) := by
      refine me (d := 8) g_X3_lift (Nat.le_of_ble_eq_true rfl) ?_
      refine rr rfl (s_aload_n rfl) ?_
      refine rr rfl (s_getf rfl rfl) ?_
      refine rr rfl (s_ifT (ic_eq g3)) ?_
      refine rr rfl (s_aload_n rfl) ?_
      refine rr rfl (s_getf rfl rfl) ?_
      refine rr rfl (s_aload_n rfl) ?_
      refine rr rfl (s_getf rfl rfl) ?_
      refine rr rfl (s_ialdH rfl g10 g8 g9) ?_
      refine rr rfl (s_aload_n rfl) ?_
      refine rr rfl (s_getf rfl rfl) ?_
      refine rr rfl (s_aload_n rfl) ?_
      refine rr rfl (s_getf rfl rfl) ?_
      refine rr rfl (s_ialdH rfl g10 g8 g9) ?_
      refine rr rfl (s_max (v := 1) rfl (Nat.le_of_ble_eq_true rfl) (by decide)) ?_
      refine rr rfl (s_istore_n rfl) ?_
      refine rr rfl (s_aload_n rfl) ?_
      refine rr rfl (s_getf rfl rfl) ?_
      refine rr rfl (s_iconst (v := (-1)) (by decide)) ?_
      refine rr rfl (s_icF (ic_neq g2)) ?_
      refine rr rfl (s_iload_n rfl) ?_
      refine rr rfl (s_aload_n rfl) ?_
      refine rr rfl (s_getf rfl rfl) ?_
      refine rr rfl (s_aload_n rfl) ?_
      refine rr rfl (s_getf rfl rfl) ?_
      refine rr rfl (s_ialdH rfl g11 g8 g9) ?_
      refine rr rfl (s_iconst (v := 1) (by decide)) ?_
      refine rr rfl (s_iadd (v := 2) (by decide)) ?_
      refine rr rfl (s_max (v := 2) rfl (Nat.le_of_ble_eq_true rfl) (by decide)) ?_
      refine rr rfl (s_istore_n rfl) ?_
      refine rr rfl (s_aload_n rfl) ?_
      refine rr rfl (s_getf rfl rfl) ?_
      refine rr rfl (s_aload_n rfl) ?_
      refine rr rfl (s_getf rfl rfl) ?_
      refine rr rfl (s_ialdH rfl rfl g8 g9) ?_
      refine rr rfl (s_iload_n rfl) ?_
      refine rr rfl (s_icT (by decide)) ?_
      refine rr rfl (s_aload_n rfl) ?_
      refine rr rfl (s_getf rfl rfl) ?_
      refine rr rfl (s_aload_n rfl) ?_
      refine rr rfl (s_getf rfl rfl) ?_
      refine rr rfl (s_iload_n rfl) ?_
      refine rr rfl (s_iastH (v := 2) rfl rfl g8 g9 (Nat.le_of_ble_eq_true rfl) rfl (h' := ((hF.set 5 (.inl ((List.replicate 8 (0 : Int32)).set (Int32.toNatClampNeg x3) 2))) ++ [.inr (.inr (2, [.int x1, .int x2, .int x3, .int x4, .int x4, .int x6, .int x7, .int ((1 <<< (x4 &&& 31) : Int32) ||| (1 <<< (x4 &&& 31) : Int32)), .int (1 <<< (x6 &&& 31) : Int32), .int (-1)]))]))) ?_
      refine rr rfl (s_iconst (v := 1) (by decide)) ?_
      exact rrt rfl rfl rfl rfl
    refine rrc rfl rfl rfl (do_of g_X3_lift rfl rfl e6) ?_
    refine rr rfl (s_istore_n rfl) ?_
    refine rr rfl (s_iconst (v := 0) (by decide)) ?_
    refine rr rfl (s_istore rfl) ?_
    refine rr rfl (s_iload rfl) ?_
    refine rr rfl (s_aload_n rfl) ?_
    refine rr rfl (s_getf rfl rfl) ?_
    have e7 : a_m MT [] 100000 9 miJx4a65c_size_8abf5 [.ref 3] ((hF.set 5 (.inl ((List.replicate 8 (0 : Int32)).set (Int32.toNatClampNeg x3) 2))) ++ [.inr (.inr (2, [.int x1, .int x2, .int x3, .int x4, .int x4, .int x6, .int x7, .int ((1 <<< (x4 &&& 31) : Int32) ||| (1 <<< (x4 &&& 31) : Int32)), .int (1 <<< (x6 &&& 31) : Int32), .int (-1)]))]) = some ((some (.int 0)), ((hF.set 5 (.inl ((List.replicate 8 (0 : Int32)).set (Int32.toNatClampNeg x3) 2))) ++ [.inr (.inr (2, [.int x1, .int x2, .int x3, .int x4, .int x4, .int x6, .int x7, .int ((1 <<< (x4 &&& 31) : Int32) ||| (1 <<< (x4 &&& 31) : Int32)), .int (1 <<< (x6 &&& 31) : Int32), .int (-1)]))]), 0, 0) := by
      refine me (d := 8) g_Jx4a65c_size_8abf5 (Nat.le_of_ble_eq_true rfl) ?_
      refine rr rfl (s_aload_n rfl) ?_
      refine rr rfl (s_getf rfl rfl) ?_
      exact rrt rfl rfl rfl rfl
    refine rrc rfl rfl rfl (do_of g_Jx4a65c_size_8abf5 rfl rfl e7) ?_
    refine rr rfl (s_icT (by decide)) ?_
    refine rr rfl (s_iinc (v := 2) rfl (by decide) rfl) ?_
    refine rr rfl s_goto ?_
    refine rr rfl (s_iload_n rfl) ?_
    refine rr rfl (s_ifF (by decide)) ?_
    refine rr rfl (s_iload_n rfl) ?_
    refine rr rfl (s_bipush (v := 8) (by decide)) ?_
    refine rr rfl (s_icF (by decide)) ?_
    refine rr rfl (s_aload_n rfl) ?_
    refine rr rfl (s_aload_n rfl) ?_
    have e8 : a_m MT [] 100000 9 miX3_lift [.ref 2, .ref 61] ((hF.set 5 (.inl ((List.replicate 8 (0 : Int32)).set (Int32.toNatClampNeg x3) 2))) ++ [.inr (.inr (2, [.int x1, .int x2, .int x3, .int x4, .int x4, .int x6, .int x7, .int ((1 <<< (x4 &&& 31) : Int32) ||| (1 <<< (x4 &&& 31) : Int32)), .int (1 <<< (x6 &&& 31) : Int32), .int (-1)]))]) = some ((some (.int 1)), ((hF.set 5 (.inl ((List.replicate 8 (0 : Int32)).set (Int32.toNatClampNeg x3) 3))) ++ [.inr (.inr (2, [.int x1, .int x2, .int x3, .int x4, .int x4, .int x6, .int x7, .int ((1 <<< (x4 &&& 31) : Int32) ||| (1 <<< (x4 &&& 31) : Int32)), .int (1 <<< (x6 &&& 31) : Int32), .int (-1)]))]), 0, 0) := by
      refine me (d := 8) g_X3_lift (Nat.le_of_ble_eq_true rfl) ?_
      refine rr rfl (s_aload_n rfl) ?_
      refine rr rfl (s_getf rfl rfl) ?_
      refine rr rfl (s_ifT (ic_eq g3)) ?_
      refine rr rfl (s_aload_n rfl) ?_
      refine rr rfl (s_getf rfl rfl) ?_
      refine rr rfl (s_aload_n rfl) ?_
      refine rr rfl (s_getf rfl rfl) ?_
      refine rr rfl (s_ialdH rfl g10 g8 g9) ?_
      refine rr rfl (s_aload_n rfl) ?_
      refine rr rfl (s_getf rfl rfl) ?_
      refine rr rfl (s_aload_n rfl) ?_
      refine rr rfl (s_getf rfl rfl) ?_
      refine rr rfl (s_ialdH rfl g10 g8 g9) ?_
      refine rr rfl (s_max (v := 2) rfl (Nat.le_of_ble_eq_true rfl) (by decide)) ?_
      refine rr rfl (s_istore_n rfl) ?_
      refine rr rfl (s_aload_n rfl) ?_
      refine rr rfl (s_getf rfl rfl) ?_
      refine rr rfl (s_iconst (v := (-1)) (by decide)) ?_
      refine rr rfl (s_icF (ic_neq g2)) ?_
      refine rr rfl (s_iload_n rfl) ?_
      refine rr rfl (s_aload_n rfl) ?_
      refine rr rfl (s_getf rfl rfl) ?_
      refine rr rfl (s_aload_n rfl) ?_
      refine rr rfl (s_getf rfl rfl) ?_
      refine rr rfl (s_ialdH rfl g11 g8 g9) ?_
      refine rr rfl (s_iconst (v := 1) (by decide)) ?_
      refine rr rfl (s_iadd (v := 3) (by decide)) ?_
      refine rr rfl (s_max (v := 3) rfl (Nat.le_of_ble_eq_true rfl) (by decide)) ?_
      refine rr rfl (s_istore_n rfl) ?_
      refine rr rfl (s_aload_n rfl) ?_
      refine rr rfl (s_getf rfl rfl) ?_
      refine rr rfl (s_aload_n rfl) ?_
      refine rr rfl (s_getf rfl rfl) ?_
      refine rr rfl (s_ialdH rfl rfl g8 g9) ?_
      refine rr rfl (s_iload_n rfl) ?_
      refine rr rfl (s_icT (by decide)) ?_
      refine rr rfl (s_aload_n rfl) ?_
      refine rr rfl (s_getf rfl rfl) ?_
      refine rr rfl (s_aload_n rfl) ?_
      refine rr rfl (s_getf rfl rfl) ?_
      refine rr rfl (s_iload_n rfl) ?_
      refine rr rfl (s_iastH (v := 3) rfl rfl g8 g9 (Nat.le_of_ble_eq_true rfl) rfl (h' := ((hF.set 5 (.inl ((List.replicate 8 (0 : Int32)).set (Int32.toNatClampNeg x3) 3))) ++ [.inr (.inr (2, [.int x1, .int x2, .int x3, .int x4, .int x4, .int x6, .int x7, .int ((1 <<< (x4 &&& 31) : Int32) ||| (1 <<< (x4 &&& 31) : Int32)), .int (1 <<< (x6 &&& 31) : Int32), .int (-1)]))]))) ?_
      refine rr rfl (s_iconst (v := 1) (by decide)) ?_
      exact rrt rfl rfl rfl rfl
    refine rrc rfl rfl rfl (do_of g_X3_lift rfl rfl e8) ?_
    refine rr rfl (s_istore_n rfl) ?_
    refine rr rfl (s_iconst (v := 0) (by decide)) ?_
    refine rr rfl (s_istore rfl) ?_
    refine rr rfl (s_iload rfl) ?_
    refine rr rfl (s_aload_n rfl) ?_
    refine rr rfl (s_getf rfl rfl) ?_
    have e9 : a_m MT [] 100000 9 miJx4a65c_size_8abf5 [.ref 3] ((hF.set 5 (.inl ((List.replicate 8 (0 : Int32)).set (Int32.toNatClampNeg x3) 3))) ++ [.inr (.inr (2, [.int x1, .int x2, .int x3, .int x4, .int x4, .int x6, .int x7, .int ((1 <<< (x4 &&& 31) : Int32) ||| (1 <<< (x4 &&& 31) : Int32)), .int (1 <<< (x6 &&& 31) : Int32), .int (-1)]))]) = some ((some (.int 0)), ((hF.set 5 (.inl ((List.replicate 8 (0 : Int32)).set (Int32.toNatClampNeg x3) 3))) ++ [.inr (.inr (2, [.int x1, .int x2, .int x3, .int x4, .int x4, .int x6, .int x7, .int ((1 <<< (x4 &&& 31) : Int32) ||| (1 <<< (x4 &&& 31) : Int32)), .int (1 <<< (x6 &&& 31) : Int32), .int (-1)]))]), 0, 0) := by
      refine me (d := 8) g_Jx4a65c_size_8abf5 (Nat.le_of_ble_eq_true rfl) ?_
      refine rr rfl (s_aload_n rfl) ?_
      refine rr rfl (s_getf rfl rfl) ?_
      exact rrt rfl rfl rfl rfl
    refine rrc rfl rfl rfl (do_of g_Jx4a65c_size_8abf5 rfl rfl e9) ?_
    refine rr rfl (s_icT (by decide)) ?_
    refine rr rfl (s_iinc (v := 3) rfl (by decide) rfl) ?_
    refine rr rfl s_goto ?_
    refine rr rfl (s_iload_n rfl) ?_
    refine rr rfl (s_ifF (by decide)) ?_
    refine rr rfl (s_iload_n rfl) ?_
    refine rr rfl (s_bipush (v := 8) (by decide)) ?_
    refine rr rfl (s_icF (by decide)) ?_
    refine rr rfl (s_aload_n rfl) ?_
    refine rr rfl (s_aload_n rfl) ?_
    have e10 : a_m MT [] 100000 9 miX3_lift [.ref 2, .ref 61] ((hF.set 5 (.inl ((List.replicate 8 (0 : Int32)).set (Int32.toNatClampNeg x3) 3))) ++ [.inr (.inr (2, [.int x1, .int x2, .int x3, .int x4, .int x4, .int x6, .int x7, .int ((1 <<< (x4 &&& 31) : Int32) ||| (1 <<< (x4 &&& 31) : Int32)), .int (1 <<< (x6 &&& 31) : Int32), .int (-1)]))]) = some ((some (.int 1)), ((hF.set 5 (.inl ((List.replicate 8 (0 : Int32)).set (Int32.toNatClampNeg x3) 4))) ++ [.inr (.inr (2, [.int x1, .int x2, .int x3, .int x4, .int x4, .int x6, .int x7, .int ((1 <<< (x4 &&& 31) : Int32) ||| (1 <<< (x4 &&& 31) : Int32)), .int (1 <<< (x6 &&& 31) : Int32), .int (-1)]))]), 0, 0) := by
      refine me (d := 8) g_X3_lift (Nat.le_of_ble_eq_true rfl) ?_
      refine rr rfl (s_aload_n rfl) ?_
      refine rr rfl (s_getf rfl rfl) ?_
      refine rr rfl (s_ifT (ic_eq g3)) ?_
      refine rr rfl (s_aload_n rfl) ?_
      refine rr rfl (s_getf rfl rfl) ?_
      refine rr rfl (s_aload_n rfl) ?_
      refine rr rfl (s_getf rfl rfl) ?_
      refine rr rfl (s_ialdH rfl g10 g8 g9) ?_
      refine rr rfl (s_aload_n rfl) ?_
      refine rr rfl (s_getf rfl rfl) ?_
      refine rr rfl (s_aload_n rfl) ?_
      refine rr rfl (s_getf rfl rfl) ?_
      refine rr rfl (s_ialdH rfl g10 g8 g9) ?_
      refine rr rfl (s_max (v := 3) rfl (Nat.le_of_ble_eq_true rfl) (by decide)) ?_
      refine rr rfl (s_istore_n rfl) ?_
      refine rr rfl (s_aload_n rfl) ?_
      refine rr rfl (s_getf rfl rfl) ?_
      refine rr rfl (s_iconst (v := (-1)) (by decide)) ?_
      refine rr rfl (s_icF (ic_neq g2)) ?_
      refine rr rfl (s_iload_n rfl) ?_
      refine rr rfl (s_aload_n rfl) ?_
      refine rr rfl (s_getf rfl rfl) ?_
      refine rr rfl (s_aload_n rfl) ?_
      refine rr rfl (s_getf rfl rfl) ?_
      refine rr rfl (s_ialdH rfl g11 g8 g9) ?_
      refine rr rfl (s_iconst (v := 1) (by decide)) ?_
      refine rr rfl (s_iadd (v := 4) (by decide)) ?_
      refine rr rfl (s_max (v := 4) rfl (Nat.le_of_ble_eq_true rfl) (by decide)) ?_
      refine rr rfl (s_istore_n rfl) ?_
      refine rr rfl (s_aload_n rfl) ?_
      refine rr rfl (s_getf rfl rfl) ?_
      refine rr rfl (s_aload_n rfl) ?_
      refine rr rfl (s_getf rfl rfl) ?_
      refine rr rfl (s_ialdH rfl rfl g8 g9) ?_
      refine rr rfl (s_iload_n rfl) ?_
      refine rr rfl (s_icT (by decide)) ?_
      refine rr rfl (s_aload_n rfl) ?_
      refine rr rfl (s_getf rfl rfl) ?_
      refine rr rfl (s_aload_n rfl) ?_
      refine rr rfl (s_getf rfl rfl) ?_
      refine rr rfl (s_iload_n rfl) ?_
      refine rr rfl (s_iastH (v := 4) rfl rfl g8 g9 (Nat.le_of_ble_eq_true rfl) rfl (h' := ((hF.set 5 (.inl ((List.replicate 8 (0 : Int32)).set (Int32.toNatClampNeg x3) 4))) ++ [.inr (.inr (2, [.int x1, .int x2, .int x3, .int x4, .int x4, .int x6, .int x7, .int ((1 <<< (x4 &&& 31) : Int32) ||| (1 <<< (x4 &&& 31) : Int32)), .int (1 <<< (x6 &&& 31) : Int32), .int (-1)]))]))) ?_
      refine rr rfl (s_iconst (v := 1) (by decide)) ?_
      exact rrt rfl rfl rfl rfl
    refine rrc rfl rfl rfl (do_of g_X3_lift rfl rfl e10) ?_
    refine rr rfl (s_istore_n rfl) ?_
    refine rr rfl (s_iconst (v := 0) (by decide)) ?_
    refine rr rfl (s_istore rfl) ?_
    refine rr rfl (s_iload rfl) ?_
    refine rr rfl (s_aload_n rfl) ?_
    refine rr rfl (s_getf rfl rfl) ?_
    have e11 : a_m MT [] 100000 9 miJx4a65c_size_8abf5 [.ref 3] ((hF.set 5 (.inl ((List.replicate 8 (0 : Int32)).set (Int32.toNatClampNeg x3) 4))) ++ [.inr (.inr (2, [.int x1, .int x2, .int x3, .int x4, .int x4, .int x6, .int x7, .int ((1 <<< (x4 &&& 31) : Int32) ||| (1 <<< (x4 &&& 31) : Int32)), .int (1 <<< (x6 &&& 31) : Int32), .int (-1)]))]) = some ((some (.int 0)), ((hF.set 5 (.inl ((List.replicate 8 (0 : Int32)).set (Int32.toNatClampNeg x3) 4))) ++ [.inr (.inr (2, [.int x1, .int x2, .int x3, .int x4, .int x4, .int x6, .int x7, .int ((1 <<< (x4 &&& 31) : Int32) ||| (1 <<< (x4 &&& 31) : Int32)), .int (1 <<< (x6 &&& 31) : Int32), .int (-1)]))]), 0, 0) := by
      refine me (d := 8) g_Jx4a65c_size_8abf5 (Nat.le_of_ble_eq_true rfl) ?_
      refine rr rfl (s_aload_n rfl) ?_
      refine rr rfl (s_getf rfl rfl) ?_
      exact rrt rfl rfl rfl rfl
    refine rrc rfl rfl rfl (do_of g_Jx4a65c_size_8abf5 rfl rfl e11) ?_
    refine rr rfl (s_icT (by decide)) ?_
    refine rr rfl (s_iinc (v := 4) rfl (by decide) rfl) ?_
    refine rr rfl s_goto ?_
    refine rr rfl (s_iload_n rfl) ?_
    refine rr rfl (s_ifF (by decide)) ?_
    refine rr rfl (s_iload_n rfl) ?_
    refine rr rfl (s_bipush (v := 8) (by decide)) ?_
    refine rr rfl (s_icF (by decide)) ?_
    refine rr rfl (s_aload_n rfl) ?_
    refine rr rfl (s_aload_n rfl) ?_
    have e12 : a_m MT [] 100000 9 miX3_lift [.ref 2, .ref 61] ((hF.set 5 (.inl ((List.replicate 8 (0 : Int32)).set (Int32.toNatClampNeg x3) 4))) ++ [.inr (.inr (2, [.int x1, .int x2, .int x3, .int x4, .int x4, .int x6, .int x7, .int ((1 <<< (x4 &&& 31) : Int32) ||| (1 <<< (x4 &&& 31) : Int32)), .int (1 <<< (x6 &&& 31) : Int32), .int (-1)]))]) = some ((some (.int 1)), ((hF.set 5 (.inl ((List.replicate 8 (0 : Int32)).set (Int32.toNatClampNeg x3) 5))) ++ [.inr (.inr (2, [.int x1, .int x2, .int x3, .int x4, .int x4, .int x6, .int x7, .int ((1 <<< (x4 &&& 31) : Int32) ||| (1 <<< (x4 &&& 31) : Int32)), .int (1 <<< (x6 &&& 31) : Int32), .int (-1)]))]), 0, 0) := by
      refine me (d := 8) g_X3_lift (Nat.le_of_ble_eq_true rfl) ?_
      refine rr rfl (s_aload_n rfl) ?_
      refine rr rfl (s_getf rfl rfl) ?_
      refine rr rfl (s_ifT (ic_eq g3)) ?_
      refine rr rfl (s_aload_n rfl) ?_
      refine rr rfl (s_getf rfl rfl) ?_
      refine rr rfl (s_aload_n rfl) ?_
      refine rr rfl (s_getf rfl rfl) ?_
      refine rr rfl (s_ialdH rfl g10 g8 g9) ?_
      refine rr rfl (s_aload_n rfl) ?_
      refine rr rfl (s_getf rfl rfl) ?_
      refine rr rfl (s_aload_n rfl) ?_
      refine rr rfl (s_getf rfl rfl) ?_
      refine rr rfl (s_ialdH rfl g10 g8 g9) ?_
      refine rr rfl (s_max (v := 4) rfl (Nat.le_of_ble_eq_true rfl) (by decide)) ?_
      refine rr rfl (s_istore_n rfl) ?_
      refine rr rfl (s_aload_n rfl) ?_
      refine rr rfl (s_getf rfl rfl) ?_
      refine rr rfl (s_iconst (v := (-1)) (by decide)) ?_
      refine rr rfl (s_icF (ic_neq g2)) ?_
      refine rr rfl (s_iload_n rfl) ?_
      refine rr rfl (s_aload_n rfl) ?_
      refine rr rfl (s_getf rfl rfl) ?_
      refine rr rfl (s_aload_n rfl) ?_
      refine rr rfl (s_getf rfl rfl) ?_
      refine rr rfl (s_ialdH rfl g11 g8 g9) ?_
      refine rr rfl (s_iconst (v := 1) (by decide)) ?_
      refine rr rfl (s_iadd (v := 5) (by decide)) ?_
      refine rr rfl (s_max (v := 5) rfl (Nat.le_of_ble_eq_true rfl) (by decide)) ?_
      refine rr rfl (s_istore_n rfl) ?_
      refine rr rfl (s_aload_n rfl) ?_
      refine rr rfl (s_getf rfl rfl) ?_
      refine rr rfl (s_aload_n rfl) ?_
      refine rr rfl (s_getf rfl rfl) ?_
      refine rr rfl (s_ialdH rfl rfl g8 g9) ?_
      refine rr rfl (s_iload_n rfl) ?_
      refine rr rfl (s_icT (by decide)) ?_
      refine rr rfl (s_aload_n rfl) ?_
      refine rr rfl (s_getf rfl rfl) ?_
      refine rr rfl (s_aload_n rfl) ?_
      refine rr rfl (s_getf rfl rfl) ?_
      refine rr rfl (s_iload_n rfl) ?_
      refine rr rfl (s_iastH (v := 5) rfl rfl g8 g9 (Nat.le_of_ble_eq_true rfl) rfl (h' := ((hF.set 5 (.inl ((List.replicate 8 (0 : Int32)).set (Int32.toNatClampNeg x3) 5))) ++ [.inr (.inr (2, [.int x1, .int x2, .int x3, .int x4, .int x4, .int x6, .int x7, .int ((1 <<< (x4 &&& 31) : Int32) ||| (1 <<< (x4 &&& 31) : Int32)), .int (1 <<< (x6 &&& 31) : Int32), .int (-1)]))]))) ?_
      refine rr rfl (s_iconst (v := 1) (by decide)) ?_
      exact rrt rfl rfl rfl rfl
    refine rrc rfl rfl rfl (do_of g_X3_lift rfl rfl e12) ?_
    refine rr rfl (s_istore_n rfl) ?_
    refine rr rfl (s_iconst (v := 0) (by decide)) ?_
    refine rr rfl (s_istore rfl) ?_
    refine rr rfl (s_iload rfl) ?_
    refine rr rfl (s_aload_n rfl) ?_
    refine rr rfl (s_getf rfl rfl) ?_
    have e13 : a_m MT [] 100000 9 miJx4a65c_size_8abf5 [.ref 3] ((hF.set 5 (.inl ((List.replicate 8 (0 : Int32)).set (Int32.toNatClampNeg x3) 5))) ++ [.inr (.inr (2, [.int x1, .int x2, .int x3, .int x4, .int x4, .int x6, .int x7, .int ((1 <<< (x4 &&& 31) : Int32) ||| (1 <<< (x4 &&& 31) : Int32)), .int (1 <<< (x6 &&& 31) : Int32), .int (-1)]))]) = some ((some (.int 0)), ((hF.set 5 (.inl ((List.replicate 8 (0 : Int32)).set (Int32.toNatClampNeg x3) 5))) ++ [.inr (.inr (2, [.int x1, .int x2, .int x3, .int x4, .int x4, .int x6, .int x7, .int ((1 <<< (x4 &&& 31) : Int32) ||| (1 <<< (x4 &&& 31) : Int32)), .int (1 <<< (x6 &&& 31) : Int32), .int (-1)]))]), 0, 0) := by
      refine me (d := 8) g_Jx4a65c_size_8abf5 (Nat.le_of_ble_eq_true rfl) ?_
      refine rr rfl (s_aload_n rfl) ?_
      refine rr rfl (s_getf rfl rfl) ?_
      exact rrt rfl rfl rfl rfl
    refine rrc rfl rfl rfl (do_of g_Jx4a65c_size_8abf5 rfl rfl e13) ?_
    refine rr rfl (s_icT (by decide)) ?_
    refine rr rfl (s_iinc (v := 5) rfl (by decide) rfl) ?_
    refine rr rfl s_goto ?_
    refine rr rfl (s_iload_n rfl) ?_
    refine rr rfl (s_ifF (by decide)) ?_
    refine rr rfl (s_iload_n rfl) ?_
    refine rr rfl (s_bipush (v := 8) (by decide)) ?_
    refine rr rfl (s_icF (by decide)) ?_
    refine rr rfl (s_aload_n rfl) ?_
    refine rr rfl (s_aload_n rfl) ?_
    have e14 : a_m MT [] 100000 9 miX3_lift [.ref 2, .ref 61] ((hF.set 5 (.inl ((List.replicate 8 (0 : Int32)).set (Int32.toNatClampNeg x3) 5))) ++ [.inr (.inr (2, [.int x1, .int x2, .int x3, .int x4, .int x4, .int x6, .int x7, .int ((1 <<< (x4 &&& 31) : Int32) ||| (1 <<< (x4 &&& 31) : Int32)), .int (1 <<< (x6 &&& 31) : Int32), .int (-1)]))]) = some ((some (.int 1)), ((hF.set 5 (.inl ((List.replicate 8 (0 : Int32)).set (Int32.toNatClampNeg x3) 6))) ++ [.inr (.inr (2, [.int x1, .int x2, .int x3, .int x4, .int x4, .int x6, .int x7, .int ((1 <<< (x4 &&& 31) : Int32) ||| (1 <<< (x4 &&& 31) : Int32)), .int (1 <<< (x6 &&& 31) : Int32), .int (-1)]))]), 0, 0) := by
      refine me (d := 8) g_X3_lift (Nat.le_of_ble_eq_true rfl) ?_
      refine rr rfl (s_aload_n rfl) ?_
      refine rr rfl (s_getf rfl rfl) ?_
      refine rr rfl (s_ifT (ic_eq g3)) ?_
      refine rr rfl (s_aload_n rfl) ?_
      refine rr rfl (s_getf rfl rfl) ?_
      refine rr rfl (s_aload_n rfl) ?_
      refine rr rfl (s_getf rfl rfl) ?_
      refine rr rfl (s_ialdH rfl g10 g8 g9) ?_
      refine rr rfl (s_aload_n rfl) ?_
      refine rr rfl (s_getf rfl rfl) ?_
      refine rr rfl (s_aload_n rfl) ?_
      refine rr rfl (s_getf rfl rfl) ?_
      refine rr rfl (s_ialdH rfl g10 g8 g9) ?_
      refine rr rfl (s_max (v := 5) rfl (Nat.le_of_ble_eq_true rfl) (by decide)) ?_
      refine rr rfl (s_istore_n rfl) ?_
      refine rr rfl (s_aload_n rfl) ?_
      refine rr rfl (s_getf rfl rfl) ?_
      refine rr rfl (s_iconst (v := (-1)) (by decide)) ?_
      refine rr rfl (s_icF (ic_neq g2)) ?_
      refine rr rfl (s_iload_n rfl) ?_
      refine rr rfl (s_aload_n rfl) ?_
      refine rr rfl (s_getf rfl rfl) ?_
      refine rr rfl (s_aload_n rfl) ?_
      refine rr rfl (s_getf rfl rfl) ?_
      refine rr rfl (s_ialdH rfl g11 g8 g9) ?_
      refine rr rfl (s_iconst (v := 1) (by decide)) ?_
      refine rr rfl (s_iadd (v := 6) (by decide)) ?_
      refine rr rfl (s_max (v := 6) rfl (Nat.le_of_ble_eq_true rfl) (by decide)) ?_
      refine rr rfl (s_istore_n rfl) ?_
      refine rr rfl (s_aload_n rfl) ?_
      refine rr rfl (s_getf rfl rfl) ?_
      refine rr rfl (s_aload_n rfl) ?_
      refine rr rfl (s_getf rfl rfl) ?_
      refine rr rfl (s_ialdH rfl rfl g8 g9) ?_
      refine rr rfl (s_iload_n rfl) ?_
      refine rr rfl (s_icT (by decide)) ?_
      refine rr rfl (s_aload_n rfl) ?_
      refine rr rfl (s_getf rfl rfl) ?_
      refine rr rfl (s_aload_n rfl) ?_
      refine rr rfl (s_getf rfl rfl) ?_
      refine rr rfl (s_iload_n rfl) ?_
      refine rr rfl (s_iastH (v := 6) rfl rfl g8 g9 (Nat.le_of_ble_eq_true rfl) rfl (h' := ((hF.set 5 (.inl ((List.replicate 8 (0 : Int32)).set (Int32.toNatClampNeg x3) 6))) ++ [.inr (.inr (2, [.int x1, .int x2, .int x3, .int x4, .int x4, .int x6, .int x7, .int ((1 <<< (x4 &&& 31) : Int32) ||| (1 <<< (x4 &&& 31) : Int32)), .int (1 <<< (x6 &&& 31) : Int32), .int (-1)]))]))) ?_
      refine rr rfl (s_iconst (v := 1) (by decide)) ?_
      exact rrt rfl rfl rfl rfl
    refine rrc rfl rfl rfl (do_of g_X3_lift rfl rfl e14) ?_
    refine rr rfl (s_istore_n rfl) ?_
    refine rr rfl (s_iconst (v := 0) (by decide)) ?_
    refine rr rfl (s_istore rfl) ?_
    refine rr rfl (s_iload rfl) ?_
    refine rr rfl (s_aload_n rfl) ?_
    refine rr rfl (s_getf rfl rfl) ?_
    have e15 : a_m MT [] 100000 9 miJx4a65c_size_8abf5 [.ref 3] ((hF.set 5 (.inl ((List.replicate 8 (0 : Int32)).set (Int32.toNatClampNeg x3) 6))) ++ [.inr (.inr (2, [.int x1, .int x2, .int x3, .int x4, .int x4, .int x6, .int x7, .int ((1 <<< (x4 &&& 31) : Int32) ||| (1 <<< (x4 &&& 31) : Int32)), .int (1 <<< (x6 &&& 31) : Int32), .int (-1)]))]) = some ((some (.int 0)), ((hF.set 5 (.inl ((List.replicate 8 (0 : Int32)).set (Int32.toNatClampNeg x3) 6))) ++ [.inr (.inr (2, [.int x1, .int x2, .int x3, .int x4, .int x4, .int x6, .int x7, .int ((1 <<< (x4 &&& 31) : Int32) ||| (1 <<< (x4 &&& 31) : Int32)), .int (1 <<< (x6 &&& 31) : Int32), .int (-1)]))]), 0, 0) := by
      refine me (d := 8) g_Jx4a65c_size_8abf5 (Nat.le_of_ble_eq_true rfl) ?_
      refine rr rfl (s_aload_n rfl) ?_
      refine rr rfl (s_getf rfl rfl) ?_
      exact rrt rfl rfl rfl rfl
    refine rrc rfl rfl rfl (do_of g_Jx4a65c_size_8abf5 rfl rfl e15) ?_
    refine rr rfl (s_icT (by decide)) ?_
    refine rr rfl (s_iinc (v := 6) rfl (by decide) rfl) ?_
    refine rr rfl s_goto ?_
    refine rr rfl (s_iload_n rfl) ?_
    refine rr rfl (s_ifF (by decide)) ?_
    refine rr rfl (s_iload_n rfl) ?_
    refine rr rfl (s_bipush (v := 8) (by decide)) ?_
    refine rr rfl (s_icF (by decide)) ?_
    refine rr rfl (s_aload_n rfl) ?_
    refine rr rfl (s_aload_n rfl) ?_
    have e16 : a_m MT [] 100000 9 miX3_lift [.ref 2, .ref 61] ((hF.set 5 (.inl ((List.replicate 8 (0 : Int32)).set (Int32.toNatClampNeg x3) 6))) ++ [.inr (.inr (2, [.int x1, .int x2, .int x3, .int x4, .int x4, .int x6, .int x7, .int ((1 <<< (x4 &&& 31) : Int32) ||| (1 <<< (x4 &&& 31) : Int32)), .int (1 <<< (x6 &&& 31) : Int32), .int (-1)]))]) = some ((some (.int 1)), ((hF.set 5 (.inl ((List.replicate 8 (0 : Int32)).set (Int32.toNatClampNeg x3) 7))) ++ [.inr (.inr (2, [.int x1, .int x2, .int x3, .int x4, .int x4, .int x6, .int x7, .int ((1 <<< (x4 &&& 31) : Int32) ||| (1 <<< (x4 &&& 31) : Int32)), .int (1 <<< (x6 &&& 31) : Int32), .int (-1)]))]), 0, 0) := by
      refine me (d := 8) g_X3_lift (Nat.le_of_ble_eq_true rfl) ?_
      refine rr rfl (s_aload_n rfl) ?_
      refine rr rfl (s_getf rfl rfl) ?_
      refine rr rfl (s_ifT (ic_eq g3)) ?_
      refine rr rfl (s_aload_n rfl) ?_
      refine rr rfl (s_getf rfl rfl) ?_
      refine rr rfl (s_aload_n rfl) ?_
      refine rr rfl (s_getf rfl rfl) ?_
      refine rr rfl (s_ialdH rfl g10 g8 g9) ?_
      refine rr rfl (s_aload_n rfl) ?_
      refine rr rfl (s_getf rfl rfl) ?_
      refine rr rfl (s_aload_n rfl) ?_
      refine rr rfl (s_getf rfl rfl) ?_
      refine rr rfl (s_ialdH rfl g10 g8 g9) ?_
      refine rr rfl (s_max (v := 6) rfl (Nat.le_of_ble_eq_true rfl) (by decide)) ?_
      refine rr rfl (s_istore_n rfl) ?_
      refine rr rfl (s_aload_n rfl) ?_
      refine rr rfl (s_getf rfl rfl) ?_
      refine rr rfl (s_iconst (v := (-1)) (by decide)) ?_
      refine rr rfl (s_icF (ic_neq g2)) ?_
      refine rr rfl (s_iload_n rfl) ?_
      refine rr rfl (s_aload_n rfl) ?_
      refine rr rfl (s_getf rfl rfl) ?_
      refine rr rfl (s_aload_n rfl) ?_
      refine rr rfl (s_getf rfl rfl) ?_
      refine rr rfl (s_ialdH rfl g11 g8 g9) ?_
      refine rr rfl (s_iconst (v := 1) (by decide)) ?_
      refine rr rfl (s_iadd (v := 7) (by decide)) ?_
      refine rr rfl (s_max (v := 7) rfl (Nat.le_of_ble_eq_true rfl) (by decide)) ?_
      refine rr rfl (s_istore_n rfl) ?_
      refine rr rfl (s_aload_n rfl) ?_
      refine rr rfl (s_getf rfl rfl) ?_
      refine rr rfl (s_aload_n rfl) ?_
      refine rr rfl (s_getf rfl rfl) ?_
      refine rr rfl (s_ialdH rfl rfl g8 g9) ?_
      refine rr rfl (s_iload_n rfl) ?_
      refine rr rfl (s_icT (by decide)) ?_
      refine rr rfl (s_aload_n rfl) ?_
      refine rr rfl (s_getf rfl rfl) ?_
      refine rr rfl (s_aload_n rfl) ?_
      refine rr rfl (s_getf rfl rfl) ?_
      refine rr rfl (s_iload_n rfl) ?_
      refine rr rfl (s_iastH (v := 7) rfl rfl g8 g9 (Nat.le_of_ble_eq_true rfl) rfl (h' := ((hF.set 5 (.inl ((List.replicate 8 (0 : Int32)).set (Int32.toNatClampNeg x3) 7))) ++ [.inr (.inr (2, [.int x1, .int x2, .int x3, .int x4, .int x4, .int x6, .int x7, .int ((1 <<< (x4 &&& 31) : Int32) ||| (1 <<< (x4 &&& 31) : Int32)), .int (1 <<< (x6 &&& 31) : Int32), .int (-1)]))]))) ?_
      refine rr rfl (s_iconst (v := 1) (by decide)) ?_
      exact rrt rfl rfl rfl rfl
    refine rrc rfl rfl rfl (do_of g_X3_lift rfl rfl e16) ?_
    refine rr rfl (s_istore_n rfl) ?_
    refine rr rfl (s_iconst (v := 0) (by decide)) ?_
    refine rr rfl (s_istore rfl) ?_
    refine rr rfl (s_iload rfl) ?_
    refine rr rfl (s_aload_n rfl) ?_
    refine rr rfl (s_getf rfl rfl) ?_
    have e17 : a_m MT [] 100000 9 miJx4a65c_size_8abf5 [.ref 3] ((hF.set 5 (.inl ((List.replicate 8 (0 : Int32)).set (Int32.toNatClampNeg x3) 7))) ++ [.inr (.inr (2, [.int x1, .int x2, .int x3, .int x4, .int x4, .int x6, .int x7, .int ((1 <<< (x4 &&& 31) : Int32) ||| (1 <<< (x4 &&& 31) : Int32)), .int (1 <<< (x6 &&& 31) : Int32), .int (-1)]))]) = some ((some (.int 0)), ((hF.set 5 (.inl ((List.replicate 8 (0 : Int32)).set (Int32.toNatClampNeg x3) 7))) ++ [.inr (.inr (2, [.int x1, .int x2, .int x3, .int x4, .int x4, .int x6, .int x7, .int ((1 <<< (x4 &&& 31) : Int32) ||| (1 <<< (x4 &&& 31) : Int32)), .int (1 <<< (x6 &&& 31) : Int32), .int (-1)]))]), 0, 0) := by
      refine me (d := 8) g_Jx4a65c_size_8abf5 (Nat.le_of_ble_eq_true rfl) ?_
      refine rr rfl (s_aload_n rfl) ?_
      refine rr rfl (s_getf rfl rfl) ?_
      exact rrt rfl rfl rfl rfl
    refine rrc rfl rfl rfl (do_of g_Jx4a65c_size_8abf5 rfl rfl e17) ?_
    refine rr rfl (s_icT (by decide)) ?_
    refine rr rfl (s_iinc (v := 7) rfl (by decide) rfl) ?_
    refine rr rfl s_goto ?_
    refine rr rfl (s_iload_n rfl) ?_
    refine rr rfl (s_ifF (by decide)) ?_
    refine rr rfl (s_iload_n rfl) ?_
    refine rr rfl (s_bipush (v := 8) (by decide)) ?_
    refine rr rfl (s_icF (by decide)) ?_
    refine rr rfl (s_aload_n rfl) ?_
    refine rr rfl (s_aload_n rfl) ?_
    have e18 : a_m MT [] 100000 9 miX3_lift [.ref 2, .ref 61] ((hF.set 5 (.inl ((List.replicate 8 (0 : Int32)).set (Int32.toNatClampNeg x3) 7))) ++ [.inr (.inr (2, [.int x1, .int x2, .int x3, .int x4, .int x4, .int x6, .int x7, .int ((1 <<< (x4 &&& 31) : Int32) ||| (1 <<< (x4 &&& 31) : Int32)), .int (1 <<< (x6 &&& 31) : Int32), .int (-1)]))]) = some ((some (.int 1)), ((hF.set 5 (.inl ((List.replicate 8 (0 : Int32)).set (Int32.toNatClampNeg x3) 8))) ++ [.inr (.inr (2, [.int x1, .int x2, .int x3, .int x4, .int x4, .int x6, .int x7, .int ((1 <<< (x4 &&& 31) : Int32) ||| (1 <<< (x4 &&& 31) : Int32)), .int (1 <<< (x6 &&& 31) : Int32), .int (-1)]))]), 0, 0) := by
      refine me (d := 8) g_X3_lift (Nat.le_of_ble_eq_true rfl) ?_
      refine rr rfl (s_aload_n rfl) ?_
      refine rr rfl (s_getf rfl rfl) ?_
      refine rr rfl (s_ifT (ic_eq g3)) ?_
      refine rr rfl (s_aload_n rfl) ?_
      refine rr rfl (s_getf rfl rfl) ?_
      refine rr rfl (s_aload_n rfl) ?_
      refine rr rfl (s_getf rfl rfl) ?_
      refine rr rfl (s_ialdH rfl g10 g8 g9) ?_
      refine rr rfl (s_aload_n rfl) ?_
      refine rr rfl (s_getf rfl rfl) ?_
      refine rr rfl (s_aload_n rfl) ?_
      refine rr rfl (s_getf rfl rfl) ?_
      refine rr rfl (s_ialdH rfl g10 g8 g9) ?_
      refine rr rfl (s_max (v := 7) rfl (Nat.le_of_ble_eq_true rfl) (by decide)) ?_
      refine rr rfl (s_istore_n rfl) ?_
      refine rr rfl (s_aload_n rfl) ?_
      refine rr rfl (s_getf rfl rfl) ?_
      refine rr rfl (s_iconst (v := (-1)) (by decide)) ?_
      refine rr rfl (s_icF (ic_neq g2)) ?_
      refine rr rfl (s_iload_n rfl) ?_
      refine rr rfl (s_aload_n rfl) ?_
      refine rr rfl (s_getf rfl rfl) ?_
      refine rr rfl (s_aload_n rfl) ?_
      refine rr rfl (s_getf rfl rfl) ?_
      refine rr rfl (s_ialdH rfl g11 g8 g9) ?_
      refine rr rfl (s_iconst (v := 1) (by decide)) ?_
      refine rr rfl (s_iadd (v := 8) (by decide)) ?_
      refine rr rfl (s_max (v := 8) rfl (Nat.le_of_ble_eq_true rfl) (by decide)) ?_
      refine rr rfl (s_istore_n rfl) ?_
      refine rr rfl (s_aload_n rfl) ?_
      refine rr rfl (s_getf rfl rfl) ?_
      refine rr rfl (s_aload_n rfl) ?_
      refine rr rfl (s_getf rfl rfl) ?_
      refine rr rfl (s_ialdH rfl rfl g8 g9) ?_
      refine rr rfl (s_iload_n rfl) ?_
      refine rr rfl (s_icT (by decide)) ?_
      refine rr rfl (s_aload_n rfl) ?_
      refine rr rfl (s_getf rfl rfl) ?_
      refine rr rfl (s_aload_n rfl) ?_
      refine rr rfl (s_getf rfl rfl) ?_
      refine rr rfl (s_iload_n rfl) ?_
      refine rr rfl (s_iastH (v := 8) rfl rfl g8 g9 (Nat.le_of_ble_eq_true rfl) rfl (h' := ((hF.set 5 (.inl ((List.replicate 8 (0 : Int32)).set (Int32.toNatClampNeg x3) 8))) ++ [.inr (.inr (2, [.int x1, .int x2, .int x3, .int x4, .int x4, .int x6, .int x7, .int ((1 <<< (x4 &&& 31) : Int32) ||| (1 <<< (x4 &&& 31) : Int32)), .int (1 <<< (x6 &&& 31) : Int32), .int (-1)]))]))) ?_
      refine rr rfl (s_iconst (v := 1) (by decide)) ?_
      exact rrt rfl rfl rfl rfl
    refine rrc rfl rfl rfl (do_of g_X3_lift rfl rfl e18) ?_
    refine rr rfl (s_istore_n rfl) ?_
    refine rr rfl (s_iconst (v := 0) (by decide)) ?_
    refine rr rfl (s_istore rfl) ?_
    refine rr rfl (s_iload rfl) ?_
    refine rr rfl (s_aload_n rfl) ?_
    refine rr rfl (s_getf rfl rfl) ?_
    have e19 : a_m MT [] 100000 9 miJx4a65c_size_8abf5 [.ref 3] ((hF.set 5 (.inl ((List.replicate 8 (0 : Int32)).set (Int32.toNatClampNeg x3) 8))) ++ [.inr (.inr (2, [.int x1, .int x2, .int x3, .int x4, .int x4, .int x6, .int x7, .int ((1 <<< (x4 &&& 31) : Int32) ||| (1 <<< (x4 &&& 31) : Int32)), .int (1 <<< (x6 &&& 31) : Int32), .int (-1)]))]) = some ((some (.int 0)), ((hF.set 5 (.inl ((List.replicate 8 (0 : Int32)).set (Int32.toNatClampNeg x3) 8))) ++ [.inr (.inr (2, [.int x1, .int x2, .int x3, .int x4, .int x4, .int x6, .int x7, .int ((1 <<< (x4 &&& 31) : Int32) ||| (1 <<< (x4 &&& 31) : Int32)), .int (1 <<< (x6 &&& 31) : Int32), .int (-1)]))]), 0, 0) := by
      refine me (d := 8) g_Jx4a65c_size_8abf5 (Nat.le_of_ble_eq_true rfl) ?_
      refine rr rfl (s_aload_n rfl) ?_
      refine rr rfl (s_getf rfl rfl) ?_
      exact rrt rfl rfl rfl rfl
    refine rrc rfl rfl rfl (do_of g_Jx4a65c_size_8abf5 rfl rfl e19) ?_
    refine rr rfl (s_icT (by decide)) ?_
    refine rr rfl (s_iinc (v := 8) rfl (by decide) rfl) ?_
    refine rr rfl s_goto ?_
    refine rr rfl (s_iload_n rfl) ?_
    refine rr rfl (s_ifF (by decide)) ?_
    refine rr rfl (s_iload_n rfl) ?_
    refine rr rfl (s_bipush (v := 8) (by decide)) ?_
    refine rr rfl (s_icT (by decide)) ?_
    refine rr rfl (s_iload_n rfl) ?_
    refine rr rfl (s_ifT (by decide)) ?_
    refine rr rfl (s_iconst (v := 0) (by decide)) ?_
    exact rrt rfl rfl rfl rfl
  refine rrc rfl rfl rfl (do_of g_X3_hasLayersWith rfl rfl e2) ?_
  refine rr rfl (s_ifF (by decide)) ?_
  refine rr rfl (s_bipush (v := (-3)) (by decide)) ?_
  exact rrt rfl rfl rfl rfl
set_option maxHeartbeats 4000000 in
set_option maxRecDepth 10000 in
theorem rx_Nohh {x1 x2 x3 x4 x5 x6 x7 : Int32} (g1 : ¬ x5 = (-1)) (g2 : ¬ x6 = (-1)) (g3 : x2 = 0) (g4 : ¬ x4 < 0) (g5 : x4 < nI 8) (g6 : ¬ x5 < 0) (g7 : x5 < nI 8) (g8 : ¬ x6 < 0) (g9 : x6 < nI 8) (g10 : ¬ x3 < 0) (g11 : x3 < nI 8) (g12 : x4 = x3) (g13 : ¬ x5 = x3) (g14 : x6 = x3) : a_run MT [] (a_m MT [] 100000 10) 11 (some .int) tabX8_rule 90000 140 (alR x1 x2 x3 x4 x5 x6 x7) [] hF 0 0 = some (some (.int (-3)), ((hF.set 5 (.inl ((List.replicate 8 (0 : Int32)).set (Int32.toNatClampNeg x3) 8))) ++ [.inr (.inr (2, [.int x1, .int x2, .int x3, .int x4, .int x5, .int x6, .int x7, .int ((1 <<< (x4 &&& 31) : Int32) ||| (1 <<< (x5 &&& 31) : Int32)), .int (1 <<< (x6 &&& 31) : Int32), .int (-1)]))]), 1, 10) := by
  refine rr rfl (s_new (q := 61) rfl rfl (h' := (hF ++ [.inr (.inr (2, [.int 0, .int 0, .int 0, .int 0, .int 0, .int 0, .int 0, .int 0, .int 0, .int 0]))]))) ?_
  refine rr rfl rfl ?_
  refine rr rfl (s_iload_n rfl) ?_
  refine rr rfl (s_iload_n rfl) ?_
  refine rr rfl (s_iload_n rfl) ?_
  refine rr rfl (s_iload rfl) ?_
  refine rr rfl (s_iload rfl) ?_
  refine rr rfl (s_iload rfl) ?_
  refine rr rfl (s_iload rfl) ?_
  have e1 : a_m MT [] 100000 10 miX2_init [.ref 61, .int x1, .int x2, .int x3, .int x4, .int x5, .int x6, .int x7] (hF ++ [.inr (.inr (2, [.int 0, .int 0, .int 0, .int 0, .int 0, .int 0, .int 0, .int 0, .int 0, .int 0]))]) = some (none, (hF ++ [.inr (.inr (2, [.int x1, .int x2, .int x3, .int x4, .int x5, .int x6, .int x7, .int ((1 <<< (x4 &&& 31) : Int32) ||| (1 <<< (x5 &&& 31) : Int32)), .int (1 <<< (x6 &&& 31) : Int32), .int (-1)]))]), 0, 0) := by
    refine me (d := 9) g_X2_init (Nat.le_of_ble_eq_true rfl) ?_
    refine rr rfl (s_aload_n rfl) ?_
    refine rr rfl rfl ?_
    refine rr rfl (s_aload_n rfl) ?_
    refine rr rfl (s_iconst (v := (-1)) (by decide)) ?_
    refine rr rfl (s_putf rfl rfl (Nat.le_of_ble_eq_true rfl) rfl (Nat.le_of_ble_eq_true rfl) rfl (h' := (hF ++ [.inr (.inr (2, [.int 0, .int 0, .int 0, .int 0, .int 0, .int 0, .int 0, .int 0, .int 0, .int (-1)]))]))) ?_
    refine rr rfl (s_aload_n rfl) ?_
    refine rr rfl (s_iload_n rfl) ?_
    refine rr rfl (s_putf rfl rfl (Nat.le_of_ble_eq_true rfl) rfl (Nat.le_of_ble_eq_true rfl) rfl (h' := (hF ++ [.inr (.inr (2, [.int x1, .int 0, .int 0, .int 0, .int 0, .int 0, .int 0, .int 0, .int 0, .int (-1)]))]))) ?_
    refine rr rfl (s_aload_n rfl) ?_
    refine rr rfl (s_iload_n rfl) ?_
    refine rr rfl (s_putf rfl rfl (Nat.le_of_ble_eq_true rfl) rfl (Nat.le_of_ble_eq_true rfl) rfl (h' := (hF ++ [.inr (.inr (2, [.int x1, .int x2, .int 0, .int 0, .int 0, .int 0, .int 0, .int 0, .int 0, .int (-1)]))]))) ?_
    refine rr rfl (s_aload_n rfl) ?_
    refine rr rfl (s_iload_n rfl) ?_
    refine rr rfl (s_putf rfl rfl (Nat.le_of_ble_eq_true rfl) rfl (Nat.le_of_ble_eq_true rfl) rfl (h' := (hF ++ [.inr (.inr (2, [.int x1, .int x2, .int x3, .int 0, .int 0, .int 0, .int 0, .int 0, .int 0, .int (-1)]))]))) ?_
    refine rr rfl (s_aload_n rfl) ?_
    refine rr rfl (s_iload rfl) ?_
    refine rr rfl (s_putf rfl rfl (Nat.le_of_ble_eq_true rfl) rfl (Nat.le_of_ble_eq_true rfl) rfl (h' := (hF ++ [.inr (.inr (2, [.int x1, .int x2, .int x3, .int x4, .int 0, .int 0, .int 0, .int 0, .int 0, .int (-1)]))]))) ?_
    refine rr rfl (s_aload_n rfl) ?_
    refine rr rfl (s_iload rfl) ?_
    refine rr rfl (s_iconst (v := (-1)) (by decide)) ?_
    refine rr rfl (s_icT (ic_ne g1)) ?_
    refine rr rfl (s_iload rfl) ?_
    refine rr rfl (s_putf rfl rfl (Nat.le_of_ble_eq_true rfl) rfl (Nat.le_of_ble_eq_true rfl) rfl (h' := (hF ++ [.inr (.inr (2, [.int x1, .int x2, .int x3, .int x4, .int x5, .int 0, .int 0, .int 0, .int 0, .int (-1)]))]))) ?_
    refine rr rfl (s_aload_n rfl) ?_
    refine rr rfl (s_iload rfl) ?_
    refine rr rfl (s_putf rfl rfl (Nat.le_of_ble_eq_true rfl) rfl (Nat.le_of_ble_eq_true rfl) rfl (h' := (hF ++ [.inr (.inr (2, [.int x1, .int x2, .int x3, .int x4, .int x5, .int x6, .int 0, .int 0, .int 0, .int (-1)]))]))) ?_
    refine rr rfl (s_aload_n rfl) ?_
    refine rr rfl (s_iload rfl) ?_
    refine rr rfl (s_putf rfl rfl (Nat.le_of_ble_eq_true rfl) rfl (Nat.le_of_ble_eq_true rfl) rfl (h' := (hF ++ [.inr (.inr (2, [.int x1, .int x2, .int x3, .int x4, .int x5, .int x6, .int x7, .int 0, .int 0, .int (-1)]))]))) ?_
    refine rr rfl (s_aload_n rfl) ?_
    refine rr rfl (s_iconst (v := 1) (by decide)) ?_
    refine rr rfl (s_aload_n rfl) ?_
    refine rr rfl (s_getf rfl rfl) ?_
    refine rr rfl (s_ishl (v := (1 <<< (x4 &&& 31) : Int32)) rfl) ?_
    refine rr rfl (s_iconst (v := 1) (by decide)) ?_
    refine rr rfl (s_aload_n rfl) ?_
    refine rr rfl (s_getf rfl rfl) ?_
    refine rr rfl (s_ishl (v := (1 <<< (x5 &&& 31) : Int32)) rfl) ?_
    refine rr rfl (s_ior (v := ((1 <<< (x4 &&& 31) : Int32) ||| (1 <<< (x5 &&& 31) : Int32))) rfl) ?_
    refine rr rfl (s_putf rfl rfl (Nat.le_of_ble_eq_true rfl) rfl (Nat.le_of_ble_eq_true rfl) rfl (h' := (hF ++ [.inr (.inr (2, [.int x1, .int x2, .int x3, .int x4, .int x5, .int x6, .int x7, .int ((1 <<< (x4 &&& 31) : Int32) ||| (1 <<< (x5 &&& 31) : Int32)), .int 0, .int (-1)]))]))) ?_
    refine rr rfl (s_aload_n rfl) ?_
    refine rr rfl (s_iload rfl) ?_
    refine rr rfl (s_iconst (v := (-1)) (by decide)) ?_
    refine rr rfl (s_icT (ic_ne g2)) ?_
    refine rr rfl (s_iconst (v := 1) (by decide)) ?_
    refine rr rfl (s_iload rfl) ?_
    refine rr rfl (s_ishl (v := (1 <<< (x6 &&& 31) : Int32)) rfl) ?_
    refine rr rfl (s_putf rfl rfl (Nat.le_of_ble_eq_true rfl) rfl (Nat.le_of_ble_eq_true rfl) rfl (h' := (hF ++ [.inr (.inr (2, [.int x1, .int x2, .int x3, .int x4, .int x5, .int x6, .int x7, .int ((1 <<< (x4 &&& 31) : Int32) ||| (1 <<< (x5 &&& 31) : Int32)), .int (1 <<< (x6 &&& 31) : Int32), .int (-1)]))]))) ?_
    exact rrt rfl rfl rfl rfl
  refine rrc rfl rfl rfl (do_of g_X2_init rfl rfl e1) ?_
  refine rr rfl (s_astore rfl) ?_
  refine rr rfl (s_aload_n rfl) ?_
  refine rr rfl (s_getf rfl rfl) ?_
  refine rr rfl (s_getf rfl rfl) ?_
  refine rr rfl (s_aload rfl) ?_
  have e2 : a_m MT [] 100000 10 miX3_hasLayersWith [.ref 2, .ref 61] (hF ++ [.inr (.inr (2, [.int x1, .int x2, .int x3, .int x4, .int x5, .int x6, .int x7, .int ((1 <<< (x4 &&& 31) : Int32) ||| (1 <<< (x5 &&& 31) : Int32)), .int (1 <<< (x6 &&& 31) : Int32), .int (-1)]))]) = some ((some (.int 0)), ((hF.set 5 (.inl ((List.replicate 8 (0 : Int32)).set (Int32.toNatClampNeg x3) 8))) ++ [.inr (.inr (2, [.int x1, .int x2, .int x3, .int x4, .int x5, .int x6, .int x7, .int ((1 <<< (x4 &&& 31) : Int32) ||| (1 <<< (x5 &&& 31) : Int32)), .int (1 <<< (x6 &&& 31) : Int32), .int (-1)]))]), 0, 0) := by
    refine me (d := 9) g_X3_hasLayersWith (Nat.le_of_ble_eq_true rfl) ?_
    refine rr rfl (s_aload_n rfl) ?_
    refine rr rfl (s_getf rfl rfl) ?_
    refine rr rfl (s_iconst (v := 0) (by decide)) ?_
    have e3 : a_m MT [] 100000 9 miJ7_fill_53178 [.ref 5, .int 0] (hF ++ [.inr (.inr (2, [.int x1, .int x2, .int x3, .int x4, .int x5, .int x6, .int x7, .int ((1 <<< (x4 &&& 31) : Int32) ||| (1 <<< (x5 &&& 31) : Int32)), .int (1 <<< (x6 &&& 31) : Int32), .int (-1)]))]) = some (none, (hF ++ [.inr (.inr (2, [.int x1, .int x2, .int x3, .int x4, .int x5, .int x6, .int x7, .int ((1 <<< (x4 &&& 31) : Int32) ||| (1 <<< (x5 &&& 31) : Int32)), .int (1 <<< (x6 &&& 31) : Int32), .int (-1)]))]), 0, 0) := fill_n rfl (Nat.le_of_ble_eq_true rfl) rfl
    refine rrc rfl rfl rfl (do_of g_J7_fill_53178 rfl rfl e3) ?_
    refine rr rfl (s_iconst (v := 1) (by decide)) ?_
    refine rr rfl (s_istore_n rfl) ?_
    refine rr rfl (s_iconst (v := 0) (by decide)) ?_
    refine rr rfl (s_istore_n rfl) ?_
    refine rr rfl (s_iload_n rfl) ?_
    refine rr rfl (s_ifF (by decide)) ?_
    refine rr rfl (s_iload_n rfl) ?_
    refine rr rfl (s_bipush (v := 8) (by decide)) ?_
    refine rr rfl (s_icF (by decide)) ?_
    refine rr rfl (s_aload_n rfl) ?_
    refine rr rfl (s_aload_n rfl) ?_
    have e4 : a_m MT [] 100000 9 miX3_lift [.ref 2, .ref 61] (hF ++ [.inr (.inr (2, [.int x1, .int x2, .int x3, .int x4, .int x5, .int x6, .int x7, .int ((1 <<< (x4 &&& 31) : Int32) ||| (1 <<< (x5 &&& 31) : Int32)), .int (1 <<< (x6 &&& 31) : Int32), .int (-1)]))]) = some ((some (.int 1)), ((hF.set 5 (.inl ((List.replicate 8 (0 : Int32)).set (Int32.toNatClampNeg x3) 1))) ++ [.inr (.inr (2, [.int x1, .int x2, .int x3, .int x4, .int x5, .int x6, .int x7, .int ((1 <<< (x4 &&& 31) : Int32) ||| (1 <<< (x5 &&& 31) : Int32)), .int (1 <<< (x6 &&& 31) : Int32), .int (-1)]))]), 0, 0) := by
      refine me (d := 8) g_X3_lift (Nat.le_of_ble_eq_true rfl) ?_
      refine rr rfl (s_aload_n rfl) ?_
      refine rr rfl (s_getf rfl rfl) ?_
      refine rr rfl (s_ifT (ic_eq g3)) ?_
      refine rr rfl (s_aload_n rfl) ?_
      refine rr rfl (s_getf rfl rfl) ?_
      refine rr rfl (s_aload_n rfl) ?_
      refine rr rfl (s_getf rfl rfl) ?_
      refine rr rfl (s_ialdR (n := 8) (x := 0) rfl g4 g5) ?_
      refine rr rfl (s_aload_n rfl) ?_
      refine rr rfl (s_getf rfl rfl) ?_
      refine rr rfl (s_aload_n rfl) ?_
      refine rr rfl (s_getf rfl rfl) ?_
      refine rr rfl (s_ialdR (n := 8) (x := 0) rfl g6 g7) ?_
      refine rr rfl (s_max (v := 0) rfl (Nat.le_of_ble_eq_true rfl) (by decide)) ?_
      refine rr rfl (s_istore_n rfl) ?_
      refine rr rfl (s_aload_n rfl) ?_
      refine rr rfl (s_getf rfl rfl) ?_
      refine rr rfl (s_iconst (v := (-1)) (by decide)) ?_
      refine rr rfl (s_icF (ic_neq g2)) ?_
      refine rr rfl (s_iload_n rfl) ?_
      refine rr rfl (s_aload_n rfl) ?_
      refine rr rfl (s_getf rfl rfl) ?_
      refine rr rfl (s_aload_n rfl) ?_
      refine rr rfl (s_getf rfl rfl) ?_
      refine rr rfl (s_ialdR (n := 8) (x := 0) rfl g8 g9) ?_
      refine rr rfl (s_iconst (v := 1) (by decide)) ?_
      refine rr rfl (s_iadd (v := 1) (by decide)) ?_
      refine rr rfl (s_max (v := 1) rfl (Nat.le_of_ble_eq_true rfl) (by decide)) ?_
      refine rr rfl (s_istore_n rfl) ?_
      refine rr rfl (s_aload_n rfl) ?_
      refine rr rfl (s_getf rfl rfl) ?_
      refine rr rfl (s_aload_n rfl) ?_
      refine rr rfl (s_getf rfl rfl) ?_
      refine rr rfl (s_ialdR (n := 8) (x := 0) rfl g10 g11) ?_
      refine rr rfl (s_iload_n rfl) ?_
      refine rr rfl (s_icT (by decide)) ?_
      refine rr rfl (s_aload_n rfl) ?_
      refine rr rfl (s_getf rfl rfl) ?_
      refine rr rfl (s_aload_n rfl) ?_
      refine rr rfl (s_getf rfl rfl) ?_
      refine rr rfl (s_iload_n rfl) ?_
      refine rr rfl (s_iastR (n := 8) rfl g10 g11 (Nat.le_of_ble_eq_true rfl) rfl (h' := ((hF.set 5 (.inl ((List.replicate 8 (0 : Int32)).set (Int32.toNatClampNeg x3) 1))) ++ [.inr (.inr (2, [.int x1, .int x2, .int x3, .int x4, .int x5, .int x6, .int x7, .int ((1 <<< (x4 &&& 31) : Int32) ||| (1 <<< (x5 &&& 31) : Int32)), .int (1 <<< (x6 &&& 31) : Int32), .int (-1)]))]))) ?_
      refine rr rfl (s_iconst (v := 1) (by decide)) ?_
      exact rrt rfl rfl rfl rfl
    refine rrc rfl rfl rfl (do_of g_X3_lift rfl rfl e4) ?_
    refine rr rfl (s_istore_n rfl) ?_
    refine rr rfl (s_iconst (v := 0) (by decide)) ?_
    refine rr rfl (s_istore rfl) ?_
    refine rr rfl (s_iload rfl) ?_
    refine rr rfl (s_aload_n rfl) ?_
    refine rr rfl (s_getf rfl rfl) ?_
    have e5 : a_m MT [] 100000 9 miJx4a65c_size_8abf5 [.ref 3] ((hF.set 5 (.inl ((List.replicate 8 (0 : Int32)).set (Int32.toNatClampNeg x3) 1))) ++ [.inr (.inr (2, [.int x1, .int x2, .int x3, .int x4, .int x5, .int x6, .int x7, .int ((1 <<< (x4 &&& 31) : Int32) ||| (1 <<< (x5 &&& 31) : Int32)), .int (1 <<< (x6 &&& 31) : Int32), .int (-1)]))]) = some ((some (.int 0)), ((hF.set 5 (.inl ((List.replicate 8 (0 : Int32)).set (Int32.toNatClampNeg x3) 1))) ++ [.inr (.inr (2, [.int x1, .int x2, .int x3, .int x4, .int x5, .int x6, .int x7, .int ((1 <<< (x4 &&& 31) : Int32) ||| (1 <<< (x5 &&& 31) : Int32)), .int (1 <<< (x6 &&& 31) : Int32), .int (-1)]))]), 0, 0) := by
      refine me (d := 8) g_Jx4a65c_size_8abf5 (Nat.le_of_ble_eq_true rfl) ?_
      refine rr rfl (s_aload_n rfl) ?_
      refine rr rfl (s_getf rfl rfl) ?_
      exact rrt rfl rfl rfl rfl
    refine rrc rfl rfl rfl (do_of g_Jx4a65c_size_8abf5 rfl rfl e5) ?_
    refine rr rfl (s_icT (by decide)) ?_
    refine rr rfl (s_iinc (v := 1) rfl (by decide) rfl) ?_
    refine rr rfl s_goto ?_
    refine rr rfl (s_iload_n rfl) ?_
    refine rr rfl (s_ifF (by decide)) ?_
    refine rr rfl (s_iload_n rfl) ?_
    refine rr rfl (s_bipush (v := 8) (by decide)) ?_
    refine rr rfl (s_icF (by decide)) ?_
    refine rr rfl (s_aload_n rfl) ?_
    refine rr rfl (s_aload_n rfl) ?_
    have e6 : a_m MT [] 100000 9 miX3_lift [.ref 2, .ref 61] ((hF.set 5 (.inl ((List.replicate 8 (0 : Int32)).set (Int32.toNatClampNeg x3) 1))) ++ [.inr (.inr (2, [.int x1, .int x2, .int x3, .int x4, .int x5, .int x6, .int x7, .int ((1 <<< (x4 &&& 31) : Int32) ||| (1 <<< (x5 &&& 31) : Int32)), .int (1 <<< (x6 &&& 31) : Int32), .int (-1)]))]) = some ((some (.int 1)), ((hF.set 5 (.inl ((List.replicate 8 (0 : Int32)).set (Int32.toNatClampNeg x3) 2))) ++ [.inr (.inr (2, [.int x1, .int x2, .int x3, .int x4, .int x5, .int x6, .int x7, .int ((1 <<< (x4 &&& 31) : Int32) ||| (1 <<< (x5 &&& 31) : Int32)), .int (1 <<< (x6 &&& 31) : Int32), .int (-1)]))]), 0, 0) := by
      refine me (d := 8) g_X3_lift (Nat.le_of_ble_eq_true rfl) ?_
      refine rr rfl (s_aload_n rfl) ?_
      refine rr rfl (s_getf rfl rfl) ?_
      refine rr rfl (s_ifT (ic_eq g3)) ?_
      refine rr rfl (s_aload_n rfl) ?_
      refine rr rfl (s_getf rfl rfl) ?_
      refine rr rfl (s_aload_n rfl) ?_
      refine rr rfl (s_getf rfl rfl) ?_
      refine rr rfl (s_ialdH rfl g12 g10 g11) ?_
      refine rr rfl (s_aload_n rfl) ?_
      refine rr rfl (s_getf rfl rfl) ?_
      refine rr rfl (s_aload_n rfl) ?_
      refine rr rfl (s_getf rfl rfl) ?_
      refine rr rfl (s_ialdN rfl g13 g6 g7 g10) ?_
      refine rr rfl (s_max (v := 1) rfl (Nat.le_of_ble_eq_true rfl) (by decide)) ?_
      refine rr rfl (s_istore_n rfl) ?_
      refine rr rfl (s_aload_n rfl) ?_
      refine rr rfl (s_getf rfl rfl) ?_
      refine rr rfl (s_iconst (v := (-1)) (by decide)) ?_
      refine rr rfl (s_icF (ic_neq g2)) ?_
      refine rr rfl (s_iload_n rfl) ?_
      refine rr rfl (s_aload_n rfl) ?_
      refine rr rfl (s_getf rfl rfl) ?_
      refine rr rfl (s_aload_n rfl) ?_
      refine rr rfl (s_getf rfl rfl) ?_
      refine rr rfl (s_ialdH rfl g14 g10 g11) ?_
      refine rr rfl (s_iconst (v := 1) (by decide)) ?_
      refine rr rfl (s_iadd (v := 2) (by decide)) ?_
      refine rr rfl (s_max (v := 2) rfl (Nat.le_of_ble_eq_true rfl) (by decide)) ?_
      refine rr rfl (s_istore_n rfl) ?_
      refine rr rfl (s_aload_n rfl) ?_
      refine rr rfl (s_getf rfl rfl) ?_
      refine rr rfl (s_aload_n rfl) ?_
      refine rr rfl (s_getf rfl rfl) ?_
      refine rr rfl (s_ialdH rfl rfl g10 g11) ?_
      refine rr rfl (s_iload_n rfl) ?_
      refine rr rfl (s_icT (by decide)) ?_
      refine rr rfl (s_aload_n rfl) ?_
      refine rr rfl (s_getf rfl rfl) ?_
      refine rr rfl (s_aload_n rfl) ?_
      refine rr rfl (s_getf rfl rfl) ?_
      refine rr rfl (s_iload_n rfl) ?_
      refine rr rfl (s_iastH (v := 2) rfl rfl g10 g11 (Nat.le_of_ble_eq_true rfl) rfl (h' := ((hF.set 5 (.inl ((List.replicate 8 (0 : Int32)).set (Int32.toNatClampNeg x3) 2))) ++ [.inr (.inr (2, [.int x1, .int x2, .int x3, .int x4, .int x5, .int x6, .int x7, .int ((1 <<< (x4 &&& 31) : Int32) ||| (1 <<< (x5 &&& 31) : Int32)), .int (1 <<< (x6 &&& 31) : Int32), .int (-1)]))]))) ?_
      refine rr rfl (s_iconst (v := 1) (by decide)) ?_
      exact rrt rfl rfl rfl rfl
    refine rrc rfl rfl rfl (do_of g_X3_lift rfl rfl e6) ?_
    refine rr rfl (s_istore_n rfl) ?_
    refine rr rfl (s_iconst (v := 0) (by decide)) ?_
    refine rr rfl (s_istore rfl) ?_
    refine rr rfl (s_iload rfl) ?_
    refine rr rfl (s_aload_n rfl) ?_
    refine rr rfl (s_getf rfl rfl) ?_
    have e7 : a_m MT [] 100000 9 miJx4a65c_size_8abf5 [.ref 3] ((hF.set 5 (.inl ((List.replicate 8 (0 : Int32)).set (Int32.toNatClampNeg x3) 2))) ++ [.inr (.inr (2, [.int x1, .int x2, .int x3, .int x4, .int x5, .int x6, .int x7, .int ((1 <<< (x4 &&& 31) : Int32) ||| (1 <<< (x5 &&& 31) : Int32)), .int (1 <<< (x6 &&& 31) : Int32), .int (-1)]))]) = some ((some (.int 0)), ((hF.set 5 (.inl ((List.replicate 8 (0 : Int32)).set (Int32.toNatClampNeg x3) 2))) ++ [.inr (.inr (2, [.int x1, .int x2, .int x3, .int x4, .int x5, .int x6, .int x7, .int ((1 <<< (x4 &&& 31) : Int32) ||| (1 <<< (x5 &&& 31) : Int32)), .int (1 <<< (x6 &&& 31) : Int32), .int (-1)]))]), 0, 0) := by
      refine me (d := 8) g_Jx4a65c_size_8abf5 (Nat.le_of_ble_eq_true rfl) ?_
      refine rr rfl (s_aload_n rfl) ?_
      refine rr rfl (s_getf rfl rfl) ?_
      exact rrt rfl rfl rfl rfl
    refine rrc rfl rfl rfl (do_of g_Jx4a65c_size_8abf5 rfl rfl e7) ?_
    refine rr rfl (s_icT (by decide)) ?_
    refine rr rfl (s_iinc (v := 2) rfl (by decide) rfl) ?_
    refine rr rfl s_goto ?_
    refine rr rfl (s_iload_n rfl) ?_
    refine rr rfl (s_ifF (by decide)) ?_
    refine rr rfl (s_iload_n rfl) ?_
    refine rr rfl (s_bipush (v := 8) (by decide)) ?_
    refine rr rfl (s_icF (by decide)) ?_
    refine rr rfl (s_aload_n rfl) ?_
    refine rr rfl (s_aload_n rfl) ?_
    have e8 : a_m MT [] 100000 9 miX3_lift [.ref 2, .ref 61] ((hF.set 5 (.inl ((List.replicate 8 (0 : Int32)).set (Int32.toNatClampNeg x3) 2))) ++ [.inr (.inr (2, [.int x1, .int x2, .int x3, .int x4, .int x5, .int x6, .int x7, .int ((1 <<< (x4 &&& 31) : Int32) ||| (1 <<< (x5 &&& 31) : Int32)), .int (1 <<< (x6 &&& 31) : Int32), .int (-1)]))]) = some ((some (.int 1)), ((hF.set 5 (.inl ((List.replicate 8 (0 : Int32)).set (Int32.toNatClampNeg x3) 3))) ++ [.inr (.inr (2, [.int x1, .int x2, .int x3, .int x4, .int x5, .int x6, .int x7, .int ((1 <<< (x4 &&& 31) : Int32) ||| (1 <<< (x5 &&& 31) : Int32)), .int (1 <<< (x6 &&& 31) : Int32), .int (-1)]))]), 0, 0) := by
      refine me (d := 8) g_X3_lift (Nat.le_of_ble_eq_true rfl) ?_
      refine rr rfl (s_aload_n rfl) ?_
      refine rr rfl (s_getf rfl rfl) ?_
      refine rr rfl (s_ifT (ic_eq g3)) ?_
      refine rr rfl (s_aload_n rfl) ?_
      refine rr rfl (s_getf rfl rfl) ?_
      refine rr rfl (s_aload_n rfl) ?_
      refine rr rfl (s_getf rfl rfl) ?_
      refine rr rfl (s_ialdH rfl g12 g10 g11) ?_
      refine rr rfl (s_aload_n rfl) ?_
      refine rr rfl (s_getf rfl rfl) ?_
      refine rr rfl (s_aload_n rfl) ?_
      refine rr rfl (s_getf rfl rfl) ?_
      refine rr rfl (s_ialdN rfl g13 g6 g7 g10) ?_
      refine rr rfl (s_max (v := 2) rfl (Nat.le_of_ble_eq_true rfl) (by decide)) ?_
      refine rr rfl (s_istore_n rfl) ?_
      refine rr rfl (s_aload_n rfl) ?_
      refine rr rfl (s_getf rfl rfl) ?_
      refine rr rfl (s_iconst (v := (-1)) (by decide)) ?_
      refine rr rfl (s_icF (ic_neq g2)) ?_
      refine rr rfl (s_iload_n rfl) ?_
      refine rr rfl (s_aload_n rfl) ?_
      refine rr rfl (s_getf rfl rfl) ?_
      refine rr rfl (s_aload_n rfl) ?_
      refine rr rfl (s_getf rfl rfl) ?_
      refine rr rfl (s_ialdH rfl g14 g10 g11) ?_
      refine rr rfl (s_iconst (v := 1) (by decide)) ?_
      refine rr rfl (s_iadd (v := 3) (by decide)) ?_
      refine rr rfl (s_max (v := 3) rfl (Nat.le_of_ble_eq_true rfl) (by decide)) ?_
      refine rr rfl (s_istore_n rfl) ?_
      refine rr rfl (s_aload_n rfl) ?_
      refine rr rfl (s_getf rfl rfl) ?_
      refine rr rfl (s_aload_n rfl) ?_
      refine rr rfl (s_getf rfl rfl) ?_
      refine rr rfl (s_ialdH rfl rfl g10 g11) ?_
      refine rr rfl (s_iload_n rfl) ?_
      refine rr rfl (s_icT (by decide)) ?_
      refine rr rfl (s_aload_n rfl) ?_
      refine rr rfl (s_getf rfl rfl) ?_
      refine rr rfl (s_aload_n rfl) ?_
      refine rr rfl (s_getf rfl rfl) ?_
      refine rr rfl (s_iload_n rfl) ?_
      refine rr rfl (s_iastH (v := 3) rfl rfl g10 g11 (Nat.le_of_ble_eq_true rfl) rfl (h' := ((hF.set 5 (.inl ((List.replicate 8 (0 : Int32)).set (Int32.toNatClampNeg x3) 3))) ++ [.inr (.inr (2, [.int x1, .int x2, .int x3, .int x4, .int x5, .int x6, .int x7, .int ((1 <<< (x4 &&& 31) : Int32) ||| (1 <<< (x5 &&& 31) : Int32)), .int (1 <<< (x6 &&& 31) : Int32), .int (-1)]))]))) ?_
      refine rr rfl (s_iconst (v := 1) (by decide)) ?_
      exact rrt rfl rfl rfl rfl
    refine rrc rfl rfl rfl (do_of g_X3_lift rfl rfl e8) ?_
    refine rr rfl (s_istore_n rfl) ?_
    refine rr rfl (s_iconst (v := 0) (by decide)) ?_
    refine rr rfl (s_istore rfl) ?_
    refine rr rfl (s_iload rfl) ?_
    refine rr rfl (s_aload_n rfl) ?_
    refine rr rfl (s_getf rfl rfl) ?_
    have e9 : a_m MT [] 100000 9 miJx4a65c_size_8abf5 [.ref 3] ((hF.set 5 (.inl ((List.replicate 8 (0 : Int32)).set (Int32.toNatClampNeg x3) 3))) ++ [.inr (.inr (2, [.int x1, .int x2, .int x3, .int x4, .int x5, .int x6, .int x7, .int ((1 <<< (x4 &&& 31) : Int32) ||| (1 <<< (x5 &&& 31) : Int32)), .int (1 <<< (x6 &&& 31) : Int32), .int (-1)]))]) = some ((some (.int 0)), ((hF.set 5 (.inl ((List.replicate 8 (0 : Int32)).set (Int32.toNatClampNeg x3) 3))) ++ [.inr (.inr (2, [.int x1, .int x2, .int x3, .int x4, .int x5, .int x6, .int x7, .int ((1 <<< (x4 &&& 31) : Int32) ||| (1 <<< (x5 &&& 31) : Int32)), .int (1 <<< (x6 &&& 31) : Int32), .int (-1)]))]), 0, 0) := by
      refine me (d := 8) g_Jx4a65c_size_8abf5 (Nat.le_of_ble_eq_true rfl) ?_
      refine rr rfl (s_aload_n rfl) ?_
      refine rr rfl (s_getf rfl rfl) ?_
      exact rrt rfl rfl rfl rfl
    refine rrc rfl rfl rfl (do_of g_Jx4a65c_size_8abf5 rfl rfl e9) ?_
    refine rr rfl (s_icT (by decide)) ?_
    refine rr rfl (s_iinc (v := 3) rfl (by decide) rfl) ?_
    refine rr rfl s_goto ?_
    refine rr rfl (s_iload_n rfl) ?_
    refine rr rfl (s_ifF (by decide)) ?_
    refine rr rfl (s_iload_n rfl) ?_
    refine rr rfl (s_bipush (v := 8) (by decide)) ?_
    refine rr rfl (s_icF (by decide)) ?_
    refine rr rfl (s_aload_n rfl) ?_
    refine rr rfl (s_aload_n rfl) ?_
    have e10 : a_m MT [] 100000 9 miX3_lift [.ref 2, .ref 61] ((hF.set 5 (.inl ((List.replicate 8 (0 : Int32)).set (Int32.toNatClampNeg x3) 3))) ++ [.inr (.inr (2, [.int x1, .int x2, .int x3, .int x4, .int x5, .int x6, .int x7, .int ((1 <<< (x4 &&& 31) : Int32) ||| (1 <<< (x5 &&& 31) : Int32)), .int (1 <<< (x6 &&& 31) : Int32), .int (-1)]))]) = some ((some (.int 1)), ((hF.set 5 (.inl ((List.replicate 8 (0 : Int32)).set (Int32.toNatClampNeg x3) 4))) ++ [.inr (.inr (2, [.int x1, .int x2, .int x3, .int x4, .int x5, .int x6, .int x7, .int ((1 <<< (x4 &&& 31) : Int32) ||| (1 <<< (x5 &&& 31) : Int32)), .int (1 <<< (x6 &&& 31) : Int32), .int (-1)]))]), 0, 0) := by
      refine me (d := 8) g_X3_lift (Nat.le_of_ble_eq_true rfl) ?_
      refine rr rfl (s_aload_n rfl) ?_
      refine rr rfl (s_getf rfl rfl) ?_
      refine rr rfl (s_ifT (ic_eq g3)) ?_
      refine rr rfl (s_aload_n rfl) ?_
      refine rr rfl (s_getf rfl rfl) ?_
      refine rr rfl (s_aload_n rfl) ?_
      refine rr rfl (s_getf rfl rfl) ?_
      refine rr rfl (s_ialdH rfl g12 g10 g11) ?_
      refine rr rfl (s_aload_n rfl) ?_
      refine rr rfl (s_getf rfl rfl) ?_
      refine rr rfl (s_aload_n rfl) ?_
      refine rr rfl (s_getf rfl rfl) ?_
      refine rr rfl (s_ialdN rfl g13 g6 g7 g10) ?_
      refine rr rfl (s_max (v := 3) rfl (Nat.le_of_ble_eq_true rfl) (by decide)) ?_
      refine rr rfl (s_istore_n rfl) ?_
      refine rr rfl (s_aload_n rfl) ?_
      refine rr rfl (s_getf rfl rfl) ?_
      refine rr rfl (s_iconst (v := (-1)) (by decide)) ?_
      refine rr rfl (s_icF (ic_neq g2)) ?_
      refine rr rfl (s_iload_n rfl) ?_
      refine rr rfl (s_aload_n rfl) ?_
      refine rr rfl (s_getf rfl rfl) ?_
      refine rr rfl (s_aload_n rfl) ?_
      refine rr rfl (s_getf rfl rfl) ?_
      refine rr rfl (s_ialdH rfl g14 g10 g11) ?_
      refine rr rfl (s_iconst (v := 1) (by decide)) ?_
      refine rr rfl (s_iadd (v := 4) (by decide)) ?_
      refine rr rfl (s_max (v := 4) rfl (Nat.le_of_ble_eq_true rfl) (by decide)) ?_
      refine rr rfl (s_istore_n rfl) ?_
      refine rr rfl (s_aload_n rfl) ?_
      refine rr rfl (s_getf rfl rfl) ?_
      refine rr rfl (s_aload_n rfl) ?_
      refine rr rfl (s_getf rfl rfl) ?_
      refine rr rfl (s_ialdH rfl rfl g10 g11) ?_
      refine rr rfl (s_iload_n rfl) ?_
      refine rr rfl (s_icT (by decide)) ?_
      refine rr rfl (s_aload_n rfl) ?_
      refine rr rfl (s_getf rfl rfl) ?_
      refine rr rfl (s_aload_n rfl) ?_
      refine rr rfl (s_getf rfl rfl) ?_
      refine rr rfl (s_iload_n rfl) ?_
      refine rr rfl (s_iastH (v := 4) rfl rfl g10 g11 (Nat.le_of_ble_eq_true rfl) rfl (h' := ((hF.set 5 (.inl ((List.replicate 8 (0 : Int32)).set (Int32.toNatClampNeg x3) 4))) ++ [.inr (.inr (2, [.int x1, .int x2, .int x3, .int x4, .int x5, .int x6, .int x7, .int ((1 <<< (x4 &&& 31) : Int32) ||| (1 <<< (x5 &&& 31) : Int32)), .int (1 <<< (x6 &&& 31) : Int32), .int (-1)]))]))) ?_
      refine rr rfl (s_iconst (v := 1) (by decide)) ?_
      exact rrt rfl rfl rfl rfl
    refine rrc rfl rfl rfl (do_of g_X3_lift rfl rfl e10) ?_
    refine rr rfl (s_istore_n rfl) ?_
    refine rr rfl (s_iconst (v := 0) (by decide)) ?_
    refine rr rfl (s_istore rfl) ?_
    refine rr rfl (s_iload rfl) ?_
    refine rr rfl (s_aload_n rfl) ?_
    refine rr rfl (s_getf rfl rfl) ?_
    have e11 : a_m MT [] 100000 9 miJx4a65c_size_8abf5 [.ref 3] ((hF.set 5 (.inl ((List.replicate 8 (0 : Int32)).set (Int32.toNatClampNeg x3) 4))) ++ [.inr (.inr (2, [.int x1, .int x2, .int x3, .int x4, .int x5, .int x6, .int x7, .int ((1 <<< (x4 &&& 31) : Int32) ||| (1 <<< (x5 &&& 31) : Int32)), .int (1 <<< (x6 &&& 31) : Int32), .int (-1)]))]) = some ((some (.int 0)), ((hF.set 5 (.inl ((List.replicate 8 (0 : Int32)).set (Int32.toNatClampNeg x3) 4))) ++ [.inr (.inr (2, [.int x1, .int x2, .int x3, .int x4, .int x5, .int x6, .int x7, .int ((1 <<< (x4 &&& 31) : Int32) ||| (1 <<< (x5 &&& 31) : Int32)), .int (1 <<< (x6 &&& 31) : Int32), .int (-1)]))]), 0, 0) := by
      refine me (d := 8) g_Jx4a65c_size_8abf5 (Nat.le_of_ble_eq_true rfl) ?_
      refine rr rfl (s_aload_n rfl) ?_
      refine rr rfl (s_getf rfl rfl) ?_
      exact rrt rfl rfl rfl rfl
    refine rrc rfl rfl rfl (do_of g_Jx4a65c_size_8abf5 rfl rfl e11) ?_
    refine rr rfl (s_icT (by decide)) ?_
    refine rr rfl (s_iinc (v := 4) rfl (by decide) rfl) ?_
    refine rr rfl s_goto ?_
    refine rr rfl (s_iload_n rfl) ?_
    refine rr rfl (s_ifF (by decide)) ?_
    refine rr rfl (s_iload_n rfl) ?_
    refine rr rfl (s_bipush (v := 8) (by decide)) ?_
    refine rr rfl (s_icF (by decide)) ?_
    refine rr rfl (s_aload_n rfl) ?_
    refine rr rfl (s_aload_n rfl) ?_
    have e12 : a_m MT [] 100000 9 miX3_lift [.ref 2, .ref 61] ((hF.set 5 (.inl ((List.replicate 8 (0 : Int32)).set (Int32.toNatClampNeg x3) 4))) ++ [.inr (.inr (2, [.int x1, .int x2, .int x3, .int x4, .int x5, .int x6, .int x7, .int ((1 <<< (x4 &&& 31) : Int32) ||| (1 <<< (x5 &&& 31) : Int32)), .int (1 <<< (x6 &&& 31) : Int32), .int (-1)]))]) = some ((some (.int 1)), ((hF.set 5 (.inl ((List.replicate 8 (0 : Int32)).set (Int32.toNatClampNeg x3) 5))) ++ [.inr (.inr (2, [.int x1, .int x2, .int x3, .int x4, .int x5, .int x6, .int x7, .int ((1 <<< (x4 &&& 31) : Int32) ||| (1 <<< (x5 &&& 31) : Int32)), .int (1 <<< (x6 &&& 31) : Int32), .int (-1)]))]), 0, 0) := by
      refine me (d := 8) g_X3_lift (Nat.le_of_ble_eq_true rfl) ?_
      refine rr rfl (s_aload_n rfl) ?_
      refine rr rfl (s_getf rfl rfl) ?_
      refine rr rfl (s_ifT (ic_eq g3)) ?_
      refine rr rfl (s_aload_n rfl) ?_
      refine rr rfl (s_getf rfl rfl) ?_
      refine rr rfl (s_aload_n rfl) ?_
      refine rr rfl (s_getf rfl rfl) ?_
      refine rr rfl (s_ialdH rfl g12 g10 g11) ?_
      refine rr rfl (s_aload_n rfl) ?_
      refine rr rfl (s_getf rfl rfl) ?_
      refine rr rfl (s_aload_n rfl) ?_
      refine rr rfl (s_getf rfl rfl) ?_
      refine rr rfl (s_ialdN rfl g13 g6 g7 g10) ?_
      refine rr rfl (s_max (v := 4) rfl (Nat.le_of_ble_eq_true rfl) (by decide)) ?_
      refine rr rfl (s_istore_n rfl) ?_
      refine rr rfl (s_aload_n rfl) ?_
      refine rr rfl (s_getf rfl rfl) ?_
      refine rr rfl (s_iconst (v := (-1)) (by decide)) ?_
      refine rr rfl (s_icF (ic_neq g2)) ?_
      refine rr rfl (s_iload_n rfl) ?_
      refine rr rfl (s_aload_n rfl) ?_
      refine rr rfl (s_getf rfl rfl) ?_
      refine rr rfl (s_aload_n rfl) ?_
      refine rr rfl (s_getf rfl rfl) ?_
      refine rr rfl (s_ialdH rfl g14 g10 g11) ?_
      refine rr rfl (s_iconst (v := 1) (by decide)) ?_
      refine rr rfl (s_iadd (v := 5) (by decide)) ?_
      refine rr rfl (s_max (v := 5) rfl (Nat.le_of_ble_eq_true rfl) (by decide)) ?_
      refine rr rfl (s_istore_n rfl) ?_
      refine rr rfl (s_aload_n rfl) ?_
      refine rr rfl (s_getf rfl rfl) ?_
      refine rr rfl (s_aload_n rfl) ?_
      refine rr rfl (s_getf rfl rfl) ?_
      refine rr rfl (s_ialdH rfl rfl g10 g11) ?_
      refine rr rfl (s_iload_n rfl) ?_
      refine rr rfl (s_icT (by decide)) ?_
      refine rr rfl (s_aload_n rfl) ?_
      refine rr rfl (s_getf rfl rfl) ?_
      refine rr rfl (s_aload_n rfl) ?_
      refine rr rfl (s_getf rfl rfl) ?_
      refine rr rfl (s_iload_n rfl) ?_
      refine rr rfl (s_iastH (v := 5) rfl rfl g10 g11 (Nat.le_of_ble_eq_true rfl) rfl (h' := ((hF.set 5 (.inl ((List.replicate 8 (0 : Int32)).set (Int32.toNatClampNeg x3) 5))) ++ [.inr (.inr (2, [.int x1, .int x2, .int x3, .int x4, .int x5, .int x6, .int x7, .int ((1 <<< (x4 &&& 31) : Int32) ||| (1 <<< (x5 &&& 31) : Int32)), .int (1 <<< (x6 &&& 31) : Int32), .int (-1)]))]))) ?_
      refine rr rfl (s_iconst (v := 1) (by decide)) ?_
      exact rrt rfl rfl rfl rfl
    refine rrc rfl rfl rfl (do_of g_X3_lift rfl rfl e12) ?_
    refine rr rfl (s_istore_n rfl) ?_
    refine rr rfl (s_iconst (v := 0) (by decide)) ?_
    refine rr rfl (s_istore rfl) ?_
    refine rr rfl (s_iload rfl) ?_
    refine rr rfl (s_aload_n rfl) ?_
    refine rr rfl (s_getf rfl rfl) ?_
    have e13 : a_m MT [] 100000 9 miJx4a65c_size_8abf5 [.ref 3] ((hF.set 5 (.inl ((List.replicate 8 (0 : Int32)).set (Int32.toNatClampNeg x3) 5))) ++ [.inr (.inr (2, [.int x1, .int x2, .int x3, .int x4, .int x5, .int x6, .int x7, .int ((1 <<< (x4 &&& 31) : Int32) ||| (1 <<< (x5 &&& 31) : Int32)), .int (1 <<< (x6 &&& 31) : Int32), .int (-1)]))]) = some ((some (.int 0)), ((hF.set 5 (.inl ((List.replicate 8 (0 : Int32)).set (Int32.toNatClampNeg x3) 5))) ++ [.inr (.inr (2, [.int x1, .int x2, .int x3, .int x4, .int x5, .int x6, .int x7, .int ((1 <<< (x4 &&& 31) : Int32) ||| (1 <<< (x5 &&& 31) : Int32)), .int (1 <<< (x6 &&& 31) : Int32), .int (-1)]))]), 0, 0) := by
      refine me (d := 8) g_Jx4a65c_size_8abf5 (Nat.le_of_ble_eq_true rfl) ?_
      refine rr rfl (s_aload_n rfl) ?_
      refine rr rfl (s_getf rfl rfl) ?_
      exact rrt rfl rfl rfl rfl
    refine rrc rfl rfl rfl (do_of g_Jx4a65c_size_8abf5 rfl rfl e13) ?_
    refine rr rfl (s_icT (by decide)) ?_
    refine rr rfl (s_iinc (v := 5) rfl (by decide) rfl) ?_
    refine rr rfl s_goto ?_
    refine rr rfl (s_iload_n rfl) ?_
    refine rr rfl (s_ifF (by decide)) ?_
    refine rr rfl (s_iload_n rfl) ?_
    refine rr rfl (s_bipush (v := 8) (by decide)) ?_
    refine rr rfl (s_icF (by decide)) ?_
    refine rr rfl (s_aload_n rfl) ?_
    refine rr rfl (s_aload_n rfl) ?_
    have e14 : a_m MT [] 100000 9 miX3_lift [.ref 2, .ref 61] ((hF.set 5 (.inl ((List.replicate 8 (0 : Int32)).set (Int32.toNatClampNeg x3) 5))) ++ [.inr (.inr (2, [.int x1, .int x2, .int x3, .int x4, .int x5, .int x6, .int x7, .int ((1 <<< (x4 &&& 31) : Int32) ||| (1 <<< (x5 &&& 31) : Int32)), .int (1 <<< (x6 &&& 31) : Int32), .int (-1)]))]) = some ((some (.int 1)), ((hF.set 5 (.inl ((List.replicate 8 (0 : Int32)).set (Int32.toNatClampNeg x3) 6))) ++ [.inr (.inr (2, [.int x1, .int x2, .int x3, .int x4, .int x5, .int x6, .int x7, .int ((1 <<< (x4 &&& 31) : Int32) ||| (1 <<< (x5 &&& 31) : Int32)), .int (1 <<< (x6 &&& 31) : Int32), .int (-1)]))]), 0, 0) := by
      refine me (d := 8) g_X3_lift (Nat.le_of_ble_eq_true rfl) ?_
      refine rr rfl (s_aload_n rfl) ?_
      refine rr rfl (s_getf rfl rfl) ?_
      refine rr rfl (s_ifT (ic_eq g3)) ?_
      refine rr rfl (s_aload_n rfl) ?_
      refine rr rfl (s_getf rfl rfl) ?_
      refine rr rfl (s_aload_n rfl) ?_
      refine rr rfl (s_getf rfl rfl) ?_
      refine rr rfl (s_ialdH rfl g12 g10 g11) ?_
      refine rr rfl (s_aload_n rfl) ?_
      refine rr rfl (s_getf rfl rfl) ?_
      refine rr rfl (s_aload_n rfl) ?_
      refine rr rfl (s_getf rfl rfl) ?_
      refine rr rfl (s_ialdN rfl g13 g6 g7 g10) ?_
      refine rr rfl (s_max (v := 5) rfl (Nat.le_of_ble_eq_true rfl) (by decide)) ?_
      refine rr rfl (s_istore_n rfl) ?_
      refine rr rfl (s_aload_n rfl) ?_
      refine rr rfl (s_getf rfl rfl) ?_
      refine rr rfl (s_iconst (v := (-1)) (by decide)) ?_
      refine rr rfl (s_icF (ic_neq g2)) ?_
      refine rr rfl (s_iload_n rfl) ?_
      refine rr rfl (s_aload_n rfl) ?_
      refine rr rfl (s_getf rfl rfl) ?_
      refine rr rfl (s_aload_n rfl) ?_
      refine rr rfl (s_getf rfl rfl) ?_
      refine rr rfl (s_ialdH rfl g14 g10 g11) ?_
      refine rr rfl (s_iconst (v := 1) (by decide)) ?_
      refine rr rfl (s_iadd (v := 6) (by decide)) ?_
      refine rr rfl (s_max (v := 6) rfl (Nat.le_of_ble_eq_true rfl) (by decide)) ?_
      refine rr rfl (s_istore_n rfl) ?_
      refine rr rfl (s_aload_n rfl) ?_
      refine rr rfl (s_getf rfl rfl) ?_
      refine rr rfl (s_aload_n rfl) ?_
      refine rr rfl (s_getf rfl rfl) ?_
      refine rr rfl (s_ialdH rfl rfl g10 g11) ?_
      refine rr rfl (s_iload_n rfl) ?_
      refine rr rfl (s_icT (by decide)) ?_
      refine rr rfl (s_aload_n rfl) ?_
      refine rr rfl (s_getf rfl rfl) ?_
      refine rr rfl (s_aload_n rfl) ?_
      refine rr rfl (s_getf rfl rfl) ?_
      refine rr rfl (s_iload_n rfl) ?_
      refine rr rfl (s_iastH (v := 6) rfl rfl g10 g11 (Nat.le_of_ble_eq_true rfl) rfl (h' := ((hF.set 5 (.inl ((List.replicate 8 (0 : Int32)).set (Int32.toNatClampNeg x3) 6))) ++ [.inr (.inr (2, [.int x1, .int x2, .int x3, .int x4, .int x5, .int x6, .int x7, .int ((1 <<< (x4 &&& 31) : Int32) ||| (1 <<< (x5 &&& 31) : Int32)), .int (1 <<< (x6 &&& 31) : Int32), .int (-1)]))]))) ?_
      refine rr rfl (s_iconst (v := 1) (by decide)) ?_
      exact rrt rfl rfl rfl rfl
    refine rrc rfl rfl rfl (do_of g_X3_lift rfl rfl e14) ?_
    refine rr rfl (s_istore_n rfl) ?_
    refine rr rfl (s_iconst (v := 0) (by decide)) ?_
    refine rr rfl (s_istore rfl) ?_
    refine rr rfl (s_iload rfl) ?_
    refine rr rfl (s_aload_n rfl) ?_
    refine rr rfl (s_getf rfl rfl) ?_
    have e15 : a_m MT [] 100000 9 miJx4a65c_size_8abf5 [.ref 3] ((hF.set 5 (.inl ((List.replicate 8 (0 : Int32)).set (Int32.toNatClampNeg x3) 6))) ++ [.inr (.inr (2, [.int x1, .int x2, .int x3, .int x4, .int x5, .int x6, .int x7, .int ((1 <<< (x4 &&& 31) : Int32) ||| (1 <<< (x5 &&& 31) : Int32)), .int (1 <<< (x6 &&& 31) : Int32), .int (-1)]))]) = some ((some (.int 0)), ((hF.set 5 (.inl ((List.replicate 8 (0 : Int32)).set (Int32.toNatClampNeg x3) 6))) ++ [.inr (.inr (2, [.int x1, .int x2, .int x3, .int x4, .int x5, .int x6, .int x7, .int ((1 <<< (x4 &&& 31) : Int32) ||| (1 <<< (x5 &&& 31) : Int32)), .int (1 <<< (x6 &&& 31) : Int32), .int (-1)]))]), 0, 0) := by
      refine me (d := 8) g_Jx4a65c_size_8abf5 (Nat.le_of_ble_eq_true rfl) ?_
      refine rr rfl (s_aload_n rfl) ?_
      refine rr rfl (s_getf rfl rfl) ?_
      exact rrt rfl rfl rfl rfl
    refine rrc rfl rfl rfl (do_of g_Jx4a65c_size_8abf5 rfl rfl e15) ?_
    refine rr rfl (s_icT (by decide)) ?_
    refine rr rfl (s_iinc (v := 6) rfl (by decide) rfl) ?_
    refine rr rfl s_goto ?_
    refine rr rfl (s_iload_n rfl) ?_
    refine rr rfl (s_ifF (by decide)) ?_
    refine rr rfl (s_iload_n rfl) ?_
    refine rr rfl (s_bipush (v := 8) (by decide)) ?_
    refine rr rfl (s_icF (by decide)) ?_
    refine rr rfl (s_aload_n rfl) ?_
    refine rr rfl (s_aload_n rfl) ?_
    have e16 : a_m MT [] 100000 9 miX3_lift [.ref 2, .ref 61] ((hF.set 5 (.inl ((List.replicate 8 (0 : Int32)).set (Int32.toNatClampNeg x3) 6))) ++ [.inr (.inr (2, [.int x1, .int x2, .int x3, .int x4, .int x5, .int x6, .int x7, .int ((1 <<< (x4 &&& 31) : Int32) ||| (1 <<< (x5 &&& 31) : Int32)), .int (1 <<< (x6 &&& 31) : Int32), .int (-1)]))]) = some ((some (.int 1)), ((hF.set 5 (.inl ((List.replicate 8 (0 : Int32)).set (Int32.toNatClampNeg x3) 7))) ++ [.inr (.inr (2, [.int x1, .int x2, .int x3, .int x4, .int x5, .int x6, .int x7, .int ((1 <<< (x4 &&& 31) : Int32) ||| (1 <<< (x5 &&& 31) : Int32)), .int (1 <<< (x6 &&& 31) : Int32), .int (-1)]))]), 0, 0) := by
      refine me (d := 8) g_X3_lift (Nat.le_of_ble_eq_true rfl) ?_
      refine rr rfl (s_aload_n rfl) ?_
      refine rr rfl (s_getf rfl rfl) ?_
      refine rr rfl (s_ifT (ic_eq g3)) ?_
      refine rr rfl (s_aload_n rfl) ?_
      refine rr rfl (s_getf rfl rfl) ?_
      refine rr rfl (s_aload_n rfl) ?_
      refine rr rfl (s_getf rfl rfl) ?_
      refine rr rfl (s_ialdH rfl g12 g10 g11) ?_
      refine rr rfl (s_aload_n rfl) ?_
      refine rr rfl (s_getf rfl rfl) ?_
      refine rr rfl (s_aload_n rfl) ?_
      refine rr rfl (s_getf rfl rfl) ?_
      refine rr rfl (s_ialdN rfl g13 g6 g7 g10) ?_
      refine rr rfl (s_max (v := 6) rfl (Nat.le_of_ble_eq_true rfl) (by decide)) ?_
      refine rr rfl (s_istore_n rfl) ?_
      refine rr rfl (s_aload_n rfl) ?_
      refine rr rfl (s_getf rfl rfl) ?_
      refine rr rfl (s_iconst (v := (-1)) (by decide)) ?_
      refine rr rfl (s_icF (ic_neq g2)) ?_
      refine rr rfl (s_iload_n rfl) ?_
      refine rr rfl (s_aload_n rfl) ?_
      refine rr rfl (s_getf rfl rfl) ?_
      refine rr rfl (s_aload_n rfl) ?_
      refine rr rfl (s_getf rfl rfl) ?_
      refine rr rfl (s_ialdH rfl g14 g10 g11) ?_
      refine rr rfl (s_iconst (v := 1) (by decide)) ?_
      refine rr rfl (s_iadd (v := 7) (by decide)) ?_
      refine rr rfl (s_max (v := 7) rfl (Nat.le_of_ble_eq_true rfl) (by decide)) ?_
      refine rr rfl (s_istore_n rfl) ?_
      refine rr rfl (s_aload_n rfl) ?_
      refine rr rfl (s_getf rfl rfl) ?_
      refine rr rfl (s_aload_n rfl) ?_
      refine rr rfl (s_getf rfl rfl) ?_
      refine rr rfl (s_ialdH rfl rfl g10 g11) ?_
      refine rr rfl (s_iload_n rfl) ?_
      refine rr rfl (s_icT (by decide)) ?_
      refine rr rfl (s_aload_n rfl) ?_
      refine rr rfl (s_getf rfl rfl) ?_
      refine rr rfl (s_aload_n rfl) ?_
      refine rr rfl (s_getf rfl rfl) ?_
      refine rr rfl (s_iload_n rfl) ?_
      refine rr rfl (s_iastH (v := 7) rfl rfl g10 g11 (Nat.le_of_ble_eq_true rfl) rfl (h' := ((hF.set 5 (.inl ((List.replicate 8 (0 : Int32)).set (Int32.toNatClampNeg x3) 7))) ++ [.inr (.inr (2, [.int x1, .int x2, .int x3, .int x4, .int x5, .int x6, .int x7, .int ((1 <<< (x4 &&& 31) : Int32) ||| (1 <<< (x5 &&& 31) : Int32)), .int (1 <<< (x6 &&& 31) : Int32), .int (-1)]))]))) ?_
      refine rr rfl (s_iconst (v := 1) (by decide)) ?_
      exact rrt rfl rfl rfl rfl
    refine rrc rfl rfl rfl (do_of g_X3_lift rfl rfl e16) ?_
    refine rr rfl (s_istore_n rfl) ?_
    refine rr rfl (s_iconst (v := 0) (by decide)) ?_
    refine rr rfl (s_istore rfl) ?_
    refine rr rfl (s_iload rfl) ?_
    refine rr rfl (s_aload_n rfl) ?_
    refine rr rfl (s_getf rfl rfl) ?_
    have e17 : a_m MT [] 100000 9 miJx4a65c_size_8abf5 [.ref 3] ((hF.set 5 (.inl ((List.replicate 8 (0 : Int32)).set (Int32.toNatClampNeg x3) 7))) ++ [.inr (.inr (2, [.int x1, .int x2, .int x3, .int x4, .int x5, .int x6, .int x7, .int ((1 <<< (x4 &&& 31) : Int32) ||| (1 <<< (x5 &&& 31) : Int32)), .int (1 <<< (x6 &&& 31) : Int32), .int (-1)]))]) = some ((some (.int 0)), ((hF.set 5 (.inl ((List.replicate 8 (0 : Int32)).set (Int32.toNatClampNeg x3) 7))) ++ [.inr (.inr (2, [.int x1, .int x2, .int x3, .int x4, .int x5, .int x6, .int x7, .int ((1 <<< (x4 &&& 31) : Int32) ||| (1 <<< (x5 &&& 31) : Int32)), .int (1 <<< (x6 &&& 31) : Int32), .int (-1)]))]), 0, 0) := by
      refine me (d := 8) g_Jx4a65c_size_8abf5 (Nat.le_of_ble_eq_true rfl) ?_
      refine rr rfl (s_aload_n rfl) ?_
      refine rr rfl (s_getf rfl rfl) ?_
      exact rrt rfl rfl rfl rfl
    refine rrc rfl rfl rfl (do_of g_Jx4a65c_size_8abf5 rfl rfl e17) ?_
    refine rr rfl (s_icT (by decide)) ?_
    refine rr rfl (s_iinc (v := 7) rfl (by decide) rfl) ?_
    refine rr rfl s_goto ?_
    refine rr rfl (s_iload_n rfl) ?_
    refine rr rfl (s_ifF (by decide)) ?_
    refine rr rfl (s_iload_n rfl) ?_
    refine rr rfl (s_bipush (v := 8) (by decide)) ?_
    refine rr rfl (s_icF (by decide)) ?_
    refine rr rfl (s_aload_n rfl) ?_
    refine rr rfl (s_aload_n rfl) ?_
    have e18 : a_m MT [] 100000 9 miX3_lift [.ref 2, .ref 61] ((hF.set 5 (.inl ((List.replicate 8 (0 : Int32)).set (Int32.toNatClampNeg x3) 7))) ++ [.inr (.inr (2, [.int x1, .int x2, .int x3, .int x4, .int x5, .int x6, .int x7, .int ((1 <<< (x4 &&& 31) : Int32) ||| (1 <<< (x5 &&& 31) : Int32)), .int (1 <<< (x6 &&& 31) : Int32), .int (-1)]))]) = some ((some (.int 1)), ((hF.set 5 (.inl ((List.replicate 8 (0 : Int32)).set (Int32.toNatClampNeg x3) 8))) ++ [.inr (.inr (2, [.int x1, .int x2, .int x3, .int x4, .int x5, .int x6, .int x7, .int ((1 <<< (x4 &&& 31) : Int32) ||| (1 <<< (x5 &&& 31) : Int32)), .int (1 <<< (x6 &&& 31) : Int32), .int (-1)]))]), 0, 0) := by
      refine me (d := 8) g_X3_lift (Nat.le_of_ble_eq_true rfl) ?_
      refine rr rfl (s_aload_n rfl) ?_
      refine rr rfl (s_getf rfl rfl) ?_
      refine rr rfl (s_ifT (ic_eq g3)) ?_
      refine rr rfl (s_aload_n rfl) ?_
      refine rr rfl (s_getf rfl rfl) ?_
      refine rr rfl (s_aload_n rfl) ?_
      refine rr rfl (s_getf rfl rfl) ?_
      refine rr rfl (s_ialdH rfl g12 g10 g11) ?_
      refine rr rfl (s_aload_n rfl) ?_
      refine rr rfl (s_getf rfl rfl) ?_
      refine rr rfl (s_aload_n rfl) ?_
      refine rr rfl (s_getf rfl rfl) ?_
      refine rr rfl (s_ialdN rfl g13 g6 g7 g10) ?_
      refine rr rfl (s_max (v := 7) rfl (Nat.le_of_ble_eq_true rfl) (by decide)) ?_
      refine rr rfl (s_istore_n rfl) ?_
      refine rr rfl (s_aload_n rfl) ?_
      refine rr rfl (s_getf rfl rfl) ?_
      refine rr rfl (s_iconst (v := (-1)) (by decide)) ?_
      refine rr rfl (s_icF (ic_neq g2)) ?_
      refine rr rfl (s_iload_n rfl) ?_
      refine rr rfl (s_aload_n rfl) ?_
      refine rr rfl (s_getf rfl rfl) ?_
      refine rr rfl (s_aload_n rfl) ?_
      refine rr rfl (s_getf rfl rfl) ?_
      refine rr rfl (s_ialdH rfl g14 g10 g11) ?_
      refine rr rfl (s_iconst (v := 1) (by decide)) ?_
      refine rr rfl (s_iadd (v := 8) (by decide)) ?_
      refine rr rfl (s_max (v := 8) rfl (Nat.le_of_ble_eq_true rfl) (by decide)) ?_
      refine rr rfl (s_istore_n rfl) ?_
      refine rr rfl (s_aload_n rfl) ?_
      refine rr rfl (s_getf rfl rfl) ?_
      refine rr rfl (s_aload_n rfl) ?_
      refine rr rfl (s_getf rfl rfl) ?_
      refine rr rfl (s_ialdH rfl rfl g10 g11) ?_
      refine rr rfl (s_iload_n rfl) ?_
      refine rr rfl (s_icT (by decide)) ?_
      refine rr rfl (s_aload_n rfl) ?_
      refine rr rfl (s_getf rfl rfl) ?_
      refine rr rfl (s_aload_n rfl) ?_
      refine rr rfl (s_getf rfl rfl) ?_
      refine rr rfl (s_iload_n rfl) ?_
      refine rr rfl (s_iastH (v := 8) rfl rfl g10 g11 (Nat.le_of_ble_eq_true rfl) rfl (h' := ((hF.set 5 (.inl ((List.replicate 8 (0 : Int32)).set (Int32.toNatClampNeg x3) 8))) ++ [.inr (.inr (2, [.int x1, .int x2, .int x3, .int x4, .int x5, .int x6, .int x7, .int ((1 <<< (x4 &&& 31) : Int32) ||| (1 <<< (x5 &&& 31) : Int32)), .int (1 <<< (x6 &&& 31) : Int32), .int (-1)]))]))) ?_
      refine rr rfl (s_iconst (v := 1) (by decide)) ?_
      exact rrt rfl rfl rfl rfl
    refine rrc rfl rfl rfl (do_of g_X3_lift rfl rfl e18) ?_
    refine rr rfl (s_istore_n rfl) ?_
    refine rr rfl (s_iconst (v := 0) (by decide)) ?_
    refine rr rfl (s_istore rfl) ?_
    refine rr rfl (s_iload rfl) ?_
    refine rr rfl (s_aload_n rfl) ?_
    refine rr rfl (s_getf rfl rfl) ?_
    have e19 : a_m MT [] 100000 9 miJx4a65c_size_8abf5 [.ref 3] ((hF.set 5 (.inl ((List.replicate 8 (0 : Int32)).set (Int32.toNatClampNeg x3) 8))) ++ [.inr (.inr (2, [.int x1, .int x2, .int x3, .int x4, .int x5, .int x6, .int x7, .int ((1 <<< (x4 &&& 31) : Int32) ||| (1 <<< (x5 &&& 31) : Int32)), .int (1 <<< (x6 &&& 31) : Int32), .int (-1)]))]) = some ((some (.int 0)), ((hF.set 5 (.inl ((List.replicate 8 (0 : Int32)).set (Int32.toNatClampNeg x3) 8))) ++ [.inr (.inr (2, [.int x1, .int x2, .int x3, .int x4, .int x5, .int x6, .int x7, .int ((1 <<< (x4 &&& 31) : Int32) ||| (1 <<< (x5 &&& 31) : Int32)), .int (1 <<< (x6 &&& 31) : Int32), .int (-1)]))]), 0, 0) := by
      refine me (d := 8) g_Jx4a65c_size_8abf5 (Nat.le_of_ble_eq_true rfl) ?_
      refine rr rfl (s_aload_n rfl) ?_
      refine rr rfl (s_getf rfl rfl) ?_
      exact rrt rfl rfl rfl rfl
    refine rrc rfl rfl rfl (do_of g_Jx4a65c_size_8abf5 rfl rfl e19) ?_
    refine rr rfl (s_icT (by decide)) ?_
    refine rr rfl (s_iinc (v := 8) rfl (by decide) rfl) ?_
    refine rr rfl s_goto ?_
    refine rr rfl (s_iload_n rfl) ?_
    refine rr rfl (s_ifF (by decide)) ?_
    refine rr rfl (s_iload_n rfl) ?_
    refine rr rfl (s_bipush (v := 8) (by decide)) ?_
    refine rr rfl (s_icT (by decide)) ?_
    refine rr rfl (s_iload_n rfl) ?_
    refine rr rfl (s_ifT (by decide)) ?_
    refine rr rfl (s_iconst (v := 0) (by decide)) ?_
    exact rrt rfl rfl rfl rfl
  refine rrc rfl rfl rfl (do_of g_X3_hasLayersWith rfl rfl e2) ?_
  refine rr rfl (s_ifF (by decide)) ?_
  refine rr rfl (s_bipush (v := (-3)) (by decide)) ?_
  exact rrt rfl rfl rfl rfl
set_option maxHeartbeats 4000000 in
set_option maxRecDepth 10000 in
theorem rx_Nhhh {x1 x2 x3 x4 x5 x6 x7 : Int32} (g1 : ¬ x5 = (-1)) (g2 : ¬ x6 = (-1)) (g3 : x2 = 0) (g4 : ¬ x4 < 0) (g5 : x4 < nI 8) (g6 : ¬ x5 < 0) (g7 : x5 < nI 8) (g8 : ¬ x6 < 0) (g9 : x6 < nI 8) (g10 : ¬ x3 < 0) (g11 : x3 < nI 8) (g12 : x4 = x3) (g13 : x5 = x3) (g14 : x6 = x3) : a_run MT [] (a_m MT [] 100000 10) 11 (some .int) tabX8_rule 90000 140 (alR x1 x2 x3 x4 x5 x6 x7) [] hF 0 0 = some (some (.int (-3)), ((hF.set 5 (.inl ((List.replicate 8 (0 : Int32)).set (Int32.toNatClampNeg x3) 8))) ++ [.inr (.inr (2, [.int x1, .int x2, .int x3, .int x4, .int x5, .int x6, .int x7, .int ((1 <<< (x4 &&& 31) : Int32) ||| (1 <<< (x5 &&& 31) : Int32)), .int (1 <<< (x6 &&& 31) : Int32), .int (-1)]))]), 1, 10) := by
  refine rr rfl (s_new (q := 61) rfl rfl (h' := (hF ++ [.inr (.inr (2, [.int 0, .int 0, .int 0, .int 0, .int 0, .int 0, .int 0, .int 0, .int 0, .int 0]))]))) ?_
  refine rr rfl rfl ?_
  refine rr rfl (s_iload_n rfl) ?_
  refine rr rfl (s_iload_n rfl) ?_
  refine rr rfl (s_iload_n rfl) ?_
  refine rr rfl (s_iload rfl) ?_
  refine rr rfl (s_iload rfl) ?_
  refine rr rfl (s_iload rfl) ?_
  refine rr rfl (s_iload rfl) ?_
  have e1 : a_m MT [] 100000 10 miX2_init [.ref 61, .int x1, .int x2, .int x3, .int x4, .int x5, .int x6, .int x7] (hF ++ [.inr (.inr (2, [.int 0, .int 0, .int 0, .int 0, .int 0, .int 0, .int 0, .int 0, .int 0, .int 0]))]) = some (none, (hF ++ [.inr (.inr (2, [.int x1, .int x2, .int x3, .int x4, .int x5, .int x6, .int x7, .int ((1 <<< (x4 &&& 31) : Int32) ||| (1 <<< (x5 &&& 31) : Int32)), .int (1 <<< (x6 &&& 31) : Int32), .int (-1)]))]), 0, 0) := by
    refine me (d := 9) g_X2_init (Nat.le_of_ble_eq_true rfl) ?_
    refine rr rfl (s_aload_n rfl) ?_
    refine rr rfl rfl ?_
    refine rr rfl (s_aload_n rfl) ?_
    refine rr rfl (s_iconst (v := (-1)) (by decide)) ?_
    refine rr rfl (s_putf rfl rfl (Nat.le_of_ble_eq_true rfl) rfl (Nat.le_of_ble_eq_true rfl) rfl (h' := (hF ++ [.inr (.inr (2, [.int 0, .int 0, .int 0, .int 0, .int 0, .int 0, .int 0, .int 0, .int 0, .int (-1)]))]))) ?_
    refine rr rfl (s_aload_n rfl) ?_
    refine rr rfl (s_iload_n rfl) ?_
    refine rr rfl (s_putf rfl rfl (Nat.le_of_ble_eq_true rfl) rfl (Nat.le_of_ble_eq_true rfl) rfl (h' := (hF ++ [.inr (.inr (2, [.int x1, .int 0, .int 0, .int 0, .int 0, .int 0, .int 0, .int 0, .int 0, .int (-1)]))]))) ?_
    refine rr rfl (s_aload_n rfl) ?_
    refine rr rfl (s_iload_n rfl) ?_
    refine rr rfl (s_putf rfl rfl (Nat.le_of_ble_eq_true rfl) rfl (Nat.le_of_ble_eq_true rfl) rfl (h' := (hF ++ [.inr (.inr (2, [.int x1, .int x2, .int 0, .int 0, .int 0, .int 0, .int 0, .int 0, .int 0, .int (-1)]))]))) ?_
    refine rr rfl (s_aload_n rfl) ?_
    refine rr rfl (s_iload_n rfl) ?_
    refine rr rfl (s_putf rfl rfl (Nat.le_of_ble_eq_true rfl) rfl (Nat.le_of_ble_eq_true rfl) rfl (h' := (hF ++ [.inr (.inr (2, [.int x1, .int x2, .int x3, .int 0, .int 0, .int 0, .int 0, .int 0, .int 0, .int (-1)]))]))) ?_
    refine rr rfl (s_aload_n rfl) ?_
    refine rr rfl (s_iload rfl) ?_
    refine rr rfl (s_putf rfl rfl (Nat.le_of_ble_eq_true rfl) rfl (Nat.le_of_ble_eq_true rfl) rfl (h' := (hF ++ [.inr (.inr (2, [.int x1, .int x2, .int x3, .int x4, .int 0, .int 0, .int 0, .int 0, .int 0, .int (-1)]))]))) ?_
    refine rr rfl (s_aload_n rfl) ?_
    refine rr rfl (s_iload rfl) ?_
    refine rr rfl (s_iconst (v := (-1)) (by decide)) ?_
    refine rr rfl (s_icT (ic_ne g1)) ?_
    refine rr rfl (s_iload rfl) ?_
    refine rr rfl (s_putf rfl rfl (Nat.le_of_ble_eq_true rfl) rfl (Nat.le_of_ble_eq_true rfl) rfl (h' := (hF ++ [.inr (.inr (2, [.int x1, .int x2, .int x3, .int x4, .int x5, .int 0, .int 0, .int 0, .int 0, .int (-1)]))]))) ?_
    refine rr rfl (s_aload_n rfl) ?_
    refine rr rfl (s_iload rfl) ?_
    refine rr rfl (s_putf rfl rfl (Nat.le_of_ble_eq_true rfl) rfl (Nat.le_of_ble_eq_true rfl) rfl (h' := (hF ++ [.inr (.inr (2, [.int x1, .int x2, .int x3, .int x4, .int x5, .int x6, .int 0, .int 0, .int 0, .int (-1)]))]))) ?_
    refine rr rfl (s_aload_n rfl) ?_
    refine rr rfl (s_iload rfl) ?_
    refine rr rfl (s_putf rfl rfl (Nat.le_of_ble_eq_true rfl) rfl (Nat.le_of_ble_eq_true rfl) rfl (h' := (hF ++ [.inr (.inr (2, [.int x1, .int x2, .int x3, .int x4, .int x5, .int x6, .int x7, .int 0, .int 0, .int (-1)]))]))) ?_
    refine rr rfl (s_aload_n rfl) ?_
    refine rr rfl (s_iconst (v := 1) (by decide)) ?_
    refine rr rfl (s_aload_n rfl) ?_
    refine rr rfl (s_getf rfl rfl) ?_
    refine rr rfl (s_ishl (v := (1 <<< (x4 &&& 31) : Int32)) rfl) ?_
    refine rr rfl (s_iconst (v := 1) (by decide)) ?_
    refine rr rfl (s_aload_n rfl) ?_
    refine rr rfl (s_getf rfl rfl) ?_
    refine rr rfl (s_ishl (v := (1 <<< (x5 &&& 31) : Int32)) rfl) ?_
    refine rr rfl (s_ior (v := ((1 <<< (x4 &&& 31) : Int32) ||| (1 <<< (x5 &&& 31) : Int32))) rfl) ?_
    refine rr rfl (s_putf rfl rfl (Nat.le_of_ble_eq_true rfl) rfl (Nat.le_of_ble_eq_true rfl) rfl (h' := (hF ++ [.inr (.inr (2, [.int x1, .int x2, .int x3, .int x4, .int x5, .int x6, .int x7, .int ((1 <<< (x4 &&& 31) : Int32) ||| (1 <<< (x5 &&& 31) : Int32)), .int 0, .int (-1)]))]))) ?_
    refine rr rfl (s_aload_n rfl) ?_
    refine rr rfl (s_iload rfl) ?_
    refine rr rfl (s_iconst (v := (-1)) (by decide)) ?_
    refine rr rfl (s_icT (ic_ne g2)) ?_
    refine rr rfl (s_iconst (v := 1) (by decide)) ?_
    refine rr rfl (s_iload rfl) ?_
    refine rr rfl (s_ishl (v := (1 <<< (x6 &&& 31) : Int32)) rfl) ?_
    refine rr rfl (s_putf rfl rfl (Nat.le_of_ble_eq_true rfl) rfl (Nat.le_of_ble_eq_true rfl) rfl (h' := (hF ++ [.inr (.inr (2, [.int x1, .int x2, .int x3, .int x4, .int x5, .int x6, .int x7, .int ((1 <<< (x4 &&& 31) : Int32) ||| (1 <<< (x5 &&& 31) : Int32)), .int (1 <<< (x6 &&& 31) : Int32), .int (-1)]))]))) ?_
    exact rrt rfl rfl rfl rfl
  refine rrc rfl rfl rfl (do_of g_X2_init rfl rfl e1) ?_
  refine rr rfl (s_astore rfl) ?_
  refine rr rfl (s_aload_n rfl) ?_
  refine rr rfl (s_getf rfl rfl) ?_
  refine rr rfl (s_getf rfl rfl) ?_
  refine rr rfl (s_aload rfl) ?_
  have e2 : a_m MT [] 100000 10 miX3_hasLayersWith [.ref 2, .ref 61] (hF ++ [.inr (.inr (2, [.int x1, .int x2, .int x3, .int x4, .int x5, .int x6, .int x7, .int ((1 <<< (x4 &&& 31) : Int32) ||| (1 <<< (x5 &&& 31) : Int32)), .int (1 <<< (x6 &&& 31) : Int32), .int (-1)]))]) = some ((some (.int 0)), ((hF.set 5 (.inl ((List.replicate 8 (0 : Int32)).set (Int32.toNatClampNeg x3) 8))) ++ [.inr (.inr (2, [.int x1, .int x2, .int x3, .int x4, .int x5, .int x6, .int x7, .int ((1 <<< (x4 &&& 31) : Int32) ||| (1 <<< (x5 &&& 31) : Int32)), .int (1 <<< (x6 &&& 31) : Int32), .int (-1)]))]), 0, 0) := by
    refine me (d := 9) g_X3_hasLayersWith (Nat.le_of_ble_eq_true rfl) ?_
    refine rr rfl (s_aload_n rfl) ?_
    refine rr rfl (s_getf rfl rfl) ?_
    refine rr rfl (s_iconst (v := 0) (by decide)) ?_
    have e3 : a_m MT [] 100000 9 miJ7_fill_53178 [.ref 5, .int 0] (hF ++ [.inr (.inr (2, [.int x1, .int x2, .int x3, .int x4, .int x5, .int x6, .int x7, .int ((1 <<< (x4 &&& 31) : Int32) ||| (1 <<< (x5 &&& 31) : Int32)), .int (1 <<< (x6 &&& 31) : Int32), .int (-1)]))]) = some (none, (hF ++ [.inr (.inr (2, [.int x1, .int x2, .int x3, .int x4, .int x5, .int x6, .int x7, .int ((1 <<< (x4 &&& 31) : Int32) ||| (1 <<< (x5 &&& 31) : Int32)), .int (1 <<< (x6 &&& 31) : Int32), .int (-1)]))]), 0, 0) := fill_n rfl (Nat.le_of_ble_eq_true rfl) rfl
    refine rrc rfl rfl rfl (do_of g_J7_fill_53178 rfl rfl e3) ?_
    refine rr rfl (s_iconst (v := 1) (by decide)) ?_
    refine rr rfl (s_istore_n rfl) ?_
    refine rr rfl (s_iconst (v := 0) (by decide)) ?_
    refine rr rfl (s_istore_n rfl) ?_
    refine rr rfl (s_iload_n rfl) ?_
    refine rr rfl (s_ifF (by decide)) ?_
    refine rr rfl (s_iload_n rfl) ?_
    refine rr rfl (s_bipush (v := 8) (by decide)) ?_
    refine rr rfl (s_icF (by decide)) ?_
    refine rr rfl (s_aload_n rfl) ?_
    refine rr rfl (s_aload_n rfl) ?_
    have e4 : a_m MT [] 100000 9 miX3_lift [.ref 2, .ref 61] (hF ++ [.inr (.inr (2, [.int x1, .int x2, .int x3, .int x4, .int x5, .int x6, .int x7, .int ((1 <<< (x4 &&& 31) : Int32) ||| (1 <<< (x5 &&& 31) : Int32)), .int (1 <<< (x6 &&& 31) : Int32), .int (-1)]))]) = some ((some (.int 1)), ((hF.set 5 (.inl ((List.replicate 8 (0 : Int32)).set (Int32.toNatClampNeg x3) 1))) ++ [.inr (.inr (2, [.int x1, .int x2, .int x3, .int x4, .int x5, .int x6, .int x7, .int ((1 <<< (x4 &&& 31) : Int32) ||| (1 <<< (x5 &&& 31) : Int32)), .int (1 <<< (x6 &&& 31) : Int32), .int (-1)]))]), 0, 0) := by
      refine me (d := 8) g_X3_lift (Nat.le_of_ble_eq_true rfl) ?_
      refine rr rfl (s_aload_n rfl) ?_
      refine rr rfl (s_getf rfl rfl) ?_
      refine rr rfl (s_ifT (ic_eq g3)) ?_
      refine rr rfl (s_aload_n rfl) ?_
      refine rr rfl (s_getf rfl rfl) ?_
      refine rr rfl (s_aload_n rfl) ?_
      refine rr rfl (s_getf rfl rfl) ?_
      refine rr rfl (s_ialdR (n := 8) (x := 0) rfl g4 g5) ?_
      refine rr rfl (s_aload_n rfl) ?_
      refine rr rfl (s_getf rfl rfl) ?_
      refine rr rfl (s_aload_n rfl) ?_
      refine rr rfl (s_getf rfl rfl) ?_
      refine rr rfl (s_ialdR (n := 8) (x := 0) rfl g6 g7) ?_
      refine rr rfl (s_max (v := 0) rfl (Nat.le_of_ble_eq_true rfl) (by decide)) ?_
      refine rr rfl (s_istore_n rfl) ?_
      refine rr rfl (s_aload_n rfl) ?_
      refine rr rfl (s_getf rfl rfl) ?_
      refine rr rfl (s_iconst (v := (-1)) (by decide)) ?_
      refine rr rfl (s_icF (ic_neq g2)) ?_
      refine rr rfl (s_iload_n rfl) ?_
      refine rr rfl (s_aload_n rfl) ?_
      refine rr rfl (s_getf rfl rfl) ?_
      refine rr rfl (s_aload_n rfl) ?_
      refine rr rfl (s_getf rfl rfl) ?_
      refine rr rfl (s_ialdR (n := 8) (x := 0) rfl g8 g9) ?_
      refine rr rfl (s_iconst (v := 1) (by decide)) ?_
      refine rr rfl (s_iadd (v := 1) (by decide)) ?_
      refine rr rfl (s_max (v := 1) rfl (Nat.le_of_ble_eq_true rfl) (by decide)) ?_
      refine rr rfl (s_istore_n rfl) ?_
      refine rr rfl (s_aload_n rfl) ?_
      refine rr rfl (s_getf rfl rfl) ?_
      refine rr rfl (s_aload_n rfl) ?_
      refine rr rfl (s_getf rfl rfl) ?_
      refine rr rfl (s_ialdR (n := 8) (x := 0) rfl g10 g11) ?_
      refine rr rfl (s_iload_n rfl) ?_
      refine rr rfl (s_icT (by decide)) ?_
      refine rr rfl (s_aload_n rfl) ?_
      refine rr rfl (s_getf rfl rfl) ?_
      refine rr rfl (s_aload_n rfl) ?_
      refine rr rfl (s_getf rfl rfl) ?_
      refine rr rfl (s_iload_n rfl) ?_
      refine rr rfl (s_iastR (n := 8) rfl g10 g11 (Nat.le_of_ble_eq_true rfl) rfl (h' := ((hF.set 5 (.inl ((List.replicate 8 (0 : Int32)).set (Int32.toNatClampNeg x3) 1))) ++ [.inr (.inr (2, [.int x1, .int x2, .int x3, .int x4, .int x5, .int x6, .int x7, .int ((1 <<< (x4 &&& 31) : Int32) ||| (1 <<< (x5 &&& 31) : Int32)), .int (1 <<< (x6 &&& 31) : Int32), .int (-1)]))]))) ?_
      refine rr rfl (s_iconst (v := 1) (by decide)) ?_
      exact rrt rfl rfl rfl rfl
    refine rrc rfl rfl rfl (do_of g_X3_lift rfl rfl e4) ?_
    refine rr rfl (s_istore_n rfl) ?_
    refine rr rfl (s_iconst (v := 0) (by decide)) ?_
    refine rr rfl (s_istore rfl) ?_
    refine rr rfl (s_iload rfl) ?_
    refine rr rfl (s_aload_n rfl) ?_
    refine rr rfl (s_getf rfl rfl) ?_
    have e5 : a_m MT [] 100000 9 miJx4a65c_size_8abf5 [.ref 3] ((hF.set 5 (.inl ((List.replicate 8 (0 : Int32)).set (Int32.toNatClampNeg x3) 1))) ++ [.inr (.inr (2, [.int x1, .int x2, .int x3, .int x4, .int x5, .int x6, .int x7, .int ((1 <<< (x4 &&& 31) : Int32) ||| (1 <<< (x5 &&& 31) : Int32)), .int (1 <<< (x6 &&& 31) : Int32), .int (-1)]))]) = some ((some (.int 0)), ((hF.set 5 (.inl ((List.replicate 8 (0 : Int32)).set (Int32.toNatClampNeg x3) 1))) ++ [.inr (.inr (2, [.int x1, .int x2, .int x3, .int x4, .int x5, .int x6, .int x7, .int ((1 <<< (x4 &&& 31) : Int32) ||| (1 <<< (x5 &&& 31) : Int32)), .int (1 <<< (x6 &&& 31) : Int32), .int (-1)]))]), 0, 0) := by
      refine me (d := 8) g_Jx4a65c_size_8abf5 (Nat.le_of_ble_eq_true rfl) ?_
      refine rr rfl (s_aload_n rfl) ?_
      refine rr rfl (s_getf rfl rfl) ?_
      exact rrt rfl rfl rfl rfl
    refine rrc rfl rfl rfl (do_of g_Jx4a65c_size_8abf5 rfl rfl e5) ?_
    refine rr rfl (s_icT (by decide)) ?_
    refine rr rfl (s_iinc (v := 1) rfl (by decide) rfl) ?_
    refine rr rfl s_goto ?_
    refine rr rfl (s_iload_n rfl) ?_
    refine rr rfl (s_ifF (by decide)) ?_
    refine rr rfl (s_iload_n rfl) ?_
    refine rr rfl (s_bipush (v := 8) (by decide)) ?_
    refine rr rfl (s_icF (by decide)) ?_
    refine rr rfl (s_aload_n rfl) ?_
    refine rr rfl (s_aload_n rfl) ?_
    have e6 : a_m MT [] 100000 9 miX3_lift [.ref 2, .ref 61] ((hF.set 5 (.inl ((List.replicate 8 (0 : Int32)).set (Int32.toNatClampNeg x3) 1))) ++ [.inr (.inr (2, [.int x1, .int x2, .int x3, .int x4, .int x5, .int x6, .int x7, .int ((1 <<< (x4 &&& 31) : Int32) ||| (1 <<< (x5 &&& 31) : Int32)), .int (1 <<< (x6 &&& 31) : Int32), .int (-1)]))]) = some ((some (.int 1)), ((hF.set 5 (.inl ((List.replicate 8 (0 : Int32)).set (Int32.toNatClampNeg x3) 2))) ++ [.inr (.inr (2, [.int x1, .int x2, .int x3, .int x4, .int x5, .int x6, .int x7, .int ((1 <<< (x4 &&& 31) : Int32) ||| (1 <<< (x5 &&& 31) : Int32)), .int (1 <<< (x6 &&& 31) : Int32), .int (-1)]))]), 0, 0) := by
      refine me (d := 8) g_X3_lift (Nat.le_of_ble_eq_true rfl) ?_
      refine rr rfl (s_aload_n rfl) ?_
      refine rr rfl (s_getf rfl rfl) ?_
      refine rr rfl (s_ifT (ic_eq g3)) ?_
      refine rr rfl (s_aload_n rfl) ?_
      refine rr rfl (s_getf rfl rfl) ?_
      refine rr rfl (s_aload_n rfl) ?_
      refine rr rfl (s_getf rfl rfl) ?_
      refine rr rfl (s_ialdH rfl g12 g10 g11) ?_
      refine rr rfl (s_aload_n rfl) ?_
      refine rr rfl (s_getf rfl rfl) ?_
      refine rr rfl (s_aload_n rfl) ?_
      refine rr rfl (s_getf rfl rfl) ?_
      refine rr rfl (s_ialdH rfl g13 g10 g11) ?_
      refine rr rfl (s_max (v := 1) rfl (Nat.le_of_ble_eq_true rfl) (by decide)) ?_
      refine rr rfl (s_istore_n rfl) ?_
      refine rr rfl (s_aload_n rfl) ?_
      refine rr rfl (s_getf rfl rfl) ?_
      refine rr rfl (s_iconst (v := (-1)) (by decide)) ?_
      refine rr rfl (s_icF (ic_neq g2)) ?_
      refine rr rfl (s_iload_n rfl) ?_
      refine rr rfl (s_aload_n rfl) ?_
      refine rr rfl (s_getf rfl rfl) ?_
      refine rr rfl (s_aload_n rfl) ?_
      refine rr rfl (s_getf rfl rfl) ?_
      refine rr rfl (s_ialdH rfl g14 g10 g11) ?_
      refine rr rfl (s_iconst (v := 1) (by decide)) ?_
      refine rr rfl (s_iadd (v := 2) (by decide)) ?_
      refine rr rfl (s_max (v := 2) rfl (Nat.le_of_ble_eq_true rfl) (by decide)) ?_
      refine rr rfl (s_istore_n rfl) ?_
      refine rr rfl (s_aload_n rfl) ?_
      refine rr rfl (s_getf rfl rfl) ?_
      refine rr rfl (s_aload_n rfl) ?_
      refine rr rfl (s_getf rfl rfl) ?_
      refine rr rfl (s_ialdH rfl rfl g10 g11) ?_
      refine rr rfl (s_iload_n rfl) ?_
      refine rr rfl (s_icT (by decide)) ?_
      refine rr rfl (s_aload_n rfl) ?_
      refine rr rfl (s_getf rfl rfl) ?_
      refine rr rfl (s_aload_n rfl) ?_
      refine rr rfl (s_getf rfl rfl) ?_
      refine rr rfl (s_iload_n rfl) ?_
      refine rr rfl (s_iastH (v := 2) rfl rfl g10 g11 (Nat.le_of_ble_eq_true rfl) rfl (h' := ((hF.set 5 (.inl ((List.replicate 8 (0 : Int32)).set (Int32.toNatClampNeg x3) 2))) ++ [.inr (.inr (2, [.int x1, .int x2, .int x3, .int x4, .int x5, .int x6, .int x7, .int ((1 <<< (x4 &&& 31) : Int32) ||| (1 <<< (x5 &&& 31) : Int32)), .int (1 <<< (x6 &&& 31) : Int32), .int (-1)]))]))) ?_
      refine rr rfl (s_iconst (v := 1) (by decide)) ?_
      exact rrt rfl rfl rfl rfl
    refine rrc rfl rfl rfl (do_of g_X3_lift rfl rfl e6) ?_
    refine rr rfl (s_istore_n rfl) ?_
    refine rr rfl (s_iconst (v := 0) (by decide)) ?_
    refine rr rfl (s_istore rfl) ?_
    refine rr rfl (s_iload rfl) ?_
    refine rr rfl (s_aload_n rfl) ?_
    refine rr rfl (s_getf rfl rfl) ?_
    have e7 : a_m MT [] 100000 9 miJx4a65c_size_8abf5 [.ref 3] ((hF.set 5 (.inl ((List.replicate 8 (0 : Int32)).set (Int32.toNatClampNeg x3) 2))) ++ [.inr (.inr (2, [.int x1, .int x2, .int x3, .int x4, .int x5, .int x6, .int x7, .int ((1 <<< (x4 &&& 31) : Int32) ||| (1 <<< (x5 &&& 31) : Int32)), .int (1 <<< (x6 &&& 31) : Int32), .int (-1)]))]) = some ((some (.int 0)), ((hF.set 5 (.inl ((List.replicate 8 (0 : Int32)).set (Int32.toNatClampNeg x3) 2))) ++ [.inr (.inr (2, [.int x1, .int x2, .int x3, .int x4, .int x5, .int x6, .int x7, .int ((1 <<< (x4 &&& 31) : Int32) ||| (1 <<< (x5 &&& 31) : Int32)), .int (1 <<< (x6 &&& 31) : Int32), .int (-1)]))]), 0, 0) := by
      refine me (d := 8) g_Jx4a65c_size_8abf5 (Nat.le_of_ble_eq_true rfl) ?_
      refine rr rfl (s_aload_n rfl) ?_
      refine rr rfl (s_getf rfl rfl) ?_
      exact rrt rfl rfl rfl rfl
    refine rrc rfl rfl rfl (do_of g_Jx4a65c_size_8abf5 rfl rfl e7) ?_
    refine rr rfl (s_icT (by decide)) ?_
    refine rr rfl (s_iinc (v := 2) rfl (by decide) rfl) ?_
    refine rr rfl s_goto ?_
    refine rr rfl (s_iload_n rfl) ?_
    refine rr rfl (s_ifF (by decide)) ?_
    refine rr rfl (s_iload_n rfl) ?_
    refine rr rfl (s_bipush (v := 8) (by decide)) ?_
    refine rr rfl (s_icF (by decide)) ?_
    refine rr rfl (s_aload_n rfl) ?_
    refine rr rfl (s_aload_n rfl) ?_
    have e8 : a_m MT [] 100000 9 miX3_lift [.ref 2, .ref 61] ((hF.set 5 (.inl ((List.replicate 8 (0 : Int32)).set (Int32.toNatClampNeg x3) 2))) ++ [.inr (.inr (2, [.int x1, .int x2, .int x3, .int x4, .int x5, .int x6, .int x7, .int ((1 <<< (x4 &&& 31) : Int32) ||| (1 <<< (x5 &&& 31) : Int32)), .int (1 <<< (x6 &&& 31) : Int32), .int (-1)]))]) = some ((some (.int 1)), ((hF.set 5 (.inl ((List.replicate 8 (0 : Int32)).set (Int32.toNatClampNeg x3) 3))) ++ [.inr (.inr (2, [.int x1, .int x2, .int x3, .int x4, .int x5, .int x6, .int x7, .int ((1 <<< (x4 &&& 31) : Int32) ||| (1 <<< (x5 &&& 31) : Int32)), .int (1 <<< (x6 &&& 31) : Int32), .int (-1)]))]), 0, 0) := by
      refine me (d := 8) g_X3_lift (Nat.le_of_ble_eq_true rfl) ?_
      refine rr rfl (s_aload_n rfl) ?_
      refine rr rfl (s_getf rfl rfl) ?_
      refine rr rfl (s_ifT (ic_eq g3)) ?_
      refine rr rfl (s_aload_n rfl) ?_
      refine rr rfl (s_getf rfl rfl) ?_
      refine rr rfl (s_aload_n rfl) ?_
      refine rr rfl (s_getf rfl rfl) ?_
      refine rr rfl (s_ialdH rfl g12 g10 g11) ?_
      refine rr rfl (s_aload_n rfl) ?_
      refine rr rfl (s_getf rfl rfl) ?_
      refine rr rfl (s_aload_n rfl) ?_
      refine rr rfl (s_getf rfl rfl) ?_
      refine rr rfl (s_ialdH rfl g13 g10 g11) ?_
      refine rr rfl (s_max (v := 2) rfl (Nat.le_of_ble_eq_true rfl) (by decide)) ?_
      refine rr rfl (s_istore_n rfl) ?_
      refine rr rfl (s_aload_n rfl) ?_
      refine rr rfl (s_getf rfl rfl) ?_
      refine rr rfl (s_iconst (v := (-1)) (by decide)) ?_
      refine rr rfl (s_icF (ic_neq g2)) ?_
      refine rr rfl (s_iload_n rfl) ?_
      refine rr rfl (s_aload_n rfl) ?_
      refine rr rfl (s_getf rfl rfl) ?_
      refine rr rfl (s_aload_n rfl) ?_
      refine rr rfl (s_getf rfl rfl) ?_
      refine rr rfl (s_ialdH rfl g14 g10 g11) ?_
      refine rr rfl (s_iconst (v := 1) (by decide)) ?_
      refine rr rfl (s_iadd (v := 3) (by decide)) ?_
      refine rr rfl (s_max (v := 3) rfl (Nat.le_of_ble_eq_true rfl) (by decide)) ?_
      refine rr rfl (s_istore_n rfl) ?_
      refine rr rfl (s_aload_n rfl) ?_
      refine rr rfl (s_getf rfl rfl) ?_
      refine rr rfl (s_aload_n rfl) ?_
      refine rr rfl (s_getf rfl rfl) ?_
      refine rr rfl (s_ialdH rfl rfl g10 g11) ?_
      refine rr rfl (s_iload_n rfl) ?_
      refine rr rfl (s_icT (by decide)) ?_
      refine rr rfl (s_aload_n rfl) ?_
      refine rr rfl (s_getf rfl rfl) ?_
      refine rr rfl (s_aload_n rfl) ?_
      refine rr rfl (s_getf rfl rfl) ?_
      refine rr rfl (s_iload_n rfl) ?_
      refine rr rfl (s_iastH (v := 3) rfl rfl g10 g11 (Nat.le_of_ble_eq_true rfl) rfl (h' := ((hF.set 5 (.inl ((List.replicate 8 (0 : Int32)).set (Int32.toNatClampNeg x3) 3))) ++ [.inr (.inr (2, [.int x1, .int x2, .int x3, .int x4, .int x5, .int x6, .int x7, .int ((1 <<< (x4 &&& 31) : Int32) ||| (1 <<< (x5 &&& 31) : Int32)), .int (1 <<< (x6 &&& 31) : Int32), .int (-1)]))]))) ?_
      refine rr rfl (s_iconst (v := 1) (by decide)) ?_
      exact rrt rfl rfl rfl rfl
    refine rrc rfl rfl rfl (do_of g_X3_lift rfl rfl e8) ?_
    refine rr rfl (s_istore_n rfl) ?_
    refine rr rfl (s_iconst (v := 0) (by decide)) ?_
    refine rr rfl (s_istore rfl) ?_
    refine rr rfl (s_iload rfl) ?_
    refine rr rfl (s_aload_n rfl) ?_
    refine rr rfl (s_getf rfl rfl) ?_
    have e9 : a_m MT [] 100000 9 miJx4a65c_size_8abf5 [.ref 3] ((hF.set 5 (.inl ((List.replicate 8 (0 : Int32)).set (Int32.toNatClampNeg x3) 3))) ++ [.inr (.inr (2, [.int x1, .int x2, .int x3, .int x4, .int x5, .int x6, .int x7, .int ((1 <<< (x4 &&& 31) : Int32) ||| (1 <<< (x5 &&& 31) : Int32)), .int (1 <<< (x6 &&& 31) : Int32), .int (-1)]))]) = some ((some (.int 0)), ((hF.set 5 (.inl ((List.replicate 8 (0 : Int32)).set (Int32.toNatClampNeg x3) 3))) ++ [.inr (.inr (2, [.int x1, .int x2, .int x3, .int x4, .int x5, .int x6, .int x7, .int ((1 <<< (x4 &&& 31) : Int32) ||| (1 <<< (x5 &&& 31) : Int32)), .int (1 <<< (x6 &&& 31) : Int32), .int (-1)]))]), 0, 0) := by
      refine me (d := 8) g_Jx4a65c_size_8abf5 (Nat.le_of_ble_eq_true rfl) ?_
      refine rr rfl (s_aload_n rfl) ?_
      refine rr rfl (s_getf rfl rfl) ?_
      exact rrt rfl rfl rfl rfl
    refine rrc rfl rfl rfl (do_of g_Jx4a65c_size_8abf5 rfl rfl e9) ?_
    refine rr rfl (s_icT (by decide)) ?_
    refine rr rfl (s_iinc (v := 3) rfl (by decide) rfl) ?_
    refine rr rfl s_goto ?_
    refine rr rfl (s_iload_n rfl) ?_
    refine rr rfl (s_ifF (by decide)) ?_
    refine rr rfl (s_iload_n rfl) ?_
    refine rr rfl (s_bipush (v := 8) (by decide)) ?_
    refine rr rfl (s_icF (by decide)) ?_
    refine rr rfl (s_aload_n rfl) ?_
    refine rr rfl (s_aload_n rfl) ?_
    have e10 : a_m MT [] 100000 9 miX3_lift [.ref 2, .ref 61] ((hF.set 5 (.inl ((List.replicate 8 (0 : Int32)).set (Int32.toNatClampNeg x3) 3))) ++ [.inr (.inr (2, [.int x1, .int x2, .int x3, .int x4, .int x5, .int x6, .int x7, .int ((1 <<< (x4 &&& 31) : Int32) ||| (1 <<< (x5 &&& 31) : Int32)), .int (1 <<< (x6 &&& 31) : Int32), .int (-1)]))]) = some ((some (.int 1)), ((hF.set 5 (.inl ((List.replicate 8 (0 : Int32)).set (Int32.toNatClampNeg x3) 4))) ++ [.inr (.inr (2, [.int x1, .int x2, .int x3, .int x4, .int x5, .int x6, .int x7, .int ((1 <<< (x4 &&& 31) : Int32) ||| (1 <<< (x5 &&& 31) : Int32)), .int (1 <<< (x6 &&& 31) : Int32), .int (-1)]))]), 0, 0) := by
      refine me (d := 8) g_X3_lift (Nat.le_of_ble_eq_true rfl) ?_
      refine rr rfl (s_aload_n rfl) ?_
      refine rr rfl (s_getf rfl rfl) ?_
      refine rr rfl (s_ifT (ic_eq g3)) ?_
      refine rr rfl (s_aload_n rfl) ?_
      refine rr rfl (s_getf rfl rfl) ?_
      refine rr rfl (s_aload_n rfl) ?_
      refine rr rfl (s_getf rfl rfl) ?_
      refine rr rfl (s_ialdH rfl g12 g10 g11) ?_
      refine rr rfl (s_aload_n rfl) ?_
      refine rr rfl (s_getf rfl rfl) ?_
      refine rr rfl (s_aload_n rfl) ?_
      refine rr rfl (s_getf rfl rfl) ?_
      refine rr rfl (s_ialdH rfl g13 g10 g11) ?_
      refine rr rfl (s_max (v := 3) rfl (Nat.le_of_ble_eq_true rfl) (by decide)) ?_
      refine rr rfl (s_istore_n rfl) ?_
      refine rr rfl (s_aload_n rfl) ?_
      refine rr rfl (s_getf rfl rfl) ?_
      refine rr rfl (s_iconst (v := (-1)) (by decide)) ?_
      refine rr rfl (s_icF (ic_neq g2)) ?_
      refine rr rfl (s_iload_n rfl) ?_
      refine rr rfl (s_aload_n rfl) ?_
      refine rr rfl (s_getf rfl rfl) ?_
      refine rr rfl (s_aload_n rfl) ?_
      refine rr rfl (s_getf rfl rfl) ?_
      refine rr rfl (s_ialdH rfl g14 g10 g11) ?_
      refine rr rfl (s_iconst (v := 1) (by decide)) ?_
      refine rr rfl (s_iadd (v := 4) (by decide)) ?_
      refine rr rfl (s_max (v := 4) rfl (Nat.le_of_ble_eq_true rfl) (by decide)) ?_
      refine rr rfl (s_istore_n rfl) ?_
      refine rr rfl (s_aload_n rfl) ?_
      refine rr rfl (s_getf rfl rfl) ?_
      refine rr rfl (s_aload_n rfl) ?_
      refine rr rfl (s_getf rfl rfl) ?_
      refine rr rfl (s_ialdH rfl rfl g10 g11) ?_
      refine rr rfl (s_iload_n rfl) ?_
      refine rr rfl (s_icT (by decide)) ?_
      refine rr rfl (s_aload_n rfl) ?_
      refine rr rfl (s_getf rfl rfl) ?_
      refine rr rfl (s_aload_n rfl) ?_
      refine rr rfl (s_getf rfl rfl) ?_
      refine rr rfl (s_iload_n rfl) ?_
      refine rr rfl (s_iastH (v := 4) rfl rfl g10 g11 (Nat.le_of_ble_eq_true rfl) rfl (h' := ((hF.set 5 (.inl ((List.replicate 8 (0 : Int32)).set (Int32.toNatClampNeg x3) 4))) ++ [.inr (.inr (2, [.int x1, .int x2, .int x3, .int x4, .int x5, .int x6, .int x7, .int ((1 <<< (x4 &&& 31) : Int32) ||| (1 <<< (x5 &&& 31) : Int32)), .int (1 <<< (x6 &&& 31) : Int32), .int (-1)]))]))) ?_
      refine rr rfl (s_iconst (v := 1) (by decide)) ?_
      exact rrt rfl rfl rfl rfl
    refine rrc rfl rfl rfl (do_of g_X3_lift rfl rfl e10) ?_
    refine rr rfl (s_istore_n rfl) ?_
    refine rr rfl (s_iconst (v := 0) (by decide)) ?_
    refine rr rfl (s_istore rfl) ?_
    refine rr rfl (s_iload rfl) ?_
    refine rr rfl (s_aload_n rfl) ?_
    refine rr rfl (s_getf rfl rfl) ?_
    have e11 : a_m MT [] 100000 9 miJx4a65c_size_8abf5 [.ref 3] ((hF.set 5 (.inl ((List.replicate 8 (0 : Int32)).set (Int32.toNatClampNeg x3) 4))) ++ [.inr (.inr (2, [.int x1, .int x2, .int x3, .int x4, .int x5, .int x6, .int x7, .int ((1 <<< (x4 &&& 31) : Int32) ||| (1 <<< (x5 &&& 31) : Int32)), .int (1 <<< (x6 &&& 31) : Int32), .int (-1)]))]) = some ((some (.int 0)), ((hF.set 5 (.inl ((List.replicate 8 (0 : Int32)).set (Int32.toNatClampNeg x3) 4))) ++ [.inr (.inr (2, [.int x1, .int x2, .int x3, .int x4, .int x5, .int x6, .int x7, .int ((1 <<< (x4 &&& 31) : Int32) ||| (1 <<< (x5 &&& 31) : Int32)), .int (1 <<< (x6 &&& 31) : Int32), .int (-1)]))]), 0, 0) := by
      refine me (d := 8) g_Jx4a65c_size_8abf5 (Nat.le_of_ble_eq_true rfl) ?_
      refine rr rfl (s_aload_n rfl) ?_
      refine rr rfl (s_getf rfl rfl) ?_
      exact rrt rfl rfl rfl rfl
    refine rrc rfl rfl rfl (do_of g_Jx4a65c_size_8abf5 rfl rfl e11) ?_
    refine rr rfl (s_icT (by decide)) ?_
    refine rr rfl (s_iinc (v := 4) rfl (by decide) rfl) ?_
    refine rr rfl s_goto ?_
    refine rr rfl (s_iload_n rfl) ?_
    refine rr rfl (s_ifF (by decide)) ?_
    refine rr rfl (s_iload_n rfl) ?_
    refine rr rfl (s_bipush (v := 8) (by decide)) ?_
    refine rr rfl (s_icF (by decide)) ?_
    refine rr rfl (s_aload_n rfl) ?_
    refine rr rfl (s_aload_n rfl) ?_
    have e12 : a_m MT [] 100000 9 miX3_lift [.ref 2, .ref 61] ((hF.set 5 (.inl ((List.replicate 8 (0 : Int32)).set (Int32.toNatClampNeg x3) 4))) ++ [.inr (.inr (2, [.int x1, .int x2, .int x3, .int x4, .int x5, .int x6, .int x7, .int ((1 <<< (x4 &&& 31) : Int32) ||| (1 <<< (x5 &&& 31) : Int32)), .int (1 <<< (x6 &&& 31) : Int32), .int (-1)]))]) = some ((some (.int 1)), ((hF.set 5 (.inl ((List.replicate 8 (0 : Int32)).set (Int32.toNatClampNeg x3) 5))) ++ [.inr (.inr (2, [.int x1, .int x2, .int x3, .int x4, .int x5, .int x6, .int x7, .int ((1 <<< (x4 &&& 31) : Int32) ||| (1 <<< (x5 &&& 31) : Int32)), .int (1 <<< (x6 &&& 31) : Int32), .int (-1)]))]), 0, 0) := by
      refine me (d := 8) g_X3_lift (Nat.le_of_ble_eq_true rfl) ?_
      refine rr rfl (s_aload_n rfl) ?_
      refine rr rfl (s_getf rfl rfl) ?_
      refine rr rfl (s_ifT (ic_eq g3)) ?_
      refine rr rfl (s_aload_n rfl) ?_
      refine rr rfl (s_getf rfl rfl) ?_
      refine rr rfl (s_aload_n rfl) ?_
      refine rr rfl (s_getf rfl rfl) ?_
      refine rr rfl (s_ialdH rfl g12 g10 g11) ?_
      refine rr rfl (s_aload_n rfl) ?_
      refine rr rfl (s_getf rfl rfl) ?_
      refine rr rfl (s_aload_n rfl) ?_
      refine rr rfl (s_getf rfl rfl) ?_
      refine rr rfl (s_ialdH rfl g13 g10 g11) ?_
      refine rr rfl (s_max (v := 4) rfl (Nat.le_of_ble_eq_true rfl) (by decide)) ?_
      refine rr rfl (s_istore_n rfl) ?_
      refine rr rfl (s_aload_n rfl) ?_
      refine rr rfl (s_getf rfl rfl) ?_
      refine rr rfl (s_iconst (v := (-1)) (by decide)) ?_
      refine rr rfl (s_icF (ic_neq g2)) ?_
      refine rr rfl (s_iload_n rfl) ?_
      refine rr rfl (s_aload_n rfl) ?_
      refine rr rfl (s_getf rfl rfl) ?_
      refine rr rfl (s_aload_n rfl) ?_
      refine rr rfl (s_getf rfl rfl) ?_
      refine rr rfl (s_ialdH rfl g14 g10 g11) ?_
      refine rr rfl (s_iconst (v := 1) (by decide)) ?_
      refine rr rfl (s_iadd (v := 5) (by decide)) ?_
      refine rr rfl (s_max (v := 5) rfl (Nat.le_of_ble_eq_true rfl) (by decide)) ?_
      refine rr rfl (s_istore_n rfl) ?_
      refine rr rfl (s_aload_n rfl) ?_
      refine rr rfl (s_getf rfl rfl) ?_
      refine rr rfl (s_aload_n rfl) ?_
      refine rr rfl (s_getf rfl rfl) ?_
      refine rr rfl (s_ialdH rfl rfl g10 g11) ?_
      refine rr rfl (s_iload_n rfl) ?_
      refine rr rfl (s_icT (by decide)) ?_
      refine rr rfl (s_aload_n rfl) ?_
      refine rr rfl (s_getf rfl rfl) ?_
      refine rr rfl (s_aload_n rfl) ?_
      refine rr rfl (s_getf rfl rfl) ?_
      refine rr rfl (s_iload_n rfl) ?_
      refine rr rfl (s_iastH (v := 5) rfl rfl g10 g11 (Nat.le_of_ble_eq_true rfl) rfl (h' := ((hF.set 5 (.inl ((List.replicate 8 (0 : Int32)).set (Int32.toNatClampNeg x3) 5))) ++ [.inr (.inr (2, [.int x1, .int x2, .int x3, .int x4, .int x5, .int x6, .int x7, .int ((1 <<< (x4 &&& 31) : Int32) ||| (1 <<< (x5 &&& 31) : Int32)), .int (1 <<< (x6 &&& 31) : Int32), .int (-1)]))]))) ?_
      refine rr rfl (s_iconst (v := 1) (by decide)) ?_
      exact rrt rfl rfl rfl rfl
    refine rrc rfl rfl rfl (do_of g_X3_lift rfl rfl e12) ?_
    refine rr rfl (s_istore_n rfl) ?_
    refine rr rfl (s_iconst (v := 0) (by decide)) ?_
    refine rr rfl (s_istore rfl) ?_
    refine rr rfl (s_iload rfl) ?_
    refine rr rfl (s_aload_n rfl) ?_
    refine rr rfl (s_getf rfl rfl) ?_
    have e13 : a_m MT [] 100000 9 miJx4a65c_size_8abf5 [.ref 3] ((hF.set 5 (.inl ((List.replicate 8 (0 : Int32)).set (Int32.toNatClampNeg x3) 5))) ++ [.inr (.inr (2, [.int x1, .int x2, .int x3, .int x4, .int x5, .int x6, .int x7, .int ((1 <<< (x4 &&& 31) : Int32) ||| (1 <<< (x5 &&& 31) : Int32)), .int (1 <<< (x6 &&& 31) : Int32), .int (-1)]))]) = some ((some (.int 0)), ((hF.set 5 (.inl ((List.replicate 8 (0 : Int32)).set (Int32.toNatClampNeg x3) 5))) ++ [.inr (.inr (2, [.int x1, .int x2, .int x3, .int x4, .int x5, .int x6, .int x7, .int ((1 <<< (x4 &&& 31) : Int32) ||| (1 <<< (x5 &&& 31) : Int32)), .int (1 <<< (x6 &&& 31) : Int32), .int (-1)]))]), 0, 0) := by
      refine me (d := 8) g_Jx4a65c_size_8abf5 (Nat.le_of_ble_eq_true rfl) ?_
      refine rr rfl (s_aload_n rfl) ?_
      refine rr rfl (s_getf rfl rfl) ?_
      exact rrt rfl rfl rfl rfl
    refine rrc rfl rfl rfl (do_of g_Jx4a65c_size_8abf5 rfl rfl e13) ?_
    refine rr rfl (s_icT (by decide)) ?_
    refine rr rfl (s_iinc (v := 5) rfl (by decide) rfl) ?_
    refine rr rfl s_goto ?_
    refine rr rfl (s_iload_n rfl) ?_
    refine rr rfl (s_ifF (by decide)) ?_
    refine rr rfl (s_iload_n rfl) ?_
    refine rr rfl (s_bipush (v := 8) (by decide)) ?_
    refine rr rfl (s_icF (by decide)) ?_
    refine rr rfl (s_aload_n rfl) ?_
    refine rr rfl (s_aload_n rfl) ?_
    have e14 : a_m MT [] 100000 9 miX3_lift [.ref 2, .ref 61] ((hF.set 5 (.inl ((List.replicate 8 (0 : Int32)).set (Int32.toNatClampNeg x3) 5))) ++ [.inr (.inr (2, [.int x1, .int x2, .int x3, .int x4, .int x5, .int x6, .int x7, .int ((1 <<< (x4 &&& 31) : Int32) ||| (1 <<< (x5 &&& 31) : Int32)), .int (1 <<< (x6 &&& 31) : Int32), .int (-1)]))]) = some ((some (.int 1)), ((hF.set 5 (.inl ((List.replicate 8 (0 : Int32)).set (Int32.toNatClampNeg x3) 6))) ++ [.inr (.inr (2, [.int x1, .int x2, .int x3, .int x4, .int x5, .int x6, .int x7, .int ((1 <<< (x4 &&& 31) : Int32) ||| (1 <<< (x5 &&& 31) : Int32)), .int (1 <<< (x6 &&& 31) : Int32), .int (-1)]))]), 0, 0) := by
      refine me (d := 8) g_X3_lift (Nat.le_of_ble_eq_true rfl) ?_
      refine rr rfl (s_aload_n rfl) ?_
      refine rr rfl (s_getf rfl rfl) ?_
      refine rr rfl (s_ifT (ic_eq g3)) ?_
      refine rr rfl (s_aload_n rfl) ?_
      refine rr rfl (s_getf rfl rfl) ?_
      refine rr rfl (s_aload_n rfl) ?_
      refine rr rfl (s_getf rfl rfl) ?_
      refine rr rfl (s_ialdH rfl g12 g10 g11) ?_
      refine rr rfl (s_aload_n rfl) ?_
      refine rr rfl (s_getf rfl rfl) ?_
      refine rr rfl (s_aload_n rfl) ?_
      refine rr rfl (s_getf rfl rfl) ?_
      refine rr rfl (s_ialdH rfl g13 g10 g11) ?_
      refine rr rfl (s_max (v := 5) rfl (Nat.le_of_ble_eq_true rfl) (by decide)) ?_
      refine rr rfl (s_istore_n rfl) ?_
      refine rr rfl (s_aload_n rfl) ?_
      refine rr rfl (s_getf rfl rfl) ?_
      refine rr rfl (s_iconst (v := (-1)) (by decide)) ?_
      refine rr rfl (s_icF (ic_neq g2)) ?_
      refine rr rfl (s_iload_n rfl) ?_
      refine rr rfl (s_aload_n rfl) ?_
      refine rr rfl (s_getf rfl rfl) ?_
      refine rr rfl (s_aload_n rfl) ?_
      refine rr rfl (s_getf rfl rfl) ?_
      refine rr rfl (s_ialdH rfl g14 g10 g11) ?_
      refine rr rfl (s_iconst (v := 1) (by decide)) ?_
      refine rr rfl (s_iadd (v := 6) (by decide)) ?_
      refine rr rfl (s_max (v := 6) rfl (Nat.le_of_ble_eq_true rfl) (by decide)) ?_
      refine rr rfl (s_istore_n rfl) ?_
      refine rr rfl (s_aload_n rfl) ?_
      refine rr rfl (s_getf rfl rfl) ?_
      refine rr rfl (s_aload_n rfl) ?_
      refine rr rfl (s_getf rfl rfl) ?_
      refine rr rfl (s_ialdH rfl rfl g10 g11) ?_
      refine rr rfl (s_iload_n rfl) ?_
      refine rr rfl (s_icT (by decide)) ?_
      refine rr rfl (s_aload_n rfl) ?_
      refine rr rfl (s_getf rfl rfl) ?_
      refine rr rfl (s_aload_n rfl) ?_
      refine rr rfl (s_getf rfl rfl) ?_
      refine rr rfl (s_iload_n rfl) ?_
      refine rr rfl (s_iastH (v := 6) rfl rfl g10 g11 (Nat.le_of_ble_eq_true rfl) rfl (h' := ((hF.set 5 (.inl ((List.replicate 8 (0 : Int32)).set (Int32.toNatClampNeg x3) 6))) ++ [.inr (.inr (2, [.int x1, .int x2, .int x3, .int x4, .int x5, .int x6, .int x7, .int ((1 <<< (x4 &&& 31) : Int32) ||| (1 <<< (x5 &&& 31) : Int32)), .int (1 <<< (x6 &&& 31) : Int32), .int (-1)]))]))) ?_
      refine rr rfl (s_iconst (v := 1) (by decide)) ?_
      exact rrt rfl rfl rfl rfl
    refine rrc rfl rfl rfl (do_of g_X3_lift rfl rfl e14) ?_
    refine rr rfl (s_istore_n rfl) ?_
    refine rr rfl (s_iconst (v := 0) (by decide)) ?_
    refine rr rfl (s_istore rfl) ?_
    refine rr rfl (s_iload rfl) ?_
    refine rr rfl (s_aload_n rfl) ?_
    refine rr rfl (s_getf rfl rfl) ?_
    have e15 : a_m MT [] 100000 9 miJx4a65c_size_8abf5 [.ref 3] ((hF.set 5 (.inl ((List.replicate 8 (0 : Int32)).set (Int32.toNatClampNeg x3) 6))) ++ [.inr (.inr (2, [.int x1, .int x2, .int x3, .int x4, .int x5, .int x6, .int x7, .int ((1 <<< (x4 &&& 31) : Int32) ||| (1 <<< (x5 &&& 31) : Int32)), .int (1 <<< (x6 &&& 31) : Int32), .int (-1)]))]) = some ((some (.int 0)), ((hF.set 5 (.inl ((List.replicate 8 (0 : Int32)).set (Int32.toNatClampNeg x3) 6))) ++ [.inr (.inr (2, [.int x1, .int x2, .int x3, .int x4, .int x5, .int x6, .int x7, .int ((1 <<< (x4 &&& 31) : Int32) ||| (1 <<< (x5 &&& 31) : Int32)), .int (1 <<< (x6 &&& 31) : Int32), .int (-1)]))]), 0, 0) := by
      refine me (d := 8) g_Jx4a65c_size_8abf5 (Nat.le_of_ble_eq_true rfl) ?_
      refine rr rfl (s_aload_n rfl) ?_
      refine rr rfl (s_getf rfl rfl) ?_
      exact rrt rfl rfl rfl rfl
    refine rrc rfl rfl rfl (do_of g_Jx4a65c_size_8abf5 rfl rfl e15) ?_
    refine rr rfl (s_icT (by decide)) ?_
    refine rr rfl (s_iinc (v := 6) rfl (by decide) rfl) ?_
    refine rr rfl s_goto ?_
    refine rr rfl (s_iload_n rfl) ?_
    refine rr rfl (s_ifF (by decide)) ?_
    refine rr rfl (s_iload_n rfl) ?_
    refine rr rfl (s_bipush (v := 8) (by decide)) ?_
    refine rr rfl (s_icF (by decide)) ?_
    refine rr rfl (s_aload_n rfl) ?_
    refine rr rfl (s_aload_n rfl) ?_
    have e16 : a_m MT [] 100000 9 miX3_lift [.ref 2, .ref 61] ((hF.set 5 (.inl ((List.replicate 8 (0 : Int32)).set (Int32.toNatClampNeg x3) 6))) ++ [.inr (.inr (2, [.int x1, .int x2, .int x3, .int x4, .int x5, .int x6, .int x7, .int ((1 <<< (x4 &&& 31) : Int32) ||| (1 <<< (x5 &&& 31) : Int32)), .int (1 <<< (x6 &&& 31) : Int32), .int (-1)]))]) = some ((some (.int 1)), ((hF.set 5 (.inl ((List.replicate 8 (0 : Int32)).set (Int32.toNatClampNeg x3) 7))) ++ [.inr (.inr (2, [.int x1, .int x2, .int x3, .int x4, .int x5, .int x6, .int x7, .int ((1 <<< (x4 &&& 31) : Int32) ||| (1 <<< (x5 &&& 31) : Int32)), .int (1 <<< (x6 &&& 31) : Int32), .int (-1)]))]), 0, 0) := by
      refine me (d := 8) g_X3_lift (Nat.le_of_ble_eq_true rfl) ?_
      refine rr rfl (s_aload_n rfl) ?_
      refine rr rfl (s_getf rfl rfl) ?_
      refine rr rfl (s_ifT (ic_eq g3)) ?_
      refine rr rfl (s_aload_n rfl) ?_
      refine rr rfl (s_getf rfl rfl) ?_
      refine rr rfl (s_aload_n rfl) ?_
      refine rr rfl (s_getf rfl rfl) ?_
      refine rr rfl (s_ialdH rfl g12 g10 g11) ?_
      refine rr rfl (s_aload_n rfl) ?_
      refine rr rfl (s_getf rfl rfl) ?_
      refine rr rfl (s_aload_n rfl) ?_
      refine rr rfl (s_getf rfl rfl) ?_
      refine rr rfl (s_ialdH rfl g13 g10 g11) ?_
      refine rr rfl (s_max (v := 6) rfl (Nat.le_of_ble_eq_true rfl) (by decide)) ?_
      refine rr rfl (s_istore_n rfl) ?_
      refine rr rfl (s_aload_n rfl) ?_
      refine rr rfl (s_getf rfl rfl) ?_
      refine rr rfl (s_iconst (v := (-1)) (by decide)) ?_
      refine rr rfl (s_icF (ic_neq g2)) ?_
      refine rr rfl (s_iload_n rfl) ?_
      refine rr rfl (s_aload_n rfl) ?_
      refine rr rfl (s_getf rfl rfl) ?_
      refine rr rfl (s_aload_n rfl) ?_
      refine rr rfl (s_getf rfl rfl) ?_
      refine rr rfl (s_ialdH rfl g14 g10 g11) ?_
      refine rr rfl (s_iconst (v := 1) (by decide)) ?_
      refine rr rfl (s_iadd (v := 7) (by decide)) ?_
      refine rr rfl (s_max (v := 7) rfl (Nat.le_of_ble_eq_true rfl) (by decide)) ?_
      refine rr rfl (s_istore_n rfl) ?_
      refine rr rfl (s_aload_n rfl) ?_
      refine rr rfl (s_getf rfl rfl) ?_
      refine rr rfl (s_aload_n rfl) ?_
      refine rr rfl (s_getf rfl rfl) ?_
      refine rr rfl (s_ialdH rfl rfl g10 g11) ?_
      refine rr rfl (s_iload_n rfl) ?_
      refine rr rfl (s_icT (by decide)) ?_
      refine rr rfl (s_aload_n rfl) ?_
      refine rr rfl (s_getf rfl rfl) ?_
      refine rr rfl (s_aload_n rfl) ?_
      refine rr rfl (s_getf rfl rfl) ?_
      refine rr rfl (s_iload_n rfl) ?_
      refine rr rfl (s_iastH (v := 7) rfl rfl g10 g11 (Nat.le_of_ble_eq_true rfl) rfl (h' := ((hF.set 5 (.inl ((List.replicate 8 (0 : Int32)).set (Int32.toNatClampNeg x3) 7))) ++ [.inr (.inr (2, [.int x1, .int x2, .int x3, .int x4, .int x5, .int x6, .int x7, .int ((1 <<< (x4 &&& 31) : Int32) ||| (1 <<< (x5 &&& 31) : Int32)), .int (1 <<< (x6 &&& 31) : Int32), .int (-1)]))]))) ?_
      refine rr rfl (s_iconst (v := 1) (by decide)) ?_
      exact rrt rfl rfl rfl rfl
    refine rrc rfl rfl rfl (do_of g_X3_lift rfl rfl e16) ?_
    refine rr rfl (s_istore_n rfl) ?_
    refine rr rfl (s_iconst (v := 0) (by decide)) ?_
    refine rr rfl (s_istore rfl) ?_
    refine rr rfl (s_iload rfl) ?_
    refine rr rfl (s_aload_n rfl) ?_
    refine rr rfl (s_getf rfl rfl) ?_
    have e17 : a_m MT [] 100000 9 miJx4a65c_size_8abf5 [.ref 3] ((hF.set 5 (.inl ((List.replicate 8 (0 : Int32)).set (Int32.toNatClampNeg x3) 7))) ++ [.inr (.inr (2, [.int x1, .int x2, .int x3, .int x4, .int x5, .int x6, .int x7, .int ((1 <<< (x4 &&& 31) : Int32) ||| (1 <<< (x5 &&& 31) : Int32)), .int (1 <<< (x6 &&& 31) : Int32), .int (-1)]))]) = some ((some (.int 0)), ((hF.set 5 (.inl ((List.replicate 8 (0 : Int32)).set (Int32.toNatClampNeg x3) 7))) ++ [.inr (.inr (2, [.int x1, .int x2, .int x3, .int x4, .int x5, .int x6, .int x7, .int ((1 <<< (x4 &&& 31) : Int32) ||| (1 <<< (x5 &&& 31) : Int32)), .int (1 <<< (x6 &&& 31) : Int32), .int (-1)]))]), 0, 0) := by
      refine me (d := 8) g_Jx4a65c_size_8abf5 (Nat.le_of_ble_eq_true rfl) ?_
      refine rr rfl (s_aload_n rfl) ?_
      refine rr rfl (s_getf rfl rfl) ?_
      exact rrt rfl rfl rfl rfl
    refine rrc rfl rfl rfl (do_of g_Jx4a65c_size_8abf5 rfl rfl e17) ?_
    refine rr rfl (s_icT (by decide)) ?_
    refine rr rfl (s_iinc (v := 7) rfl (by decide) rfl) ?_
    refine rr rfl s_goto ?_
    refine rr rfl (s_iload_n rfl) ?_
    refine rr rfl (s_ifF (by decide)) ?_
    refine rr rfl (s_iload_n rfl) ?_
    refine rr rfl (s_bipush (v := 8) (by decide)) ?_
    refine rr rfl (s_icF (by decide)) ?_
    refine rr rfl (s_aload_n rfl) ?_
    refine rr rfl (s_aload_n rfl) ?_
    have e18 : a_m MT [] 100000 9 miX3_lift [.ref 2, .ref 61] ((hF.set 5 (.inl ((List.replicate 8 (0 : Int32)).set (Int32.toNatClampNeg x3) 7))) ++ [.inr (.inr (2, [.int x1, .int x2, .int x3, .int x4, .int x5, .int x6, .int x7, .int ((1 <<< (x4 &&& 31) : Int32) ||| (1 <<< (x5 &&& 31) : Int32)), .int (1 <<< (x6 &&& 31) : Int32), .int (-1)]))]) = some ((some (.int 1)), ((hF.set 5 (.inl ((List.replicate 8 (0 : Int32)).set (Int32.toNatClampNeg x3) 8))) ++ [.inr (.inr (2, [.int x1, .int x2, .int x3, .int x4, .int x5, .int x6, .int x7, .int ((1 <<< (x4 &&& 31) : Int32) ||| (1 <<< (x5 &&& 31) : Int32)), .int (1 <<< (x6 &&& 31) : Int32), .int (-1)]))]), 0, 0) := by
      refine me (d := 8) g_X3_lift (Nat.le_of_ble_eq_true rfl) ?_
      refine rr rfl (s_aload_n rfl) ?_
      refine rr rfl (s_getf rfl rfl) ?_
      refine rr rfl (s_ifT (ic_eq g3)) ?_
      refine rr rfl (s_aload_n rfl) ?_
      refine rr rfl (s_getf rfl rfl) ?_
      refine rr rfl (s_aload_n rfl) ?_
      refine rr rfl (s_getf rfl rfl) ?_
      refine rr rfl (s_ialdH rfl g12 g10 g11) ?_
      refine rr rfl (s_aload_n rfl) ?_
      refine rr rfl (s_getf rfl rfl) ?_
      refine rr rfl (s_aload_n rfl) ?_
      refine rr rfl (s_getf rfl rfl) ?_
      refine rr rfl (s_ialdH rfl g13 g10 g11) ?_
      refine rr rfl (s_max (v := 7) rfl (Nat.le_of_ble_eq_true rfl) (by decide)) ?_
      refine rr rfl (s_istore_n rfl) ?_
      refine rr rfl (s_aload_n rfl) ?_
      refine rr rfl (s_getf rfl rfl) ?_
      refine rr rfl (s_iconst (v := (-1)) (by decide)) ?_
      refine rr rfl (s_icF (ic_neq g2)) ?_
      refine rr rfl (s_iload_n rfl) ?_
      refine rr rfl (s_aload_n rfl) ?_
      refine rr rfl (s_getf rfl rfl) ?_
      refine rr rfl (s_aload_n rfl) ?_
      refine rr rfl (s_getf rfl rfl) ?_
      refine rr rfl (s_ialdH rfl g14 g10 g11) ?_
      refine rr rfl (s_iconst (v := 1) (by decide)) ?_
      refine rr rfl (s_iadd (v := 8) (by decide)) ?_
      refine rr rfl (s_max (v := 8) rfl (Nat.le_of_ble_eq_true rfl) (by decide)) ?_
      refine rr rfl (s_istore_n rfl) ?_
      refine rr rfl (s_aload_n rfl) ?_
      refine rr rfl (s_getf rfl rfl) ?_
      refine rr rfl (s_aload_n rfl) ?_
      refine rr rfl (s_getf rfl rfl) ?_
      refine rr rfl (s_ialdH rfl rfl g10 g11) ?_
      refine rr rfl (s_iload_n rfl) ?_
      refine rr rfl (s_icT (by decide)) ?_
      refine rr rfl (s_aload_n rfl) ?_
      refine rr rfl (s_getf rfl rfl) ?_
      refine rr rfl (s_aload_n rfl) ?_
      refine rr rfl (s_getf rfl rfl) ?_
      refine rr rfl (s_iload_n rfl) ?_
      refine rr rfl (s_iastH (v := 8) rfl rfl g10 g11 (Nat.le_of_ble_eq_true rfl) rfl (h' := ((hF.set 5 (.inl ((List.replicate 8 (0 : Int32)).set (Int32.toNatClampNeg x3) 8))) ++ [.inr (.inr (2, [.int x1, .int x2, .int x3, .int x4, .int x5, .int x6, .int x7, .int ((1 <<< (x4 &&& 31) : Int32) ||| (1 <<< (x5 &&& 31) : Int32)), .int (1 <<< (x6 &&& 31) : Int32), .int (-1)]))]))) ?_
      refine rr rfl (s_iconst (v := 1) (by decide)) ?_
      exact rrt rfl rfl rfl rfl
    refine rrc rfl rfl rfl (do_of g_X3_lift rfl rfl e18) ?_
    refine rr rfl (s_istore_n rfl) ?_
    refine rr rfl (s_iconst (v := 0) (by decide)) ?_
    refine rr rfl (s_istore rfl) ?_
    refine rr rfl (s_iload rfl) ?_
    refine rr rfl (s_aload_n rfl) ?_
    refine rr rfl (s_getf rfl rfl) ?_
    have e19 : a_m MT [] 100000 9 miJx4a65c_size_8abf5 [.ref 3] ((hF.set 5 (.inl ((List.replicate 8 (0 : Int32)).set (Int32.toNatClampNeg x3) 8))) ++ [.inr (.inr (2, [.int x1, .int x2, .int x3, .int x4, .int x5, .int x6, .int x7, .int ((1 <<< (x4 &&& 31) : Int32) ||| (1 <<< (x5 &&& 31) : Int32)), .int (1 <<< (x6 &&& 31) : Int32), .int (-1)]))]) = some ((some (.int 0)), ((hF.set 5 (.inl ((List.replicate 8 (0 : Int32)).set (Int32.toNatClampNeg x3) 8))) ++ [.inr (.inr (2, [.int x1, .int x2, .int x3, .int x4, .int x5, .int x6, .int x7, .int ((1 <<< (x4 &&& 31) : Int32) ||| (1 <<< (x5 &&& 31) : Int32)), .int (1 <<< (x6 &&& 31) : Int32), .int (-1)]))]), 0, 0) := by
      refine me (d := 8) g_Jx4a65c_size_8abf5 (Nat.le_of_ble_eq_true rfl) ?_
      refine rr rfl (s_aload_n rfl) ?_
      refine rr rfl (s_getf rfl rfl) ?_
      exact rrt rfl rfl rfl rfl
    refine rrc rfl rfl rfl (do_of g_Jx4a65c_size_8abf5 rfl rfl e19) ?_
    refine rr rfl (s_icT (by decide)) ?_
    refine rr rfl (s_iinc (v := 8) rfl (by decide) rfl) ?_
    refine rr rfl s_goto ?_
    refine rr rfl (s_iload_n rfl) ?_
    refine rr rfl (s_ifF (by decide)) ?_
    refine rr rfl (s_iload_n rfl) ?_
    refine rr rfl (s_bipush (v := 8) (by decide)) ?_
    refine rr rfl (s_icT (by decide)) ?_
    refine rr rfl (s_iload_n rfl) ?_
    refine rr rfl (s_ifT (by decide)) ?_
    refine rr rfl (s_iconst (v := 0) (by decide)) ?_
    exact rrt rfl rfl rfl rfl
  refine rrc rfl rfl rfl (do_of g_X3_hasLayersWith rfl rfl e2) ?_
  refine rr rfl (s_ifF (by decide)) ?_
  refine rr rfl (s_bipush (v := (-3)) (by decide)) ?_
  exact rrt rfl rfl rfl rfl
