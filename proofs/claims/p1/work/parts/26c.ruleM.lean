set_option maxHeartbeats 4000000 in
set_option maxRecDepth 10000 in
theorem rm_Nmhh {x1 x2 x3 x4 x5 x6 x7 : Int32} {H : AH} (F41 : a_at H 41 = some (.inr (.inr (9, [.int 4, .int 0, .ref 42, .ref 43, .ref 44, .ref 45, .ref 46, .ref 47, .ref 48, .ref 49, .ref 50, .ref 51, .int 0, .int 0, .int 0, .int 0, .int 0, .int 0, .int 0, .int 0, .ref 52, .int 0, .ref 53, .int 0, .ref 54, .int 0, .ref 55, .ref 56, .ref 57, .ref 58, .int 0, .ref 59, .ref 60])))) (F42 : a_at H 42 = some (.inl (List.replicate 13 0))) (F43 : a_at H 43 = some (.inl (List.replicate 13 0))) (F44 : a_at H 44 = some (.inl (List.replicate 13 0))) (F45 : a_at H 45 = some (.inl (List.replicate 13 0))) (F46 : a_at H 46 = some (.inl (List.replicate 13 0))) (F47 : a_at H 47 = some (.inl (List.replicate 13 0))) (F48 : a_at H 48 = some (.inl (List.replicate 13 0))) (F49 : a_at H 49 = some (.inl (List.replicate 13 0))) (F51 : a_at H 51 = some (.inl (List.replicate 8 0))) (g1 : x2 = 0) (g2 : ¬ x4 < 0) (g3 : x4 < nI 8) (g4 : x5 = (-1)) (g5 : ¬ x6 = (-1)) (g6 : ¬ x6 < 0) (g7 : x6 < nI 8) (g8 : ¬ x3 < 0) (g9 : x3 < nI 8) (g10 : x4 = x3) (g11 : x6 = x3) : a_run MT [] (a_m MT [] 100000 10) 11 (some .int) tabX9_rule 90000 95 (alQ x1 x2 x3 x4 x5 x6 x7) [] H 0 0 = some (some (.int (-3)), ((((((((((((H.set 42 (.inl [x1, 0, 0, 0, 0, 0, 0, 0, 0, 0, 0, 0, 0])).set 43 (.inl [x2, 0, 0, 0, 0, 0, 0, 0, 0, 0, 0, 0, 0])).set 44 (.inl [x3, 0, 0, 0, 0, 0, 0, 0, 0, 0, 0, 0, 0])).set 45 (.inl [x4, 0, 0, 0, 0, 0, 0, 0, 0, 0, 0, 0, 0])).set 46 (.inl [x5, 0, 0, 0, 0, 0, 0, 0, 0, 0, 0, 0, 0])).set 47 (.inl [x6, 0, 0, 0, 0, 0, 0, 0, 0, 0, 0, 0, 0])).set 48 (.inl [x7, 0, 0, 0, 0, 0, 0, 0, 0, 0, 0, 0, 0])).set 49 (.inl [(-1), 0, 0, 0, 0, 0, 0, 0, 0, 0, 0, 0, 0])).set 41 (.inr (.inr (9, [.int 4, .int 1, .ref 42, .ref 43, .ref 44, .ref 45, .ref 46, .ref 47, .ref 48, .ref 49, .ref 50, .ref 51, .int 0, .int 0, .int 0, .int 0, .int 0, .int 0, .int 0, .int 0, .ref 52, .int 0, .ref 53, .int 0, .ref 54, .int 0, .ref 55, .ref 56, .ref 57, .ref 58, .int 0, .ref 59, .ref 60])))).set 51 (.inl ((List.replicate 8 (0 : Int32)).set (Int32.toNatClampNeg x3) 8))).set 41 (.inr (.inr (9, [.int 4, .int 0, .ref 42, .ref 43, .ref 44, .ref 45, .ref 46, .ref 47, .ref 48, .ref 49, .ref 50, .ref 51, .int 0, .int 0, .int 0, .int 0, .int 0, .int 0, .int 0, .int 0, .ref 52, .int 0, .ref 53, .int 0, .ref 54, .int 0, .ref 55, .ref 56, .ref 57, .ref 58, .int 0, .ref 59, .ref 60])))).set 51 (.inl (List.replicate 8 0))), 0, 0) := by
  refine rr rfl (s_aload_n rfl) ?_
  refine rr rfl (s_aload_n rfl) ?_
  have f1 : a_at H 41 = some (.inr (.inr (9, [.int 4, .int 0, .ref 42, .ref 43, .ref 44, .ref 45, .ref 46, .ref 47, .ref 48, .ref 49, .ref 50, .ref 51, .int 0, .int 0, .int 0, .int 0, .int 0, .int 0, .int 0, .int 0, .ref 52, .int 0, .ref 53, .int 0, .ref 54, .int 0, .ref 55, .ref 56, .ref 57, .ref 58, .int 0, .ref 59, .ref 60]))) := F41
  refine rr rfl (s_getf f1 rfl) ?_
  refine rr rfl (s_iload_n rfl) ?_
  refine rr rfl (s_iload_n rfl) ?_
  refine rr rfl (s_iload_n rfl) ?_
  refine rr rfl (s_iload rfl) ?_
  refine rr rfl (s_iload rfl) ?_
  refine rr rfl (s_iload rfl) ?_
  refine rr rfl (s_iload rfl) ?_
  have e1 : a_m MT [] 100000 10 miX9_sets [.ref 41, .int 0, .int x1, .int x2, .int x3, .int x4, .int x5, .int x6, .int x7] H = some (none, ((((((((H.set 42 (.inl [x1, 0, 0, 0, 0, 0, 0, 0, 0, 0, 0, 0, 0])).set 43 (.inl [x2, 0, 0, 0, 0, 0, 0, 0, 0, 0, 0, 0, 0])).set 44 (.inl [x3, 0, 0, 0, 0, 0, 0, 0, 0, 0, 0, 0, 0])).set 45 (.inl [x4, 0, 0, 0, 0, 0, 0, 0, 0, 0, 0, 0, 0])).set 46 (.inl [x5, 0, 0, 0, 0, 0, 0, 0, 0, 0, 0, 0, 0])).set 47 (.inl [x6, 0, 0, 0, 0, 0, 0, 0, 0, 0, 0, 0, 0])).set 48 (.inl [x7, 0, 0, 0, 0, 0, 0, 0, 0, 0, 0, 0, 0])).set 49 (.inl [(-1), 0, 0, 0, 0, 0, 0, 0, 0, 0, 0, 0, 0])), 0, 0) := by
    refine me (d := 9) g_X9_sets (Nat.le_of_ble_eq_true rfl) ?_
    refine rr rfl (s_aload_n rfl) ?_
    refine rr rfl (s_getf f1 rfl) ?_
    refine rr rfl (s_iload_n rfl) ?_
    refine rr rfl (s_iload_n rfl) ?_
    have f2 : a_at H 42 = some (.inl (List.replicate 13 0)) := F42
    refine rr rfl (s_iastore (h' := (H.set 42 (.inl [x1, 0, 0, 0, 0, 0, 0, 0, 0, 0, 0, 0, 0]))) (j := 0) (f' := [x1, 0, 0, 0, 0, 0, 0, 0, 0, 0, 0, 0, 0]) rfl f2 (Nat.le_of_ble_eq_true rfl) rfl (len_of f2) rfl) ?_
    refine rr rfl (s_aload_n rfl) ?_
    have f3 : a_at (H.set 42 (.inl [x1, 0, 0, 0, 0, 0, 0, 0, 0, 0, 0, 0, 0])) 41 = some (.inr (.inr (9, [.int 4, .int 0, .ref 42, .ref 43, .ref 44, .ref 45, .ref 46, .ref 47, .ref 48, .ref 49, .ref 50, .ref 51, .int 0, .int 0, .int 0, .int 0, .int 0, .int 0, .int 0, .int 0, .ref 52, .int 0, .ref 53, .int 0, .ref 54, .int 0, .ref 55, .ref 56, .ref 57, .ref 58, .int 0, .ref 59, .ref 60]))) := ((at_ne (by decide)).trans f1)
    refine rr rfl (s_getf f3 rfl) ?_
    refine rr rfl (s_iload_n rfl) ?_
    refine rr rfl (s_iload_n rfl) ?_
    have f4 : a_at (H.set 42 (.inl [x1, 0, 0, 0, 0, 0, 0, 0, 0, 0, 0, 0, 0])) 43 = some (.inl (List.replicate 13 0)) := ((at_ne (by decide)).trans F43)
    refine rr rfl (s_iastore (h' := ((H.set 42 (.inl [x1, 0, 0, 0, 0, 0, 0, 0, 0, 0, 0, 0, 0])).set 43 (.inl [x2, 0, 0, 0, 0, 0, 0, 0, 0, 0, 0, 0, 0]))) (j := 0) (f' := [x2, 0, 0, 0, 0, 0, 0, 0, 0, 0, 0, 0, 0]) rfl f4 (Nat.le_of_ble_eq_true rfl) rfl (len_of f4) rfl) ?_
    refine rr rfl (s_aload_n rfl) ?_
    have f5 : a_at ((H.set 42 (.inl [x1, 0, 0, 0, 0, 0, 0, 0, 0, 0, 0, 0, 0])).set 43 (.inl [x2, 0, 0, 0, 0, 0, 0, 0, 0, 0, 0, 0, 0])) 41 = some (.inr (.inr (9, [.int 4, .int 0, .ref 42, .ref 43, .ref 44, .ref 45, .ref 46, .ref 47, .ref 48, .ref 49, .ref 50, .ref 51, .int 0, .int 0, .int 0, .int 0, .int 0, .int 0, .int 0, .int 0, .ref 52, .int 0, .ref 53, .int 0, .ref 54, .int 0, .ref 55, .ref 56, .ref 57, .ref 58, .int 0, .ref 59, .ref 60]))) := ((at_ne (by decide)).trans f3)
    refine rr rfl (s_getf f5 rfl) ?_
    refine rr rfl (s_iload_n rfl) ?_
    refine rr rfl (s_iload rfl) ?_
    have f6 : a_at ((H.set 42 (.inl [x1, 0, 0, 0, 0, 0, 0, 0, 0, 0, 0, 0, 0])).set 43 (.inl [x2, 0, 0, 0, 0, 0, 0, 0, 0, 0, 0, 0, 0])) 44 = some (.inl (List.replicate 13 0)) := ((at_ne (by decide)).trans ((at_ne (by decide)).trans F44))
    refine rr rfl (s_iastore (h' := (((H.set 42 (.inl [x1, 0, 0, 0, 0, 0, 0, 0, 0, 0, 0, 0, 0])).set 43 (.inl [x2, 0, 0, 0, 0, 0, 0, 0, 0, 0, 0, 0, 0])).set 44 (.inl [x3, 0, 0, 0, 0, 0, 0, 0, 0, 0, 0, 0, 0]))) (j := 0) (f' := [x3, 0, 0, 0, 0, 0, 0, 0, 0, 0, 0, 0, 0]) rfl f6 (Nat.le_of_ble_eq_true rfl) rfl (len_of f6) rfl) ?_
    refine rr rfl (s_aload_n rfl) ?_
    have f7 : a_at (((H.set 42 (.inl [x1, 0, 0, 0, 0, 0, 0, 0, 0, 0, 0, 0, 0])).set 43 (.inl [x2, 0, 0, 0, 0, 0, 0, 0, 0, 0, 0, 0, 0])).set 44 (.inl [x3, 0, 0, 0, 0, 0, 0, 0, 0, 0, 0, 0, 0])) 41 = some (.inr (.inr (9, [.int 4, .int 0, .ref 42, .ref 43, .ref 44, .ref 45, .ref 46, .ref 47, .ref 48, .ref 49, .ref 50, .ref 51, .int 0, .int 0, .int 0, .int 0, .int 0, .int 0, .int 0, .int 0, .ref 52, .int 0, .ref 53, .int 0, .ref 54, .int 0, .ref 55, .ref 56, .ref 57, .ref 58, .int 0, .ref 59, .ref 60]))) := ((at_ne (by decide)).trans f5)
    refine rr rfl (s_getf f7 rfl) ?_
    refine rr rfl (s_iload_n rfl) ?_
    refine rr rfl (s_iload rfl) ?_
    have f8 : a_at (((H.set 42 (.inl [x1, 0, 0, 0, 0, 0, 0, 0, 0, 0, 0, 0, 0])).set 43 (.inl [x2, 0, 0, 0, 0, 0, 0, 0, 0, 0, 0, 0, 0])).set 44 (.inl [x3, 0, 0, 0, 0, 0, 0, 0, 0, 0, 0, 0, 0])) 45 = some (.inl (List.replicate 13 0)) := ((at_ne (by decide)).trans ((at_ne (by decide)).trans ((at_ne (by decide)).trans F45)))
    refine rr rfl (s_iastore (h' := ((((H.set 42 (.inl [x1, 0, 0, 0, 0, 0, 0, 0, 0, 0, 0, 0, 0])).set 43 (.inl [x2, 0, 0, 0, 0, 0, 0, 0, 0, 0, 0, 0, 0])).set 44 (.inl [x3, 0, 0, 0, 0, 0, 0, 0, 0, 0, 0, 0, 0])).set 45 (.inl [x4, 0, 0, 0, 0, 0, 0, 0, 0, 0, 0, 0, 0]))) (j := 0) (f' := [x4, 0, 0, 0, 0, 0, 0, 0, 0, 0, 0, 0, 0]) rfl f8 (Nat.le_of_ble_eq_true rfl) rfl (len_of f8) rfl) ?_
    refine rr rfl (s_aload_n rfl) ?_
    have f9 : a_at ((((H.set 42 (.inl [x1, 0, 0, 0, 0, 0, 0, 0, 0, 0, 0, 0, 0])).set 43 (.inl [x2, 0, 0, 0, 0, 0, 0, 0, 0, 0, 0, 0, 0])).set 44 (.inl [x3, 0, 0, 0, 0, 0, 0, 0, 0, 0, 0, 0, 0])).set 45 (.inl [x4, 0, 0, 0, 0, 0, 0, 0, 0, 0, 0, 0, 0])) 41 = some (.inr (.inr (9, [.int 4, .int 0, .ref 42, .ref 43, .ref 44, .ref 45, .ref 46, .ref 47, .ref 48, .ref 49, .ref 50, .ref 51, .int 0, .int 0, .int 0, .int 0, .int 0, .int 0, .int 0, .int 0, .ref 52, .int 0, .ref 53, .int 0, .ref 54, .int 0, .ref 55, .ref 56, .ref 57, .ref 58, .int 0, .ref 59, .ref 60]))) := ((at_ne (by decide)).trans f7)
    refine rr rfl (s_getf f9 rfl) ?_
    refine rr rfl (s_iload_n rfl) ?_
    refine rr rfl (s_iload rfl) ?_
    have f10 : a_at ((((H.set 42 (.inl [x1, 0, 0, 0, 0, 0, 0, 0, 0, 0, 0, 0, 0])).set 43 (.inl [x2, 0, 0, 0, 0, 0, 0, 0, 0, 0, 0, 0, 0])).set 44 (.inl [x3, 0, 0, 0, 0, 0, 0, 0, 0, 0, 0, 0, 0])).set 45 (.inl [x4, 0, 0, 0, 0, 0, 0, 0, 0, 0, 0, 0, 0])) 46 = some (.inl (List.replicate 13 0)) := ((at_ne (by decide)).trans ((at_ne (by decide)).trans ((at_ne (by decide)).trans ((at_ne (by decide)).trans F46))))
    refine rr rfl (s_iastore (h' := (((((H.set 42 (.inl [x1, 0, 0, 0, 0, 0, 0, 0, 0, 0, 0, 0, 0])).set 43 (.inl [x2, 0, 0, 0, 0, 0, 0, 0, 0, 0, 0, 0, 0])).set 44 (.inl [x3, 0, 0, 0, 0, 0, 0, 0, 0, 0, 0, 0, 0])).set 45 (.inl [x4, 0, 0, 0, 0, 0, 0, 0, 0, 0, 0, 0, 0])).set 46 (.inl [x5, 0, 0, 0, 0, 0, 0, 0, 0, 0, 0, 0, 0]))) (j := 0) (f' := [x5, 0, 0, 0, 0, 0, 0, 0, 0, 0, 0, 0, 0]) rfl f10 (Nat.le_of_ble_eq_true rfl) rfl (len_of f10) rfl) ?_
    refine rr rfl (s_aload_n rfl) ?_
    have f11 : a_at (((((H.set 42 (.inl [x1, 0, 0, 0, 0, 0, 0, 0, 0, 0, 0, 0, 0])).set 43 (.inl [x2, 0, 0, 0, 0, 0, 0, 0, 0, 0, 0, 0, 0])).set 44 (.inl [x3, 0, 0, 0, 0, 0, 0, 0, 0, 0, 0, 0, 0])).set 45 (.inl [x4, 0, 0, 0, 0, 0, 0, 0, 0, 0, 0, 0, 0])).set 46 (.inl [x5, 0, 0, 0, 0, 0, 0, 0, 0, 0, 0, 0, 0])) 41 = some (.inr (.inr (9, [.int 4, .int 0, .ref 42, .ref 43, .ref 44, .ref 45, .ref 46, .ref 47, .ref 48, .ref 49, .ref 50, .ref 51, .int 0, .int 0, .int 0, .int 0, .int 0, .int 0, .int 0, .int 0, .ref 52, .int 0, .ref 53, .int 0, .ref 54, .int 0, .ref 55, .ref 56, .ref 57, .ref 58, .int 0, .ref 59, .ref 60]))) := ((at_ne (by decide)).trans f9)
    refine rr rfl (s_getf f11 rfl) ?_
    refine rr rfl (s_iload_n rfl) ?_
    refine rr rfl (s_iload rfl) ?_
    have f12 : a_at (((((H.set 42 (.inl [x1, 0, 0, 0, 0, 0, 0, 0, 0, 0, 0, 0, 0])).set 43 (.inl [x2, 0, 0, 0, 0, 0, 0, 0, 0, 0, 0, 0, 0])).set 44 (.inl [x3, 0, 0, 0, 0, 0, 0, 0, 0, 0, 0, 0, 0])).set 45 (.inl [x4, 0, 0, 0, 0, 0, 0, 0, 0, 0, 0, 0, 0])).set 46 (.inl [x5, 0, 0, 0, 0, 0, 0, 0, 0, 0, 0, 0, 0])) 47 = some (.inl (List.replicate 13 0)) := ((at_ne (by decide)).trans ((at_ne (by decide)).trans ((at_ne (by decide)).trans ((at_ne (by decide)).trans ((at_ne (by decide)).trans F47)))))
    refine rr rfl (s_iastore (h' := ((((((H.set 42 (.inl [x1, 0, 0, 0, 0, 0, 0, 0, 0, 0, 0, 0, 0])).set 43 (.inl [x2, 0, 0, 0, 0, 0, 0, 0, 0, 0, 0, 0, 0])).set 44 (.inl [x3, 0, 0, 0, 0, 0, 0, 0, 0, 0, 0, 0, 0])).set 45 (.inl [x4, 0, 0, 0, 0, 0, 0, 0, 0, 0, 0, 0, 0])).set 46 (.inl [x5, 0, 0, 0, 0, 0, 0, 0, 0, 0, 0, 0, 0])).set 47 (.inl [x6, 0, 0, 0, 0, 0, 0, 0, 0, 0, 0, 0, 0]))) (j := 0) (f' := [x6, 0, 0, 0, 0, 0, 0, 0, 0, 0, 0, 0, 0]) rfl f12 (Nat.le_of_ble_eq_true rfl) rfl (len_of f12) rfl) ?_
    refine rr rfl (s_aload_n rfl) ?_
    have f13 : a_at ((((((H.set 42 (.inl [x1, 0, 0, 0, 0, 0, 0, 0, 0, 0, 0, 0, 0])).set 43 (.inl [x2, 0, 0, 0, 0, 0, 0, 0, 0, 0, 0, 0, 0])).set 44 (.inl [x3, 0, 0, 0, 0, 0, 0, 0, 0, 0, 0, 0, 0])).set 45 (.inl [x4, 0, 0, 0, 0, 0, 0, 0, 0, 0, 0, 0, 0])).set 46 (.inl [x5, 0, 0, 0, 0, 0, 0, 0, 0, 0, 0, 0, 0])).set 47 (.inl [x6, 0, 0, 0, 0, 0, 0, 0, 0, 0, 0, 0, 0])) 41 = some (.inr (.inr (9, [.int 4, .int 0, .ref 42, .ref 43, .ref 44, .ref 45, .ref 46, .ref 47, .ref 48, .ref 49, .ref 50, .ref 51, .int 0, .int 0, .int 0, .int 0, .int 0, .int 0, .int 0, .int 0, .ref 52, .int 0, .ref 53, .int 0, .ref 54, .int 0, .ref 55, .ref 56, .ref 57, .ref 58, .int 0, .ref 59, .ref 60]))) := ((at_ne (by decide)).trans f11)
    refine rr rfl (s_getf f13 rfl) ?_
    refine rr rfl (s_iload_n rfl) ?_
    refine rr rfl (s_iload rfl) ?_
    have f14 : a_at ((((((H.set 42 (.inl [x1, 0, 0, 0, 0, 0, 0, 0, 0, 0, 0, 0, 0])).set 43 (.inl [x2, 0, 0, 0, 0, 0, 0, 0, 0, 0, 0, 0, 0])).set 44 (.inl [x3, 0, 0, 0, 0, 0, 0, 0, 0, 0, 0, 0, 0])).set 45 (.inl [x4, 0, 0, 0, 0, 0, 0, 0, 0, 0, 0, 0, 0])).set 46 (.inl [x5, 0, 0, 0, 0, 0, 0, 0, 0, 0, 0, 0, 0])).set 47 (.inl [x6, 0, 0, 0, 0, 0, 0, 0, 0, 0, 0, 0, 0])) 48 = some (.inl (List.replicate 13 0)) := ((at_ne (by decide)).trans ((at_ne (by decide)).trans ((at_ne (by decide)).trans ((at_ne (by decide)).trans ((at_ne (by decide)).trans ((at_ne (by decide)).trans F48))))))
    refine rr rfl (s_iastore (h' := (((((((H.set 42 (.inl [x1, 0, 0, 0, 0, 0, 0, 0, 0, 0, 0, 0, 0])).set 43 (.inl [x2, 0, 0, 0, 0, 0, 0, 0, 0, 0, 0, 0, 0])).set 44 (.inl [x3, 0, 0, 0, 0, 0, 0, 0, 0, 0, 0, 0, 0])).set 45 (.inl [x4, 0, 0, 0, 0, 0, 0, 0, 0, 0, 0, 0, 0])).set 46 (.inl [x5, 0, 0, 0, 0, 0, 0, 0, 0, 0, 0, 0, 0])).set 47 (.inl [x6, 0, 0, 0, 0, 0, 0, 0, 0, 0, 0, 0, 0])).set 48 (.inl [x7, 0, 0, 0, 0, 0, 0, 0, 0, 0, 0, 0, 0]))) (j := 0) (f' := [x7, 0, 0, 0, 0, 0, 0, 0, 0, 0, 0, 0, 0]) rfl f14 (Nat.le_of_ble_eq_true rfl) rfl (len_of f14) rfl) ?_
    refine rr rfl (s_aload_n rfl) ?_
    have f15 : a_at (((((((H.set 42 (.inl [x1, 0, 0, 0, 0, 0, 0, 0, 0, 0, 0, 0, 0])).set 43 (.inl [x2, 0, 0, 0, 0, 0, 0, 0, 0, 0, 0, 0, 0])).set 44 (.inl [x3, 0, 0, 0, 0, 0, 0, 0, 0, 0, 0, 0, 0])).set 45 (.inl [x4, 0, 0, 0, 0, 0, 0, 0, 0, 0, 0, 0, 0])).set 46 (.inl [x5, 0, 0, 0, 0, 0, 0, 0, 0, 0, 0, 0, 0])).set 47 (.inl [x6, 0, 0, 0, 0, 0, 0, 0, 0, 0, 0, 0, 0])).set 48 (.inl [x7, 0, 0, 0, 0, 0, 0, 0, 0, 0, 0, 0, 0])) 41 = some (.inr (.inr (9, [.int 4, .int 0, .ref 42, .ref 43, .ref 44, .ref 45, .ref 46, .ref 47, .ref 48, .ref 49, .ref 50, .ref 51, .int 0, .int 0, .int 0, .int 0, .int 0, .int 0, .int 0, .int 0, .ref 52, .int 0, .ref 53, .int 0, .ref 54, .int 0, .ref 55, .ref 56, .ref 57, .ref 58, .int 0, .ref 59, .ref 60]))) := ((at_ne (by decide)).trans f13)
    refine rr rfl (s_getf f15 rfl) ?_
    refine rr rfl (s_iload_n rfl) ?_
    refine rr rfl (s_iconst (v := (-1)) (by decide)) ?_
    have f16 : a_at (((((((H.set 42 (.inl [x1, 0, 0, 0, 0, 0, 0, 0, 0, 0, 0, 0, 0])).set 43 (.inl [x2, 0, 0, 0, 0, 0, 0, 0, 0, 0, 0, 0, 0])).set 44 (.inl [x3, 0, 0, 0, 0, 0, 0, 0, 0, 0, 0, 0, 0])).set 45 (.inl [x4, 0, 0, 0, 0, 0, 0, 0, 0, 0, 0, 0, 0])).set 46 (.inl [x5, 0, 0, 0, 0, 0, 0, 0, 0, 0, 0, 0, 0])).set 47 (.inl [x6, 0, 0, 0, 0, 0, 0, 0, 0, 0, 0, 0, 0])).set 48 (.inl [x7, 0, 0, 0, 0, 0, 0, 0, 0, 0, 0, 0, 0])) 49 = some (.inl (List.replicate 13 0)) := ((at_ne (by decide)).trans ((at_ne (by decide)).trans ((at_ne (by decide)).trans ((at_ne (by decide)).trans ((at_ne (by decide)).trans ((at_ne (by decide)).trans ((at_ne (by decide)).trans F49)))))))
    refine rr rfl (s_iastore (h' := ((((((((H.set 42 (.inl [x1, 0, 0, 0, 0, 0, 0, 0, 0, 0, 0, 0, 0])).set 43 (.inl [x2, 0, 0, 0, 0, 0, 0, 0, 0, 0, 0, 0, 0])).set 44 (.inl [x3, 0, 0, 0, 0, 0, 0, 0, 0, 0, 0, 0, 0])).set 45 (.inl [x4, 0, 0, 0, 0, 0, 0, 0, 0, 0, 0, 0, 0])).set 46 (.inl [x5, 0, 0, 0, 0, 0, 0, 0, 0, 0, 0, 0, 0])).set 47 (.inl [x6, 0, 0, 0, 0, 0, 0, 0, 0, 0, 0, 0, 0])).set 48 (.inl [x7, 0, 0, 0, 0, 0, 0, 0, 0, 0, 0, 0, 0])).set 49 (.inl [(-1), 0, 0, 0, 0, 0, 0, 0, 0, 0, 0, 0, 0]))) (j := 0) (f' := [(-1), 0, 0, 0, 0, 0, 0, 0, 0, 0, 0, 0, 0]) rfl f16 (Nat.le_of_ble_eq_true rfl) rfl (len_of f16) rfl) ?_
    exact rrt rfl rfl rfl rfl
  refine rrc rfl rfl rfl (do_of g_X9_sets rfl (rok9 f1 rfl rfl) e1) ?_
  refine rr rfl (s_aload_n rfl) ?_
  refine rr rfl s_dup ?_
  have f17 : a_at ((((((((H.set 42 (.inl [x1, 0, 0, 0, 0, 0, 0, 0, 0, 0, 0, 0, 0])).set 43 (.inl [x2, 0, 0, 0, 0, 0, 0, 0, 0, 0, 0, 0, 0])).set 44 (.inl [x3, 0, 0, 0, 0, 0, 0, 0, 0, 0, 0, 0, 0])).set 45 (.inl [x4, 0, 0, 0, 0, 0, 0, 0, 0, 0, 0, 0, 0])).set 46 (.inl [x5, 0, 0, 0, 0, 0, 0, 0, 0, 0, 0, 0, 0])).set 47 (.inl [x6, 0, 0, 0, 0, 0, 0, 0, 0, 0, 0, 0, 0])).set 48 (.inl [x7, 0, 0, 0, 0, 0, 0, 0, 0, 0, 0, 0, 0])).set 49 (.inl [(-1), 0, 0, 0, 0, 0, 0, 0, 0, 0, 0, 0, 0])) 41 = some (.inr (.inr (9, [.int 4, .int 0, .ref 42, .ref 43, .ref 44, .ref 45, .ref 46, .ref 47, .ref 48, .ref 49, .ref 50, .ref 51, .int 0, .int 0, .int 0, .int 0, .int 0, .int 0, .int 0, .int 0, .ref 52, .int 0, .ref 53, .int 0, .ref 54, .int 0, .ref 55, .ref 56, .ref 57, .ref 58, .int 0, .ref 59, .ref 60]))) := ((at_ne (by decide)).trans ((at_ne (by decide)).trans ((at_ne (by decide)).trans ((at_ne (by decide)).trans ((at_ne (by decide)).trans ((at_ne (by decide)).trans ((at_ne (by decide)).trans ((at_ne (by decide)).trans f1))))))))
  refine rr rfl (s_getf f17 rfl) ?_
  refine rr rfl (s_iconst (v := 1) (by decide)) ?_
  refine rr rfl (s_iadd (v := 1) (by decide)) ?_
  refine rr rfl (s_putf (h' := (((((((((H.set 42 (.inl [x1, 0, 0, 0, 0, 0, 0, 0, 0, 0, 0, 0, 0])).set 43 (.inl [x2, 0, 0, 0, 0, 0, 0, 0, 0, 0, 0, 0, 0])).set 44 (.inl [x3, 0, 0, 0, 0, 0, 0, 0, 0, 0, 0, 0, 0])).set 45 (.inl [x4, 0, 0, 0, 0, 0, 0, 0, 0, 0, 0, 0, 0])).set 46 (.inl [x5, 0, 0, 0, 0, 0, 0, 0, 0, 0, 0, 0, 0])).set 47 (.inl [x6, 0, 0, 0, 0, 0, 0, 0, 0, 0, 0, 0, 0])).set 48 (.inl [x7, 0, 0, 0, 0, 0, 0, 0, 0, 0, 0, 0, 0])).set 49 (.inl [(-1), 0, 0, 0, 0, 0, 0, 0, 0, 0, 0, 0, 0])).set 41 (.inr (.inr (9, [.int 4, .int 1, .ref 42, .ref 43, .ref 44, .ref 45, .ref 46, .ref 47, .ref 48, .ref 49, .ref 50, .ref 51, .int 0, .int 0, .int 0, .int 0, .int 0, .int 0, .int 0, .int 0, .ref 52, .int 0, .ref 53, .int 0, .ref 54, .int 0, .ref 55, .ref 56, .ref 57, .ref 58, .int 0, .ref 59, .ref 60]))))) f17 rfl (Nat.le_of_ble_eq_true rfl) rfl (len_of f17) rfl) ?_
  refine rr rfl (s_aload_n rfl) ?_
  have f18 : a_at (((((((((H.set 42 (.inl [x1, 0, 0, 0, 0, 0, 0, 0, 0, 0, 0, 0, 0])).set 43 (.inl [x2, 0, 0, 0, 0, 0, 0, 0, 0, 0, 0, 0, 0])).set 44 (.inl [x3, 0, 0, 0, 0, 0, 0, 0, 0, 0, 0, 0, 0])).set 45 (.inl [x4, 0, 0, 0, 0, 0, 0, 0, 0, 0, 0, 0, 0])).set 46 (.inl [x5, 0, 0, 0, 0, 0, 0, 0, 0, 0, 0, 0, 0])).set 47 (.inl [x6, 0, 0, 0, 0, 0, 0, 0, 0, 0, 0, 0, 0])).set 48 (.inl [x7, 0, 0, 0, 0, 0, 0, 0, 0, 0, 0, 0, 0])).set 49 (.inl [(-1), 0, 0, 0, 0, 0, 0, 0, 0, 0, 0, 0, 0])).set 41 (.inr (.inr (9, [.int 4, .int 1, .ref 42, .ref 43, .ref 44, .ref 45, .ref 46, .ref 47, .ref 48, .ref 49, .ref 50, .ref 51, .int 0, .int 0, .int 0, .int 0, .int 0, .int 0, .int 0, .int 0, .ref 52, .int 0, .ref 53, .int 0, .ref 54, .int 0, .ref 55, .ref 56, .ref 57, .ref 58, .int 0, .ref 59, .ref 60])))) 41 = some (.inr (.inr (9, [.int 4, .int 1, .ref 42, .ref 43, .ref 44, .ref 45, .ref 46, .ref 47, .ref 48, .ref 49, .ref 50, .ref 51, .int 0, .int 0, .int 0, .int 0, .int 0, .int 0, .int 0, .int 0, .ref 52, .int 0, .ref 53, .int 0, .ref 54, .int 0, .ref 55, .ref 56, .ref 57, .ref 58, .int 0, .ref 59, .ref 60]))) := (at_eq f17)
  have e2 : a_m MT [] 100000 10 miX9_lays [.ref 41] (((((((((H.set 42 (.inl [x1, 0, 0, 0, 0, 0, 0, 0, 0, 0, 0, 0, 0])).set 43 (.inl [x2, 0, 0, 0, 0, 0, 0, 0, 0, 0, 0, 0, 0])).set 44 (.inl [x3, 0, 0, 0, 0, 0, 0, 0, 0, 0, 0, 0, 0])).set 45 (.inl [x4, 0, 0, 0, 0, 0, 0, 0, 0, 0, 0, 0, 0])).set 46 (.inl [x5, 0, 0, 0, 0, 0, 0, 0, 0, 0, 0, 0, 0])).set 47 (.inl [x6, 0, 0, 0, 0, 0, 0, 0, 0, 0, 0, 0, 0])).set 48 (.inl [x7, 0, 0, 0, 0, 0, 0, 0, 0, 0, 0, 0, 0])).set 49 (.inl [(-1), 0, 0, 0, 0, 0, 0, 0, 0, 0, 0, 0, 0])).set 41 (.inr (.inr (9, [.int 4, .int 1, .ref 42, .ref 43, .ref 44, .ref 45, .ref 46, .ref 47, .ref 48, .ref 49, .ref 50, .ref 51, .int 0, .int 0, .int 0, .int 0, .int 0, .int 0, .int 0, .int 0, .ref 52, .int 0, .ref 53, .int 0, .ref 54, .int 0, .ref 55, .ref 56, .ref 57, .ref 58, .int 0, .ref 59, .ref 60])))) = some (some (.int 0), ((((((((((H.set 42 (.inl [x1, 0, 0, 0, 0, 0, 0, 0, 0, 0, 0, 0, 0])).set 43 (.inl [x2, 0, 0, 0, 0, 0, 0, 0, 0, 0, 0, 0, 0])).set 44 (.inl [x3, 0, 0, 0, 0, 0, 0, 0, 0, 0, 0, 0, 0])).set 45 (.inl [x4, 0, 0, 0, 0, 0, 0, 0, 0, 0, 0, 0, 0])).set 46 (.inl [x5, 0, 0, 0, 0, 0, 0, 0, 0, 0, 0, 0, 0])).set 47 (.inl [x6, 0, 0, 0, 0, 0, 0, 0, 0, 0, 0, 0, 0])).set 48 (.inl [x7, 0, 0, 0, 0, 0, 0, 0, 0, 0, 0, 0, 0])).set 49 (.inl [(-1), 0, 0, 0, 0, 0, 0, 0, 0, 0, 0, 0, 0])).set 41 (.inr (.inr (9, [.int 4, .int 1, .ref 42, .ref 43, .ref 44, .ref 45, .ref 46, .ref 47, .ref 48, .ref 49, .ref 50, .ref 51, .int 0, .int 0, .int 0, .int 0, .int 0, .int 0, .int 0, .int 0, .ref 52, .int 0, .ref 53, .int 0, .ref 54, .int 0, .ref 55, .ref 56, .ref 57, .ref 58, .int 0, .ref 59, .ref 60])))).set 51 (.inl ((List.replicate 8 (0 : Int32)).set (Int32.toNatClampNeg x3) 8))), 0, 0) := by
    refine me (d := 9) g_X9_lays (Nat.le_of_ble_eq_true rfl) ?_
    refine rr rfl (s_iconst (v := 0) (by decide)) ?_
    refine rr rfl (s_istore_n rfl) ?_
    refine rr rfl (s_iload_n rfl) ?_
    refine rr rfl (s_bipush (v := 8) (by decide)) ?_
    refine rr rfl (s_icF (by decide)) ?_
    refine rr rfl (s_aload_n rfl) ?_
    refine rr rfl (s_getf f18 rfl) ?_
    refine rr rfl (s_iload_n rfl) ?_
    refine rr rfl (s_iconst (v := 0) (by decide)) ?_
    have f19 : a_at (((((((((H.set 42 (.inl [x1, 0, 0, 0, 0, 0, 0, 0, 0, 0, 0, 0, 0])).set 43 (.inl [x2, 0, 0, 0, 0, 0, 0, 0, 0, 0, 0, 0, 0])).set 44 (.inl [x3, 0, 0, 0, 0, 0, 0, 0, 0, 0, 0, 0, 0])).set 45 (.inl [x4, 0, 0, 0, 0, 0, 0, 0, 0, 0, 0, 0, 0])).set 46 (.inl [x5, 0, 0, 0, 0, 0, 0, 0, 0, 0, 0, 0, 0])).set 47 (.inl [x6, 0, 0, 0, 0, 0, 0, 0, 0, 0, 0, 0, 0])).set 48 (.inl [x7, 0, 0, 0, 0, 0, 0, 0, 0, 0, 0, 0, 0])).set 49 (.inl [(-1), 0, 0, 0, 0, 0, 0, 0, 0, 0, 0, 0, 0])).set 41 (.inr (.inr (9, [.int 4, .int 1, .ref 42, .ref 43, .ref 44, .ref 45, .ref 46, .ref 47, .ref 48, .ref 49, .ref 50, .ref 51, .int 0, .int 0, .int 0, .int 0, .int 0, .int 0, .int 0, .int 0, .ref 52, .int 0, .ref 53, .int 0, .ref 54, .int 0, .ref 55, .ref 56, .ref 57, .ref 58, .int 0, .ref 59, .ref 60])))) 51 = some (.inl (List.replicate 8 0)) := ((at_ne (by decide)).trans ((at_ne (by decide)).trans ((at_ne (by decide)).trans ((at_ne (by decide)).trans ((at_ne (by decide)).trans ((at_ne (by decide)).trans ((at_ne (by decide)).trans ((at_ne (by decide)).trans ((at_ne (by decide)).trans F51)))))))))
    refine rr rfl (s_iastore (h' := ((((((((((H.set 42 (.inl [x1, 0, 0, 0, 0, 0, 0, 0, 0, 0, 0, 0, 0])).set 43 (.inl [x2, 0, 0, 0, 0, 0, 0, 0, 0, 0, 0, 0, 0])).set 44 (.inl [x3, 0, 0, 0, 0, 0, 0, 0, 0, 0, 0, 0, 0])).set 45 (.inl [x4, 0, 0, 0, 0, 0, 0, 0, 0, 0, 0, 0, 0])).set 46 (.inl [x5, 0, 0, 0, 0, 0, 0, 0, 0, 0, 0, 0, 0])).set 47 (.inl [x6, 0, 0, 0, 0, 0, 0, 0, 0, 0, 0, 0, 0])).set 48 (.inl [x7, 0, 0, 0, 0, 0, 0, 0, 0, 0, 0, 0, 0])).set 49 (.inl [(-1), 0, 0, 0, 0, 0, 0, 0, 0, 0, 0, 0, 0])).set 41 (.inr (.inr (9, [.int 4, .int 1, .ref 42, .ref 43, .ref 44, .ref 45, .ref 46, .ref 47, .ref 48, .ref 49, .ref 50, .ref 51, .int 0, .int 0, .int 0, .int 0, .int 0, .int 0, .int 0, .int 0, .ref 52, .int 0, .ref 53, .int 0, .ref 54, .int 0, .ref 55, .ref 56, .ref 57, .ref 58, .int 0, .ref 59, .ref 60])))).set 51 (.inl (List.replicate 8 0)))) (j := 0) (f' := (List.replicate 8 0)) rfl f19 (Nat.le_of_ble_eq_true rfl) rfl (len_of f19) rfl) ?_
    refine rr rfl (s_iinc (v := 1) rfl (by decide) rfl) ?_
    refine rr rfl s_goto ?_
    refine rr rfl (s_iload_n rfl) ?_
    refine rr rfl (s_bipush (v := 8) (by decide)) ?_
    refine rr rfl (s_icF (by decide)) ?_
    refine rr rfl (s_aload_n rfl) ?_
    have f20 : a_at ((((((((((H.set 42 (.inl [x1, 0, 0, 0, 0, 0, 0, 0, 0, 0, 0, 0, 0])).set 43 (.inl [x2, 0, 0, 0, 0, 0, 0, 0, 0, 0, 0, 0, 0])).set 44 (.inl [x3, 0, 0, 0, 0, 0, 0, 0, 0, 0, 0, 0, 0])).set 45 (.inl [x4, 0, 0, 0, 0, 0, 0, 0, 0, 0, 0, 0, 0])).set 46 (.inl [x5, 0, 0, 0, 0, 0, 0, 0, 0, 0, 0, 0, 0])).set 47 (.inl [x6, 0, 0, 0, 0, 0, 0, 0, 0, 0, 0, 0, 0])).set 48 (.inl [x7, 0, 0, 0, 0, 0, 0, 0, 0, 0, 0, 0, 0])).set 49 (.inl [(-1), 0, 0, 0, 0, 0, 0, 0, 0, 0, 0, 0, 0])).set 41 (.inr (.inr (9, [.int 4, .int 1, .ref 42, .ref 43, .ref 44, .ref 45, .ref 46, .ref 47, .ref 48, .ref 49, .ref 50, .ref 51, .int 0, .int 0, .int 0, .int 0, .int 0, .int 0, .int 0, .int 0, .ref 52, .int 0, .ref 53, .int 0, .ref 54, .int 0, .ref 55, .ref 56, .ref 57, .ref 58, .int 0, .ref 59, .ref 60])))).set 51 (.inl (List.replicate 8 0))) 41 = some (.inr (.inr (9, [.int 4, .int 1, .ref 42, .ref 43, .ref 44, .ref 45, .ref 46, .ref 47, .ref 48, .ref 49, .ref 50, .ref 51, .int 0, .int 0, .int 0, .int 0, .int 0, .int 0, .int 0, .int 0, .ref 52, .int 0, .ref 53, .int 0, .ref 54, .int 0, .ref 55, .ref 56, .ref 57, .ref 58, .int 0, .ref 59, .ref 60]))) := ((at_ne (by decide)).trans f18)
    refine rr rfl (s_getf f20 rfl) ?_
    refine rr rfl (s_iload_n rfl) ?_
    refine rr rfl (s_iconst (v := 0) (by decide)) ?_
    have f21 : a_at ((((((((((H.set 42 (.inl [x1, 0, 0, 0, 0, 0, 0, 0, 0, 0, 0, 0, 0])).set 43 (.inl [x2, 0, 0, 0, 0, 0, 0, 0, 0, 0, 0, 0, 0])).set 44 (.inl [x3, 0, 0, 0, 0, 0, 0, 0, 0, 0, 0, 0, 0])).set 45 (.inl [x4, 0, 0, 0, 0, 0, 0, 0, 0, 0, 0, 0, 0])).set 46 (.inl [x5, 0, 0, 0, 0, 0, 0, 0, 0, 0, 0, 0, 0])).set 47 (.inl [x6, 0, 0, 0, 0, 0, 0, 0, 0, 0, 0, 0, 0])).set 48 (.inl [x7, 0, 0, 0, 0, 0, 0, 0, 0, 0, 0, 0, 0])).set 49 (.inl [(-1), 0, 0, 0, 0, 0, 0, 0, 0, 0, 0, 0, 0])).set 41 (.inr (.inr (9, [.int 4, .int 1, .ref 42, .ref 43, .ref 44, .ref 45, .ref 46, .ref 47, .ref 48, .ref 49, .ref 50, .ref 51, .int 0, .int 0, .int 0, .int 0, .int 0, .int 0, .int 0, .int 0, .ref 52, .int 0, .ref 53, .int 0, .ref 54, .int 0, .ref 55, .ref 56, .ref 57, .ref 58, .int 0, .ref 59, .ref 60])))).set 51 (.inl (List.replicate 8 0))) 51 = some (.inl (List.replicate 8 0)) := (at_eq f19)
    refine rr rfl (s_iastore (h' := ((((((((((H.set 42 (.inl [x1, 0, 0, 0, 0, 0, 0, 0, 0, 0, 0, 0, 0])).set 43 (.inl [x2, 0, 0, 0, 0, 0, 0, 0, 0, 0, 0, 0, 0])).set 44 (.inl [x3, 0, 0, 0, 0, 0, 0, 0, 0, 0, 0, 0, 0])).set 45 (.inl [x4, 0, 0, 0, 0, 0, 0, 0, 0, 0, 0, 0, 0])).set 46 (.inl [x5, 0, 0, 0, 0, 0, 0, 0, 0, 0, 0, 0, 0])).set 47 (.inl [x6, 0, 0, 0, 0, 0, 0, 0, 0, 0, 0, 0, 0])).set 48 (.inl [x7, 0, 0, 0, 0, 0, 0, 0, 0, 0, 0, 0, 0])).set 49 (.inl [(-1), 0, 0, 0, 0, 0, 0, 0, 0, 0, 0, 0, 0])).set 41 (.inr (.inr (9, [.int 4, .int 1, .ref 42, .ref 43, .ref 44, .ref 45, .ref 46, .ref 47, .ref 48, .ref 49, .ref 50, .ref 51, .int 0, .int 0, .int 0, .int 0, .int 0, .int 0, .int 0, .int 0, .ref 52, .int 0, .ref 53, .int 0, .ref 54, .int 0, .ref 55, .ref 56, .ref 57, .ref 58, .int 0, .ref 59, .ref 60])))).set 51 (.inl (List.replicate 8 0)))) (j := 1) (f' := (List.replicate 8 0)) rfl f21 (Nat.le_of_ble_eq_true rfl) rfl (len_of f21) (List.set_set ..)) ?_
    refine rr rfl (s_iinc (v := 2) rfl (by decide) rfl) ?_
    refine rr rfl s_goto ?_
    refine rr rfl (s_iload_n rfl) ?_
    refine rr rfl (s_bipush (v := 8) (by decide)) ?_
    refine rr rfl (s_icF (by decide)) ?_
    refine rr rfl (s_aload_n rfl) ?_
    have f22 : a_at ((((((((((H.set 42 (.inl [x1, 0, 0, 0, 0, 0, 0, 0, 0, 0, 0, 0, 0])).set 43 (.inl [x2, 0, 0, 0, 0, 0, 0, 0, 0, 0, 0, 0, 0])).set 44 (.inl [x3, 0, 0, 0, 0, 0, 0, 0, 0, 0, 0, 0, 0])).set 45 (.inl [x4, 0, 0, 0, 0, 0, 0, 0, 0, 0, 0, 0, 0])).set 46 (.inl [x5, 0, 0, 0, 0, 0, 0, 0, 0, 0, 0, 0, 0])).set 47 (.inl [x6, 0, 0, 0, 0, 0, 0, 0, 0, 0, 0, 0, 0])).set 48 (.inl [x7, 0, 0, 0, 0, 0, 0, 0, 0, 0, 0, 0, 0])).set 49 (.inl [(-1), 0, 0, 0, 0, 0, 0, 0, 0, 0, 0, 0, 0])).set 41 (.inr (.inr (9, [.int 4, .int 1, .ref 42, .ref 43, .ref 44, .ref 45, .ref 46, .ref 47, .ref 48, .ref 49, .ref 50, .ref 51, .int 0, .int 0, .int 0, .int 0, .int 0, .int 0, .int 0, .int 0, .ref 52, .int 0, .ref 53, .int 0, .ref 54, .int 0, .ref 55, .ref 56, .ref 57, .ref 58, .int 0, .ref 59, .ref 60])))).set 51 (.inl (List.replicate 8 0))) 41 = some (.inr (.inr (9, [.int 4, .int 1, .ref 42, .ref 43, .ref 44, .ref 45, .ref 46, .ref 47, .ref 48, .ref 49, .ref 50, .ref 51, .int 0, .int 0, .int 0, .int 0, .int 0, .int 0, .int 0, .int 0, .ref 52, .int 0, .ref 53, .int 0, .ref 54, .int 0, .ref 55, .ref 56, .ref 57, .ref 58, .int 0, .ref 59, .ref 60]))) := ((at_ne (by decide)).trans f18)
    refine rr rfl (s_getf f22 rfl) ?_
    refine rr rfl (s_iload_n rfl) ?_
    refine rr rfl (s_iconst (v := 0) (by decide)) ?_
    have f23 : a_at ((((((((((H.set 42 (.inl [x1, 0, 0, 0, 0, 0, 0, 0, 0, 0, 0, 0, 0])).set 43 (.inl [x2, 0, 0, 0, 0, 0, 0, 0, 0, 0, 0, 0, 0])).set 44 (.inl [x3, 0, 0, 0, 0, 0, 0, 0, 0, 0, 0, 0, 0])).set 45 (.inl [x4, 0, 0, 0, 0, 0, 0, 0, 0, 0, 0, 0, 0])).set 46 (.inl [x5, 0, 0, 0, 0, 0, 0, 0, 0, 0, 0, 0, 0])).set 47 (.inl [x6, 0, 0, 0, 0, 0, 0, 0, 0, 0, 0, 0, 0])).set 48 (.inl [x7, 0, 0, 0, 0, 0, 0, 0, 0, 0, 0, 0, 0])).set 49 (.inl [(-1), 0, 0, 0, 0, 0, 0, 0, 0, 0, 0, 0, 0])).set 41 (.inr (.inr (9, [.int 4, .int 1, .ref 42, .ref 43, .ref 44, .ref 45, .ref 46, .ref 47, .ref 48, .ref 49, .ref 50, .ref 51, .int 0, .int 0, .int 0, .int 0, .int 0, .int 0, .int 0, .int 0, .ref 52, .int 0, .ref 53, .int 0, .ref 54, .int 0, .ref 55, .ref 56, .ref 57, .ref 58, .int 0, .ref 59, .ref 60])))).set 51 (.inl (List.replicate 8 0))) 51 = some (.inl (List.replicate 8 0)) := (at_eq f19)
    refine rr rfl (s_iastore (h' := ((((((((((H.set 42 (.inl [x1, 0, 0, 0, 0, 0, 0, 0, 0, 0, 0, 0, 0])).set 43 (.inl [x2, 0, 0, 0, 0, 0, 0, 0, 0, 0, 0, 0, 0])).set 44 (.inl [x3, 0, 0, 0, 0, 0, 0, 0, 0, 0, 0, 0, 0])).set 45 (.inl [x4, 0, 0, 0, 0, 0, 0, 0, 0, 0, 0, 0, 0])).set 46 (.inl [x5, 0, 0, 0, 0, 0, 0, 0, 0, 0, 0, 0, 0])).set 47 (.inl [x6, 0, 0, 0, 0, 0, 0, 0, 0, 0, 0, 0, 0])).set 48 (.inl [x7, 0, 0, 0, 0, 0, 0, 0, 0, 0, 0, 0, 0])).set 49 (.inl [(-1), 0, 0, 0, 0, 0, 0, 0, 0, 0, 0, 0, 0])).set 41 (.inr (.inr (9, [.int 4, .int 1, .ref 42, .ref 43, .ref 44, .ref 45, .ref 46, .ref 47, .ref 48, .ref 49, .ref 50, .ref 51, .int 0, .int 0, .int 0, .int 0, .int 0, .int 0, .int 0, .int 0, .ref 52, .int 0, .ref 53, .int 0, .ref 54, .int 0, .ref 55, .ref 56, .ref 57, .ref 58, .int 0, .ref 59, .ref 60])))).set 51 (.inl (List.replicate 8 0)))) (j := 2) (f' := (List.replicate 8 0)) rfl f23 (Nat.le_of_ble_eq_true rfl) rfl (len_of f23) (List.set_set ..)) ?_
    refine rr rfl (s_iinc (v := 3) rfl (by decide) rfl) ?_
    refine rr rfl s_goto ?_
    refine rr rfl (s_iload_n rfl) ?_
    refine rr rfl (s_bipush (v := 8) (by decide)) ?_
    refine rr rfl (s_icF (by decide)) ?_
    refine rr rfl (s_aload_n rfl) ?_
    have f24 : a_at ((((((((((H.set 42 (.inl [x1, 0, 0, 0, 0, 0, 0, 0, 0, 0, 0, 0, 0])).set 43 (.inl [x2, 0, 0, 0, 0, 0, 0, 0, 0, 0, 0, 0, 0])).set 44 (.inl [x3, 0, 0, 0, 0, 0, 0, 0, 0, 0, 0, 0, 0])).set 45 (.inl [x4, 0, 0, 0, 0, 0, 0, 0, 0, 0, 0, 0, 0])).set 46 (.inl [x5, 0, 0, 0, 0, 0, 0, 0, 0, 0, 0, 0, 0])).set 47 (.inl [x6, 0, 0, 0, 0, 0, 0, 0, 0, 0, 0, 0, 0])).set 48 (.inl [x7, 0, 0, 0, 0, 0, 0, 0, 0, 0, 0, 0, 0])).set 49 (.inl [(-1), 0, 0, 0, 0, 0, 0, 0, 0, 0, 0, 0, 0])).set 41 (.inr (.inr (9, [.int 4, .int 1, .ref 42, .ref 43, .ref 44, .ref 45, .ref 46, .ref 47, .ref 48, .ref 49, .ref 50, .ref 51, .int 0, .int 0, .int 0, .int 0, .int 0, .int 0, .int 0, .int 0, .ref 52, .int 0, .ref 53, .int 0, .ref 54, .int 0, .ref 55, .ref 56, .ref 57, .ref 58, .int 0, .ref 59, .ref 60])))).set 51 (.inl (List.replicate 8 0))) 41 = some (.inr (.inr (9, [.int 4, .int 1, .ref 42, .ref 43, .ref 44, .ref 45, .ref 46, .ref 47, .ref 48, .ref 49, .ref 50, .ref 51, .int 0, .int 0, .int 0, .int 0, .int 0, .int 0, .int 0, .int 0, .ref 52, .int 0, .ref 53, .int 0, .ref 54, .int 0, .ref 55, .ref 56, .ref 57, .ref 58, .int 0, .ref 59, .ref 60]))) := ((at_ne (by decide)).trans f18)
    refine rr rfl (s_getf f24 rfl) ?_
    refine rr rfl (s_iload_n rfl) ?_
    refine rr rfl (s_iconst (v := 0) (by decide)) ?_
    have f25 : a_at ((((((((((H.set 42 (.inl [x1, 0, 0, 0, 0, 0, 0, 0, 0, 0, 0, 0, 0])).set 43 (.inl [x2, 0, 0, 0, 0, 0, 0, 0, 0, 0, 0, 0, 0])).set 44 (.inl [x3, 0, 0, 0, 0, 0, 0, 0, 0, 0, 0, 0, 0])).set 45 (.inl [x4, 0, 0, 0, 0, 0, 0, 0, 0, 0, 0, 0, 0])).set 46 (.inl [x5, 0, 0, 0, 0, 0, 0, 0, 0, 0, 0, 0, 0])).set 47 (.inl [x6, 0, 0, 0, 0, 0, 0, 0, 0, 0, 0, 0, 0])).set 48 (.inl [x7, 0, 0, 0, 0, 0, 0, 0, 0, 0, 0, 0, 0])).set 49 (.inl [(-1), 0, 0, 0, 0, 0, 0, 0, 0, 0, 0, 0, 0])).set 41 (.inr (.inr (9, [.int 4, .int 1, .ref 42, .ref 43, .ref 44, .ref 45, .ref 46, .ref 47, .ref 48, .ref 49, .ref 50, .ref 51, .int 0, .int 0, .int 0, .int 0, .int 0, .int 0, .int 0, .int 0, .ref 52, .int 0, .ref 53, .int 0, .ref 54, .int 0, .ref 55, .ref 56, .ref 57, .ref 58, .int 0, .ref 59, .ref 60])))).set 51 (.inl (List.replicate 8 0))) 51 = some (.inl (List.replicate 8 0)) := (at_eq f19)
    refine rr rfl (s_iastore (h' := ((((((((((H.set 42 (.inl [x1, 0, 0, 0, 0, 0, 0, 0, 0, 0, 0, 0, 0])).set 43 (.inl [x2, 0, 0, 0, 0, 0, 0, 0, 0, 0, 0, 0, 0])).set 44 (.inl [x3, 0, 0, 0, 0, 0, 0, 0, 0, 0, 0, 0, 0])).set 45 (.inl [x4, 0, 0, 0, 0, 0, 0, 0, 0, 0, 0, 0, 0])).set 46 (.inl [x5, 0, 0, 0, 0, 0, 0, 0, 0, 0, 0, 0, 0])).set 47 (.inl [x6, 0, 0, 0, 0, 0, 0, 0, 0, 0, 0, 0, 0])).set 48 (.inl [x7, 0, 0, 0, 0, 0, 0, 0, 0, 0, 0, 0, 0])).set 49 (.inl [(-1), 0, 0, 0, 0, 0, 0, 0, 0, 0, 0, 0, 0])).set 41 (.inr (.inr (9, [.int 4, .int 1, .ref 42, .ref 43, .ref 44, .ref 45, .ref 46, .ref 47, .ref 48, .ref 49, .ref 50, .ref 51, .int 0, .int 0, .int 0, .int 0, .int 0, .int 0, .int 0, .int 0, .ref 52, .int 0, .ref 53, .int 0, .ref 54, .int 0, .ref 55, .ref 56, .ref 57, .ref 58, .int 0, .ref 59, .ref 60])))).set 51 (.inl (List.replicate 8 0)))) (j := 3) (f' := (List.replicate 8 0)) rfl f25 (Nat.le_of_ble_eq_true rfl) rfl (len_of f25) (List.set_set ..)) ?_
    refine rr rfl (s_iinc (v := 4) rfl (by decide) rfl) ?_
    refine rr rfl s_goto ?_
    refine rr rfl (s_iload_n rfl) ?_
    refine rr rfl (s_bipush (v := 8) (by decide)) ?_
    refine rr rfl (s_icF (by decide)) ?_
    refine rr rfl (s_aload_n rfl) ?_
    have f26 : a_at ((((((((((H.set 42 (.inl [x1, 0, 0, 0, 0, 0, 0, 0, 0, 0, 0, 0, 0])).set 43 (.inl [x2, 0, 0, 0, 0, 0, 0, 0, 0, 0, 0, 0, 0])).set 44 (.inl [x3, 0, 0, 0, 0, 0, 0, 0, 0, 0, 0, 0, 0])).set 45 (.inl [x4, 0, 0, 0, 0, 0, 0, 0, 0, 0, 0, 0, 0])).set 46 (.inl [x5, 0, 0, 0, 0, 0, 0, 0, 0, 0, 0, 0, 0])).set 47 (.inl [x6, 0, 0, 0, 0, 0, 0, 0, 0, 0, 0, 0, 0])).set 48 (.inl [x7, 0, 0, 0, 0, 0, 0, 0, 0, 0, 0, 0, 0])).set 49 (.inl [(-1), 0, 0, 0, 0, 0, 0, 0, 0, 0, 0, 0, 0])).set 41 (.inr (.inr (9, [.int 4, .int 1, .ref 42, .ref 43, .ref 44, .ref 45, .ref 46, .ref 47, .ref 48, .ref 49, .ref 50, .ref 51, .int 0, .int 0, .int 0, .int 0, .int 0, .int 0, .int 0, .int 0, .ref 52, .int 0, .ref 53, .int 0, .ref 54, .int 0, .ref 55, .ref 56, .ref 57, .ref 58, .int 0, .ref 59, .ref 60])))).set 51 (.inl (List.replicate 8 0))) 41 = some (.inr (.inr (9, [.int 4, .int 1, .ref 42, .ref 43, .ref 44, .ref 45, .ref 46, .ref 47, .ref 48, .ref 49, .ref 50, .ref 51, .int 0, .int 0, .int 0, .int 0, .int 0, .int 0, .int 0, .int 0, .ref 52, .int 0, .ref 53, .int 0, .ref 54, .int 0, .ref 55, .ref 56, .ref 57, .ref 58, .int 0, .ref 59, .ref 60]))) := ((at_ne (by decide)).trans f18)
    refine rr rfl (s_getf f26 rfl) ?_
    refine rr rfl (s_iload_n rfl) ?_
    refine rr rfl (s_iconst (v := 0) (by decide)) ?_
    have f27 : a_at ((((((((((H.set 42 (.inl [x1, 0, 0, 0, 0, 0, 0, 0, 0, 0, 0, 0, 0])).set 43 (.inl [x2, 0, 0, 0, 0, 0, 0, 0, 0, 0, 0, 0, 0])).set 44 (.inl [x3, 0, 0, 0, 0, 0, 0, 0, 0, 0, 0, 0, 0])).set 45 (.inl [x4, 0, 0, 0, 0, 0, 0, 0, 0, 0, 0, 0, 0])).set 46 (.inl [x5, 0, 0, 0, 0, 0, 0, 0, 0, 0, 0, 0, 0])).set 47 (.inl [x6, 0, 0, 0, 0, 0, 0, 0, 0, 0, 0, 0, 0])).set 48 (.inl [x7, 0, 0, 0, 0, 0, 0, 0, 0, 0, 0, 0, 0])).set 49 (.inl [(-1), 0, 0, 0, 0, 0, 0, 0, 0, 0, 0, 0, 0])).set 41 (.inr (.inr (9, [.int 4, .int 1, .ref 42, .ref 43, .ref 44, .ref 45, .ref 46, .ref 47, .ref 48, .ref 49, .ref 50, .ref 51, .int 0, .int 0, .int 0, .int 0, .int 0, .int 0, .int 0, .int 0, .ref 52, .int 0, .ref 53, .int 0, .ref 54, .int 0, .ref 55, .ref 56, .ref 57, .ref 58, .int 0, .ref 59, .ref 60])))).set 51 (.inl (List.replicate 8 0))) 51 = some (.inl (List.replicate 8 0)) := (at_eq f19)
    refine rr rfl (s_iastore (h' := ((((((((((H.set 42 (.inl [x1, 0, 0, 0, 0, 0, 0, 0, 0, 0, 0, 0, 0])).set 43 (.inl [x2, 0, 0, 0, 0, 0, 0, 0, 0, 0, 0, 0, 0])).set 44 (.inl [x3, 0, 0, 0, 0, 0, 0, 0, 0, 0, 0, 0, 0])).set 45 (.inl [x4, 0, 0, 0, 0, 0, 0, 0, 0, 0, 0, 0, 0])).set 46 (.inl [x5, 0, 0, 0, 0, 0, 0, 0, 0, 0, 0, 0, 0])).set 47 (.inl [x6, 0, 0, 0, 0, 0, 0, 0, 0, 0, 0, 0, 0])).set 48 (.inl [x7, 0, 0, 0, 0, 0, 0, 0, 0, 0, 0, 0, 0])).set 49 (.inl [(-1), 0, 0, 0, 0, 0, 0, 0, 0, 0, 0, 0, 0])).set 41 (.inr (.inr (9, [.int 4, .int 1, .ref 42, .ref 43, .ref 44, .ref 45, .ref 46, .ref 47, .ref 48, .ref 49, .ref 50, .ref 51, .int 0, .int 0, .int 0, .int 0, .int 0, .int 0, .int 0, .int 0, .ref 52, .int 0, .ref 53, .int 0, .ref 54, .int 0, .ref 55, .ref 56, .ref 57, .ref 58, .int 0, .ref 59, .ref 60])))).set 51 (.inl (List.replicate 8 0)))) (j := 4) (f' := (List.replicate 8 0)) rfl f27 (Nat.le_of_ble_eq_true rfl) rfl (len_of f27) (List.set_set ..)) ?_
    refine rr rfl (s_iinc (v := 5) rfl (by decide) rfl) ?_
    refine rr rfl s_goto ?_
    refine rr rfl (s_iload_n rfl) ?_
    refine rr rfl (s_bipush (v := 8) (by decide)) ?_
    refine rr rfl (s_icF (by decide)) ?_
    refine rr rfl (s_aload_n rfl) ?_
    have f28 : a_at ((((((((((H.set 42 (.inl [x1, 0, 0, 0, 0, 0, 0, 0, 0, 0, 0, 0, 0])).set 43 (.inl [x2, 0, 0, 0, 0, 0, 0, 0, 0, 0, 0, 0, 0])).set 44 (.inl [x3, 0, 0, 0, 0, 0, 0, 0, 0, 0, 0, 0, 0])).set 45 (.inl [x4, 0, 0, 0, 0, 0, 0, 0, 0, 0, 0, 0, 0])).set 46 (.inl [x5, 0, 0, 0, 0, 0, 0, 0, 0, 0, 0, 0, 0])).set 47 (.inl [x6, 0, 0, 0, 0, 0, 0, 0, 0, 0, 0, 0, 0])).set 48 (.inl [x7, 0, 0, 0, 0, 0, 0, 0, 0, 0, 0, 0, 0])).set 49 (.inl [(-1), 0, 0, 0, 0, 0, 0, 0, 0, 0, 0, 0, 0])).set 41 (.inr (.inr (9, [.int 4, .int 1, .ref 42, .ref 43, .ref 44, .ref 45, .ref 46, .ref 47, .ref 48, .ref 49, .ref 50, .ref 51, .int 0, .int 0, .int 0, .int 0, .int 0, .int 0, .int 0, .int 0, .ref 52, .int 0, .ref 53, .int 0, .ref 54, .int 0, .ref 55, .ref 56, .ref 57, .ref 58, .int 0, .ref 59, .ref 60])))).set 51 (.inl (List.replicate 8 0))) 41 = some (.inr (.inr (9, [.int 4, .int 1, .ref 42, .ref 43, .ref 44, .ref 45, .ref 46, .ref 47, .ref 48, .ref 49, .ref 50, .ref 51, .int 0, .int 0, .int 0, .int 0, .int 0, .int 0, .int 0, .int 0, .ref 52, .int 0, .ref 53, .int 0, .ref 54, .int 0, .ref 55, .ref 56, .ref 57, .ref 58, .int 0, .ref 59, .ref 60]))) := ((at_ne (by decide)).trans f18)
    refine rr rfl (s_getf f28 rfl) ?_
    refine rr rfl (s_iload_n rfl) ?_
    refine rr rfl (s_iconst (v := 0) (by decide)) ?_
    have f29 : a_at ((((((((((H.set 42 (.inl [x1, 0, 0, 0, 0, 0, 0, 0, 0, 0, 0, 0, 0])).set 43 (.inl [x2, 0, 0, 0, 0, 0, 0, 0, 0, 0, 0, 0, 0])).set 44 (.inl [x3, 0, 0, 0, 0, 0, 0, 0, 0, 0, 0, 0, 0])).set 45 (.inl [x4, 0, 0, 0, 0, 0, 0, 0, 0, 0, 0, 0, 0])).set 46 (.inl [x5, 0, 0, 0, 0, 0, 0, 0, 0, 0, 0, 0, 0])).set 47 (.inl [x6, 0, 0, 0, 0, 0, 0, 0, 0, 0, 0, 0, 0])).set 48 (.inl [x7, 0, 0, 0, 0, 0, 0, 0, 0, 0, 0, 0, 0])).set 49 (.inl [(-1), 0, 0, 0, 0, 0, 0, 0, 0, 0, 0, 0, 0])).set 41 (.inr (.inr (9, [.int 4, .int 1, .ref 42, .ref 43, .ref 44, .ref 45, .ref 46, .ref 47, .ref 48, .ref 49, .ref 50, .ref 51, .int 0, .int 0, .int 0, .int 0, .int 0, .int 0, .int 0, .int 0, .ref 52, .int 0, .ref 53, .int 0, .ref 54, .int 0, .ref 55, .ref 56, .ref 57, .ref 58, .int 0, .ref 59, .ref 60])))).set 51 (.inl (List.replicate 8 0))) 51 = some (.inl (List.replicate 8 0)) := (at_eq f19)
    refine rr rfl (s_iastore (h' := ((((((((((H.set 42 (.inl [x1, 0, 0, 0, 0, 0, 0, 0, 0, 0, 0, 0, 0])).set 43 (.inl [x2, 0, 0, 0, 0, 0, 0, 0, 0, 0, 0, 0, 0])).set 44 (.inl [x3, 0, 0, 0, 0, 0, 0, 0, 0, 0, 0, 0, 0])).set 45 (.inl [x4, 0, 0, 0, 0, 0, 0, 0, 0, 0, 0, 0, 0])).set 46 (.inl [x5, 0, 0, 0, 0, 0, 0, 0, 0, 0, 0, 0, 0])).set 47 (.inl [x6, 0, 0, 0, 0, 0, 0, 0, 0, 0, 0, 0, 0])).set 48 (.inl [x7, 0, 0, 0, 0, 0, 0, 0, 0, 0, 0, 0, 0])).set 49 (.inl [(-1), 0, 0, 0, 0, 0, 0, 0, 0, 0, 0, 0, 0])).set 41 (.inr (.inr (9, [.int 4, .int 1, .ref 42, .ref 43, .ref 44, .ref 45, .ref 46, .ref 47, .ref 48, .ref 49, .ref 50, .ref 51, .int 0, .int 0, .int 0, .int 0, .int 0, .int 0, .int 0, .int 0, .ref 52, .int 0, .ref 53, .int 0, .ref 54, .int 0, .ref 55, .ref 56, .ref 57, .ref 58, .int 0, .ref 59, .ref 60])))).set 51 (.inl (List.replicate 8 0)))) (j := 5) (f' := (List.replicate 8 0)) rfl f29 (Nat.le_of_ble_eq_true rfl) rfl (len_of f29) (List.set_set ..)) ?_
    refine rr rfl (s_iinc (v := 6) rfl (by decide) rfl) ?_
    refine rr rfl s_goto ?_
    refine rr rfl (s_iload_n rfl) ?_
    refine rr rfl (s_bipush (v := 8) (by decide)) ?_
    refine rr rfl (s_icF (by decide)) ?_
    refine rr rfl (s_aload_n rfl) ?_
    have f30 : a_at ((((((((((H.set 42 (.inl [x1, 0, 0, 0, 0, 0, 0, 0, 0, 0, 0, 0, 0])).set 43 (.inl [x2, 0, 0, 0, 0, 0, 0, 0, 0, 0, 0, 0, 0])).set 44 (.inl [x3, 0, 0, 0, 0, 0, 0, 0, 0, 0, 0, 0, 0])).set 45 (.inl [x4, 0, 0, 0, 0, 0, 0, 0, 0, 0, 0, 0, 0])).set 46 (.inl [x5, 0, 0, 0, 0, 0, 0, 0, 0, 0, 0, 0, 0])).set 47 (.inl [x6, 0, 0, 0, 0, 0, 0, 0, 0, 0, 0, 0, 0])).set 48 (.inl [x7, 0, 0, 0, 0, 0, 0, 0, 0, 0, 0, 0, 0])).set 49 (.inl [(-1), 0, 0, 0, 0, 0, 0, 0, 0, 0, 0, 0, 0])).set 41 (.inr (.inr (9, [.int 4, .int 1, .ref 42, .ref 43, .ref 44, .ref 45, .ref 46, .ref 47, .ref 48, .ref 49, .ref 50, .ref 51, .int 0, .int 0, .int 0, .int 0, .int 0, .int 0, .int 0, .int 0, .ref 52, .int 0, .ref 53, .int 0, .ref 54, .int 0, .ref 55, .ref 56, .ref 57, .ref 58, .int 0, .ref 59, .ref 60])))).set 51 (.inl (List.replicate 8 0))) 41 = some (.inr (.inr (9, [.int 4, .int 1, .ref 42, .ref 43, .ref 44, .ref 45, .ref 46, .ref 47, .ref 48, .ref 49, .ref 50, .ref 51, .int 0, .int 0, .int 0, .int 0, .int 0, .int 0, .int 0, .int 0, .ref 52, .int 0, .ref 53, .int 0, .ref 54, .int 0, .ref 55, .ref 56, .ref 57, .ref 58, .int 0, .ref 59, .ref 60]))) := ((at_ne (by decide)).trans f18)
    refine rr rfl (s_getf f30 rfl) ?_
    refine rr rfl (s_iload_n rfl) ?_
    refine rr rfl (s_iconst (v := 0) (by decide)) ?_
    have f31 : a_at ((((((((((H.set 42 (.inl [x1, 0, 0, 0, 0, 0, 0, 0, 0, 0, 0, 0, 0])).set 43 (.inl [x2, 0, 0, 0, 0, 0, 0, 0, 0, 0, 0, 0, 0])).set 44 (.inl [x3, 0, 0, 0, 0, 0, 0, 0, 0, 0, 0, 0, 0])).set 45 (.inl [x4, 0, 0, 0, 0, 0, 0, 0, 0, 0, 0, 0, 0])).set 46 (.inl [x5, 0, 0, 0, 0, 0, 0, 0, 0, 0, 0, 0, 0])).set 47 (.inl [x6, 0, 0, 0, 0, 0, 0, 0, 0, 0, 0, 0, 0])).set 48 (.inl [x7, 0, 0, 0, 0, 0, 0, 0, 0, 0, 0, 0, 0])).set 49 (.inl [(-1), 0, 0, 0, 0, 0, 0, 0, 0, 0, 0, 0, 0])).set 41 (.inr (.inr (9, [.int 4, .int 1, .ref 42, .ref 43, .ref 44, .ref 45, .ref 46, .ref 47, .ref 48, .ref 49, .ref 50, .ref 51, .int 0, .int 0, .int 0, .int 0, .int 0, .int 0, .int 0, .int 0, .ref 52, .int 0, .ref 53, .int 0, .ref 54, .int 0, .ref 55, .ref 56, .ref 57, .ref 58, .int 0, .ref 59, .ref 60])))).set 51 (.inl (List.replicate 8 0))) 51 = some (.inl (List.replicate 8 0)) := (at_eq f19)
    refine rr rfl (s_iastore (h' := ((((((((((H.set 42 (.inl [x1, 0, 0, 0, 0, 0, 0, 0, 0, 0, 0, 0, 0])).set 43 (.inl [x2, 0, 0, 0, 0, 0, 0, 0, 0, 0, 0, 0, 0])).set 44 (.inl [x3, 0, 0, 0, 0, 0, 0, 0, 0, 0, 0, 0, 0])).set 45 (.inl [x4, 0, 0, 0, 0, 0, 0, 0, 0, 0, 0, 0, 0])).set 46 (.inl [x5, 0, 0, 0, 0, 0, 0, 0, 0, 0, 0, 0, 0])).set 47 (.inl [x6, 0, 0, 0, 0, 0, 0, 0, 0, 0, 0, 0, 0])).set 48 (.inl [x7, 0, 0, 0, 0, 0, 0, 0, 0, 0, 0, 0, 0])).set 49 (.inl [(-1), 0, 0, 0, 0, 0, 0, 0, 0, 0, 0, 0, 0])).set 41 (.inr (.inr (9, [.int 4, .int 1, .ref 42, .ref 43, .ref 44, .ref 45, .ref 46, .ref 47, .ref 48, .ref 49, .ref 50, .ref 51, .int 0, .int 0, .int 0, .int 0, .int 0, .int 0, .int 0, .int 0, .ref 52, .int 0, .ref 53, .int 0, .ref 54, .int 0, .ref 55, .ref 56, .ref 57, .ref 58, .int 0, .ref 59, .ref 60])))).set 51 (.inl (List.replicate 8 0)))) (j := 6) (f' := (List.replicate 8 0)) rfl f31 (Nat.le_of_ble_eq_true rfl) rfl (len_of f31) (List.set_set ..)) ?_
    refine rr rfl (s_iinc (v := 7) rfl (by decide) rfl) ?_
    refine rr rfl s_goto ?_
    refine rr rfl (s_iload_n rfl) ?_
    refine rr rfl (s_bipush (v := 8) (by decide)) ?_
    refine rr rfl (s_icF (by decide)) ?_
    refine rr rfl (s_aload_n rfl) ?_
    have f32 : a_at ((((((((((H.set 42 (.inl [x1, 0, 0, 0, 0, 0, 0, 0, 0, 0, 0, 0, 0])).set 43 (.inl [x2, 0, 0, 0, 0, 0, 0, 0, 0, 0, 0, 0, 0])).set 44 (.inl [x3, 0, 0, 0, 0, 0, 0, 0, 0, 0, 0, 0, 0])).set 45 (.inl [x4, 0, 0, 0, 0, 0, 0, 0, 0, 0, 0, 0, 0])).set 46 (.inl [x5, 0, 0, 0, 0, 0, 0, 0, 0, 0, 0, 0, 0])).set 47 (.inl [x6, 0, 0, 0, 0, 0, 0, 0, 0, 0, 0, 0, 0])).set 48 (.inl [x7, 0, 0, 0, 0, 0, 0, 0, 0, 0, 0, 0, 0])).set 49 (.inl [(-1), 0, 0, 0, 0, 0, 0, 0, 0, 0, 0, 0, 0])).set 41 (.inr (.inr (9, [.int 4, .int 1, .ref 42, .ref 43, .ref 44, .ref 45, .ref 46, .ref 47, .ref 48, .ref 49, .ref 50, .ref 51, .int 0, .int 0, .int 0, .int 0, .int 0, .int 0, .int 0, .int 0, .ref 52, .int 0, .ref 53, .int 0, .ref 54, .int 0, .ref 55, .ref 56, .ref 57, .ref 58, .int 0, .ref 59, .ref 60])))).set 51 (.inl (List.replicate 8 0))) 41 = some (.inr (.inr (9, [.int 4, .int 1, .ref 42, .ref 43, .ref 44, .ref 45, .ref 46, .ref 47, .ref 48, .ref 49, .ref 50, .ref 51, .int 0, .int 0, .int 0, .int 0, .int 0, .int 0, .int 0, .int 0, .ref 52, .int 0, .ref 53, .int 0, .ref 54, .int 0, .ref 55, .ref 56, .ref 57, .ref 58, .int 0, .ref 59, .ref 60]))) := ((at_ne (by decide)).trans f18)
    refine rr rfl (s_getf f32 rfl) ?_
    refine rr rfl (s_iload_n rfl) ?_
    refine rr rfl (s_iconst (v := 0) (by decide)) ?_
    have f33 : a_at ((((((((((H.set 42 (.inl [x1, 0, 0, 0, 0, 0, 0, 0, 0, 0, 0, 0, 0])).set 43 (.inl [x2, 0, 0, 0, 0, 0, 0, 0, 0, 0, 0, 0, 0])).set 44 (.inl [x3, 0, 0, 0, 0, 0, 0, 0, 0, 0, 0, 0, 0])).set 45 (.inl [x4, 0, 0, 0, 0, 0, 0, 0, 0, 0, 0, 0, 0])).set 46 (.inl [x5, 0, 0, 0, 0, 0, 0, 0, 0, 0, 0, 0, 0])).set 47 (.inl [x6, 0, 0, 0, 0, 0, 0, 0, 0, 0, 0, 0, 0])).set 48 (.inl [x7, 0, 0, 0, 0, 0, 0, 0, 0, 0, 0, 0, 0])).set 49 (.inl [(-1), 0, 0, 0, 0, 0, 0, 0, 0, 0, 0, 0, 0])).set 41 (.inr (.inr (9, [.int 4, .int 1, .ref 42, .ref 43, .ref 44, .ref 45, .ref 46, .ref 47, .ref 48, .ref 49, .ref 50, .ref 51, .int 0, .int 0, .int 0, .int 0, .int 0, .int 0, .int 0, .int 0, .ref 52, .int 0, .ref 53, .int 0, .ref 54, .int 0, .ref 55, .ref 56, .ref 57, .ref 58, .int 0, .ref 59, .ref 60])))).set 51 (.inl (List.replicate 8 0))) 51 = some (.inl (List.replicate 8 0)) := (at_eq f19)
    refine rr rfl (s_iastore (h' := ((((((((((H.set 42 (.inl [x1, 0, 0, 0, 0, 0, 0, 0, 0, 0, 0, 0, 0])).set 43 (.inl [x2, 0, 0, 0, 0, 0, 0, 0, 0, 0, 0, 0, 0])).set 44 (.inl [x3, 0, 0, 0, 0, 0, 0, 0, 0, 0, 0, 0, 0])).set 45 (.inl [x4, 0, 0, 0, 0, 0, 0, 0, 0, 0, 0, 0, 0])).set 46 (.inl [x5, 0, 0, 0, 0, 0, 0, 0, 0, 0, 0, 0, 0])).set 47 (.inl [x6, 0, 0, 0, 0, 0, 0, 0, 0, 0, 0, 0, 0])).set 48 (.inl [x7, 0, 0, 0, 0, 0, 0, 0, 0, 0, 0, 0, 0])).set 49 (.inl [(-1), 0, 0, 0, 0, 0, 0, 0, 0, 0, 0, 0, 0])).set 41 (.inr (.inr (9, [.int 4, .int 1, .ref 42, .ref 43, .ref 44, .ref 45, .ref 46, .ref 47, .ref 48, .ref 49, .ref 50, .ref 51, .int 0, .int 0, .int 0, .int 0, .int 0, .int 0, .int 0, .int 0, .ref 52, .int 0, .ref 53, .int 0, .ref 54, .int 0, .ref 55, .ref 56, .ref 57, .ref 58, .int 0, .ref 59, .ref 60])))).set 51 (.inl (List.replicate 8 0)))) (j := 7) (f' := (List.replicate 8 0)) rfl f33 (Nat.le_of_ble_eq_true rfl) rfl (len_of f33) (List.set_set ..)) ?_
    refine rr rfl (s_iinc (v := 8) rfl (by decide) rfl) ?_
    refine rr rfl s_goto ?_
    refine rr rfl (s_iload_n rfl) ?_
    refine rr rfl (s_bipush (v := 8) (by decide)) ?_
    refine rr rfl (s_icT (by decide)) ?_
    refine rr rfl (s_iconst (v := 1) (by decide)) ?_
    refine rr rfl (s_istore_n rfl) ?_
    refine rr rfl (s_iconst (v := 1) (by decide)) ?_
    refine rr rfl (s_istore_n rfl) ?_
    refine rr rfl (s_iload_n rfl) ?_
    refine rr rfl (s_ifF (by decide)) ?_
    refine rr rfl (s_iload_n rfl) ?_
    refine rr rfl (s_ifF (by decide)) ?_
    refine rr rfl (s_iconst (v := 0) (by decide)) ?_
    refine rr rfl (s_istore_n rfl) ?_
    refine rr rfl (s_iconst (v := 0) (by decide)) ?_
    refine rr rfl (s_istore_n rfl) ?_
    refine rr rfl (s_iload_n rfl) ?_
    refine rr rfl (s_aload_n rfl) ?_
    have f34 : a_at ((((((((((H.set 42 (.inl [x1, 0, 0, 0, 0, 0, 0, 0, 0, 0, 0, 0, 0])).set 43 (.inl [x2, 0, 0, 0, 0, 0, 0, 0, 0, 0, 0, 0, 0])).set 44 (.inl [x3, 0, 0, 0, 0, 0, 0, 0, 0, 0, 0, 0, 0])).set 45 (.inl [x4, 0, 0, 0, 0, 0, 0, 0, 0, 0, 0, 0, 0])).set 46 (.inl [x5, 0, 0, 0, 0, 0, 0, 0, 0, 0, 0, 0, 0])).set 47 (.inl [x6, 0, 0, 0, 0, 0, 0, 0, 0, 0, 0, 0, 0])).set 48 (.inl [x7, 0, 0, 0, 0, 0, 0, 0, 0, 0, 0, 0, 0])).set 49 (.inl [(-1), 0, 0, 0, 0, 0, 0, 0, 0, 0, 0, 0, 0])).set 41 (.inr (.inr (9, [.int 4, .int 1, .ref 42, .ref 43, .ref 44, .ref 45, .ref 46, .ref 47, .ref 48, .ref 49, .ref 50, .ref 51, .int 0, .int 0, .int 0, .int 0, .int 0, .int 0, .int 0, .int 0, .ref 52, .int 0, .ref 53, .int 0, .ref 54, .int 0, .ref 55, .ref 56, .ref 57, .ref 58, .int 0, .ref 59, .ref 60])))).set 51 (.inl (List.replicate 8 0))) 41 = some (.inr (.inr (9, [.int 4, .int 1, .ref 42, .ref 43, .ref 44, .ref 45, .ref 46, .ref 47, .ref 48, .ref 49, .ref 50, .ref 51, .int 0, .int 0, .int 0, .int 0, .int 0, .int 0, .int 0, .int 0, .ref 52, .int 0, .ref 53, .int 0, .ref 54, .int 0, .ref 55, .ref 56, .ref 57, .ref 58, .int 0, .ref 59, .ref 60]))) := ((at_ne (by decide)).trans f18)
    refine rr rfl (s_getf f34 rfl) ?_
    refine rr rfl (s_icF (by decide)) ?_
    refine rr rfl (s_iconst (v := 0) (by decide)) ?_
    refine rr rfl (s_istore rfl) ?_
    refine rr rfl (s_aload_n rfl) ?_
    refine rr rfl (s_getf f34 rfl) ?_
    refine rr rfl (s_iload_n rfl) ?_
    have f35 : a_at ((((((((((H.set 42 (.inl [x1, 0, 0, 0, 0, 0, 0, 0, 0, 0, 0, 0, 0])).set 43 (.inl [x2, 0, 0, 0, 0, 0, 0, 0, 0, 0, 0, 0, 0])).set 44 (.inl [x3, 0, 0, 0, 0, 0, 0, 0, 0, 0, 0, 0, 0])).set 45 (.inl [x4, 0, 0, 0, 0, 0, 0, 0, 0, 0, 0, 0, 0])).set 46 (.inl [x5, 0, 0, 0, 0, 0, 0, 0, 0, 0, 0, 0, 0])).set 47 (.inl [x6, 0, 0, 0, 0, 0, 0, 0, 0, 0, 0, 0, 0])).set 48 (.inl [x7, 0, 0, 0, 0, 0, 0, 0, 0, 0, 0, 0, 0])).set 49 (.inl [(-1), 0, 0, 0, 0, 0, 0, 0, 0, 0, 0, 0, 0])).set 41 (.inr (.inr (9, [.int 4, .int 1, .ref 42, .ref 43, .ref 44, .ref 45, .ref 46, .ref 47, .ref 48, .ref 49, .ref 50, .ref 51, .int 0, .int 0, .int 0, .int 0, .int 0, .int 0, .int 0, .int 0, .ref 52, .int 0, .ref 53, .int 0, .ref 54, .int 0, .ref 55, .ref 56, .ref 57, .ref 58, .int 0, .ref 59, .ref 60])))).set 51 (.inl (List.replicate 8 0))) 43 = some (.inl [x2, 0, 0, 0, 0, 0, 0, 0, 0, 0, 0, 0, 0]) := ((at_ne (by decide)).trans ((at_ne (by decide)).trans ((at_ne (by decide)).trans ((at_ne (by decide)).trans ((at_ne (by decide)).trans ((at_ne (by decide)).trans ((at_ne (by decide)).trans ((at_ne (by decide)).trans (at_eq ((at_ne (by decide)).trans F43))))))))))
    refine rr rfl (s_iaload (j := 0) rfl f35 rfl) ?_
    refine rr rfl (s_ifF (ic_nne g1)) ?_
    refine rr rfl (s_aload_n rfl) ?_
    refine rr rfl (s_getf f34 rfl) ?_
    refine rr rfl (s_aload_n rfl) ?_
    refine rr rfl (s_getf f34 rfl) ?_
    refine rr rfl (s_iload_n rfl) ?_
    have f36 : a_at ((((((((((H.set 42 (.inl [x1, 0, 0, 0, 0, 0, 0, 0, 0, 0, 0, 0, 0])).set 43 (.inl [x2, 0, 0, 0, 0, 0, 0, 0, 0, 0, 0, 0, 0])).set 44 (.inl [x3, 0, 0, 0, 0, 0, 0, 0, 0, 0, 0, 0, 0])).set 45 (.inl [x4, 0, 0, 0, 0, 0, 0, 0, 0, 0, 0, 0, 0])).set 46 (.inl [x5, 0, 0, 0, 0, 0, 0, 0, 0, 0, 0, 0, 0])).set 47 (.inl [x6, 0, 0, 0, 0, 0, 0, 0, 0, 0, 0, 0, 0])).set 48 (.inl [x7, 0, 0, 0, 0, 0, 0, 0, 0, 0, 0, 0, 0])).set 49 (.inl [(-1), 0, 0, 0, 0, 0, 0, 0, 0, 0, 0, 0, 0])).set 41 (.inr (.inr (9, [.int 4, .int 1, .ref 42, .ref 43, .ref 44, .ref 45, .ref 46, .ref 47, .ref 48, .ref 49, .ref 50, .ref 51, .int 0, .int 0, .int 0, .int 0, .int 0, .int 0, .int 0, .int 0, .ref 52, .int 0, .ref 53, .int 0, .ref 54, .int 0, .ref 55, .ref 56, .ref 57, .ref 58, .int 0, .ref 59, .ref 60])))).set 51 (.inl (List.replicate 8 0))) 45 = some (.inl [x4, 0, 0, 0, 0, 0, 0, 0, 0, 0, 0, 0, 0]) := ((at_ne (by decide)).trans ((at_ne (by decide)).trans ((at_ne (by decide)).trans ((at_ne (by decide)).trans ((at_ne (by decide)).trans ((at_ne (by decide)).trans (at_eq ((at_ne (by decide)).trans ((at_ne (by decide)).trans ((at_ne (by decide)).trans F45))))))))))
    refine rr rfl (s_iaload (j := 0) rfl f36 rfl) ?_
    have f37 : a_at ((((((((((H.set 42 (.inl [x1, 0, 0, 0, 0, 0, 0, 0, 0, 0, 0, 0, 0])).set 43 (.inl [x2, 0, 0, 0, 0, 0, 0, 0, 0, 0, 0, 0, 0])).set 44 (.inl [x3, 0, 0, 0, 0, 0, 0, 0, 0, 0, 0, 0, 0])).set 45 (.inl [x4, 0, 0, 0, 0, 0, 0, 0, 0, 0, 0, 0, 0])).set 46 (.inl [x5, 0, 0, 0, 0, 0, 0, 0, 0, 0, 0, 0, 0])).set 47 (.inl [x6, 0, 0, 0, 0, 0, 0, 0, 0, 0, 0, 0, 0])).set 48 (.inl [x7, 0, 0, 0, 0, 0, 0, 0, 0, 0, 0, 0, 0])).set 49 (.inl [(-1), 0, 0, 0, 0, 0, 0, 0, 0, 0, 0, 0, 0])).set 41 (.inr (.inr (9, [.int 4, .int 1, .ref 42, .ref 43, .ref 44, .ref 45, .ref 46, .ref 47, .ref 48, .ref 49, .ref 50, .ref 51, .int 0, .int 0, .int 0, .int 0, .int 0, .int 0, .int 0, .int 0, .ref 52, .int 0, .ref 53, .int 0, .ref 54, .int 0, .ref 55, .ref 56, .ref 57, .ref 58, .int 0, .ref 59, .ref 60])))).set 51 (.inl (List.replicate 8 0))) 51 = some (.inl (List.replicate 8 0)) := (at_eq f19)
    refine rr rfl (s_ialdR (n := 8) (x := 0) f37 g2 g3) ?_
    refine rr rfl (s_istore rfl) ?_
    refine rr rfl (s_aload_n rfl) ?_
    refine rr rfl (s_getf f34 rfl) ?_
    refine rr rfl (s_iload_n rfl) ?_
    have f38 : a_at ((((((((((H.set 42 (.inl [x1, 0, 0, 0, 0, 0, 0, 0, 0, 0, 0, 0, 0])).set 43 (.inl [x2, 0, 0, 0, 0, 0, 0, 0, 0, 0, 0, 0, 0])).set 44 (.inl [x3, 0, 0, 0, 0, 0, 0, 0, 0, 0, 0, 0, 0])).set 45 (.inl [x4, 0, 0, 0, 0, 0, 0, 0, 0, 0, 0, 0, 0])).set 46 (.inl [x5, 0, 0, 0, 0, 0, 0, 0, 0, 0, 0, 0, 0])).set 47 (.inl [x6, 0, 0, 0, 0, 0, 0, 0, 0, 0, 0, 0, 0])).set 48 (.inl [x7, 0, 0, 0, 0, 0, 0, 0, 0, 0, 0, 0, 0])).set 49 (.inl [(-1), 0, 0, 0, 0, 0, 0, 0, 0, 0, 0, 0, 0])).set 41 (.inr (.inr (9, [.int 4, .int 1, .ref 42, .ref 43, .ref 44, .ref 45, .ref 46, .ref 47, .ref 48, .ref 49, .ref 50, .ref 51, .int 0, .int 0, .int 0, .int 0, .int 0, .int 0, .int 0, .int 0, .ref 52, .int 0, .ref 53, .int 0, .ref 54, .int 0, .ref 55, .ref 56, .ref 57, .ref 58, .int 0, .ref 59, .ref 60])))).set 51 (.inl (List.replicate 8 0))) 46 = some (.inl [x5, 0, 0, 0, 0, 0, 0, 0, 0, 0, 0, 0, 0]) := ((at_ne (by decide)).trans ((at_ne (by decide)).trans ((at_ne (by decide)).trans ((at_ne (by decide)).trans ((at_ne (by decide)).trans (at_eq ((at_ne (by decide)).trans ((at_ne (by decide)).trans ((at_ne (by decide)).trans ((at_ne (by decide)).trans F46))))))))))
    refine rr rfl (s_iaload (j := 0) rfl f38 rfl) ?_
    refine rr rfl (s_iconst (v := (-1)) (by decide)) ?_
    refine rr rfl (s_icT (ic_eq g4)) ?_
    refine rr rfl (s_iload rfl) ?_
    refine rr rfl (s_istore rfl) ?_
    refine rr rfl (s_aload_n rfl) ?_
    refine rr rfl (s_getf f34 rfl) ?_
    refine rr rfl (s_iload_n rfl) ?_
    have f39 : a_at ((((((((((H.set 42 (.inl [x1, 0, 0, 0, 0, 0, 0, 0, 0, 0, 0, 0, 0])).set 43 (.inl [x2, 0, 0, 0, 0, 0, 0, 0, 0, 0, 0, 0, 0])).set 44 (.inl [x3, 0, 0, 0, 0, 0, 0, 0, 0, 0, 0, 0, 0])).set 45 (.inl [x4, 0, 0, 0, 0, 0, 0, 0, 0, 0, 0, 0, 0])).set 46 (.inl [x5, 0, 0, 0, 0, 0, 0, 0, 0, 0, 0, 0, 0])).set 47 (.inl [x6, 0, 0, 0, 0, 0, 0, 0, 0, 0, 0, 0, 0])).set 48 (.inl [x7, 0, 0, 0, 0, 0, 0, 0, 0, 0, 0, 0, 0])).set 49 (.inl [(-1), 0, 0, 0, 0, 0, 0, 0, 0, 0, 0, 0, 0])).set 41 (.inr (.inr (9, [.int 4, .int 1, .ref 42, .ref 43, .ref 44, .ref 45, .ref 46, .ref 47, .ref 48, .ref 49, .ref 50, .ref 51, .int 0, .int 0, .int 0, .int 0, .int 0, .int 0, .int 0, .int 0, .ref 52, .int 0, .ref 53, .int 0, .ref 54, .int 0, .ref 55, .ref 56, .ref 57, .ref 58, .int 0, .ref 59, .ref 60])))).set 51 (.inl (List.replicate 8 0))) 47 = some (.inl [x6, 0, 0, 0, 0, 0, 0, 0, 0, 0, 0, 0, 0]) := ((at_ne (by decide)).trans ((at_ne (by decide)).trans ((at_ne (by decide)).trans ((at_ne (by decide)).trans (at_eq ((at_ne (by decide)).trans ((at_ne (by decide)).trans ((at_ne (by decide)).trans ((at_ne (by decide)).trans ((at_ne (by decide)).trans F47))))))))))
    refine rr rfl (s_iaload (j := 0) rfl f39 rfl) ?_
    refine rr rfl (s_iconst (v := (-1)) (by decide)) ?_
    refine rr rfl (s_icF (ic_neq g5)) ?_
    refine rr rfl (s_aload_n rfl) ?_
    refine rr rfl (s_getf f34 rfl) ?_
    refine rr rfl (s_aload_n rfl) ?_
    refine rr rfl (s_getf f34 rfl) ?_
    refine rr rfl (s_iload_n rfl) ?_
    refine rr rfl (s_iaload (j := 0) rfl f39 rfl) ?_
    refine rr rfl (s_ialdR (n := 8) (x := 0) f37 g6 g7) ?_
    refine rr rfl (s_iconst (v := 1) (by decide)) ?_
    refine rr rfl (s_iadd (v := 1) (by decide)) ?_
    refine rr rfl (s_iload rfl) ?_
    refine rr rfl (s_icF (by decide)) ?_
    refine rr rfl (s_aload_n rfl) ?_
    refine rr rfl (s_getf f34 rfl) ?_
    refine rr rfl (s_aload_n rfl) ?_
    refine rr rfl (s_getf f34 rfl) ?_
    refine rr rfl (s_iload_n rfl) ?_
    refine rr rfl (s_iaload (j := 0) rfl f39 rfl) ?_
    refine rr rfl (s_ialdR (n := 8) (x := 0) f37 g6 g7) ?_
    refine rr rfl (s_iconst (v := 1) (by decide)) ?_
    refine rr rfl (s_iadd (v := 1) (by decide)) ?_
    refine rr rfl s_goto ?_
    refine rr rfl (s_istore rfl) ?_
    refine rr rfl (s_iload rfl) ?_
    refine rr rfl (s_aload_n rfl) ?_
    refine rr rfl (s_getf f34 rfl) ?_
    refine rr rfl (s_aload_n rfl) ?_
    refine rr rfl (s_getf f34 rfl) ?_
    refine rr rfl (s_iload_n rfl) ?_
    have f40 : a_at ((((((((((H.set 42 (.inl [x1, 0, 0, 0, 0, 0, 0, 0, 0, 0, 0, 0, 0])).set 43 (.inl [x2, 0, 0, 0, 0, 0, 0, 0, 0, 0, 0, 0, 0])).set 44 (.inl [x3, 0, 0, 0, 0, 0, 0, 0, 0, 0, 0, 0, 0])).set 45 (.inl [x4, 0, 0, 0, 0, 0, 0, 0, 0, 0, 0, 0, 0])).set 46 (.inl [x5, 0, 0, 0, 0, 0, 0, 0, 0, 0, 0, 0, 0])).set 47 (.inl [x6, 0, 0, 0, 0, 0, 0, 0, 0, 0, 0, 0, 0])).set 48 (.inl [x7, 0, 0, 0, 0, 0, 0, 0, 0, 0, 0, 0, 0])).set 49 (.inl [(-1), 0, 0, 0, 0, 0, 0, 0, 0, 0, 0, 0, 0])).set 41 (.inr (.inr (9, [.int 4, .int 1, .ref 42, .ref 43, .ref 44, .ref 45, .ref 46, .ref 47, .ref 48, .ref 49, .ref 50, .ref 51, .int 0, .int 0, .int 0, .int 0, .int 0, .int 0, .int 0, .int 0, .ref 52, .int 0, .ref 53, .int 0, .ref 54, .int 0, .ref 55, .ref 56, .ref 57, .ref 58, .int 0, .ref 59, .ref 60])))).set 51 (.inl (List.replicate 8 0))) 44 = some (.inl [x3, 0, 0, 0, 0, 0, 0, 0, 0, 0, 0, 0, 0]) := ((at_ne (by decide)).trans ((at_ne (by decide)).trans ((at_ne (by decide)).trans ((at_ne (by decide)).trans ((at_ne (by decide)).trans ((at_ne (by decide)).trans ((at_ne (by decide)).trans (at_eq ((at_ne (by decide)).trans ((at_ne (by decide)).trans F44))))))))))
    refine rr rfl (s_iaload (j := 0) rfl f40 rfl) ?_
    refine rr rfl (s_ialdR (n := 8) (x := 0) f37 g8 g9) ?_
    refine rr rfl (s_icF (by decide)) ?_
    refine rr rfl (s_aload_n rfl) ?_
    refine rr rfl (s_getf f34 rfl) ?_
    refine rr rfl (s_aload_n rfl) ?_
    refine rr rfl (s_getf f34 rfl) ?_
    refine rr rfl (s_iload_n rfl) ?_
    refine rr rfl (s_iaload (j := 0) rfl f40 rfl) ?_
    refine rr rfl (s_iload rfl) ?_
    refine rr rfl (s_iastR (h' := ((((((((((H.set 42 (.inl [x1, 0, 0, 0, 0, 0, 0, 0, 0, 0, 0, 0, 0])).set 43 (.inl [x2, 0, 0, 0, 0, 0, 0, 0, 0, 0, 0, 0, 0])).set 44 (.inl [x3, 0, 0, 0, 0, 0, 0, 0, 0, 0, 0, 0, 0])).set 45 (.inl [x4, 0, 0, 0, 0, 0, 0, 0, 0, 0, 0, 0, 0])).set 46 (.inl [x5, 0, 0, 0, 0, 0, 0, 0, 0, 0, 0, 0, 0])).set 47 (.inl [x6, 0, 0, 0, 0, 0, 0, 0, 0, 0, 0, 0, 0])).set 48 (.inl [x7, 0, 0, 0, 0, 0, 0, 0, 0, 0, 0, 0, 0])).set 49 (.inl [(-1), 0, 0, 0, 0, 0, 0, 0, 0, 0, 0, 0, 0])).set 41 (.inr (.inr (9, [.int 4, .int 1, .ref 42, .ref 43, .ref 44, .ref 45, .ref 46, .ref 47, .ref 48, .ref 49, .ref 50, .ref 51, .int 0, .int 0, .int 0, .int 0, .int 0, .int 0, .int 0, .int 0, .ref 52, .int 0, .ref 53, .int 0, .ref 54, .int 0, .ref 55, .ref 56, .ref 57, .ref 58, .int 0, .ref 59, .ref 60])))).set 51 (.inl ((List.replicate 8 (0 : Int32)).set (Int32.toNatClampNeg x3) 1)))) (n := 8) f37 g8 g9 (len_of f37) (List.set_set ..)) ?_
    refine rr rfl (s_iconst (v := 1) (by decide)) ?_
    refine rr rfl (s_istore_n rfl) ?_
    refine rr rfl (s_iload_n rfl) ?_
    refine rr rfl (s_ifF (by decide)) ?_
    refine rr rfl (s_iload rfl) ?_
    refine rr rfl (s_bipush (v := 8) (by decide)) ?_
    refine rr rfl (s_icF (by decide)) ?_
    refine rr rfl (s_iconst (v := 1) (by decide)) ?_
    refine rr rfl s_goto ?_
    refine rr rfl (s_istore_n rfl) ?_
    refine rr rfl (s_iinc (v := 1) rfl (by decide) rfl) ?_
    refine rr rfl s_goto ?_
    refine rr rfl (s_iload_n rfl) ?_
    refine rr rfl (s_aload_n rfl) ?_
    have f41 : a_at ((((((((((H.set 42 (.inl [x1, 0, 0, 0, 0, 0, 0, 0, 0, 0, 0, 0, 0])).set 43 (.inl [x2, 0, 0, 0, 0, 0, 0, 0, 0, 0, 0, 0, 0])).set 44 (.inl [x3, 0, 0, 0, 0, 0, 0, 0, 0, 0, 0, 0, 0])).set 45 (.inl [x4, 0, 0, 0, 0, 0, 0, 0, 0, 0, 0, 0, 0])).set 46 (.inl [x5, 0, 0, 0, 0, 0, 0, 0, 0, 0, 0, 0, 0])).set 47 (.inl [x6, 0, 0, 0, 0, 0, 0, 0, 0, 0, 0, 0, 0])).set 48 (.inl [x7, 0, 0, 0, 0, 0, 0, 0, 0, 0, 0, 0, 0])).set 49 (.inl [(-1), 0, 0, 0, 0, 0, 0, 0, 0, 0, 0, 0, 0])).set 41 (.inr (.inr (9, [.int 4, .int 1, .ref 42, .ref 43, .ref 44, .ref 45, .ref 46, .ref 47, .ref 48, .ref 49, .ref 50, .ref 51, .int 0, .int 0, .int 0, .int 0, .int 0, .int 0, .int 0, .int 0, .ref 52, .int 0, .ref 53, .int 0, .ref 54, .int 0, .ref 55, .ref 56, .ref 57, .ref 58, .int 0, .ref 59, .ref 60])))).set 51 (.inl ((List.replicate 8 (0 : Int32)).set (Int32.toNatClampNeg x3) 1))) 41 = some (.inr (.inr (9, [.int 4, .int 1, .ref 42, .ref 43, .ref 44, .ref 45, .ref 46, .ref 47, .ref 48, .ref 49, .ref 50, .ref 51, .int 0, .int 0, .int 0, .int 0, .int 0, .int 0, .int 0, .int 0, .ref 52, .int 0, .ref 53, .int 0, .ref 54, .int 0, .ref 55, .ref 56, .ref 57, .ref 58, .int 0, .ref 59, .ref 60]))) := ((at_ne (by decide)).trans f18)
    refine rr rfl (s_getf f41 rfl) ?_
    refine rr rfl (s_icT (by decide)) ?_
    refine rr rfl s_goto ?_
    refine rr rfl (s_iload_n rfl) ?_
    refine rr rfl (s_ifF (by decide)) ?_
    refine rr rfl (s_iload_n rfl) ?_
    refine rr rfl (s_ifF (by decide)) ?_
    refine rr rfl (s_iconst (v := 0) (by decide)) ?_
    refine rr rfl (s_istore_n rfl) ?_
    refine rr rfl (s_iconst (v := 0) (by decide)) ?_
    refine rr rfl (s_istore_n rfl) ?_
    refine rr rfl (s_iload_n rfl) ?_
    refine rr rfl (s_aload_n rfl) ?_
    refine rr rfl (s_getf f41 rfl) ?_
    refine rr rfl (s_icF (by decide)) ?_
    refine rr rfl (s_iconst (v := 0) (by decide)) ?_
    refine rr rfl (s_istore rfl) ?_
    refine rr rfl (s_aload_n rfl) ?_
    refine rr rfl (s_getf f41 rfl) ?_
    refine rr rfl (s_iload_n rfl) ?_
    have f42 : a_at ((((((((((H.set 42 (.inl [x1, 0, 0, 0, 0, 0, 0, 0, 0, 0, 0, 0, 0])).set 43 (.inl [x2, 0, 0, 0, 0, 0, 0, 0, 0, 0, 0, 0, 0])).set 44 (.inl [x3, 0, 0, 0, 0, 0, 0, 0, 0, 0, 0, 0, 0])).set 45 (.inl [x4, 0, 0, 0, 0, 0, 0, 0, 0, 0, 0, 0, 0])).set 46 (.inl [x5, 0, 0, 0, 0, 0, 0, 0, 0, 0, 0, 0, 0])).set 47 (.inl [x6, 0, 0, 0, 0, 0, 0, 0, 0, 0, 0, 0, 0])).set 48 (.inl [x7, 0, 0, 0, 0, 0, 0, 0, 0, 0, 0, 0, 0])).set 49 (.inl [(-1), 0, 0, 0, 0, 0, 0, 0, 0, 0, 0, 0, 0])).set 41 (.inr (.inr (9, [.int 4, .int 1, .ref 42, .ref 43, .ref 44, .ref 45, .ref 46, .ref 47, .ref 48, .ref 49, .ref 50, .ref 51, .int 0, .int 0, .int 0, .int 0, .int 0, .int 0, .int 0, .int 0, .ref 52, .int 0, .ref 53, .int 0, .ref 54, .int 0, .ref 55, .ref 56, .ref 57, .ref 58, .int 0, .ref 59, .ref 60])))).set 51 (.inl ((List.replicate 8 (0 : Int32)).set (Int32.toNatClampNeg x3) 1))) 43 = some (.inl [x2, 0, 0, 0, 0, 0, 0, 0, 0, 0, 0, 0, 0]) := ((at_ne (by decide)).trans ((at_ne (by decide)).trans ((at_ne (by decide)).trans ((at_ne (by decide)).trans ((at_ne (by decide)).trans ((at_ne (by decide)).trans ((at_ne (by decide)).trans ((at_ne (by decide)).trans (at_eq ((at_ne (by decide)).trans F43))))))))))
    refine rr rfl (s_iaload (j := 0) rfl f42 rfl) ?_
    refine rr rfl (s_ifF (ic_nne g1)) ?_
    refine rr rfl (s_aload_n rfl) ?_
    refine rr rfl (s_getf f41 rfl) ?_
    refine rr rfl (s_aload_n rfl) ?_
    refine rr rfl (s_getf f41 rfl) ?_
    refine rr rfl (s_iload_n rfl) ?_
    have f43 : a_at ((((((((((H.set 42 (.inl [x1, 0, 0, 0, 0, 0, 0, 0, 0, 0, 0, 0, 0])).set 43 (.inl [x2, 0, 0, 0, 0, 0, 0, 0, 0, 0, 0, 0, 0])).set 44 (.inl [x3, 0, 0, 0, 0, 0, 0, 0, 0, 0, 0, 0, 0])).set 45 (.inl [x4, 0, 0, 0, 0, 0, 0, 0, 0, 0, 0, 0, 0])).set 46 (.inl [x5, 0, 0, 0, 0, 0, 0, 0, 0, 0, 0, 0, 0])).set 47 (.inl [x6, 0, 0, 0, 0, 0, 0, 0, 0, 0, 0, 0, 0])).set 48 (.inl [x7, 0, 0, 0, 0, 0, 0, 0, 0, 0, 0, 0, 0])).set 49 (.inl [(-1), 0, 0, 0, 0, 0, 0, 0, 0, 0, 0, 0, 0])).set 41 (.inr (.inr (9, [.int 4, .int 1, .ref 42, .ref 43, .ref 44, .ref 45, .ref 46, .ref 47, .ref 48, .ref 49, .ref 50, .ref 51, .int 0, .int 0, .int 0, .int 0, .int 0, .int 0, .int 0, .int 0, .ref 52, .int 0, .ref 53, .int 0, .ref 54, .int 0, .ref 55, .ref 56, .ref 57, .ref 58, .int 0, .ref 59, .ref 60])))).set 51 (.inl ((List.replicate 8 (0 : Int32)).set (Int32.toNatClampNeg x3) 1))) 45 = some (.inl [x4, 0, 0, 0, 0, 0, 0, 0, 0, 0, 0, 0, 0]) := ((at_ne (by decide)).trans ((at_ne (by decide)).trans ((at_ne (by decide)).trans ((at_ne (by decide)).trans ((at_ne (by decide)).trans ((at_ne (by decide)).trans (at_eq ((at_ne (by decide)).trans ((at_ne (by decide)).trans ((at_ne (by decide)).trans F45))))))))))
    refine rr rfl (s_iaload (j := 0) rfl f43 rfl) ?_
    have f44 : a_at ((((((((((H.set 42 (.inl [x1, 0, 0, 0, 0, 0, 0, 0, 0, 0, 0, 0, 0])).set 43 (.inl [x2, 0, 0, 0, 0, 0, 0, 0, 0, 0, 0, 0, 0])).set 44 (.inl [x3, 0, 0, 0, 0, 0, 0, 0, 0, 0, 0, 0, 0])).set 45 (.inl [x4, 0, 0, 0, 0, 0, 0, 0, 0, 0, 0, 0, 0])).set 46 (.inl [x5, 0, 0, 0, 0, 0, 0, 0, 0, 0, 0, 0, 0])).set 47 (.inl [x6, 0, 0, 0, 0, 0, 0, 0, 0, 0, 0, 0, 0])).set 48 (.inl [x7, 0, 0, 0, 0, 0, 0, 0, 0, 0, 0, 0, 0])).set 49 (.inl [(-1), 0, 0, 0, 0, 0, 0, 0, 0, 0, 0, 0, 0])).set 41 (.inr (.inr (9, [.int 4, .int 1, .ref 42, .ref 43, .ref 44, .ref 45, .ref 46, .ref 47, .ref 48, .ref 49, .ref 50, .ref 51, .int 0, .int 0, .int 0, .int 0, .int 0, .int 0, .int 0, .int 0, .ref 52, .int 0, .ref 53, .int 0, .ref 54, .int 0, .ref 55, .ref 56, .ref 57, .ref 58, .int 0, .ref 59, .ref 60])))).set 51 (.inl ((List.replicate 8 (0 : Int32)).set (Int32.toNatClampNeg x3) 1))) 51 = some (.inl ((List.replicate 8 (0 : Int32)).set (Int32.toNatClampNeg x3) 1)) := (at_eq f19)
    refine rr rfl (s_ialdH f44 g10 g8 g9) ?_
    refine rr rfl (s_istore rfl) ?_
    refine rr rfl (s_aload_n rfl) ?_
    refine rr rfl (s_getf f41 rfl) ?_
    refine rr rfl (s_iload_n rfl) ?_
    have f45 : a_at ((((((((((H.set 42 (.inl [x1, 0, 0, 0, 0, 0, 0, 0, 0, 0, 0, 0, 0])).set 43 (.inl [x2, 0, 0, 0, 0, 0, 0, 0, 0, 0, 0, 0, 0])).set 44 (.inl [x3, 0, 0, 0, 0, 0, 0, 0, 0, 0, 0, 0, 0])).set 45 (.inl [x4, 0, 0, 0, 0, 0, 0, 0, 0, 0, 0, 0, 0])).set 46 (.inl [x5, 0, 0, 0, 0, 0, 0, 0, 0, 0, 0, 0, 0])).set 47 (.inl [x6, 0, 0, 0, 0, 0, 0, 0, 0, 0, 0, 0, 0])).set 48 (.inl [x7, 0, 0, 0, 0, 0, 0, 0, 0, 0, 0, 0, 0])).set 49 (.inl [(-1), 0, 0, 0, 0, 0, 0, 0, 0, 0, 0, 0, 0])).set 41 (.inr (.inr (9, [.int 4, .int 1, .ref 42, .ref 43, .ref 44, .ref 45, .ref 46, .ref 47, .ref 48, .ref 49, .ref 50, .ref 51, .int 0, .int 0, .int 0, .int 0, .int 0, .int 0, .int 0, .int 0, .ref 52, .int 0, .ref 53, .int 0, .ref 54, .int 0, .ref 55, .ref 56, .ref 57, .ref 58, .int 0, .ref 59, .ref 60])))).set 51 (.inl ((List.replicate 8 (0 : Int32)).set (Int32.toNatClampNeg x3) 1))) 46 = some (.inl [x5, 0, 0, 0, 0, 0, 0, 0, 0, 0, 0, 0, 0]) := ((at_ne (by decide)).trans ((at_ne (by decide)).trans ((at_ne (by decide)).trans ((at_ne (by decide)).trans ((at_ne (by decide)).trans (at_eq ((at_ne (by decide)).trans ((at_ne (by decide)).trans ((at_ne (by decide)).trans ((at_ne (by decide)).trans F46))))))))))
    refine rr rfl (s_iaload (j := 0) rfl f45 rfl) ?_
    refine rr rfl (s_iconst (v := (-1)) (by decide)) ?_
    refine rr rfl (s_icT (ic_eq g4)) ?_
    refine rr rfl (s_iload rfl) ?_
    refine rr rfl (s_istore rfl) ?_
    refine rr rfl (s_aload_n rfl) ?_
    refine rr rfl (s_getf f41 rfl) ?_
    refine rr rfl (s_iload_n rfl) ?_
    have f46 : a_at ((((((((((H.set 42 (.inl [x1, 0, 0, 0, 0, 0, 0, 0, 0, 0, 0, 0, 0])).set 43 (.inl [x2, 0, 0, 0, 0, 0, 0, 0, 0, 0, 0, 0, 0])).set 44 (.inl [x3, 0, 0, 0, 0, 0, 0, 0, 0, 0, 0, 0, 0])).set 45 (.inl [x4, 0, 0, 0, 0, 0, 0, 0, 0, 0, 0, 0, 0])).set 46 (.inl [x5, 0, 0, 0, 0, 0, 0, 0, 0, 0, 0, 0, 0])).set 47 (.inl [x6, 0, 0, 0, 0, 0, 0, 0, 0, 0, 0, 0, 0])).set 48 (.inl [x7, 0, 0, 0, 0, 0, 0, 0, 0, 0, 0, 0, 0])).set 49 (.inl [(-1), 0, 0, 0, 0, 0, 0, 0, 0, 0, 0, 0, 0])).set 41 (.inr (.inr (9, [.int 4, .int 1, .ref 42, .ref 43, .ref 44, .ref 45, .ref 46, .ref 47, .ref 48, .ref 49, .ref 50, .ref 51, .int 0, .int 0, .int 0, .int 0, .int 0, .int 0, .int 0, .int 0, .ref 52, .int 0, .ref 53, .int 0, .ref 54, .int 0, .ref 55, .ref 56, .ref 57, .ref 58, .int 0, .ref 59, .ref 60])))).set 51 (.inl ((List.replicate 8 (0 : Int32)).set (Int32.toNatClampNeg x3) 1))) 47 = some (.inl [x6, 0, 0, 0, 0, 0, 0, 0, 0, 0, 0, 0, 0]) := ((at_ne (by decide)).trans ((at_ne (by decide)).trans ((at_ne (by decide)).trans ((at_ne (by decide)).trans (at_eq ((at_ne (by decide)).trans ((at_ne (by decide)).trans ((at_ne (by decide)).trans ((at_ne (by decide)).trans ((at_ne (by decide)).trans F47))))))))))
    refine rr rfl (s_iaload (j := 0) rfl f46 rfl) ?_
    refine rr rfl (s_iconst (v := (-1)) (by decide)) ?_
    refine rr rfl (s_icF (ic_neq g5)) ?_
    refine rr rfl (s_aload_n rfl) ?_
    refine rr rfl (s_getf f41 rfl) ?_
    refine rr rfl (s_aload_n rfl) ?_
    refine rr rfl (s_getf f41 rfl) ?_
    refine rr rfl (s_iload_n rfl) ?_
    refine rr rfl (s_iaload (j := 0) rfl f46 rfl) ?_
    refine rr rfl (s_ialdH f44 g11 g8 g9) ?_
    refine rr rfl (s_iconst (v := 1) (by decide)) ?_
    refine rr rfl (s_iadd (v := 2) (by decide)) ?_
    refine rr rfl (s_iload rfl) ?_
    refine rr rfl (s_icF (by decide)) ?_
    refine rr rfl (s_aload_n rfl) ?_
    refine rr rfl (s_getf f41 rfl) ?_
    refine rr rfl (s_aload_n rfl) ?_
    refine rr rfl (s_getf f41 rfl) ?_
    refine rr rfl (s_iload_n rfl) ?_
    refine rr rfl (s_iaload (j := 0) rfl f46 rfl) ?_
    refine rr rfl (s_ialdH f44 g11 g8 g9) ?_
    refine rr rfl (s_iconst (v := 1) (by decide)) ?_
    refine rr rfl (s_iadd (v := 2) (by decide)) ?_
    refine rr rfl s_goto ?_
    refine rr rfl (s_istore rfl) ?_
    refine rr rfl (s_iload rfl) ?_
    refine rr rfl (s_aload_n rfl) ?_
    refine rr rfl (s_getf f41 rfl) ?_
    refine rr rfl (s_aload_n rfl) ?_
    refine rr rfl (s_getf f41 rfl) ?_
    refine rr rfl (s_iload_n rfl) ?_
    have f47 : a_at ((((((((((H.set 42 (.inl [x1, 0, 0, 0, 0, 0, 0, 0, 0, 0, 0, 0, 0])).set 43 (.inl [x2, 0, 0, 0, 0, 0, 0, 0, 0, 0, 0, 0, 0])).set 44 (.inl [x3, 0, 0, 0, 0, 0, 0, 0, 0, 0, 0, 0, 0])).set 45 (.inl [x4, 0, 0, 0, 0, 0, 0, 0, 0, 0, 0, 0, 0])).set 46 (.inl [x5, 0, 0, 0, 0, 0, 0, 0, 0, 0, 0, 0, 0])).set 47 (.inl [x6, 0, 0, 0, 0, 0, 0, 0, 0, 0, 0, 0, 0])).set 48 (.inl [x7, 0, 0, 0, 0, 0, 0, 0, 0, 0, 0, 0, 0])).set 49 (.inl [(-1), 0, 0, 0, 0, 0, 0, 0, 0, 0, 0, 0, 0])).set 41 (.inr (.inr (9, [.int 4, .int 1, .ref 42, .ref 43, .ref 44, .ref 45, .ref 46, .ref 47, .ref 48, .ref 49, .ref 50, .ref 51, .int 0, .int 0, .int 0, .int 0, .int 0, .int 0, .int 0, .int 0, .ref 52, .int 0, .ref 53, .int 0, .ref 54, .int 0, .ref 55, .ref 56, .ref 57, .ref 58, .int 0, .ref 59, .ref 60])))).set 51 (.inl ((List.replicate 8 (0 : Int32)).set (Int32.toNatClampNeg x3) 1))) 44 = some (.inl [x3, 0, 0, 0, 0, 0, 0, 0, 0, 0, 0, 0, 0]) := ((at_ne (by decide)).trans ((at_ne (by decide)).trans ((at_ne (by decide)).trans ((at_ne (by decide)).trans ((at_ne (by decide)).trans ((at_ne (by decide)).trans ((at_ne (by decide)).trans (at_eq ((at_ne (by decide)).trans ((at_ne (by decide)).trans F44))))))))))
    refine rr rfl (s_iaload (j := 0) rfl f47 rfl) ?_
    refine rr rfl (s_ialdH f44 rfl g8 g9) ?_
    refine rr rfl (s_icF (by decide)) ?_
    refine rr rfl (s_aload_n rfl) ?_
    refine rr rfl (s_getf f41 rfl) ?_
    refine rr rfl (s_aload_n rfl) ?_
    refine rr rfl (s_getf f41 rfl) ?_
    refine rr rfl (s_iload_n rfl) ?_
    refine rr rfl (s_iaload (j := 0) rfl f47 rfl) ?_
    refine rr rfl (s_iload rfl) ?_
    refine rr rfl (s_iastH (h' := ((((((((((H.set 42 (.inl [x1, 0, 0, 0, 0, 0, 0, 0, 0, 0, 0, 0, 0])).set 43 (.inl [x2, 0, 0, 0, 0, 0, 0, 0, 0, 0, 0, 0, 0])).set 44 (.inl [x3, 0, 0, 0, 0, 0, 0, 0, 0, 0, 0, 0, 0])).set 45 (.inl [x4, 0, 0, 0, 0, 0, 0, 0, 0, 0, 0, 0, 0])).set 46 (.inl [x5, 0, 0, 0, 0, 0, 0, 0, 0, 0, 0, 0, 0])).set 47 (.inl [x6, 0, 0, 0, 0, 0, 0, 0, 0, 0, 0, 0, 0])).set 48 (.inl [x7, 0, 0, 0, 0, 0, 0, 0, 0, 0, 0, 0, 0])).set 49 (.inl [(-1), 0, 0, 0, 0, 0, 0, 0, 0, 0, 0, 0, 0])).set 41 (.inr (.inr (9, [.int 4, .int 1, .ref 42, .ref 43, .ref 44, .ref 45, .ref 46, .ref 47, .ref 48, .ref 49, .ref 50, .ref 51, .int 0, .int 0, .int 0, .int 0, .int 0, .int 0, .int 0, .int 0, .ref 52, .int 0, .ref 53, .int 0, .ref 54, .int 0, .ref 55, .ref 56, .ref 57, .ref 58, .int 0, .ref 59, .ref 60])))).set 51 (.inl ((List.replicate 8 (0 : Int32)).set (Int32.toNatClampNeg x3) 2)))) (v := 2) f44 rfl g8 g9 (len_of f44) (List.set_set ..)) ?_
    refine rr rfl (s_iconst (v := 1) (by decide)) ?_
    refine rr rfl (s_istore_n rfl) ?_
    refine rr rfl (s_iload_n rfl) ?_
    refine rr rfl (s_ifF (by decide)) ?_
    refine rr rfl (s_iload rfl) ?_
    refine rr rfl (s_bipush (v := 8) (by decide)) ?_
    refine rr rfl (s_icF (by decide)) ?_
    refine rr rfl (s_iconst (v := 1) (by decide)) ?_
    refine rr rfl s_goto ?_
    refine rr rfl (s_istore_n rfl) ?_
    refine rr rfl (s_iinc (v := 1) rfl (by decide) rfl) ?_
    refine rr rfl s_goto ?_
    refine rr rfl (s_iload_n rfl) ?_
    refine rr rfl (s_aload_n rfl) ?_
    have f48 : a_at ((((((((((H.set 42 (.inl [x1, 0, 0, 0, 0, 0, 0, 0, 0, 0, 0, 0, 0])).set 43 (.inl [x2, 0, 0, 0, 0, 0, 0, 0, 0, 0, 0, 0, 0])).set 44 (.inl [x3, 0, 0, 0, 0, 0, 0, 0, 0, 0, 0, 0, 0])).set 45 (.inl [x4, 0, 0, 0, 0, 0, 0, 0, 0, 0, 0, 0, 0])).set 46 (.inl [x5, 0, 0, 0, 0, 0, 0, 0, 0, 0, 0, 0, 0])).set 47 (.inl [x6, 0, 0, 0, 0, 0, 0, 0, 0, 0, 0, 0, 0])).set 48 (.inl [x7, 0, 0, 0, 0, 0, 0, 0, 0, 0, 0, 0, 0])).set 49 (.inl [(-1), 0, 0, 0, 0, 0, 0, 0, 0, 0, 0, 0, 0])).set 41 (.inr (.inr (9, [.int 4, .int 1, .ref 42, .ref 43, .ref 44, .ref 45, .ref 46, .ref 47, .ref 48, .ref 49, .ref 50, .ref 51, .int 0, .int 0, .int 0, .int 0, .int 0, .int 0, .int 0, .int 0, .ref 52, .int 0, .ref 53, .int 0, .ref 54, .int 0, .ref 55, .ref 56, .ref 57, .ref 58, .int 0, .ref 59, .ref 60])))).set 51 (.inl ((List.replicate 8 (0 : Int32)).set (Int32.toNatClampNeg x3) 2))) 41 = some (.inr (.inr (9, [.int 4, .int 1, .ref 42, .ref 43, .ref 44, .ref 45, .ref 46, .ref 47, .ref 48, .ref 49, .ref 50, .ref 51, .int 0, .int 0, .int 0, .int 0, .int 0, .int 0, .int 0, .int 0, .ref 52, .int 0, .ref 53, .int 0, .ref 54, .int 0, .ref 55, .ref 56, .ref 57, .ref 58, .int 0, .ref 59, .ref 60]))) := ((at_ne (by decide)).trans f18)
    refine rr rfl (s_getf f48 rfl) ?_
    refine rr rfl (s_icT (by decide)) ?_
    refine rr rfl s_goto ?_
    refine rr rfl (s_iload_n rfl) ?_
    refine rr rfl (s_ifF (by decide)) ?_
    refine rr rfl (s_iload_n rfl) ?_
    refine rr rfl (s_ifF (by decide)) ?_
    refine rr rfl (s_iconst (v := 0) (by decide)) ?_
    refine rr rfl (s_istore_n rfl) ?_
    refine rr rfl (s_iconst (v := 0) (by decide)) ?_
    refine rr rfl (s_istore_n rfl) ?_
    refine rr rfl (s_iload_n rfl) ?_
    refine rr rfl (s_aload_n rfl) ?_
    refine rr rfl (s_getf f48 rfl) ?_
    refine rr rfl (s_icF (by decide)) ?_
    refine rr rfl (s_iconst (v := 0) (by decide)) ?_
    refine rr rfl (s_istore rfl) ?_
    refine rr rfl (s_aload_n rfl) ?_
    refine rr rfl (s_getf f48 rfl) ?_
    refine rr rfl (s_iload_n rfl) ?_
    have f49 : a_at ((((((((((H.set 42 (.inl [x1, 0, 0, 0, 0, 0, 0, 0, 0, 0, 0, 0, 0])).set 43 (.inl [x2, 0, 0, 0, 0, 0, 0, 0, 0, 0, 0, 0, 0])).set 44 (.inl [x3, 0, 0, 0, 0, 0, 0, 0, 0, 0, 0, 0, 0])).set 45 (.inl [x4, 0, 0, 0, 0, 0, 0, 0, 0, 0, 0, 0, 0])).set 46 (.inl [x5, 0, 0, 0, 0, 0, 0, 0, 0, 0, 0, 0, 0])).set 47 (.inl [x6, 0, 0, 0, 0, 0, 0, 0, 0, 0, 0, 0, 0])).set 48 (.inl [x7, 0, 0, 0, 0, 0, 0, 0, 0, 0, 0, 0, 0])).set 49 (.inl [(-1), 0, 0, 0, 0, 0, 0, 0, 0, 0, 0, 0, 0])).set 41 (.inr (.inr (9, [.int 4, .int 1, .ref 42, .ref 43, .ref 44, .ref 45, .ref 46, .ref 47, .ref 48, .ref 49, .ref 50, .ref 51, .int 0, .int 0, .int 0, .int 0, .int 0, .int 0, .int 0, .int 0, .ref 52, .int 0, .ref 53, .int 0, .ref 54, .int 0, .ref 55, .ref 56, .ref 57, .ref 58, .int 0, .ref 59, .ref 60])))).set 51 (.inl ((List.replicate 8 (0 : Int32)).set (Int32.toNatClampNeg x3) 2))) 43 = some (.inl [x2, 0, 0, 0, 0, 0, 0, 0, 0, 0, 0, 0, 0]) := ((at_ne (by decide)).trans ((at_ne (by decide)).trans ((at_ne (by decide)).trans ((at_ne (by decide)).trans ((at_ne (by decide)).trans ((at_ne (by decide)).trans ((at_ne (by decide)).trans ((at_ne (by decide)).trans (at_eq ((at_ne (by decide)).trans F43))))))))))
    refine rr rfl (s_iaload (j := 0) rfl f49 rfl) ?_
    refine rr rfl (s_ifF (ic_nne g1)) ?_
    refine rr rfl (s_aload_n rfl) ?_
    refine rr rfl (s_getf f48 rfl) ?_
    refine rr rfl (s_aload_n rfl) ?_
    refine rr rfl (s_getf f48 rfl) ?_
    refine rr rfl (s_iload_n rfl) ?_
    have f50 : a_at ((((((((((H.set 42 (.inl [x1, 0, 0, 0, 0, 0, 0, 0, 0, 0, 0, 0, 0])).set 43 (.inl [x2, 0, 0, 0, 0, 0, 0, 0, 0, 0, 0, 0, 0])).set 44 (.inl [x3, 0, 0, 0, 0, 0, 0, 0, 0, 0, 0, 0, 0])).set 45 (.inl [x4, 0, 0, 0, 0, 0, 0, 0, 0, 0, 0, 0, 0])).set 46 (.inl [x5, 0, 0, 0, 0, 0, 0, 0, 0, 0, 0, 0, 0])).set 47 (.inl [x6, 0, 0, 0, 0, 0, 0, 0, 0, 0, 0, 0, 0])).set 48 (.inl [x7, 0, 0, 0, 0, 0, 0, 0, 0, 0, 0, 0, 0])).set 49 (.inl [(-1), 0, 0, 0, 0, 0, 0, 0, 0, 0, 0, 0, 0])).set 41 (.inr (.inr (9, [.int 4, .int 1, .ref 42, .ref 43, .ref 44, .ref 45, .ref 46, .ref 47, .ref 48, .ref 49, .ref 50, .ref 51, .int 0, .int 0, .int 0, .int 0, .int 0, .int 0, .int 0, .int 0, .ref 52, .int 0, .ref 53, .int 0, .ref 54, .int 0, .ref 55, .ref 56, .ref 57, .ref 58, .int 0, .ref 59, .ref 60])))).set 51 (.inl ((List.replicate 8 (0 : Int32)).set (Int32.toNatClampNeg x3) 2))) 45 = some (.inl [x4, 0, 0, 0, 0, 0, 0, 0, 0, 0, 0, 0, 0]) := ((at_ne (by decide)).trans ((at_ne (by decide)).trans ((at_ne (by decide)).trans ((at_ne (by decide)).trans ((at_ne (by decide)).trans ((at_ne (by decide)).trans (at_eq ((at_ne (by decide)).trans ((at_ne (by decide)).trans ((at_ne (by decide)).trans F45))))))))))
    refine rr rfl (s_iaload (j := 0) rfl f50 rfl) ?_
    have f51 : a_at ((((((((((H.set 42 (.inl [x1, 0, 0, 0, 0, 0, 0, 0, 0, 0, 0, 0, 0])).set 43 (.inl [x2, 0, 0, 0, 0, 0, 0, 0, 0, 0, 0, 0, 0])).set 44 (.inl [x3, 0, 0, 0, 0, 0, 0, 0, 0, 0, 0, 0, 0])).set 45 (.inl [x4, 0, 0, 0, 0, 0, 0, 0, 0, 0, 0, 0, 0])).set 46 (.inl [x5, 0, 0, 0, 0, 0, 0, 0, 0, 0, 0, 0, 0])).set 47 (.inl [x6, 0, 0, 0, 0, 0, 0, 0, 0, 0, 0, 0, 0])).set 48 (.inl [x7, 0, 0, 0, 0, 0, 0, 0, 0, 0, 0, 0, 0])).set 49 (.inl [(-1), 0, 0, 0, 0, 0, 0, 0, 0, 0, 0, 0, 0])).set 41 (.inr (.inr (9, [.int 4, .int 1, .ref 42, .ref 43, .ref 44, .ref 45, .ref 46, .ref 47, .ref 48, .ref 49, .ref 50, .ref 51, .int 0, .int 0, .int 0, .int 0, .int 0, .int 0, .int 0, .int 0, .ref 52, .int 0, .ref 53, .int 0, .ref 54, .int 0, .ref 55, .ref 56, .ref 57, .ref 58, .int 0, .ref 59, .ref 60])))).set 51 (.inl ((List.replicate 8 (0 : Int32)).set (Int32.toNatClampNeg x3) 2))) 51 = some (.inl ((List.replicate 8 (0 : Int32)).set (Int32.toNatClampNeg x3) 2)) := (at_eq f19)
    refine rr rfl (s_ialdH f51 g10 g8 g9) ?_
    refine rr rfl (s_istore rfl) ?_
    refine rr rfl (s_aload_n rfl) ?_
    refine rr rfl (s_getf f48 rfl) ?_
    refine rr rfl (s_iload_n rfl) ?_
    have f52 : a_at ((((((((((H.set 42 (.inl [x1, 0, 0, 0, 0, 0, 0, 0, 0, 0, 0, 0, 0])).set 43 (.inl [x2, 0, 0, 0, 0, 0, 0, 0, 0, 0, 0, 0, 0])).set 44 (.inl [x3, 0, 0, 0, 0, 0, 0, 0, 0, 0, 0, 0, 0])).set 45 (.inl [x4, 0, 0, 0, 0, 0, 0, 0, 0, 0, 0, 0, 0])).set 46 (.inl [x5, 0, 0, 0, 0, 0, 0, 0, 0, 0, 0, 0, 0])).set 47 (.inl [x6, 0, 0, 0, 0, 0, 0, 0, 0, 0, 0, 0, 0])).set 48 (.inl [x7, 0, 0, 0, 0, 0, 0, 0, 0, 0, 0, 0, 0])).set 49 (.inl [(-1), 0, 0, 0, 0, 0, 0, 0, 0, 0, 0, 0, 0])).set 41 (.inr (.inr (9, [.int 4, .int 1, .ref 42, .ref 43, .ref 44, .ref 45, .ref 46, .ref 47, .ref 48, .ref 49, .ref 50, .ref 51, .int 0, .int 0, .int 0, .int 0, .int 0, .int 0, .int 0, .int 0, .ref 52, .int 0, .ref 53, .int 0, .ref 54, .int 0, .ref 55, .ref 56, .ref 57, .ref 58, .int 0, .ref 59, .ref 60])))).set 51 (.inl ((List.replicate 8 (0 : Int32)).set (Int32.toNatClampNeg x3) 2))) 46 = some (.inl [x5, 0, 0, 0, 0, 0, 0, 0, 0, 0, 0, 0, 0]) := ((at_ne (by decide)).trans ((at_ne (by decide)).trans ((at_ne (by decide)).trans ((at_ne (by decide)).trans ((at_ne (by decide)).trans (at_eq ((at_ne (by decide)).trans ((at_ne (by decide)).trans ((at_ne (by decide)).trans ((at_ne (by decide)).trans F46))))))))))
    refine rr rfl (s_iaload (j := 0) rfl f52 rfl) ?_
    refine rr rfl (s_iconst (v := (-1)) (by decide)) ?_
    refine rr rfl (s_icT (ic_eq g4)) ?_
    refine rr rfl (s_iload rfl) ?_
    refine rr rfl (s_istore rfl) ?_
    refine rr rfl (s_aload_n rfl) ?_
    refine rr rfl (s_getf f48 rfl) ?_
    refine rr rfl (s_iload_n rfl) ?_
    have f53 : a_at ((((((((((H.set 42 (.inl [x1, 0, 0, 0, 0, 0, 0, 0, 0, 0, 0, 0, 0])).set 43 (.inl [x2, 0, 0, 0, 0, 0, 0, 0, 0, 0, 0, 0, 0])).set 44 (.inl [x3, 0, 0, 0, 0, 0, 0, 0, 0, 0, 0, 0, 0])).set 45 (.inl [x4, 0, 0, 0, 0, 0, 0, 0, 0, 0, 0, 0, 0])).set 46 (.inl [x5, 0, 0, 0, 0, 0, 0, 0, 0, 0, 0, 0, 0])).set 47 (.inl [x6, 0, 0, 0, 0, 0, 0, 0, 0, 0, 0, 0, 0])).set 48 (.inl [x7, 0, 0, 0, 0, 0, 0, 0, 0, 0, 0, 0, 0])).set 49 (.inl [(-1), 0, 0, 0, 0, 0, 0, 0, 0, 0, 0, 0, 0])).set 41 (.inr (.inr (9, [.int 4, .int 1, .ref 42, .ref 43, .ref 44, .ref 45, .ref 46, .ref 47, .ref 48, .ref 49, .ref 50, .ref 51, .int 0, .int 0, .int 0, .int 0, .int 0, .int 0, .int 0, .int 0, .ref 52, .int 0, .ref 53, .int 0, .ref 54, .int 0, .ref 55, .ref 56, .ref 57, .ref 58, .int 0, .ref 59, .ref 60])))).set 51 (.inl ((List.replicate 8 (0 : Int32)).set (Int32.toNatClampNeg x3) 2))) 47 = some (.inl [x6, 0, 0, 0, 0, 0, 0, 0, 0, 0, 0, 0, 0]) := ((at_ne (by decide)).trans ((at_ne (by decide)).trans ((at_ne (by decide)).trans ((at_ne (by decide)).trans (at_eq ((at_ne (by decide)).trans ((at_ne (by decide)).trans ((at_ne (by decide)).trans ((at_ne (by decide)).trans ((at_ne (by decide)).trans F47))))))))))
    refine rr rfl (s_iaload (j := 0) rfl f53 rfl) ?_
    refine rr rfl (s_iconst (v := (-1)) (by decide)) ?_
    refine rr rfl (s_icF (ic_neq g5)) ?_
    refine rr rfl (s_aload_n rfl) ?_
    refine rr rfl (s_getf f48 rfl) ?_
    refine rr rfl (s_aload_n rfl) ?_
    refine rr rfl (s_getf f48 rfl) ?_
    refine rr rfl (s_iload_n rfl) ?_
    refine rr rfl (s_iaload (j := 0) rfl f53 rfl) ?_
    refine rr rfl (s_ialdH f51 g11 g8 g9) ?_
    refine rr rfl (s_iconst (v := 1) (by decide)) ?_
    refine rr rfl (s_iadd (v := 3) (by decide)) ?_
    refine rr rfl (s_iload rfl) ?_
    refine rr rfl (s_icF (by decide)) ?_
    refine rr rfl (s_aload_n rfl) ?_
    refine rr rfl (s_getf f48 rfl) ?_
    refine rr rfl (s_aload_n rfl) ?_
    refine rr rfl (s_getf f48 rfl) ?_
    refine rr rfl (s_iload_n rfl) ?_
    refine rr rfl (s_iaload (j := 0) rfl f53 rfl) ?_
    refine rr rfl (s_ialdH f51 g11 g8 g9) ?_
    refine rr rfl (s_iconst (v := 1) (by decide)) ?_
    refine rr rfl (s_iadd (v := 3) (by decide)) ?_
    refine rr rfl s_goto ?_
    refine rr rfl (s_istore rfl) ?_
    refine rr rfl (s_iload rfl) ?_
    refine rr rfl (s_aload_n rfl) ?_
    refine rr rfl (s_getf f48 rfl) ?_
    refine rr rfl (s_aload_n rfl) ?_
    refine rr rfl (s_getf f48 rfl) ?_
    refine rr rfl (s_iload_n rfl) ?_
    have f54 : a_at ((((((((((H.set 42 (.inl [x1, 0, 0, 0, 0, 0, 0, 0, 0, 0, 0, 0, 0])).set 43 (.inl [x2, 0, 0, 0, 0, 0, 0, 0, 0, 0, 0, 0, 0])).set 44 (.inl [x3, 0, 0, 0, 0, 0, 0, 0, 0, 0, 0, 0, 0])).set 45 (.inl [x4, 0, 0, 0, 0, 0, 0, 0, 0, 0, 0, 0, 0])).set 46 (.inl [x5, 0, 0, 0, 0, 0, 0, 0, 0, 0, 0, 0, 0])).set 47 (.inl [x6, 0, 0, 0, 0, 0, 0, 0, 0, 0, 0, 0, 0])).set 48 (.inl [x7, 0, 0, 0, 0, 0, 0, 0, 0, 0, 0, 0, 0])).set 49 (.inl [(-1), 0, 0, 0, 0, 0, 0, 0, 0, 0, 0, 0, 0])).set 41 (.inr (.inr (9, [.int 4, .int 1, .ref 42, .ref 43, .ref 44, .ref 45, .ref 46, .ref 47, .ref 48, .ref 49, .ref 50, .ref 51, .int 0, .int 0, .int 0, .int 0, .int 0, .int 0, .int 0, .int 0, .ref 52, .int 0, .ref 53, .int 0, .ref 54, .int 0, .ref 55, .ref 56, .ref 57, .ref 58, .int 0, .ref 59, .ref 60])))).set 51 (.inl ((List.replicate 8 (0 : Int32)).set (Int32.toNatClampNeg x3) 2))) 44 = some (.inl [x3, 0, 0, 0, 0, 0, 0, 0, 0, 0, 0, 0, 0]) := ((at_ne (by decide)).trans ((at_ne (by decide)).trans ((at_ne (by decide)).trans ((at_ne (by decide)).trans ((at_ne (by decide)).trans ((at_ne (by decide)).trans ((at_ne (by decide)).trans (at_eq ((at_ne (by decide)).trans ((at_ne (by decide)).trans F44))))))))))
    refine rr rfl (s_iaload (j := 0) rfl f54 rfl) ?_
    refine rr rfl (s_ialdH f51 rfl g8 g9) ?_
    refine rr rfl (s_icF (by decide)) ?_
    refine rr rfl (s_aload_n rfl) ?_
    refine rr rfl (s_getf f48 rfl) ?_
    refine rr rfl (s_aload_n rfl) ?_
    refine rr rfl (s_getf f48 rfl) ?_
    refine rr rfl (s_iload_n rfl) ?_
    refine rr rfl (s_iaload (j := 0) rfl f54 rfl) ?_
    refine rr rfl (s_iload rfl) ?_
    refine rr rfl (s_iastH (h' := ((((((((((H.set 42 (.inl [x1, 0, 0, 0, 0, 0, 0, 0, 0, 0, 0, 0, 0])).set 43 (.inl [x2, 0, 0, 0, 0, 0, 0, 0, 0, 0, 0, 0, 0])).set 44 (.inl [x3, 0, 0, 0, 0, 0, 0, 0, 0, 0, 0, 0, 0])).set 45 (.inl [x4, 0, 0, 0, 0, 0, 0, 0, 0, 0, 0, 0, 0])).set 46 (.inl [x5, 0, 0, 0, 0, 0, 0, 0, 0, 0, 0, 0, 0])).set 47 (.inl [x6, 0, 0, 0, 0, 0, 0, 0, 0, 0, 0, 0, 0])).set 48 (.inl [x7, 0, 0, 0, 0, 0, 0, 0, 0, 0, 0, 0, 0])).set 49 (.inl [(-1), 0, 0, 0, 0, 0, 0, 0, 0, 0, 0, 0, 0])).set 41 (.inr (.inr (9, [.int 4, .int 1, .ref 42, .ref 43, .ref 44, .ref 45, .ref 46, .ref 47, .ref 48, .ref 49, .ref 50, .ref 51, .int 0, .int 0, .int 0, .int 0, .int 0, .int 0, .int 0, .int 0, .ref 52, .int 0, .ref 53, .int 0, .ref 54, .int 0, .ref 55, .ref 56, .ref 57, .ref 58, .int 0, .ref 59, .ref 60])))).set 51 (.inl ((List.replicate 8 (0 : Int32)).set (Int32.toNatClampNeg x3) 3)))) (v := 3) f51 rfl g8 g9 (len_of f51) (List.set_set ..)) ?_
    refine rr rfl (s_iconst (v := 1) (by decide)) ?_
    refine rr rfl (s_istore_n rfl) ?_
    refine rr rfl (s_iload_n rfl) ?_
    refine rr rfl (s_ifF (by decide)) ?_
    refine rr rfl (s_iload rfl) ?_
    refine rr rfl (s_bipush (v := 8) (by decide)) ?_
    refine rr rfl (s_icF (by decide)) ?_
    refine rr rfl (s_iconst (v := 1) (by decide)) ?_
    refine rr rfl s_goto ?_
    refine rr rfl (s_istore_n rfl) ?_
    refine rr rfl (s_iinc (v := 1) rfl (by decide) rfl) ?_
    refine rr rfl s_goto ?_
    refine rr rfl (s_iload_n rfl) ?_
    refine rr rfl (s_aload_n rfl) ?_
    have f55 : a_at ((((((((((H.set 42 (.inl [x1, 0, 0, 0, 0, 0, 0, 0, 0, 0, 0, 0, 0])).set 43 (.inl [x2, 0, 0, 0, 0, 0, 0, 0, 0, 0, 0, 0, 0])).set 44 (.inl [x3, 0, 0, 0, 0, 0, 0, 0, 0, 0, 0, 0, 0])).set 45 (.inl [x4, 0, 0, 0, 0, 0, 0, 0, 0, 0, 0, 0, 0])).set 46 (.inl [x5, 0, 0, 0, 0, 0, 0, 0, 0, 0, 0, 0, 0])).set 47 (.inl [x6, 0, 0, 0, 0, 0, 0, 0, 0, 0, 0, 0, 0])).set 48 (.inl [x7, 0, 0, 0, 0, 0, 0, 0, 0, 0, 0, 0, 0])).set 49 (.inl [(-1), 0, 0, 0, 0, 0, 0, 0, 0, 0, 0, 0, 0])).set 41 (.inr (.inr (9, [.int 4, .int 1, .ref 42, .ref 43, .ref 44, .ref 45, .ref 46, .ref 47, .ref 48, .ref 49, .ref 50, .ref 51, .int 0, .int 0, .int 0, .int 0, .int 0, .int 0, .int 0, .int 0, .ref 52, .int 0, .ref 53, .int 0, .ref 54, .int 0, .ref 55, .ref 56, .ref 57, .ref 58, .int 0, .ref 59, .ref 60])))).set 51 (.inl ((List.replicate 8 (0 : Int32)).set (Int32.toNatClampNeg x3) 3))) 41 = some (.inr (.inr (9, [.int 4, .int 1, .ref 42, .ref 43, .ref 44, .ref 45, .ref 46, .ref 47, .ref 48, .ref 49, .ref 50, .ref 51, .int 0, .int 0, .int 0, .int 0, .int 0, .int 0, .int 0, .int 0, .ref 52, .int 0, .ref 53, .int 0, .ref 54, .int 0, .ref 55, .ref 56, .ref 57, .ref 58, .int 0, .ref 59, .ref 60]))) := ((at_ne (by decide)).trans f18)
    refine rr rfl (s_getf f55 rfl) ?_
    refine rr rfl (s_icT (by decide)) ?_
    refine rr rfl s_goto ?_
    refine rr rfl (s_iload_n rfl) ?_
    refine rr rfl (s_ifF (by decide)) ?_
    refine rr rfl (s_iload_n rfl) ?_
    refine rr rfl (s_ifF (by decide)) ?_
    refine rr rfl (s_iconst (v := 0) (by decide)) ?_
    refine rr rfl (s_istore_n rfl) ?_
    refine rr rfl (s_iconst (v := 0) (by decide)) ?_
    refine rr rfl (s_istore_n rfl) ?_
    refine rr rfl (s_iload_n rfl) ?_
    refine rr rfl (s_aload_n rfl) ?_
    refine rr rfl (s_getf f55 rfl) ?_
    refine rr rfl (s_icF (by decide)) ?_
    refine rr rfl (s_iconst (v := 0) (by decide)) ?_
    refine rr rfl (s_istore rfl) ?_
    refine rr rfl (s_aload_n rfl) ?_
    refine rr rfl (s_getf f55 rfl) ?_
    refine rr rfl (s_iload_n rfl) ?_
    have f56 : a_at ((((((((((H.set 42 (.inl [x1, 0, 0, 0, 0, 0, 0, 0, 0, 0, 0, 0, 0])).set 43 (.inl [x2, 0, 0, 0, 0, 0, 0, 0, 0, 0, 0, 0, 0])).set 44 (.inl [x3, 0, 0, 0, 0, 0, 0, 0, 0, 0, 0, 0, 0])).set 45 (.inl [x4, 0, 0, 0, 0, 0, 0, 0, 0, 0, 0, 0, 0])).set 46 (.inl [x5, 0, 0, 0, 0, 0, 0, 0, 0, 0, 0, 0, 0])).set 47 (.inl [x6, 0, 0, 0, 0, 0, 0, 0, 0, 0, 0, 0, 0])).set 48 (.inl [x7, 0, 0, 0, 0, 0, 0, 0, 0, 0, 0, 0, 0])).set 49 (.inl [(-1), 0, 0, 0, 0, 0, 0, 0, 0, 0, 0, 0, 0])).set 41 (.inr (.inr (9, [.int 4, .int 1, .ref 42, .ref 43, .ref 44, .ref 45, .ref 46, .ref 47, .ref 48, .ref 49, .ref 50, .ref 51, .int 0, .int 0, .int 0, .int 0, .int 0, .int 0, .int 0, .int 0, .ref 52, .int 0, .ref 53, .int 0, .ref 54, .int 0, .ref 55, .ref 56, .ref 57, .ref 58, .int 0, .ref 59, .ref 60])))).set 51 (.inl ((List.replicate 8 (0 : Int32)).set (Int32.toNatClampNeg x3) 3))) 43 = some (.inl [x2, 0, 0, 0, 0, 0, 0, 0, 0, 0, 0, 0, 0]) := ((at_ne (by decide)).trans ((at_ne (by decide)).trans ((at_ne (by decide)).trans ((at_ne (by decide)).trans ((at_ne (by decide)).trans ((at_ne (by decide)).trans ((at_ne (by decide)).trans ((at_ne (by decide)).trans (at_eq ((at_ne (by decide)).trans F43))))))))))
    refine rr rfl (s_iaload (j := 0) rfl f56 rfl) ?_
    refine rr rfl (s_ifF (ic_nne g1)) ?_
    refine rr rfl (s_aload_n rfl) ?_
    refine rr rfl (s_getf f55 rfl) ?_
    refine rr rfl (s_aload_n rfl) ?_
    refine rr rfl (s_getf f55 rfl) ?_
    refine rr rfl (s_iload_n rfl) ?_
    have f57 : a_at ((((((((((H.set 42 (.inl [x1, 0, 0, 0, 0, 0, 0, 0, 0, 0, 0, 0, 0])).set 43 (.inl [x2, 0, 0, 0, 0, 0, 0, 0, 0, 0, 0, 0, 0])).set 44 (.inl [x3, 0, 0, 0, 0, 0, 0, 0, 0, 0, 0, 0, 0])).set 45 (.inl [x4, 0, 0, 0, 0, 0, 0, 0, 0, 0, 0, 0, 0])).set 46 (.inl [x5, 0, 0, 0, 0, 0, 0, 0, 0, 0, 0, 0, 0])).set 47 (.inl [x6, 0, 0, 0, 0, 0, 0, 0, 0, 0, 0, 0, 0])).set 48 (.inl [x7, 0, 0, 0, 0, 0, 0, 0, 0, 0, 0, 0, 0])).set 49 (.inl [(-1), 0, 0, 0, 0, 0, 0, 0, 0, 0, 0, 0, 0])).set 41 (.inr (.inr (9, [.int 4, .int 1, .ref 42, .ref 43, .ref 44, .ref 45, .ref 46, .ref 47, .ref 48, .ref 49, .ref 50, .ref 51, .int 0, .int 0, .int 0, .int 0, .int 0, .int 0, .int 0, .int 0, .ref 52, .int 0, .ref 53, .int 0, .ref 54, .int 0, .ref 55, .ref 56, .ref 57, .ref 58, .int 0, .ref 59, .ref 60])))).set 51 (.inl ((List.replicate 8 (0 : Int32)).set (Int32.toNatClampNeg x3) 3))) 45 = some (.inl [x4, 0, 0, 0, 0, 0, 0, 0, 0, 0, 0, 0, 0]) := ((at_ne (by decide)).trans ((at_ne (by decide)).trans ((at_ne (by decide)).trans ((at_ne (by decide)).trans ((at_ne (by decide)).trans ((at_ne (by decide)).trans (at_eq ((at_ne (by decide)).trans ((at_ne (by decide)).trans ((at_ne (by decide)).trans F45))))))))))
    refine rr rfl (s_iaload (j := 0) rfl f57 rfl) ?_
    have f58 : a_at ((((((((((H.set 42 (.inl [x1, 0, 0, 0, 0, 0, 0, 0, 0, 0, 0, 0, 0])).set 43 (.inl [x2, 0, 0, 0, 0, 0, 0, 0, 0, 0, 0, 0, 0])).set 44 (.inl [x3, 0, 0, 0, 0, 0, 0, 0, 0, 0, 0, 0, 0])).set 45 (.inl [x4, 0, 0, 0, 0, 0, 0, 0, 0, 0, 0, 0, 0])).set 46 (.inl [x5, 0, 0, 0, 0, 0, 0, 0, 0, 0, 0, 0, 0])).set 47 (.inl [x6, 0, 0, 0, 0, 0, 0, 0, 0, 0, 0, 0, 0])).set 48 (.inl [x7, 0, 0, 0, 0, 0, 0, 0, 0, 0, 0, 0, 0])).set 49 (.inl [(-1), 0, 0, 0, 0, 0, 0, 0, 0, 0, 0, 0, 0])).set 41 (.inr (.inr (9, [.int 4, .int 1, .ref 42, .ref 43, .ref 44, .ref 45, .ref 46, .ref 47, .ref 48, .ref 49, .ref 50, .ref 51, .int 0, .int 0, .int 0, .int 0, .int 0, .int 0, .int 0, .int 0, .ref 52, .int 0, .ref 53, .int 0, .ref 54, .int 0, .ref 55, .ref 56, .ref 57, .ref 58, .int 0, .ref 59, .ref 60])))).set 51 (.inl ((List.replicate 8 (0 : Int32)).set (Int32.toNatClampNeg x3) 3))) 51 = some (.inl ((List.replicate 8 (0 : Int32)).set (Int32.toNatClampNeg x3) 3)) := (at_eq f19)
    refine rr rfl (s_ialdH f58 g10 g8 g9) ?_
    refine rr rfl (s_istore rfl) ?_
    refine rr rfl (s_aload_n rfl) ?_
    refine rr rfl (s_getf f55 rfl) ?_
    refine rr rfl (s_iload_n rfl) ?_
    have f59 : a_at ((((((((((H.set 42 (.inl [x1, 0, 0, 0, 0, 0, 0, 0, 0, 0, 0, 0, 0])).set 43 (.inl [x2, 0, 0, 0, 0, 0, 0, 0, 0, 0, 0, 0, 0])).set 44 (.inl [x3, 0, 0, 0, 0, 0, 0, 0, 0, 0, 0, 0, 0])).set 45 (.inl [x4, 0, 0, 0, 0, 0, 0, 0, 0, 0, 0, 0, 0])).set 46 (.inl [x5, 0, 0, 0, 0, 0, 0, 0, 0, 0, 0, 0, 0])).set 47 (.inl [x6, 0, 0, 0, 0, 0, 0, 0, 0, 0, 0, 0, 0])).set 48 (.inl [x7, 0, 0, 0, 0, 0, 0, 0, 0, 0, 0, 0, 0])).set 49 (.inl [(-1), 0, 0, 0, 0, 0, 0, 0, 0, 0, 0, 0, 0])).set 41 (.inr (.inr (9, [.int 4, .int 1, .ref 42, .ref 43, .ref 44, .ref 45, .ref 46, .ref 47, .ref 48, .ref 49, .ref 50, .ref 51, .int 0, .int 0, .int 0, .int 0, .int 0, .int 0, .int 0, .int 0, .ref 52, .int 0, .ref 53, .int 0, .ref 54, .int 0, .ref 55, .ref 56, .ref 57, .ref 58, .int 0, .ref 59, .ref 60])))).set 51 (.inl ((List.replicate 8 (0 : Int32)).set (Int32.toNatClampNeg x3) 3))) 46 = some (.inl [x5, 0, 0, 0, 0, 0, 0, 0, 0, 0, 0, 0, 0]) := ((at_ne (by decide)).trans ((at_ne (by decide)).trans ((at_ne (by decide)).trans ((at_ne (by decide)).trans ((at_ne (by decide)).trans (at_eq ((at_ne (by decide)).trans ((at_ne (by decide)).trans ((at_ne (by decide)).trans ((at_ne (by decide)).trans F46))))))))))
    refine rr rfl (s_iaload (j := 0) rfl f59 rfl) ?_
    refine rr rfl (s_iconst (v := (-1)) (by decide)) ?_
    refine rr rfl (s_icT (ic_eq g4)) ?_
    refine rr rfl (s_iload rfl) ?_
    refine rr rfl (s_istore rfl) ?_
    refine rr rfl (s_aload_n rfl) ?_
    refine rr rfl (s_getf f55 rfl) ?_
    refine rr rfl (s_iload_n rfl) ?_
    have f60 : a_at ((((((((((H.set 42 (.inl [x1, 0, 0, 0, 0, 0, 0, 0, 0, 0, 0, 0, 0])).set 43 (.inl [x2, 0, 0, 0, 0, 0, 0, 0, 0, 0, 0, 0, 0])).set 44 (.inl [x3, 0, 0, 0, 0, 0, 0, 0, 0, 0, 0, 0, 0])).set 45 (.inl [x4, 0, 0, 0, 0, 0, 0, 0, 0, 0, 0, 0, 0])).set 46 (.inl [x5, 0, 0, 0, 0, 0, 0, 0, 0, 0, 0, 0, 0])).set 47 (.inl [x6, 0, 0, 0, 0, 0, 0, 0, 0, 0, 0, 0, 0])).set 48 (.inl [x7, 0, 0, 0, 0, 0, 0, 0, 0, 0, 0, 0, 0])).set 49 (.inl [(-1), 0, 0, 0, 0, 0, 0, 0, 0, 0, 0, 0, 0])).set 41 (.inr (.inr (9, [.int 4, .int 1, .ref 42, .ref 43, .ref 44, .ref 45, .ref 46, .ref 47, .ref 48, .ref 49, .ref 50, .ref 51, .int 0, .int 0, .int 0, .int 0, .int 0, .int 0, .int 0, .int 0, .ref 52, .int 0, .ref 53, .int 0, .ref 54, .int 0, .ref 55, .ref 56, .ref 57, .ref 58, .int 0, .ref 59, .ref 60])))).set 51 (.inl ((List.replicate 8 (0 : Int32)).set (Int32.toNatClampNeg x3) 3))) 47 = some (.inl [x6, 0, 0, 0, 0, 0, 0, 0, 0, 0, 0, 0, 0]) := ((at_ne (by decide)).trans ((at_ne (by decide)).trans ((at_ne (by decide)).trans ((at_ne (by decide)).trans (at_eq ((at_ne (by decide)).trans ((at_ne (by decide)).trans ((at_ne (by decide)).trans ((at_ne (by decide)).trans ((at_ne (by decide)).trans F47))))))))))
    refine rr rfl (s_iaload (j := 0) rfl f60 rfl) ?_
    refine rr rfl (s_iconst (v := (-1)) (by decide)) ?_
    refine rr rfl (s_icF (ic_neq g5)) ?_
    refine rr rfl (s_aload_n rfl) ?_
    refine rr rfl (s_getf f55 rfl) ?_
    refine rr rfl (s_aload_n rfl) ?_
    refine rr rfl (s_getf f55 rfl) ?_
    refine rr rfl (s_iload_n rfl) ?_
    refine rr rfl (s_iaload (j := 0) rfl f60 rfl) ?_
    refine rr rfl (s_ialdH f58 g11 g8 g9) ?_
    refine rr rfl (s_iconst (v := 1) (by decide)) ?_
    refine rr rfl (s_iadd (v := 4) (by decide)) ?_
    refine rr rfl (s_iload rfl) ?_
    refine rr rfl (s_icF (by decide)) ?_
    refine rr rfl (s_aload_n rfl) ?_
    refine rr rfl (s_getf f55 rfl) ?_
    refine rr rfl (s_aload_n rfl) ?_
    refine rr rfl (s_getf f55 rfl) ?_
    refine rr rfl (s_iload_n rfl) ?_
    refine rr rfl (s_iaload (j := 0) rfl f60 rfl) ?_
    refine rr rfl (s_ialdH f58 g11 g8 g9) ?_
    refine rr rfl (s_iconst (v := 1) (by decide)) ?_
    refine rr rfl (s_iadd (v := 4) (by decide)) ?_
    refine rr rfl s_goto ?_
    refine rr rfl (s_istore rfl) ?_
    refine rr rfl (s_iload rfl) ?_
    refine rr rfl (s_aload_n rfl) ?_
    refine rr rfl (s_getf f55 rfl) ?_
    refine rr rfl (s_aload_n rfl) ?_
    refine rr rfl (s_getf f55 rfl) ?_
    refine rr rfl (s_iload_n rfl) ?_
    have f61 : a_at ((((((((((H.set 42 (.inl [x1, 0, 0, 0, 0, 0, 0, 0, 0, 0, 0, 0, 0])).set 43 (.inl [x2, 0, 0, 0, 0, 0, 0, 0, 0, 0, 0, 0, 0])).set 44 (.inl [x3, 0, 0, 0, 0, 0, 0, 0, 0, 0, 0, 0, 0])).set 45 (.inl [x4, 0, 0, 0, 0, 0, 0, 0, 0, 0, 0, 0, 0])).set 46 (.inl [x5, 0, 0, 0, 0, 0, 0, 0, 0, 0, 0, 0, 0])).set 47 (.inl [x6, 0, 0, 0, 0, 0, 0, 0, 0, 0, 0, 0, 0])).set 48 (.inl [x7, 0, 0, 0, 0, 0, 0, 0, 0, 0, 0, 0, 0])).set 49 (.inl [(-1), 0, 0, 0, 0, 0, 0, 0, 0, 0, 0, 0, 0])).set 41 (.inr (.inr (9, [.int 4, .int 1, .ref 42, .ref 43, .ref 44, .ref 45, .ref 46, .ref 47, .ref 48, .ref 49, .ref 50, .ref 51, .int 0, .int 0, .int 0, .int 0, .int 0, .int 0, .int 0, .int 0, .ref 52, .int 0, .ref 53, .int 0, .ref 54, .int 0, .ref 55, .ref 56, .ref 57, .ref 58, .int 0, .ref 59, .ref 60])))).set 51 (.inl ((List.replicate 8 (0 : Int32)).set (Int32.toNatClampNeg x3) 3))) 44 = some (.inl [x3, 0, 0, 0, 0, 0, 0, 0, 0, 0, 0, 0, 0]) := ((at_ne (by decide)).trans ((at_ne (by decide)).trans ((at_ne (by decide)).trans ((at_ne (by decide)).trans ((at_ne (by decide)).trans ((at_ne (by decide)).trans ((at_ne (by decide)).trans (at_eq ((at_ne (by decide)).trans ((at_ne (by decide)).trans F44))))))))))
    refine rr rfl (s_iaload (j := 0) rfl f61 rfl) ?_
    refine rr rfl (s_ialdH f58 rfl g8 g9) ?_
    refine rr rfl (s_icF (by decide)) ?_
    refine rr rfl (s_aload_n rfl) ?_
    refine rr rfl (s_getf f55 rfl) ?_
    refine rr rfl (s_aload_n rfl) ?_
    refine rr rfl (s_getf f55 rfl) ?_
    refine rr rfl (s_iload_n rfl) ?_
    refine rr rfl (s_iaload (j := 0) rfl f61 rfl) ?_
    refine rr rfl (s_iload rfl) ?_
    refine rr rfl (s_iastH (h' := ((((((((((H.set 42 (.inl [x1, 0, 0, 0, 0, 0, 0, 0, 0, 0, 0, 0, 0])).set 43 (.inl [x2, 0, 0, 0, 0, 0, 0, 0, 0, 0, 0, 0, 0])).set 44 (.inl [x3, 0, 0, 0, 0, 0, 0, 0, 0, 0, 0, 0, 0])).set 45 (.inl [x4, 0, 0, 0, 0, 0, 0, 0, 0, 0, 0, 0, 0])).set 46 (.inl [x5, 0, 0, 0, 0, 0, 0, 0, 0, 0, 0, 0, 0])).set 47 (.inl [x6, 0, 0, 0, 0, 0, 0, 0, 0, 0, 0, 0, 0])).set 48 (.inl [x7, 0, 0, 0, 0, 0, 0, 0, 0, 0, 0, 0, 0])).set 49 (.inl [(-1), 0, 0, 0, 0, 0, 0, 0, 0, 0, 0, 0, 0])).set 41 (.inr (.inr (9, [.int 4, .int 1, .ref 42, .ref 43, .ref 44, .ref 45, .ref 46, .ref 47, .ref 48, .ref 49, .ref 50, .ref 51, .int 0, .int 0, .int 0, .int 0, .int 0, .int 0, .int 0, .int 0, .ref 52, .int 0, .ref 53, .int 0, .ref 54, .int 0, .ref 55, .ref 56, .ref 57, .ref 58, .int 0, .ref 59, .ref 60])))).set 51 (.inl ((List.replicate 8 (0 : Int32)).set (Int32.toNatClampNeg x3) 4)))) (v := 4) f58 rfl g8 g9 (len_of f58) (List.set_set ..)) ?_
    refine rr rfl (s_iconst (v := 1) (by decide)) ?_
    refine rr rfl (s_istore_n rfl) ?_
    refine rr rfl (s_iload_n rfl) ?_
    refine rr rfl (s_ifF (by decide)) ?_
    refine rr rfl (s_iload rfl) ?_
    refine rr rfl (s_bipush (v := 8) (by decide)) ?_
    refine rr rfl (s_icF (by decide)) ?_
    refine rr rfl (s_iconst (v := 1) (by decide)) ?_
    refine rr rfl s_goto ?_
    refine rr rfl (s_istore_n rfl) ?_
    refine rr rfl (s_iinc (v := 1) rfl (by decide) rfl) ?_
    refine rr rfl s_goto ?_
    refine rr rfl (s_iload_n rfl) ?_
    refine rr rfl (s_aload_n rfl) ?_
    have f62 : a_at ((((((((((H.set 42 (.inl [x1, 0, 0, 0, 0, 0, 0, 0, 0, 0, 0, 0, 0])).set 43 (.inl [x2, 0, 0, 0, 0, 0, 0, 0, 0, 0, 0, 0, 0])).set 44 (.inl [x3, 0, 0, 0, 0, 0, 0, 0, 0, 0, 0, 0, 0])).set 45 (.inl [x4, 0, 0, 0, 0, 0, 0, 0, 0, 0, 0, 0, 0])).set 46 (.inl [x5, 0, 0, 0, 0, 0, 0, 0, 0, 0, 0, 0, 0])).set 47 (.inl [x6, 0, 0, 0, 0, 0, 0, 0, 0, 0, 0, 0, 0])).set 48 (.inl [x7, 0, 0, 0, 0, 0, 0, 0, 0, 0, 0, 0, 0])).set 49 (.inl [(-1), 0, 0, 0, 0, 0, 0, 0, 0, 0, 0, 0, 0])).set 41 (.inr (.inr (9, [.int 4, .int 1, .ref 42, .ref 43, .ref 44, .ref 45, .ref 46, .ref 47, .ref 48, .ref 49, .ref 50, .ref 51, .int 0, .int 0, .int 0, .int 0, .int 0, .int 0, .int 0, .int 0, .ref 52, .int 0, .ref 53, .int 0, .ref 54, .int 0, .ref 55, .ref 56, .ref 57, .ref 58, .int 0, .ref 59, .ref 60])))).set 51 (.inl ((List.replicate 8 (0 : Int32)).set (Int32.toNatClampNeg x3) 4))) 41 = some (.inr (.inr (9, [.int 4, .int 1, .ref 42, .ref 43, .ref 44, .ref 45, .ref 46, .ref 47, .ref 48, .ref 49, .ref 50, .ref 51, .int 0, .int 0, .int 0, .int 0, .int 0, .int 0, .int 0, .int 0, .ref 52, .int 0, .ref 53, .int 0, .ref 54, .int 0, .ref 55, .ref 56, .ref 57, .ref 58, .int 0, .ref 59, .ref 60]))) := ((at_ne (by decide)).trans f18)
    refine rr rfl (s_getf f62 rfl) ?_
    refine rr rfl (s_icT (by decide)) ?_
    refine rr rfl s_goto ?_
    refine rr rfl (s_iload_n rfl) ?_
    refine rr rfl (s_ifF (by decide)) ?_
    refine rr rfl (s_iload_n rfl) ?_
    refine rr rfl (s_ifF (by decide)) ?_
    refine rr rfl (s_iconst (v := 0) (by decide)) ?_
    refine rr rfl (s_istore_n rfl) ?_
    refine rr rfl (s_iconst (v := 0) (by decide)) ?_
    refine rr rfl (s_istore_n rfl) ?_
    refine rr rfl (s_iload_n rfl) ?_
    refine rr rfl (s_aload_n rfl) ?_
    refine rr rfl (s_getf f62 rfl) ?_
    refine rr rfl (s_icF (by decide)) ?_
    refine rr rfl (s_iconst (v := 0) (by decide)) ?_
    refine rr rfl (s_istore rfl) ?_
    refine rr rfl (s_aload_n rfl) ?_
    refine rr rfl (s_getf f62 rfl) ?_
    refine rr rfl (s_iload_n rfl) ?_
    have f63 : a_at ((((((((((H.set 42 (.inl [x1, 0, 0, 0, 0, 0, 0, 0, 0, 0, 0, 0, 0])).set 43 (.inl [x2, 0, 0, 0, 0, 0, 0, 0, 0, 0, 0, 0, 0])).set 44 (.inl [x3, 0, 0, 0, 0, 0, 0, 0, 0, 0, 0, 0, 0])).set 45 (.inl [x4, 0, 0, 0, 0, 0, 0, 0, 0, 0, 0, 0, 0])).set 46 (.inl [x5, 0, 0, 0, 0, 0, 0, 0, 0, 0, 0, 0, 0])).set 47 (.inl [x6, 0, 0, 0, 0, 0, 0, 0, 0, 0, 0, 0, 0])).set 48 (.inl [x7, 0, 0, 0, 0, 0, 0, 0, 0, 0, 0, 0, 0])).set 49 (.inl [(-1), 0, 0, 0, 0, 0, 0, 0, 0, 0, 0, 0, 0])).set 41 (.inr (.inr (9, [.int 4, .int 1, .ref 42, .ref 43, .ref 44, .ref 45, .ref 46, .ref 47, .ref 48, .ref 49, .ref 50, .ref 51, .int 0, .int 0, .int 0, .int 0, .int 0, .int 0, .int 0, .int 0, .ref 52, .int 0, .ref 53, .int 0, .ref 54, .int 0, .ref 55, .ref 56, .ref 57, .ref 58, .int 0, .ref 59, .ref 60])))).set 51 (.inl ((List.replicate 8 (0 : Int32)).set (Int32.toNatClampNeg x3) 4))) 43 = some (.inl [x2, 0, 0, 0, 0, 0, 0, 0, 0, 0, 0, 0, 0]) := ((at_ne (by decide)).trans ((at_ne (by decide)).trans ((at_ne (by decide)).trans ((at_ne (by decide)).trans ((at_ne (by decide)).trans ((at_ne (by decide)).trans ((at_ne (by decide)).trans ((at_ne (by decide)).trans (at_eq ((at_ne (by decide)).trans F43))))))))))
    refine rr rfl (s_iaload (j := 0) rfl f63 rfl) ?_
    refine rr rfl (s_ifF (ic_nne g1)) ?_
    refine rr rfl (s_aload_n rfl) ?_
    refine rr rfl (s_getf f62 rfl) ?_
    refine rr rfl (s_aload_n rfl) ?_
    refine rr rfl (s_getf f62 rfl) ?_
    refine rr rfl (s_iload_n rfl) ?_
    have f64 : a_at ((((((((((H.set 42 (.inl [x1, 0, 0, 0, 0, 0, 0, 0, 0, 0, 0, 0, 0])).set 43 (.inl [x2, 0, 0, 0, 0, 0, 0, 0, 0, 0, 0, 0, 0])).set 44 (.inl [x3, 0, 0, 0, 0, 0, 0, 0, 0, 0, 0, 0, 0])).set 45 (.inl [x4, 0, 0, 0, 0, 0, 0, 0, 0, 0, 0, 0, 0])).set 46 (.inl [x5, 0, 0, 0, 0, 0, 0, 0, 0, 0, 0, 0, 0])).set 47 (.inl [x6, 0, 0, 0, 0, 0, 0, 0, 0, 0, 0, 0, 0])).set 48 (.inl [x7, 0, 0, 0, 0, 0, 0, 0, 0, 0, 0, 0, 0])).set 49 (.inl [(-1), 0, 0, 0, 0, 0, 0, 0, 0, 0, 0, 0, 0])).set 41 (.inr (.inr (9, [.int 4, .int 1, .ref 42, .ref 43, .ref 44, .ref 45, .ref 46, .ref 47, .ref 48, .ref 49, .ref 50, .ref 51, .int 0, .int 0, .int 0, .int 0, .int 0, .int 0, .int 0, .int 0, .ref 52, .int 0, .ref 53, .int 0, .ref 54, .int 0, .ref 55, .ref 56, .ref 57, .ref 58, .int 0, .ref 59, .ref 60])))).set 51 (.inl ((List.replicate 8 (0 : Int32)).set (Int32.toNatClampNeg x3) 4))) 45 = some (.inl [x4, 0, 0, 0, 0, 0, 0, 0, 0, 0, 0, 0, 0]) := ((at_ne (by decide)).trans ((at_ne (by decide)).trans ((at_ne (by decide)).trans ((at_ne (by decide)).trans ((at_ne (by decide)).trans ((at_ne (by decide)).trans (at_eq ((at_ne (by decide)).trans ((at_ne (by decide)).trans ((at_ne (by decide)).trans F45))))))))))
    refine rr rfl (s_iaload (j := 0) rfl f64 rfl) ?_
    have f65 : a_at ((((((((((H.set 42 (.inl [x1, 0, 0, 0, 0, 0, 0, 0, 0, 0, 0, 0, 0])).set 43 (.inl [x2, 0, 0, 0, 0, 0, 0, 0, 0, 0, 0, 0, 0])).set 44 (.inl [x3, 0, 0, 0, 0, 0, 0, 0, 0, 0, 0, 0, 0])).set 45 (.inl [x4, 0, 0, 0, 0, 0, 0, 0, 0, 0, 0, 0, 0])).set 46 (.inl [x5, 0, 0, 0, 0, 0, 0, 0, 0, 0, 0, 0, 0])).set 47 (.inl [x6, 0, 0, 0, 0, 0, 0, 0, 0, 0, 0, 0, 0])).set 48 (.inl [x7, 0, 0, 0, 0, 0, 0, 0, 0, 0, 0, 0, 0])).set 49 (.inl [(-1), 0, 0, 0, 0, 0, 0, 0, 0, 0, 0, 0, 0])).set 41 (.inr (.inr (9, [.int 4, .int 1, .ref 42, .ref 43, .ref 44, .ref 45, .ref 46, .ref 47, .ref 48, .ref 49, .ref 50, .ref 51, .int 0, .int 0, .int 0, .int 0, .int 0, .int 0, .int 0, .int 0, .ref 52, .int 0, .ref 53, .int 0, .ref 54, .int 0, .ref 55, .ref 56, .ref 57, .ref 58, .int 0, .ref 59, .ref 60])))).set 51 (.inl ((List.replicate 8 (0 : Int32)).set (Int32.toNatClampNeg x3) 4))) 51 = some (.inl ((List.replicate 8 (0 : Int32)).set (Int32.toNatClampNeg x3) 4)) := (at_eq f19)
    refine rr rfl (s_ialdH f65 g10 g8 g9) ?_
    refine rr rfl (s_istore rfl) ?_
    refine rr rfl (s_aload_n rfl) ?_
    refine rr rfl (s_getf f62 rfl) ?_
    refine rr rfl (s_iload_n rfl) ?_
    have f66 : a_at ((((((((((H.set 42 (.inl [x1, 0, 0, 0, 0, 0, 0, 0, 0, 0, 0, 0, 0])).set 43 (.inl [x2, 0, 0, 0, 0, 0, 0, 0, 0, 0, 0, 0, 0])).set 44 (.inl [x3, 0, 0, 0, 0, 0, 0, 0, 0, 0, 0, 0, 0])).set 45 (.inl [x4, 0, 0, 0, 0, 0, 0, 0, 0, 0, 0, 0, 0])).set 46 (.inl [x5, 0, 0, 0, 0, 0, 0, 0, 0, 0, 0, 0, 0])).set 47 (.inl [x6, 0, 0, 0, 0, 0, 0, 0, 0, 0, 0, 0, 0])).set 48 (.inl [x7, 0, 0, 0, 0, 0, 0, 0, 0, 0, 0, 0, 0])).set 49 (.inl [(-1), 0, 0, 0, 0, 0, 0, 0, 0, 0, 0, 0, 0])).set 41 (.inr (.inr (9, [.int 4, .int 1, .ref 42, .ref 43, .ref 44, .ref 45, .ref 46, .ref 47, .ref 48, .ref 49, .ref 50, .ref 51, .int 0, .int 0, .int 0, .int 0, .int 0, .int 0, .int 0, .int 0, .ref 52, .int 0, .ref 53, .int 0, .ref 54, .int 0, .ref 55, .ref 56, .ref 57, .ref 58, .int 0, .ref 59, .ref 60])))).set 51 (.inl ((List.replicate 8 (0 : Int32)).set (Int32.toNatClampNeg x3) 4))) 46 = some (.inl [x5, 0, 0, 0, 0, 0, 0, 0, 0, 0, 0, 0, 0]) := ((at_ne (by decide)).trans ((at_ne (by decide)).trans ((at_ne (by decide)).trans ((at_ne (by decide)).trans ((at_ne (by decide)).trans (at_eq ((at_ne (by decide)).trans ((at_ne (by decide)).trans ((at_ne (by decide)).trans ((at_ne (by decide)).trans F46))))))))))
    refine rr rfl (s_iaload (j := 0) rfl f66 rfl) ?_
    refine rr rfl (s_iconst (v := (-1)) (by decide)) ?_
    refine rr rfl (s_icT (ic_eq g4)) ?_
    refine rr rfl (s_iload rfl) ?_
    refine rr rfl (s_istore rfl) ?_
    refine rr rfl (s_aload_n rfl) ?_
    refine rr rfl (s_getf f62 rfl) ?_
    refine rr rfl (s_iload_n rfl) ?_
    have f67 : a_at ((((((((((H.set 42 (.inl [x1, 0, 0, 0, 0, 0, 0, 0, 0, 0, 0, 0, 0])).set 43 (.inl [x2, 0, 0, 0, 0, 0, 0, 0, 0, 0, 0, 0, 0])).set 44 (.inl [x3, 0, 0, 0, 0, 0, 0, 0, 0, 0, 0, 0, 0])).set 45 (.inl [x4, 0, 0, 0, 0, 0, 0, 0, 0, 0, 0, 0, 0])).set 46 (.inl [x5, 0, 0, 0, 0, 0, 0, 0, 0, 0, 0, 0, 0])).set 47 (.inl [x6, 0, 0, 0, 0, 0, 0, 0, 0, 0, 0, 0, 0])).set 48 (.inl [x7, 0, 0, 0, 0, 0, 0, 0, 0, 0, 0, 0, 0])).set 49 (.inl [(-1), 0, 0, 0, 0, 0, 0, 0, 0, 0, 0, 0, 0])).set 41 (.inr (.inr (9, [.int 4, .int 1, .ref 42, .ref 43, .ref 44, .ref 45, .ref 46, .ref 47, .ref 48, .ref 49, .ref 50, .ref 51, .int 0, .int 0, .int 0, .int 0, .int 0, .int 0, .int 0, .int 0, .ref 52, .int 0, .ref 53, .int 0, .ref 54, .int 0, .ref 55, .ref 56, .ref 57, .ref 58, .int 0, .ref 59, .ref 60])))).set 51 (.inl ((List.replicate 8 (0 : Int32)).set (Int32.toNatClampNeg x3) 4))) 47 = some (.inl [x6, 0, 0, 0, 0, 0, 0, 0, 0, 0, 0, 0, 0]) := ((at_ne (by decide)).trans ((at_ne (by decide)).trans ((at_ne (by decide)).trans ((at_ne (by decide)).trans (at_eq ((at_ne (by decide)).trans ((at_ne (by decide)).trans ((at_ne (by decide)).trans ((at_ne (by decide)).trans ((at_ne (by decide)).trans F47))))))))))
    refine rr rfl (s_iaload (j := 0) rfl f67 rfl) ?_
    refine rr rfl (s_iconst (v := (-1)) (by decide)) ?_
    refine rr rfl (s_icF (ic_neq g5)) ?_
    refine rr rfl (s_aload_n rfl) ?_
    refine rr rfl (s_getf f62 rfl) ?_
    refine rr rfl (s_aload_n rfl) ?_
    refine rr rfl (s_getf f62 rfl) ?_
    refine rr rfl (s_iload_n rfl) ?_
    refine rr rfl (s_iaload (j := 0) rfl f67 rfl) ?_
    refine rr rfl (s_ialdH f65 g11 g8 g9) ?_
    refine rr rfl (s_iconst (v := 1) (by decide)) ?_
    refine rr rfl (s_iadd (v := 5) (by decide)) ?_
    refine rr rfl (s_iload rfl) ?_
    refine rr rfl (s_icF (by decide)) ?_
    refine rr rfl (s_aload_n rfl) ?_
    refine rr rfl (s_getf f62 rfl) ?_
    refine rr rfl (s_aload_n rfl) ?_
    refine rr rfl (s_getf f62 rfl) ?_
    refine rr rfl (s_iload_n rfl) ?_
    refine rr rfl (s_iaload (j := 0) rfl f67 rfl) ?_
    refine rr rfl (s_ialdH f65 g11 g8 g9) ?_
    refine rr rfl (s_iconst (v := 1) (by decide)) ?_
    refine rr rfl (s_iadd (v := 5) (by decide)) ?_
    refine rr rfl s_goto ?_
    refine rr rfl (s_istore rfl) ?_
    refine rr rfl (s_iload rfl) ?_
    refine rr rfl (s_aload_n rfl) ?_
    refine rr rfl (s_getf f62 rfl) ?_
    refine rr rfl (s_aload_n rfl) ?_
    refine rr rfl (s_getf f62 rfl) ?_
    refine rr rfl (s_iload_n rfl) ?_
    have f68 : a_at ((((((((((H.set 42 (.inl [x1, 0, 0, 0, 0, 0, 0, 0, 0, 0, 0, 0, 0])).set 43 (.inl [x2, 0, 0, 0, 0, 0, 0, 0, 0, 0, 0, 0, 0])).set 44 (.inl [x3, 0, 0, 0, 0, 0, 0, 0, 0, 0, 0, 0, 0])).set 45 (.inl [x4, 0, 0, 0, 0, 0, 0, 0, 0, 0, 0, 0, 0])).set 46 (.inl [x5, 0, 0, 0, 0, 0, 0, 0, 0, 0, 0, 0, 0])).set 47 (.inl [x6, 0, 0, 0, 0, 0, 0, 0, 0, 0, 0, 0, 0])).set 48 (.inl [x7, 0, 0, 0, 0, 0, 0, 0, 0, 0, 0, 0, 0])).set 49 (.inl [(-1), 0, 0, 0, 0, 0, 0, 0, 0, 0, 0, 0, 0])).set 41 (.inr (.inr (9, [.int 4, .int 1, .ref 42, .ref 43, .ref 44, .ref 45, .ref 46, .ref 47, .ref 48, .ref 49, .ref 50, .ref 51, .int 0, .int 0, .int 0, .int 0, .int 0, .int 0, .int 0, .int 0, .ref 52, .int 0, .ref 53, .int 0, .ref 54, .int 0, .ref 55, .ref 56, .ref 57, .ref 58, .int 0, .ref 59, .ref 60])))).set 51 (.inl ((List.replicate 8 (0 : Int32)).set (Int32.toNatClampNeg x3) 4))) 44 = some (.inl [x3, 0, 0, 0, 0, 0, 0, 0, 0, 0, 0, 0, 0]) := ((at_ne (by decide)).trans ((at_ne (by decide)).trans ((at_ne (by decide)).trans ((at_ne (by decide)).trans ((at_ne (by decide)).trans ((at_ne (by decide)).trans ((at_ne (by decide)).trans (at_eq ((at_ne (by decide)).trans ((at_ne (by decide)).trans F44))))))))))
    refine rr rfl (s_iaload (j := 0) rfl f68 rfl) ?_
    refine rr rfl (s_ialdH f65 rfl g8 g9) ?_
    refine rr rfl (s_icF (by decide)) ?_
    refine rr rfl (s_aload_n rfl) ?_
    refine rr rfl (s_getf f62 rfl) ?_
    refine rr rfl (s_aload_n rfl) ?_
    refine rr rfl (s_getf f62 rfl) ?_
    refine rr rfl (s_iload_n rfl) ?_
    refine rr rfl (s_iaload (j := 0) rfl f68 rfl) ?_
    refine rr rfl (s_iload rfl) ?_
    refine rr rfl (s_iastH (h' := ((((((((((H.set 42 (.inl [x1, 0, 0, 0, 0, 0, 0, 0, 0, 0, 0, 0, 0])).set 43 (.inl [x2, 0, 0, 0, 0, 0, 0, 0, 0, 0, 0, 0, 0])).set 44 (.inl [x3, 0, 0, 0, 0, 0, 0, 0, 0, 0, 0, 0, 0])).set 45 (.inl [x4, 0, 0, 0, 0, 0, 0, 0, 0, 0, 0, 0, 0])).set 46 (.inl [x5, 0, 0, 0, 0, 0, 0, 0, 0, 0, 0, 0, 0])).set 47 (.inl [x6, 0, 0, 0, 0, 0, 0, 0, 0, 0, 0, 0, 0])).set 48 (.inl [x7, 0, 0, 0, 0, 0, 0, 0, 0, 0, 0, 0, 0])).set 49 (.inl [(-1), 0, 0, 0, 0, 0, 0, 0, 0, 0, 0, 0, 0])).set 41 (.inr (.inr (9, [.int 4, .int 1, .ref 42, .ref 43, .ref 44, .ref 45, .ref 46, .ref 47, .ref 48, .ref 49, .ref 50, .ref 51, .int 0, .int 0, .int 0, .int 0, .int 0, .int 0, .int 0, .int 0, .ref 52, .int 0, .ref 53, .int 0, .ref 54, .int 0, .ref 55, .ref 56, .ref 57, .ref 58, .int 0, .ref 59, .ref 60])))).set 51 (.inl ((List.replicate 8 (0 : Int32)).set (Int32.toNatClampNeg x3) 5)))) (v := 5) f65 rfl g8 g9 (len_of f65) (List.set_set ..)) ?_
    refine rr rfl (s_iconst (v := 1) (by decide)) ?_
    refine rr rfl (s_istore_n rfl) ?_
    refine rr rfl (s_iload_n rfl) ?_
    refine rr rfl (s_ifF (by decide)) ?_
    refine rr rfl (s_iload rfl) ?_
    refine rr rfl (s_bipush (v := 8) (by decide)) ?_
    refine rr rfl (s_icF (by decide)) ?_
    refine rr rfl (s_iconst (v := 1) (by decide)) ?_
    refine rr rfl s_goto ?_
    refine rr rfl (s_istore_n rfl) ?_
    refine rr rfl (s_iinc (v := 1) rfl (by decide) rfl) ?_
    refine rr rfl s_goto ?_
    refine rr rfl (s_iload_n rfl) ?_
    refine rr rfl (s_aload_n rfl) ?_
    have f69 : a_at ((((((((((H.set 42 (.inl [x1, 0, 0, 0, 0, 0, 0, 0, 0, 0, 0, 0, 0])).set 43 (.inl [x2, 0, 0, 0, 0, 0, 0, 0, 0, 0, 0, 0, 0])).set 44 (.inl [x3, 0, 0, 0, 0, 0, 0, 0, 0, 0, 0, 0, 0])).set 45 (.inl [x4, 0, 0, 0, 0, 0, 0, 0, 0, 0, 0, 0, 0])).set 46 (.inl [x5, 0, 0, 0, 0, 0, 0, 0, 0, 0, 0, 0, 0])).set 47 (.inl [x6, 0, 0, 0, 0, 0, 0, 0, 0, 0, 0, 0, 0])).set 48 (.inl [x7, 0, 0, 0, 0, 0, 0, 0, 0, 0, 0, 0, 0])).set 49 (.inl [(-1), 0, 0, 0, 0, 0, 0, 0, 0, 0, 0, 0, 0])).set 41 (.inr (.inr (9, [.int 4, .int 1, .ref 42, .ref 43, .ref 44, .ref 45, .ref 46, .ref 47, .ref 48, .ref 49, .ref 50, .ref 51, .int 0, .int 0, .int 0, .int 0, .int 0, .int 0, .int 0, .int 0, .ref 52, .int 0, .ref 53, .int 0, .ref 54, .int 0, .ref 55, .ref 56, .ref 57, .ref 58, .int 0, .ref 59, .ref 60])))).set 51 (.inl ((List.replicate 8 (0 : Int32)).set (Int32.toNatClampNeg x3) 5))) 41 = some (.inr (.inr (9, [.int 4, .int 1, .ref 42, .ref 43, .ref 44, .ref 45, .ref 46, .ref 47, .ref 48, .ref 49, .ref 50, .ref 51, .int 0, .int 0, .int 0, .int 0, .int 0, .int 0, .int 0, .int 0, .ref 52, .int 0, .ref 53, .int 0, .ref 54, .int 0, .ref 55, .ref 56, .ref 57, .ref 58, .int 0, .ref 59, .ref 60]))) := ((at_ne (by decide)).trans f18)
    refine rr rfl (s_getf f69 rfl) ?_
    refine rr rfl (s_icT (by decide)) ?_
    refine rr rfl s_goto ?_
    refine rr rfl (s_iload_n rfl) ?_
    refine rr rfl (s_ifF (by decide)) ?_
    refine rr rfl (s_iload_n rfl) ?_
    refine rr rfl (s_ifF (by decide)) ?_
    refine rr rfl (s_iconst (v := 0) (by decide)) ?_
    refine rr rfl (s_istore_n rfl) ?_
    refine rr rfl (s_iconst (v := 0) (by decide)) ?_
    refine rr rfl (s_istore_n rfl) ?_
    refine rr rfl (s_iload_n rfl) ?_
    refine rr rfl (s_aload_n rfl) ?_
    refine rr rfl (s_getf f69 rfl) ?_
    refine rr rfl (s_icF (by decide)) ?_
    refine rr rfl (s_iconst (v := 0) (by decide)) ?_
    refine rr rfl (s_istore rfl) ?_
    refine rr rfl (s_aload_n rfl) ?_
    refine rr rfl (s_getf f69 rfl) ?_
    refine rr rfl (s_iload_n rfl) ?_
    have f70 : a_at ((((((((((H.set 42 (.inl [x1, 0, 0, 0, 0, 0, 0, 0, 0, 0, 0, 0, 0])).set 43 (.inl [x2, 0, 0, 0, 0, 0, 0, 0, 0, 0, 0, 0, 0])).set 44 (.inl [x3, 0, 0, 0, 0, 0, 0, 0, 0, 0, 0, 0, 0])).set 45 (.inl [x4, 0, 0, 0, 0, 0, 0, 0, 0, 0, 0, 0, 0])).set 46 (.inl [x5, 0, 0, 0, 0, 0, 0, 0, 0, 0, 0, 0, 0])).set 47 (.inl [x6, 0, 0, 0, 0, 0, 0, 0, 0, 0, 0, 0, 0])).set 48 (.inl [x7, 0, 0, 0, 0, 0, 0, 0, 0, 0, 0, 0, 0])).set 49 (.inl [(-1), 0, 0, 0, 0, 0, 0, 0, 0, 0, 0, 0, 0])).set 41 (.inr (.inr (9, [.int 4, .int 1, .ref 42, .ref 43, .ref 44, .ref 45, .ref 46, .ref 47, .ref 48, .ref 49, .ref 50, .ref 51, .int 0, .int 0, .int 0, .int 0, .int 0, .int 0, .int 0, .int 0, .ref 52, .int 0, .ref 53, .int 0, .ref 54, .int 0, .ref 55, .ref 56, .ref 57, .ref 58, .int 0, .ref 59, .ref 60])))).set 51 (.inl ((List.replicate 8 (0 : Int32)).set (Int32.toNatClampNeg x3) 5))) 43 = some (.inl [x2, 0, 0, 0, 0, 0, 0, 0, 0, 0, 0, 0, 0]) := ((at_ne (by decide)).trans ((at_ne (by decide)).trans ((at_ne (by decide)).trans ((at_ne (by decide)).trans ((at_ne (by decide)).trans ((at_ne (by decide)).trans ((at_ne (by decide)).trans ((at_ne (by decide)).trans (at_eq ((at_ne (by decide)).trans F43))))))))))
    refine rr rfl (s_iaload (j := 0) rfl f70 rfl) ?_
    refine rr rfl (s_ifF (ic_nne g1)) ?_
    refine rr rfl (s_aload_n rfl) ?_
    refine rr rfl (s_getf f69 rfl) ?_
    refine rr rfl (s_aload_n rfl) ?_
    refine rr rfl (s_getf f69 rfl) ?_
    refine rr rfl (s_iload_n rfl) ?_
    have f71 : a_at ((((((((((H.set 42 (.inl [x1, 0, 0, 0, 0, 0, 0, 0, 0, 0, 0, 0, 0])).set 43 (.inl [x2, 0, 0, 0, 0, 0, 0, 0, 0, 0, 0, 0, 0])).set 44 (.inl [x3, 0, 0, 0, 0, 0, 0, 0, 0, 0, 0, 0, 0])).set 45 (.inl [x4, 0, 0, 0, 0, 0, 0, 0, 0, 0, 0, 0, 0])).set 46 (.inl [x5, 0, 0, 0, 0, 0, 0, 0, 0, 0, 0, 0, 0])).set 47 (.inl [x6, 0, 0, 0, 0, 0, 0, 0, 0, 0, 0, 0, 0])).set 48 (.inl [x7, 0, 0, 0, 0, 0, 0, 0, 0, 0, 0, 0, 0])).set 49 (.inl [(-1), 0, 0, 0, 0, 0, 0, 0, 0, 0, 0, 0, 0])).set 41 (.inr (.inr (9, [.int 4, .int 1, .ref 42, .ref 43, .ref 44, .ref 45, .ref 46, .ref 47, .ref 48, .ref 49, .ref 50, .ref 51, .int 0, .int 0, .int 0, .int 0, .int 0, .int 0, .int 0, .int 0, .ref 52, .int 0, .ref 53, .int 0, .ref 54, .int 0, .ref 55, .ref 56, .ref 57, .ref 58, .int 0, .ref 59, .ref 60])))).set 51 (.inl ((List.replicate 8 (0 : Int32)).set (Int32.toNatClampNeg x3) 5))) 45 = some (.inl [x4, 0, 0, 0, 0, 0, 0, 0, 0, 0, 0, 0, 0]) := ((at_ne (by decide)).trans ((at_ne (by decide)).trans ((at_ne (by decide)).trans ((at_ne (by decide)).trans ((at_ne (by decide)).trans ((at_ne (by decide)).trans (at_eq ((at_ne (by decide)).trans ((at_ne (by decide)).trans ((at_ne (by decide)).trans F45))))))))))
    refine rr rfl (s_iaload (j := 0) rfl f71 rfl) ?_
    have f72 : a_at ((((((((((H.set 42 (.inl [x1, 0, 0, 0, 0, 0, 0, 0, 0, 0, 0, 0, 0])).set 43 (.inl [x2, 0, 0, 0, 0, 0, 0, 0, 0, 0, 0, 0, 0])).set 44 (.inl [x3, 0, 0, 0, 0, 0, 0, 0, 0, 0, 0, 0, 0])).set 45 (.inl [x4, 0, 0, 0, 0, 0, 0, 0, 0, 0, 0, 0, 0])).set 46 (.inl [x5, 0, 0, 0, 0, 0, 0, 0, 0, 0, 0, 0, 0])).set 47 (.inl [x6, 0, 0, 0, 0, 0, 0, 0, 0, 0, 0, 0, 0])).set 48 (.inl [x7, 0, 0, 0, 0, 0, 0, 0, 0, 0, 0, 0, 0])).set 49 (.inl [(-1), 0, 0, 0, 0, 0, 0, 0, 0, 0, 0, 0, 0])).set 41 (.inr (.inr (9, [.int 4, .int 1, .ref 42, .ref 43, .ref 44, .ref 45, .ref 46, .ref 47, .ref 48, .ref 49, .ref 50, .ref 51, .int 0, .int 0, .int 0, .int 0, .int 0, .int 0, .int 0, .int 0, .ref 52, .int 0, .ref 53, .int 0, .ref 54, .int 0, .ref 55, .ref 56, .ref 57, .ref 58, .int 0, .ref 59, .ref 60])))).set 51 (.inl ((List.replicate 8 (0 : Int32)).set (Int32.toNatClampNeg x3) 5))) 51 = some (.inl ((List.replicate 8 (0 : Int32)).set (Int32.toNatClampNeg x3) 5)) := (at_eq f19)
    refine rr rfl (s_ialdH f72 g10 g8 g9) ?_
    refine rr rfl (s_istore rfl) ?_
    refine rr rfl (s_aload_n rfl) ?_
    refine rr rfl (s_getf f69 rfl) ?_
    refine rr rfl (s_iload_n rfl) ?_
    have f73 : a_at ((((((((((H.set 42 (.inl [x1, 0, 0, 0, 0, 0, 0, 0, 0, 0, 0, 0, 0])).set 43 (.inl [x2, 0, 0, 0, 0, 0, 0, 0, 0, 0, 0, 0, 0])).set 44 (.inl [x3, 0, 0, 0, 0, 0, 0, 0, 0, 0, 0, 0, 0])).set 45 (.inl [x4, 0, 0, 0, 0, 0, 0, 0, 0, 0, 0, 0, 0])).set 46 (.inl [x5, 0, 0, 0, 0, 0, 0, 0, 0, 0, 0, 0, 0])).set 47 (.inl [x6, 0, 0, 0, 0, 0, 0, 0, 0, 0, 0, 0, 0])).set 48 (.inl [x7, 0, 0, 0, 0, 0, 0, 0, 0, 0, 0, 0, 0])).set 49 (.inl [(-1), 0, 0, 0, 0, 0, 0, 0, 0, 0, 0, 0, 0])).set 41 (.inr (.inr (9, [.int 4, .int 1, .ref 42, .ref 43, .ref 44, .ref 45, .ref 46, .ref 47, .ref 48, .ref 49, .ref 50, .ref 51, .int 0, .int 0, .int 0, .int 0, .int 0, .int 0, .int 0, .int 0, .ref 52, .int 0, .ref 53, .int 0, .ref 54, .int 0, .ref 55, .ref 56, .ref 57, .ref 58, .int 0, .ref 59, .ref 60])))).set 51 (.inl ((List.replicate 8 (0 : Int32)).set (Int32.toNatClampNeg x3) 5))) 46 = some (.inl [x5, 0, 0, 0, 0, 0, 0, 0, 0, 0, 0, 0, 0]) := ((at_ne (by decide)).trans ((at_ne (by decide)).trans ((at_ne (by decide)).trans ((at_ne (by decide)).trans ((at_ne (by decide)).trans (at_eq ((at_ne (by decide)).trans ((at_ne (by decide)).trans ((at_ne (by decide)).trans ((at_ne (by decide)).trans F46))))))))))
    refine rr rfl (s_iaload (j := 0) rfl f73 rfl) ?_
    refine rr rfl (s_iconst (v := (-1)) (by decide)) ?_
    refine rr rfl (s_icT (ic_eq g4)) ?_
    refine rr rfl (s_iload rfl) ?_
    refine rr rfl (s_istore rfl) ?_
    refine rr rfl (s_aload_n rfl) ?_
    refine rr rfl (s_getf f69 rfl) ?_
    refine rr rfl (s_iload_n rfl) ?_
    have f74 : a_at ((((((((((H.set 42 (.inl [x1, 0, 0, 0, 0, 0, 0, 0, 0, 0, 0, 0, 0])).set 43 (.inl [x2, 0, 0, 0, 0, 0, 0, 0, 0, 0, 0, 0, 0])).set 44 (.inl [x3, 0, 0, 0, 0, 0, 0, 0, 0, 0, 0, 0, 0])).set 45 (.inl [x4, 0, 0, 0, 0, 0, 0, 0, 0, 0, 0, 0, 0])).set 46 (.inl [x5, 0, 0, 0, 0, 0, 0, 0, 0, 0, 0, 0, 0])).set 47 (.inl [x6, 0, 0, 0, 0, 0, 0, 0, 0, 0, 0, 0, 0])).set 48 (.inl [x7, 0, 0, 0, 0, 0, 0, 0, 0, 0, 0, 0, 0])).set 49 (.inl [(-1), 0, 0, 0, 0, 0, 0, 0, 0, 0, 0, 0, 0])).set 41 (.inr (.inr (9, [.int 4, .int 1, .ref 42, .ref 43, .ref 44, .ref 45, .ref 46, .ref 47, .ref 48, .ref 49, .ref 50, .ref 51, .int 0, .int 0, .int 0, .int 0, .int 0, .int 0, .int 0, .int 0, .ref 52, .int 0, .ref 53, .int 0, .ref 54, .int 0, .ref 55, .ref 56, .ref 57, .ref 58, .int 0, .ref 59, .ref 60])))).set 51 (.inl ((List.replicate 8 (0 : Int32)).set (Int32.toNatClampNeg x3) 5))) 47 = some (.inl [x6, 0, 0, 0, 0, 0, 0, 0, 0, 0, 0, 0, 0]) := ((at_ne (by decide)).trans ((at_ne (by decide)).trans ((at_ne (by decide)).trans ((at_ne (by decide)).trans (at_eq ((at_ne (by decide)).trans ((at_ne (by decide)).trans ((at_ne (by decide)).trans ((at_ne (by decide)).trans ((at_ne (by decide)).trans F47))))))))))
    refine rr rfl (s_iaload (j := 0) rfl f74 rfl) ?_
    refine rr rfl (s_iconst (v := (-1)) (by decide)) ?_
    refine rr rfl (s_icF (ic_neq g5)) ?_
    refine rr rfl (s_aload_n rfl) ?_
    refine rr rfl (s_getf f69 rfl) ?_
    refine rr rfl (s_aload_n rfl) ?_
    refine rr rfl (s_getf f69 rfl) ?_
    refine rr rfl (s_iload_n rfl) ?_
    refine rr rfl (s_iaload (j := 0) rfl f74 rfl) ?_
    refine rr rfl (s_ialdH f72 g11 g8 g9) ?_
    refine rr rfl (s_iconst (v := 1) (by decide)) ?_
    refine rr rfl (s_iadd (v := 6) (by decide)) ?_
    refine rr rfl (s_iload rfl) ?_
    refine rr rfl (s_icF (by decide)) ?_
    refine rr rfl (s_aload_n rfl) ?_
    refine rr rfl (s_getf f69 rfl) ?_
    refine rr rfl (s_aload_n rfl) ?_
    refine rr rfl (s_getf f69 rfl) ?_
    refine rr rfl (s_iload_n rfl) ?_
    refine rr rfl (s_iaload (j := 0) rfl f74 rfl) ?_
    refine rr rfl (s_ialdH f72 g11 g8 g9) ?_
    refine rr rfl (s_iconst (v := 1) (by decide)) ?_
    refine rr rfl (s_iadd (v := 6) (by decide)) ?_
    refine rr rfl s_goto ?_
    refine rr rfl (s_istore rfl) ?_
    refine rr rfl (s_iload rfl) ?_
    refine rr rfl (s_aload_n rfl) ?_
    refine rr rfl (s_getf f69 rfl) ?_
    refine rr rfl (s_aload_n rfl) ?_
    refine rr rfl (s_getf f69 rfl) ?_
    refine rr rfl (s_iload_n rfl) ?_
    have f75 : a_at ((((((((((H.set 42 (.inl [x1, 0, 0, 0, 0, 0, 0, 0, 0, 0, 0, 0, 0])).set 43 (.inl [x2, 0, 0, 0, 0, 0, 0, 0, 0, 0, 0, 0, 0])).set 44 (.inl [x3, 0, 0, 0, 0, 0, 0, 0, 0, 0, 0, 0, 0])).set 45 (.inl [x4, 0, 0, 0, 0, 0, 0, 0, 0, 0, 0, 0, 0])).set 46 (.inl [x5, 0, 0, 0, 0, 0, 0, 0, 0, 0, 0, 0, 0])).set 47 (.inl [x6, 0, 0, 0, 0, 0, 0, 0, 0, 0, 0, 0, 0])).set 48 (.inl [x7, 0, 0, 0, 0, 0, 0, 0, 0, 0, 0, 0, 0])).set 49 (.inl [(-1), 0, 0, 0, 0, 0, 0, 0, 0, 0, 0, 0, 0])).set 41 (.inr (.inr (9, [.int 4, .int 1, .ref 42, .ref 43, .ref 44, .ref 45, .ref 46, .ref 47, .ref 48, .ref 49, .ref 50, .ref 51, .int 0, .int 0, .int 0, .int 0, .int 0, .int 0, .int 0, .int 0, .ref 52, .int 0, .ref 53, .int 0, .ref 54, .int 0, .ref 55, .ref 56, .ref 57, .ref 58, .int 0, .ref 59, .ref 60])))).set 51 (.inl ((List.replicate 8 (0 : Int32)).set (Int32.toNatClampNeg x3) 5))) 44 = some (.inl [x3, 0, 0, 0, 0, 0, 0, 0, 0, 0, 0, 0, 0]) := ((at_ne (by decide)).trans ((at_ne (by decide)).trans ((at_ne (by decide)).trans ((at_ne (by decide)).trans ((at_ne (by decide)).trans ((at_ne (by decide)).trans ((at_ne (by decide)).trans (at_eq ((at_ne (by decide)).trans ((at_ne (by decide)).trans F44))))))))))
    refine rr rfl (s_iaload (j := 0) rfl f75 rfl) ?_
    refine rr rfl (s_ialdH f72 rfl g8 g9) ?_
    refine rr rfl (s_icF (by decide)) ?_
    refine rr rfl (s_aload_n rfl) ?_
    refine rr rfl (s_getf f69 rfl) ?_
    refine rr rfl (s_aload_n rfl) ?_
    refine rr rfl (s_getf f69 rfl) ?_
    refine rr rfl (s_iload_n rfl) ?_
    refine rr rfl (s_iaload (j := 0) rfl f75 rfl) ?_
    refine rr rfl (s_iload rfl) ?_
    refine rr rfl (s_iastH (h' := ((((((((((H.set 42 (.inl [x1, 0, 0, 0, 0, 0, 0, 0, 0, 0, 0, 0, 0])).set 43 (.inl [x2, 0, 0, 0, 0, 0, 0, 0, 0, 0, 0, 0, 0])).set 44 (.inl [x3, 0, 0, 0, 0, 0, 0, 0, 0, 0, 0, 0, 0])).set 45 (.inl [x4, 0, 0, 0, 0, 0, 0, 0, 0, 0, 0, 0, 0])).set 46 (.inl [x5, 0, 0, 0, 0, 0, 0, 0, 0, 0, 0, 0, 0])).set 47 (.inl [x6, 0, 0, 0, 0, 0, 0, 0, 0, 0, 0, 0, 0])).set 48 (.inl [x7, 0, 0, 0, 0, 0, 0, 0, 0, 0, 0, 0, 0])).set 49 (.inl [(-1), 0, 0, 0, 0, 0, 0, 0, 0, 0, 0, 0, 0])).set 41 (.inr (.inr (9, [.int 4, .int 1, .ref 42, .ref 43, .ref 44, .ref 45, .ref 46, .ref 47, .ref 48, .ref 49, .ref 50, .ref 51, .int 0, .int 0, .int 0, .int 0, .int 0, .int 0, .int 0, .int 0, .ref 52, .int 0, .ref 53, .int 0, .ref 54, .int 0, .ref 55, .ref 56, .ref 57, .ref 58, .int 0, .ref 59, .ref 60])))).set 51 (.inl ((List.replicate 8 (0 : Int32)).set (Int32.toNatClampNeg x3) 6)))) (v := 6) f72 rfl g8 g9 (len_of f72) (List.set_set ..)) ?_
    refine rr rfl (s_iconst (v := 1) (by decide)) ?_
    refine rr rfl (s_istore_n rfl) ?_
    refine rr rfl (s_iload_n rfl) ?_
    refine rr rfl (s_ifF (by decide)) ?_
    refine rr rfl (s_iload rfl) ?_
    refine rr rfl (s_bipush (v := 8) (by decide)) ?_
    refine rr rfl (s_icF (by decide)) ?_
    refine rr rfl (s_iconst (v := 1) (by decide)) ?_
    refine rr rfl s_goto ?_
    refine rr rfl (s_istore_n rfl) ?_
    refine rr rfl (s_iinc (v := 1) rfl (by decide) rfl) ?_
    refine rr rfl s_goto ?_
    refine rr rfl (s_iload_n rfl) ?_
    refine rr rfl (s_aload_n rfl) ?_
    have f76 : a_at ((((((((((H.set 42 (.inl [x1, 0, 0, 0, 0, 0, 0, 0, 0, 0, 0, 0, 0])).set 43 (.inl [x2, 0, 0, 0, 0, 0, 0, 0, 0, 0, 0, 0, 0])).set 44 (.inl [x3, 0, 0, 0, 0, 0, 0, 0, 0, 0, 0, 0, 0])).set 45 (.inl [x4, 0, 0, 0, 0, 0, 0, 0, 0, 0, 0, 0, 0])).set 46 (.inl [x5, 0, 0, 0, 0, 0, 0, 0, 0, 0, 0, 0, 0])).set 47 (.inl [x6, 0, 0, 0, 0, 0, 0, 0, 0, 0, 0, 0, 0])).set 48 (.inl [x7, 0, 0, 0, 0, 0, 0, 0, 0, 0, 0, 0, 0])).set 49 (.inl [(-1), 0, 0, 0, 0, 0, 0, 0, 0, 0, 0, 0, 0])).set 41 (.inr (.inr (9, [.int 4, .int 1, .ref 42, .ref 43, .ref 44, .ref 45, .ref 46, .ref 47, .ref 48, .ref 49, .ref 50, .ref 51, .int 0, .int 0, .int 0, .int 0, .int 0, .int 0, .int 0, .int 0, .ref 52, .int 0, .ref 53, .int 0, .ref 54, .int 0, .ref 55, .ref 56, .ref 57, .ref 58, .int 0, .ref 59, .ref 60])))).set 51 (.inl ((List.replicate 8 (0 : Int32)).set (Int32.toNatClampNeg x3) 6))) 41 = some (.inr (.inr (9, [.int 4, .int 1, .ref 42, .ref 43, .ref 44, .ref 45, .ref 46, .ref 47, .ref 48, .ref 49, .ref 50, .ref 51, .int 0, .int 0, .int 0, .int 0, .int 0, .int 0, .int 0, .int 0, .ref 52, .int 0, .ref 53, .int 0, .ref 54, .int 0, .ref 55, .ref 56, .ref 57, .ref 58, .int 0, .ref 59, .ref 60]))) := ((at_ne (by decide)).trans f18)
    refine rr rfl (s_getf f76 rfl) ?_
    refine rr rfl (s_icT (by decide)) ?_
    refine rr rfl s_goto ?_
    refine rr rfl (s_iload_n rfl) ?_
    refine rr rfl (s_ifF (by decide)) ?_
    refine rr rfl (s_iload_n rfl) ?_
    refine rr rfl (s_ifF (by decide)) ?_
    refine rr rfl (s_iconst (v := 0) (by decide)) ?_
    refine rr rfl (s_istore_n rfl) ?_
    refine rr rfl (s_iconst (v := 0) (by decide)) ?_
    refine rr rfl (s_istore_n rfl) ?_
    refine rr rfl (s_iload_n rfl) ?_
    refine rr rfl (s_aload_n rfl) ?_
    refine rr rfl (s_getf f76 rfl) ?_
    refine rr rfl (s_icF (by decide)) ?_
    refine rr rfl (s_iconst (v := 0) (by decide)) ?_
    refine rr rfl (s_istore rfl) ?_
    refine rr rfl (s_aload_n rfl) ?_
    refine rr rfl (s_getf f76 rfl) ?_
    refine rr rfl (s_iload_n rfl) ?_
    have f77 : a_at ((((((((((H.set 42 (.inl [x1, 0, 0, 0, 0, 0, 0, 0, 0, 0, 0, 0, 0])).set 43 (.inl [x2, 0, 0, 0, 0, 0, 0, 0, 0, 0, 0, 0, 0])).set 44 (.inl [x3, 0, 0, 0, 0, 0, 0, 0, 0, 0, 0, 0, 0])).set 45 (.inl [x4, 0, 0, 0, 0, 0, 0, 0, 0, 0, 0, 0, 0])).set 46 (.inl [x5, 0, 0, 0, 0, 0, 0, 0, 0, 0, 0, 0, 0])).set 47 (.inl [x6, 0, 0, 0, 0, 0, 0, 0, 0, 0, 0, 0, 0])).set 48 (.inl [x7, 0, 0, 0, 0, 0, 0, 0, 0, 0, 0, 0, 0])).set 49 (.inl [(-1), 0, 0, 0, 0, 0, 0, 0, 0, 0, 0, 0, 0])).set 41 (.inr (.inr (9, [.int 4, .int 1, .ref 42, .ref 43, .ref 44, .ref 45, .ref 46, .ref 47, .ref 48, .ref 49, .ref 50, .ref 51, .int 0, .int 0, .int 0, .int 0, .int 0, .int 0, .int 0, .int 0, .ref 52, .int 0, .ref 53, .int 0, .ref 54, .int 0, .ref 55, .ref 56, .ref 57, .ref 58, .int 0, .ref 59, .ref 60])))).set 51 (.inl ((List.replicate 8 (0 : Int32)).set (Int32.toNatClampNeg x3) 6))) 43 = some (.inl [x2, 0, 0, 0, 0, 0, 0, 0, 0, 0, 0, 0, 0]) := ((at_ne (by decide)).trans ((at_ne (by decide)).trans ((at_ne (by decide)).trans ((at_ne (by decide)).trans ((at_ne (by decide)).trans ((at_ne (by decide)).trans ((at_ne (by decide)).trans ((at_ne (by decide)).trans (at_eq ((at_ne (by decide)).trans F43))))))))))
    refine rr rfl (s_iaload (j := 0) rfl f77 rfl) ?_
    refine rr rfl (s_ifF (ic_nne g1)) ?_
    refine rr rfl (s_aload_n rfl) ?_
    refine rr rfl (s_getf f76 rfl) ?_
    refine rr rfl (s_aload_n rfl) ?_
    refine rr rfl (s_getf f76 rfl) ?_
    refine rr rfl (s_iload_n rfl) ?_
    have f78 : a_at ((((((((((H.set 42 (.inl [x1, 0, 0, 0, 0, 0, 0, 0, 0, 0, 0, 0, 0])).set 43 (.inl [x2, 0, 0, 0, 0, 0, 0, 0, 0, 0, 0, 0, 0])).set 44 (.inl [x3, 0, 0, 0, 0, 0, 0, 0, 0, 0, 0, 0, 0])).set 45 (.inl [x4, 0, 0, 0, 0, 0, 0, 0, 0, 0, 0, 0, 0])).set 46 (.inl [x5, 0, 0, 0, 0, 0, 0, 0, 0, 0, 0, 0, 0])).set 47 (.inl [x6, 0, 0, 0, 0, 0, 0, 0, 0, 0, 0, 0, 0])).set 48 (.inl [x7, 0, 0, 0, 0, 0, 0, 0, 0, 0, 0, 0, 0])).set 49 (.inl [(-1), 0, 0, 0, 0, 0, 0, 0, 0, 0, 0, 0, 0])).set 41 (.inr (.inr (9, [.int 4, .int 1, .ref 42, .ref 43, .ref 44, .ref 45, .ref 46, .ref 47, .ref 48, .ref 49, .ref 50, .ref 51, .int 0, .int 0, .int 0, .int 0, .int 0, .int 0, .int 0, .int 0, .ref 52, .int 0, .ref 53, .int 0, .ref 54, .int 0, .ref 55, .ref 56, .ref 57, .ref 58, .int 0, .ref 59, .ref 60])))).set 51 (.inl ((List.replicate 8 (0 : Int32)).set (Int32.toNatClampNeg x3) 6))) 45 = some (.inl [x4, 0, 0, 0, 0, 0, 0, 0, 0, 0, 0, 0, 0]) := ((at_ne (by decide)).trans ((at_ne (by decide)).trans ((at_ne (by decide)).trans ((at_ne (by decide)).trans ((at_ne (by decide)).trans ((at_ne (by decide)).trans (at_eq ((at_ne (by decide)).trans ((at_ne (by decide)).trans ((at_ne (by decide)).trans F45))))))))))
    refine rr rfl (s_iaload (j := 0) rfl f78 rfl) ?_
    have f79 : a_at ((((((((((H.set 42 (.inl [x1, 0, 0, 0, 0, 0, 0, 0, 0, 0, 0, 0, 0])).set 43 (.inl [x2, 0, 0, 0, 0, 0, 0, 0, 0, 0, 0, 0, 0])).set 44 (.inl [x3, 0, 0, 0, 0, 0, 0, 0, 0, 0, 0, 0, 0])).set 45 (.inl [x4, 0, 0, 0, 0, 0, 0, 0, 0, 0, 0, 0, 0])).set 46 (.inl [x5, 0, 0, 0, 0, 0, 0, 0, 0, 0, 0, 0, 0])).set 47 (.inl [x6, 0, 0, 0, 0, 0, 0, 0, 0, 0, 0, 0, 0])).set 48 (.inl [x7, 0, 0, 0, 0, 0, 0, 0, 0, 0, 0, 0, 0])).set 49 (.inl [(-1), 0, 0, 0, 0, 0, 0, 0, 0, 0, 0, 0, 0])).set 41 (.inr (.inr (9, [.int 4, .int 1, .ref 42, .ref 43, .ref 44, .ref 45, .ref 46, .ref 47, .ref 48, .ref 49, .ref 50, .ref 51, .int 0, .int 0, .int 0, .int 0, .int 0, .int 0, .int 0, .int 0, .ref 52, .int 0, .ref 53, .int 0, .ref 54, .int 0, .ref 55, .ref 56, .ref 57, .ref 58, .int 0, .ref 59, .ref 60])))).set 51 (.inl ((List.replicate 8 (0 : Int32)).set (Int32.toNatClampNeg x3) 6))) 51 = some (.inl ((List.replicate 8 (0 : Int32)).set (Int32.toNatClampNeg x3) 6)) := (at_eq f19)
    refine rr rfl (s_ialdH f79 g10 g8 g9) ?_
    refine rr rfl (s_istore rfl) ?_
    refine rr rfl (s_aload_n rfl) ?_
    refine rr rfl (s_getf f76 rfl) ?_
    refine rr rfl (s_iload_n rfl) ?_
    have f80 : a_at ((((((((((H.set 42 (.inl [x1, 0, 0, 0, 0, 0, 0, 0, 0, 0, 0, 0, 0])).set 43 (.inl [x2, 0, 0, 0, 0, 0, 0, 0, 0, 0, 0, 0, 0])).set 44 (.inl [x3, 0, 0, 0, 0, 0, 0, 0, 0, 0, 0, 0, 0])).set 45 (.inl [x4, 0, 0, 0, 0, 0, 0, 0, 0, 0, 0, 0, 0])).set 46 (.inl [x5, 0, 0, 0, 0, 0, 0, 0, 0, 0, 0, 0, 0])).set 47 (.inl [x6, 0, 0, 0, 0, 0, 0, 0, 0, 0, 0, 0, 0])).set 48 (.inl [x7, 0, 0, 0, 0, 0, 0, 0, 0, 0, 0, 0, 0])).set 49 (.inl [(-1), 0, 0, 0, 0, 0, 0, 0, 0, 0, 0, 0, 0])).set 41 (.inr (.inr (9, [.int 4, .int 1, .ref 42, .ref 43, .ref 44, .ref 45, .ref 46, .ref 47, .ref 48, .ref 49, .ref 50, .ref 51, .int 0, .int 0, .int 0, .int 0, .int 0, .int 0, .int 0, .int 0, .ref 52, .int 0, .ref 53, .int 0, .ref 54, .int 0, .ref 55, .ref 56, .ref 57, .ref 58, .int 0, .ref 59, .ref 60])))).set 51 (.inl ((List.replicate 8 (0 : Int32)).set (Int32.toNatClampNeg x3) 6))) 46 = some (.inl [x5, 0, 0, 0, 0, 0, 0, 0, 0, 0, 0, 0, 0]) := ((at_ne (by decide)).trans ((at_ne (by decide)).trans ((at_ne (by decide)).trans ((at_ne (by decide)).trans ((at_ne (by decide)).trans (at_eq ((at_ne (by decide)).trans ((at_ne (by decide)).trans ((at_ne (by decide)).trans ((at_ne (by decide)).trans F46))))))))))
    refine rr rfl (s_iaload (j := 0) rfl f80 rfl) ?_
    refine rr rfl (s_iconst (v := (-1)) (by decide)) ?_
    refine rr rfl (s_icT (ic_eq g4)) ?_
    refine rr rfl (s_iload rfl) ?_
    refine rr rfl (s_istore rfl) ?_
    refine rr rfl (s_aload_n rfl) ?_
    refine rr rfl (s_getf f76 rfl) ?_
    refine rr rfl (s_iload_n rfl) ?_
    have f81 : a_at ((((((((((H.set 42 (.inl [x1, 0, 0, 0, 0, 0, 0, 0, 0, 0, 0, 0, 0])).set 43 (.inl [x2, 0, 0, 0, 0, 0, 0, 0, 0, 0, 0, 0, 0])).set 44 (.inl [x3, 0, 0, 0, 0, 0, 0, 0, 0, 0, 0, 0, 0])).set 45 (.inl [x4, 0, 0, 0, 0, 0, 0, 0, 0, 0, 0, 0, 0])).set 46 (.inl [x5, 0, 0, 0, 0, 0, 0, 0, 0, 0, 0, 0, 0])).set 47 (.inl [x6, 0, 0, 0, 0, 0, 0, 0, 0, 0, 0, 0, 0])).set 48 (.inl [x7, 0, 0, 0, 0, 0, 0, 0, 0, 0, 0, 0, 0])).set 49 (.inl [(-1), 0, 0, 0, 0, 0, 0, 0, 0, 0, 0, 0, 0])).set 41 (.inr (.inr (9, [.int 4, .int 1, .ref 42, .ref 43, .ref 44, .ref 45, .ref 46, .ref 47, .ref 48, .ref 49, .ref 50, .ref 51, .int 0, .int 0, .int 0, .int 0, .int 0, .int 0, .int 0, .int 0, .ref 52, .int 0, .ref 53, .int 0, .ref 54, .int 0, .ref 55, .ref 56, .ref 57, .ref 58, .int 0, .ref 59, .ref 60])))).set 51 (.inl ((List.replicate 8 (0 : Int32)).set (Int32.toNatClampNeg x3) 6))) 47 = some (.inl [x6, 0, 0, 0, 0, 0, 0, 0, 0, 0, 0, 0, 0]) := ((at_ne (by decide)).trans ((at_ne (by decide)).trans ((at_ne (by decide)).trans ((at_ne (by decide)).trans (at_eq ((at_ne (by decide)).trans ((at_ne (by decide)).trans ((at_ne (by decide)).trans ((at_ne (by decide)).trans ((at_ne (by decide)).trans F47))))))))))
    refine rr rfl (s_iaload (j := 0) rfl f81 rfl) ?_
    refine rr rfl (s_iconst (v := (-1)) (by decide)) ?_
    refine rr rfl (s_icF (ic_neq g5)) ?_
    refine rr rfl (s_aload_n rfl) ?_
    refine rr rfl (s_getf f76 rfl) ?_
    refine rr rfl (s_aload_n rfl) ?_
    refine rr rfl (s_getf f76 rfl) ?_
    refine rr rfl (s_iload_n rfl) ?_
    refine rr rfl (s_iaload (j := 0) rfl f81 rfl) ?_
    refine rr rfl (s_ialdH f79 g11 g8 g9) ?_
    refine rr rfl (s_iconst (v := 1) (by decide)) ?_
    refine rr rfl (s_iadd (v := 7) (by decide)) ?_
    refine rr rfl (s_iload rfl) ?_
    refine rr rfl (s_icF (by decide)) ?_
    refine rr rfl (s_aload_n rfl) ?_
    refine rr rfl (s_getf f76 rfl) ?_
    refine rr rfl (s_aload_n rfl) ?_
    refine rr rfl (s_getf f76 rfl) ?_
    refine rr rfl (s_iload_n rfl) ?_
    refine rr rfl (s_iaload (j := 0) rfl f81 rfl) ?_
    refine rr rfl (s_ialdH f79 g11 g8 g9) ?_
    refine rr rfl (s_iconst (v := 1) (by decide)) ?_
    refine rr rfl (s_iadd (v := 7) (by decide)) ?_
    refine rr rfl s_goto ?_
    refine rr rfl (s_istore rfl) ?_
    refine rr rfl (s_iload rfl) ?_
    refine rr rfl (s_aload_n rfl) ?_
    refine rr rfl (s_getf f76 rfl) ?_
    refine rr rfl (s_aload_n rfl) ?_
    refine rr rfl (s_getf f76 rfl) ?_
    refine rr rfl (s_iload_n rfl) ?_
    have f82 : a_at ((((((((((H.set 42 (.inl [x1, 0, 0, 0, 0, 0, 0, 0, 0, 0, 0, 0, 0])).set 43 (.inl [x2, 0, 0, 0, 0, 0, 0, 0, 0, 0, 0, 0, 0])).set 44 (.inl [x3, 0, 0, 0, 0, 0, 0, 0, 0, 0, 0, 0, 0])).set 45 (.inl [x4, 0, 0, 0, 0, 0, 0, 0, 0, 0, 0, 0, 0])).set 46 (.inl [x5, 0, 0, 0, 0, 0, 0, 0, 0, 0, 0, 0, 0])).set 47 (.inl [x6, 0, 0, 0, 0, 0, 0, 0, 0, 0, 0, 0, 0])).set 48 (.inl [x7, 0, 0, 0, 0, 0, 0, 0, 0, 0, 0, 0, 0])).set 49 (.inl [(-1), 0, 0, 0, 0, 0, 0, 0, 0, 0, 0, 0, 0])).set 41 (.inr (.inr (9, [.int 4, .int 1, .ref 42, .ref 43, .ref 44, .ref 45, .ref 46, .ref 47, .ref 48, .ref 49, .ref 50, .ref 51, .int 0, .int 0, .int 0, .int 0, .int 0, .int 0, .int 0, .int 0, .ref 52, .int 0, .ref 53, .int 0, .ref 54, .int 0, .ref 55, .ref 56, .ref 57, .ref 58, .int 0, .ref 59, .ref 60])))).set 51 (.inl ((List.replicate 8 (0 : Int32)).set (Int32.toNatClampNeg x3) 6))) 44 = some (.inl [x3, 0, 0, 0, 0, 0, 0, 0, 0, 0, 0, 0, 0]) := ((at_ne (by decide)).trans ((at_ne (by decide)).trans ((at_ne (by decide)).trans ((at_ne (by decide)).trans ((at_ne (by decide)).trans ((at_ne (by decide)).trans ((at_ne (by decide)).trans (at_eq ((at_ne (by decide)).trans ((at_ne (by decide)).trans F44))))))))))
    refine rr rfl (s_iaload (j := 0) rfl f82 rfl) ?_
    refine rr rfl (s_ialdH f79 rfl g8 g9) ?_
    refine rr rfl (s_icF (by decide)) ?_
    refine rr rfl (s_aload_n rfl) ?_
    refine rr rfl (s_getf f76 rfl) ?_
    refine rr rfl (s_aload_n rfl) ?_
    refine rr rfl (s_getf f76 rfl) ?_
    refine rr rfl (s_iload_n rfl) ?_
    refine rr rfl (s_iaload (j := 0) rfl f82 rfl) ?_
    refine rr rfl (s_iload rfl) ?_
    refine rr rfl (s_iastH (h' := ((((((((((H.set 42 (.inl [x1, 0, 0, 0, 0, 0, 0, 0, 0, 0, 0, 0, 0])).set 43 (.inl [x2, 0, 0, 0, 0, 0, 0, 0, 0, 0, 0, 0, 0])).set 44 (.inl [x3, 0, 0, 0, 0, 0, 0, 0, 0, 0, 0, 0, 0])).set 45 (.inl [x4, 0, 0, 0, 0, 0, 0, 0, 0, 0, 0, 0, 0])).set 46 (.inl [x5, 0, 0, 0, 0, 0, 0, 0, 0, 0, 0, 0, 0])).set 47 (.inl [x6, 0, 0, 0, 0, 0, 0, 0, 0, 0, 0, 0, 0])).set 48 (.inl [x7, 0, 0, 0, 0, 0, 0, 0, 0, 0, 0, 0, 0])).set 49 (.inl [(-1), 0, 0, 0, 0, 0, 0, 0, 0, 0, 0, 0, 0])).set 41 (.inr (.inr (9, [.int 4, .int 1, .ref 42, .ref 43, .ref 44, .ref 45, .ref 46, .ref 47, .ref 48, .ref 49, .ref 50, .ref 51, .int 0, .int 0, .int 0, .int 0, .int 0, .int 0, .int 0, .int 0, .ref 52, .int 0, .ref 53, .int 0, .ref 54, .int 0, .ref 55, .ref 56, .ref 57, .ref 58, .int 0, .ref 59, .ref 60])))).set 51 (.inl ((List.replicate 8 (0 : Int32)).set (Int32.toNatClampNeg x3) 7)))) (v := 7) f79 rfl g8 g9 (len_of f79) (List.set_set ..)) ?_
    refine rr rfl (s_iconst (v := 1) (by decide)) ?_
    refine rr rfl (s_istore_n rfl) ?_
    refine rr rfl (s_iload_n rfl) ?_
    refine rr rfl (s_ifF (by decide)) ?_
    refine rr rfl (s_iload rfl) ?_
    refine rr rfl (s_bipush (v := 8) (by decide)) ?_
    refine rr rfl (s_icF (by decide)) ?_
    refine rr rfl (s_iconst (v := 1) (by decide)) ?_
    refine rr rfl s_goto ?_
    refine rr rfl (s_istore_n rfl) ?_
    refine rr rfl (s_iinc (v := 1) rfl (by decide) rfl) ?_
    refine rr rfl s_goto ?_
    refine rr rfl (s_iload_n rfl) ?_
    refine rr rfl (s_aload_n rfl) ?_
    have f83 : a_at ((((((((((H.set 42 (.inl [x1, 0, 0, 0, 0, 0, 0, 0, 0, 0, 0, 0, 0])).set 43 (.inl [x2, 0, 0, 0, 0, 0, 0, 0, 0, 0, 0, 0, 0])).set 44 (.inl [x3, 0, 0, 0, 0, 0, 0, 0, 0, 0, 0, 0, 0])).set 45 (.inl [x4, 0, 0, 0, 0, 0, 0, 0, 0, 0, 0, 0, 0])).set 46 (.inl [x5, 0, 0, 0, 0, 0, 0, 0, 0, 0, 0, 0, 0])).set 47 (.inl [x6, 0, 0, 0, 0, 0, 0, 0, 0, 0, 0, 0, 0])).set 48 (.inl [x7, 0, 0, 0, 0, 0, 0, 0, 0, 0, 0, 0, 0])).set 49 (.inl [(-1), 0, 0, 0, 0, 0, 0, 0, 0, 0, 0, 0, 0])).set 41 (.inr (.inr (9, [.int 4, .int 1, .ref 42, .ref 43, .ref 44, .ref 45, .ref 46, .ref 47, .ref 48, .ref 49, .ref 50, .ref 51, .int 0, .int 0, .int 0, .int 0, .int 0, .int 0, .int 0, .int 0, .ref 52, .int 0, .ref 53, .int 0, .ref 54, .int 0, .ref 55, .ref 56, .ref 57, .ref 58, .int 0, .ref 59, .ref 60])))).set 51 (.inl ((List.replicate 8 (0 : Int32)).set (Int32.toNatClampNeg x3) 7))) 41 = some (.inr (.inr (9, [.int 4, .int 1, .ref 42, .ref 43, .ref 44, .ref 45, .ref 46, .ref 47, .ref 48, .ref 49, .ref 50, .ref 51, .int 0, .int 0, .int 0, .int 0, .int 0, .int 0, .int 0, .int 0, .ref 52, .int 0, .ref 53, .int 0, .ref 54, .int 0, .ref 55, .ref 56, .ref 57, .ref 58, .int 0, .ref 59, .ref 60]))) := ((at_ne (by decide)).trans f18)
    refine rr rfl (s_getf f83 rfl) ?_
    refine rr rfl (s_icT (by decide)) ?_
    refine rr rfl s_goto ?_
    refine rr rfl (s_iload_n rfl) ?_
    refine rr rfl (s_ifF (by decide)) ?_
    refine rr rfl (s_iload_n rfl) ?_
    refine rr rfl (s_ifF (by decide)) ?_
    refine rr rfl (s_iconst (v := 0) (by decide)) ?_
    refine rr rfl (s_istore_n rfl) ?_
    refine rr rfl (s_iconst (v := 0) (by decide)) ?_
    refine rr rfl (s_istore_n rfl) ?_
    refine rr rfl (s_iload_n rfl) ?_
    refine rr rfl (s_aload_n rfl) ?_
    refine rr rfl (s_getf f83 rfl) ?_
    refine rr rfl (s_icF (by decide)) ?_
    refine rr rfl (s_iconst (v := 0) (by decide)) ?_
    refine rr rfl (s_istore rfl) ?_
    refine rr rfl (s_aload_n rfl) ?_
    refine rr rfl (s_getf f83 rfl) ?_
    refine rr rfl (s_iload_n rfl) ?_
    have f84 : a_at ((((((((((H.set 42 (.inl [x1, 0, 0, 0, 0, 0, 0, 0, 0, 0, 0, 0, 0])).set 43 (.inl [x2, 0, 0, 0, 0, 0, 0, 0, 0, 0, 0, 0, 0])).set 44 (.inl [x3, 0, 0, 0, 0, 0, 0, 0, 0, 0, 0, 0, 0])).set 45 (.inl [x4, 0, 0, 0, 0, 0, 0, 0, 0, 0, 0, 0, 0])).set 46 (.inl [x5, 0, 0, 0, 0, 0, 0, 0, 0, 0, 0, 0, 0])).set 47 (.inl [x6, 0, 0, 0, 0, 0, 0, 0, 0, 0, 0, 0, 0])).set 48 (.inl [x7, 0, 0, 0, 0, 0, 0, 0, 0, 0, 0, 0, 0])).set 49 (.inl [(-1), 0, 0, 0, 0, 0, 0, 0, 0, 0, 0, 0, 0])).set 41 (.inr (.inr (9, [.int 4, .int 1, .ref 42, .ref 43, .ref 44, .ref 45, .ref 46, .ref 47, .ref 48, .ref 49, .ref 50, .ref 51, .int 0, .int 0, .int 0, .int 0, .int 0, .int 0, .int 0, .int 0, .ref 52, .int 0, .ref 53, .int 0, .ref 54, .int 0, .ref 55, .ref 56, .ref 57, .ref 58, .int 0, .ref 59, .ref 60])))).set 51 (.inl ((List.replicate 8 (0 : Int32)).set (Int32.toNatClampNeg x3) 7))) 43 = some (.inl [x2, 0, 0, 0, 0, 0, 0, 0, 0, 0, 0, 0, 0]) := ((at_ne (by decide)).trans ((at_ne (by decide)).trans ((at_ne (by decide)).trans ((at_ne (by decide)).trans ((at_ne (by decide)).trans ((at_ne (by decide)).trans ((at_ne (by decide)).trans ((at_ne (by decide)).trans (at_eq ((at_ne (by decide)).trans F43))))))))))
    refine rr rfl (s_iaload (j := 0) rfl f84 rfl) ?_
    refine rr rfl (s_ifF (ic_nne g1)) ?_
    refine rr rfl (s_aload_n rfl) ?_
    refine rr rfl (s_getf f83 rfl) ?_
    refine rr rfl (s_aload_n rfl) ?_
    refine rr rfl (s_getf f83 rfl) ?_
    refine rr rfl (s_iload_n rfl) ?_
    have f85 : a_at ((((((((((H.set 42 (.inl [x1, 0, 0, 0, 0, 0, 0, 0, 0, 0, 0, 0, 0])).set 43 (.inl [x2, 0, 0, 0, 0, 0, 0, 0, 0, 0, 0, 0, 0])).set 44 (.inl [x3, 0, 0, 0, 0, 0, 0, 0, 0, 0, 0, 0, 0])).set 45 (.inl [x4, 0, 0, 0, 0, 0, 0, 0, 0, 0, 0, 0, 0])).set 46 (.inl [x5, 0, 0, 0, 0, 0, 0, 0, 0, 0, 0, 0, 0])).set 47 (.inl [x6, 0, 0, 0, 0, 0, 0, 0, 0, 0, 0, 0, 0])).set 48 (.inl [x7, 0, 0, 0, 0, 0, 0, 0, 0, 0, 0, 0, 0])).set 49 (.inl [(-1), 0, 0, 0, 0, 0, 0, 0, 0, 0, 0, 0, 0])).set 41 (.inr (.inr (9, [.int 4, .int 1, .ref 42, .ref 43, .ref 44, .ref 45, .ref 46, .ref 47, .ref 48, .ref 49, .ref 50, .ref 51, .int 0, .int 0, .int 0, .int 0, .int 0, .int 0, .int 0, .int 0, .ref 52, .int 0, .ref 53, .int 0, .ref 54, .int 0, .ref 55, .ref 56, .ref 57, .ref 58, .int 0, .ref 59, .ref 60])))).set 51 (.inl ((List.replicate 8 (0 : Int32)).set (Int32.toNatClampNeg x3) 7))) 45 = some (.inl [x4, 0, 0, 0, 0, 0, 0, 0, 0, 0, 0, 0, 0]) := ((at_ne (by decide)).trans ((at_ne (by decide)).trans ((at_ne (by decide)).trans ((at_ne (by decide)).trans ((at_ne (by decide)).trans ((at_ne (by decide)).trans (at_eq ((at_ne (by decide)).trans ((at_ne (by decide)).trans ((at_ne (by decide)).trans F45))))))))))
    refine rr rfl (s_iaload (j := 0) rfl f85 rfl) ?_
    have f86 : a_at ((((((((((H.set 42 (.inl [x1, 0, 0, 0, 0, 0, 0, 0, 0, 0, 0, 0, 0])).set 43 (.inl [x2, 0, 0, 0, 0, 0, 0, 0, 0, 0, 0, 0, 0])).set 44 (.inl [x3, 0, 0, 0, 0, 0, 0, 0, 0, 0, 0, 0, 0])).set 45 (.inl [x4, 0, 0, 0, 0, 0, 0, 0, 0, 0, 0, 0, 0])).set 46 (.inl [x5, 0, 0, 0, 0, 0, 0, 0, 0, 0, 0, 0, 0])).set 47 (.inl [x6, 0, 0, 0, 0, 0, 0, 0, 0, 0, 0, 0, 0])).set 48 (.inl [x7, 0, 0, 0, 0, 0, 0, 0, 0, 0, 0, 0, 0])).set 49 (.inl [(-1), 0, 0, 0, 0, 0, 0, 0, 0, 0, 0, 0, 0])).set 41 (.inr (.inr (9, [.int 4, .int 1, .ref 42, .ref 43, .ref 44, .ref 45, .ref 46, .ref 47, .ref 48, .ref 49, .ref 50, .ref 51, .int 0, .int 0, .int 0, .int 0, .int 0, .int 0, .int 0, .int 0, .ref 52, .int 0, .ref 53, .int 0, .ref 54, .int 0, .ref 55, .ref 56, .ref 57, .ref 58, .int 0, .ref 59, .ref 60])))).set 51 (.inl ((List.replicate 8 (0 : Int32)).set (Int32.toNatClampNeg x3) 7))) 51 = some (.inl ((List.replicate 8 (0 : Int32)).set (Int32.toNatClampNeg x3) 7)) := (at_eq f19)
    refine rr rfl (s_ialdH f86 g10 g8 g9) ?_
    refine rr rfl (s_istore rfl) ?_
    refine rr rfl (s_aload_n rfl) ?_
    refine rr rfl (s_getf f83 rfl) ?_
    refine rr rfl (s_iload_n rfl) ?_
    have f87 : a_at ((((((((((H.set 42 (.inl [x1, 0, 0, 0, 0, 0, 0, 0, 0, 0, 0, 0, 0])).set 43 (.inl [x2, 0, 0, 0, 0, 0, 0, 0, 0, 0, 0, 0, 0])).set 44 (.inl [x3, 0, 0, 0, 0, 0, 0, 0, 0, 0, 0, 0, 0])).set 45 (.inl [x4, 0, 0, 0, 0, 0, 0, 0, 0, 0, 0, 0, 0])).set 46 (.inl [x5, 0, 0, 0, 0, 0, 0, 0, 0, 0, 0, 0, 0])).set 47 (.inl [x6, 0, 0, 0, 0, 0, 0, 0, 0, 0, 0, 0, 0])).set 48 (.inl [x7, 0, 0, 0, 0, 0, 0, 0, 0, 0, 0, 0, 0])).set 49 (.inl [(-1), 0, 0, 0, 0, 0, 0, 0, 0, 0, 0, 0, 0])).set 41 (.inr (.inr (9, [.int 4, .int 1, .ref 42, .ref 43, .ref 44, .ref 45, .ref 46, .ref 47, .ref 48, .ref 49, .ref 50, .ref 51, .int 0, .int 0, .int 0, .int 0, .int 0, .int 0, .int 0, .int 0, .ref 52, .int 0, .ref 53, .int 0, .ref 54, .int 0, .ref 55, .ref 56, .ref 57, .ref 58, .int 0, .ref 59, .ref 60])))).set 51 (.inl ((List.replicate 8 (0 : Int32)).set (Int32.toNatClampNeg x3) 7))) 46 = some (.inl [x5, 0, 0, 0, 0, 0, 0, 0, 0, 0, 0, 0, 0]) := ((at_ne (by decide)).trans ((at_ne (by decide)).trans ((at_ne (by decide)).trans ((at_ne (by decide)).trans ((at_ne (by decide)).trans (at_eq ((at_ne (by decide)).trans ((at_ne (by decide)).trans ((at_ne (by decide)).trans ((at_ne (by decide)).trans F46))))))))))
    refine rr rfl (s_iaload (j := 0) rfl f87 rfl) ?_
    refine rr rfl (s_iconst (v := (-1)) (by decide)) ?_
    refine rr rfl (s_icT (ic_eq g4)) ?_
    refine rr rfl (s_iload rfl) ?_
    refine rr rfl (s_istore rfl) ?_
    refine rr rfl (s_aload_n rfl) ?_
    refine rr rfl (s_getf f83 rfl) ?_
    refine rr rfl (s_iload_n rfl) ?_
    have f88 : a_at ((((((((((H.set 42 (.inl [x1, 0, 0, 0, 0, 0, 0, 0, 0, 0, 0, 0, 0])).set 43 (.inl [x2, 0, 0, 0, 0, 0, 0, 0, 0, 0, 0, 0, 0])).set 44 (.inl [x3, 0, 0, 0, 0, 0, 0, 0, 0, 0, 0, 0, 0])).set 45 (.inl [x4, 0, 0, 0, 0, 0, 0, 0, 0, 0, 0, 0, 0])).set 46 (.inl [x5, 0, 0, 0, 0, 0, 0, 0, 0, 0, 0, 0, 0])).set 47 (.inl [x6, 0, 0, 0, 0, 0, 0, 0, 0, 0, 0, 0, 0])).set 48 (.inl [x7, 0, 0, 0, 0, 0, 0, 0, 0, 0, 0, 0, 0])).set 49 (.inl [(-1), 0, 0, 0, 0, 0, 0, 0, 0, 0, 0, 0, 0])).set 41 (.inr (.inr (9, [.int 4, .int 1, .ref 42, .ref 43, .ref 44, .ref 45, .ref 46, .ref 47, .ref 48, .ref 49, .ref 50, .ref 51, .int 0, .int 0, .int 0, .int 0, .int 0, .int 0, .int 0, .int 0, .ref 52, .int 0, .ref 53, .int 0, .ref 54, .int 0, .ref 55, .ref 56, .ref 57, .ref 58, .int 0, .ref 59, .ref 60])))).set 51 (.inl ((List.replicate 8 (0 : Int32)).set (Int32.toNatClampNeg x3) 7))) 47 = some (.inl [x6, 0, 0, 0, 0, 0, 0, 0, 0, 0, 0, 0, 0]) := ((at_ne (by decide)).trans ((at_ne (by decide)).trans ((at_ne (by decide)).trans ((at_ne (by decide)).trans (at_eq ((at_ne (by decide)).trans ((at_ne (by decide)).trans ((at_ne (by decide)).trans ((at_ne (by decide)).trans ((at_ne (by decide)).trans F47))))))))))
    refine rr rfl (s_iaload (j := 0) rfl f88 rfl) ?_
    refine rr rfl (s_iconst (v := (-1)) (by decide)) ?_
    refine rr rfl (s_icF (ic_neq g5)) ?_
    refine rr rfl (s_aload_n rfl) ?_
    refine rr rfl (s_getf f83 rfl) ?_
    refine rr rfl (s_aload_n rfl) ?_
    refine rr rfl (s_getf f83 rfl) ?_
    refine rr rfl (s_iload_n rfl) ?_
    refine rr rfl (s_iaload (j := 0) rfl f88 rfl) ?_
    refine rr rfl (s_ialdH f86 g11 g8 g9) ?_
    refine rr rfl (s_iconst (v := 1) (by decide)) ?_
    refine rr rfl (s_iadd (v := 8) (by decide)) ?_
    refine rr rfl (s_iload rfl) ?_
    refine rr rfl (s_icF (by decide)) ?_
    refine rr rfl (s_aload_n rfl) ?_
    refine rr rfl (s_getf f83 rfl) ?_
    refine rr rfl (s_aload_n rfl) ?_
    refine rr rfl (s_getf f83 rfl) ?_
    refine rr rfl (s_iload_n rfl) ?_
    refine rr rfl (s_iaload (j := 0) rfl f88 rfl) ?_
    refine rr rfl (s_ialdH f86 g11 g8 g9) ?_
    refine rr rfl (s_iconst (v := 1) (by decide)) ?_
    refine rr rfl (s_iadd (v := 8) (by decide)) ?_
    refine rr rfl s_goto ?_
    refine rr rfl (s_istore rfl) ?_
    refine rr rfl (s_iload rfl) ?_
    refine rr rfl (s_aload_n rfl) ?_
    refine rr rfl (s_getf f83 rfl) ?_
    refine rr rfl (s_aload_n rfl) ?_
    refine rr rfl (s_getf f83 rfl) ?_
    refine rr rfl (s_iload_n rfl) ?_
    have f89 : a_at ((((((((((H.set 42 (.inl [x1, 0, 0, 0, 0, 0, 0, 0, 0, 0, 0, 0, 0])).set 43 (.inl [x2, 0, 0, 0, 0, 0, 0, 0, 0, 0, 0, 0, 0])).set 44 (.inl [x3, 0, 0, 0, 0, 0, 0, 0, 0, 0, 0, 0, 0])).set 45 (.inl [x4, 0, 0, 0, 0, 0, 0, 0, 0, 0, 0, 0, 0])).set 46 (.inl [x5, 0, 0, 0, 0, 0, 0, 0, 0, 0, 0, 0, 0])).set 47 (.inl [x6, 0, 0, 0, 0, 0, 0, 0, 0, 0, 0, 0, 0])).set 48 (.inl [x7, 0, 0, 0, 0, 0, 0, 0, 0, 0, 0, 0, 0])).set 49 (.inl [(-1), 0, 0, 0, 0, 0, 0, 0, 0, 0, 0, 0, 0])).set 41 (.inr (.inr (9, [.int 4, .int 1, .ref 42, .ref 43, .ref 44, .ref 45, .ref 46, .ref 47, .ref 48, .ref 49, .ref 50, .ref 51, .int 0, .int 0, .int 0, .int 0, .int 0, .int 0, .int 0, .int 0, .ref 52, .int 0, .ref 53, .int 0, .ref 54, .int 0, .ref 55, .ref 56, .ref 57, .ref 58, .int 0, .ref 59, .ref 60])))).set 51 (.inl ((List.replicate 8 (0 : Int32)).set (Int32.toNatClampNeg x3) 7))) 44 = some (.inl [x3, 0, 0, 0, 0, 0, 0, 0, 0, 0, 0, 0, 0]) := ((at_ne (by decide)).trans ((at_ne (by decide)).trans ((at_ne (by decide)).trans ((at_ne (by decide)).trans ((at_ne (by decide)).trans ((at_ne (by decide)).trans ((at_ne (by decide)).trans (at_eq ((at_ne (by decide)).trans ((at_ne (by decide)).trans F44))))))))))
    refine rr rfl (s_iaload (j := 0) rfl f89 rfl) ?_
    refine rr rfl (s_ialdH f86 rfl g8 g9) ?_
    refine rr rfl (s_icF (by decide)) ?_
    refine rr rfl (s_aload_n rfl) ?_
    refine rr rfl (s_getf f83 rfl) ?_
    refine rr rfl (s_aload_n rfl) ?_
    refine rr rfl (s_getf f83 rfl) ?_
    refine rr rfl (s_iload_n rfl) ?_
    refine rr rfl (s_iaload (j := 0) rfl f89 rfl) ?_
    refine rr rfl (s_iload rfl) ?_
    refine rr rfl (s_iastH (h' := ((((((((((H.set 42 (.inl [x1, 0, 0, 0, 0, 0, 0, 0, 0, 0, 0, 0, 0])).set 43 (.inl [x2, 0, 0, 0, 0, 0, 0, 0, 0, 0, 0, 0, 0])).set 44 (.inl [x3, 0, 0, 0, 0, 0, 0, 0, 0, 0, 0, 0, 0])).set 45 (.inl [x4, 0, 0, 0, 0, 0, 0, 0, 0, 0, 0, 0, 0])).set 46 (.inl [x5, 0, 0, 0, 0, 0, 0, 0, 0, 0, 0, 0, 0])).set 47 (.inl [x6, 0, 0, 0, 0, 0, 0, 0, 0, 0, 0, 0, 0])).set 48 (.inl [x7, 0, 0, 0, 0, 0, 0, 0, 0, 0, 0, 0, 0])).set 49 (.inl [(-1), 0, 0, 0, 0, 0, 0, 0, 0, 0, 0, 0, 0])).set 41 (.inr (.inr (9, [.int 4, .int 1, .ref 42, .ref 43, .ref 44, .ref 45, .ref 46, .ref 47, .ref 48, .ref 49, .ref 50, .ref 51, .int 0, .int 0, .int 0, .int 0, .int 0, .int 0, .int 0, .int 0, .ref 52, .int 0, .ref 53, .int 0, .ref 54, .int 0, .ref 55, .ref 56, .ref 57, .ref 58, .int 0, .ref 59, .ref 60])))).set 51 (.inl ((List.replicate 8 (0 : Int32)).set (Int32.toNatClampNeg x3) 8)))) (v := 8) f86 rfl g8 g9 (len_of f86) (List.set_set ..)) ?_
    refine rr rfl (s_iconst (v := 1) (by decide)) ?_
    refine rr rfl (s_istore_n rfl) ?_
    refine rr rfl (s_iload_n rfl) ?_
    refine rr rfl (s_ifF (by decide)) ?_
    refine rr rfl (s_iload rfl) ?_
    refine rr rfl (s_bipush (v := 8) (by decide)) ?_
    refine rr rfl (s_icT (by decide)) ?_
    refine rr rfl (s_iconst (v := 0) (by decide)) ?_
    refine rr rfl (s_istore_n rfl) ?_
    refine rr rfl (s_iinc (v := 1) rfl (by decide) rfl) ?_
    refine rr rfl s_goto ?_
    refine rr rfl (s_iload_n rfl) ?_
    refine rr rfl (s_aload_n rfl) ?_
    have f90 : a_at ((((((((((H.set 42 (.inl [x1, 0, 0, 0, 0, 0, 0, 0, 0, 0, 0, 0, 0])).set 43 (.inl [x2, 0, 0, 0, 0, 0, 0, 0, 0, 0, 0, 0, 0])).set 44 (.inl [x3, 0, 0, 0, 0, 0, 0, 0, 0, 0, 0, 0, 0])).set 45 (.inl [x4, 0, 0, 0, 0, 0, 0, 0, 0, 0, 0, 0, 0])).set 46 (.inl [x5, 0, 0, 0, 0, 0, 0, 0, 0, 0, 0, 0, 0])).set 47 (.inl [x6, 0, 0, 0, 0, 0, 0, 0, 0, 0, 0, 0, 0])).set 48 (.inl [x7, 0, 0, 0, 0, 0, 0, 0, 0, 0, 0, 0, 0])).set 49 (.inl [(-1), 0, 0, 0, 0, 0, 0, 0, 0, 0, 0, 0, 0])).set 41 (.inr (.inr (9, [.int 4, .int 1, .ref 42, .ref 43, .ref 44, .ref 45, .ref 46, .ref 47, .ref 48, .ref 49, .ref 50, .ref 51, .int 0, .int 0, .int 0, .int 0, .int 0, .int 0, .int 0, .int 0, .ref 52, .int 0, .ref 53, .int 0, .ref 54, .int 0, .ref 55, .ref 56, .ref 57, .ref 58, .int 0, .ref 59, .ref 60])))).set 51 (.inl ((List.replicate 8 (0 : Int32)).set (Int32.toNatClampNeg x3) 8))) 41 = some (.inr (.inr (9, [.int 4, .int 1, .ref 42, .ref 43, .ref 44, .ref 45, .ref 46, .ref 47, .ref 48, .ref 49, .ref 50, .ref 51, .int 0, .int 0, .int 0, .int 0, .int 0, .int 0, .int 0, .int 0, .ref 52, .int 0, .ref 53, .int 0, .ref 54, .int 0, .ref 55, .ref 56, .ref 57, .ref 58, .int 0, .ref 59, .ref 60]))) := ((at_ne (by decide)).trans f18)
    refine rr rfl (s_getf f90 rfl) ?_
    refine rr rfl (s_icT (by decide)) ?_
    refine rr rfl s_goto ?_
    refine rr rfl (s_iload_n rfl) ?_
    refine rr rfl (s_ifF (by decide)) ?_
    refine rr rfl (s_iload_n rfl) ?_
    refine rr rfl (s_ifT (by decide)) ?_
    refine rr rfl (s_iload_n rfl) ?_
    exact rrt rfl rfl rfl rfl
  refine rrc rfl rfl rfl (do_of g_X9_lays rfl (rok9 f18 rfl rfl) e2) ?_
  refine rr rfl (s_istore rfl) ?_
  refine rr rfl (s_iload rfl) ?_
  refine rr rfl (s_ifT (by decide)) ?_
  refine rr rfl (s_aload_n rfl) ?_
  refine rr rfl s_dup ?_
  have f91 : a_at ((((((((((H.set 42 (.inl [x1, 0, 0, 0, 0, 0, 0, 0, 0, 0, 0, 0, 0])).set 43 (.inl [x2, 0, 0, 0, 0, 0, 0, 0, 0, 0, 0, 0, 0])).set 44 (.inl [x3, 0, 0, 0, 0, 0, 0, 0, 0, 0, 0, 0, 0])).set 45 (.inl [x4, 0, 0, 0, 0, 0, 0, 0, 0, 0, 0, 0, 0])).set 46 (.inl [x5, 0, 0, 0, 0, 0, 0, 0, 0, 0, 0, 0, 0])).set 47 (.inl [x6, 0, 0, 0, 0, 0, 0, 0, 0, 0, 0, 0, 0])).set 48 (.inl [x7, 0, 0, 0, 0, 0, 0, 0, 0, 0, 0, 0, 0])).set 49 (.inl [(-1), 0, 0, 0, 0, 0, 0, 0, 0, 0, 0, 0, 0])).set 41 (.inr (.inr (9, [.int 4, .int 1, .ref 42, .ref 43, .ref 44, .ref 45, .ref 46, .ref 47, .ref 48, .ref 49, .ref 50, .ref 51, .int 0, .int 0, .int 0, .int 0, .int 0, .int 0, .int 0, .int 0, .ref 52, .int 0, .ref 53, .int 0, .ref 54, .int 0, .ref 55, .ref 56, .ref 57, .ref 58, .int 0, .ref 59, .ref 60])))).set 51 (.inl ((List.replicate 8 (0 : Int32)).set (Int32.toNatClampNeg x3) 8))) 41 = some (.inr (.inr (9, [.int 4, .int 1, .ref 42, .ref 43, .ref 44, .ref 45, .ref 46, .ref 47, .ref 48, .ref 49, .ref 50, .ref 51, .int 0, .int 0, .int 0, .int 0, .int 0, .int 0, .int 0, .int 0, .ref 52, .int 0, .ref 53, .int 0, .ref 54, .int 0, .ref 55, .ref 56, .ref 57, .ref 58, .int 0, .ref 59, .ref 60]))) := ((at_ne (by decide)).trans f18)
  refine rr rfl (s_getf f91 rfl) ?_
  refine rr rfl (s_iconst (v := 1) (by decide)) ?_
  refine rr rfl (s_isub (v := 0) (by decide)) ?_
  refine rr rfl (s_putf (h' := (((((((((((H.set 42 (.inl [x1, 0, 0, 0, 0, 0, 0, 0, 0, 0, 0, 0, 0])).set 43 (.inl [x2, 0, 0, 0, 0, 0, 0, 0, 0, 0, 0, 0, 0])).set 44 (.inl [x3, 0, 0, 0, 0, 0, 0, 0, 0, 0, 0, 0, 0])).set 45 (.inl [x4, 0, 0, 0, 0, 0, 0, 0, 0, 0, 0, 0, 0])).set 46 (.inl [x5, 0, 0, 0, 0, 0, 0, 0, 0, 0, 0, 0, 0])).set 47 (.inl [x6, 0, 0, 0, 0, 0, 0, 0, 0, 0, 0, 0, 0])).set 48 (.inl [x7, 0, 0, 0, 0, 0, 0, 0, 0, 0, 0, 0, 0])).set 49 (.inl [(-1), 0, 0, 0, 0, 0, 0, 0, 0, 0, 0, 0, 0])).set 41 (.inr (.inr (9, [.int 4, .int 1, .ref 42, .ref 43, .ref 44, .ref 45, .ref 46, .ref 47, .ref 48, .ref 49, .ref 50, .ref 51, .int 0, .int 0, .int 0, .int 0, .int 0, .int 0, .int 0, .int 0, .ref 52, .int 0, .ref 53, .int 0, .ref 54, .int 0, .ref 55, .ref 56, .ref 57, .ref 58, .int 0, .ref 59, .ref 60])))).set 51 (.inl ((List.replicate 8 (0 : Int32)).set (Int32.toNatClampNeg x3) 8))).set 41 (.inr (.inr (9, [.int 4, .int 0, .ref 42, .ref 43, .ref 44, .ref 45, .ref 46, .ref 47, .ref 48, .ref 49, .ref 50, .ref 51, .int 0, .int 0, .int 0, .int 0, .int 0, .int 0, .int 0, .int 0, .ref 52, .int 0, .ref 53, .int 0, .ref 54, .int 0, .ref 55, .ref 56, .ref 57, .ref 58, .int 0, .ref 59, .ref 60]))))) f91 rfl (Nat.le_of_ble_eq_true rfl) rfl (len_of f91) rfl) ?_
  refine rr rfl (s_aload_n rfl) ?_
  have f92 : a_at (((((((((((H.set 42 (.inl [x1, 0, 0, 0, 0, 0, 0, 0, 0, 0, 0, 0, 0])).set 43 (.inl [x2, 0, 0, 0, 0, 0, 0, 0, 0, 0, 0, 0, 0])).set 44 (.inl [x3, 0, 0, 0, 0, 0, 0, 0, 0, 0, 0, 0, 0])).set 45 (.inl [x4, 0, 0, 0, 0, 0, 0, 0, 0, 0, 0, 0, 0])).set 46 (.inl [x5, 0, 0, 0, 0, 0, 0, 0, 0, 0, 0, 0, 0])).set 47 (.inl [x6, 0, 0, 0, 0, 0, 0, 0, 0, 0, 0, 0, 0])).set 48 (.inl [x7, 0, 0, 0, 0, 0, 0, 0, 0, 0, 0, 0, 0])).set 49 (.inl [(-1), 0, 0, 0, 0, 0, 0, 0, 0, 0, 0, 0, 0])).set 41 (.inr (.inr (9, [.int 4, .int 1, .ref 42, .ref 43, .ref 44, .ref 45, .ref 46, .ref 47, .ref 48, .ref 49, .ref 50, .ref 51, .int 0, .int 0, .int 0, .int 0, .int 0, .int 0, .int 0, .int 0, .ref 52, .int 0, .ref 53, .int 0, .ref 54, .int 0, .ref 55, .ref 56, .ref 57, .ref 58, .int 0, .ref 59, .ref 60])))).set 51 (.inl ((List.replicate 8 (0 : Int32)).set (Int32.toNatClampNeg x3) 8))).set 41 (.inr (.inr (9, [.int 4, .int 0, .ref 42, .ref 43, .ref 44, .ref 45, .ref 46, .ref 47, .ref 48, .ref 49, .ref 50, .ref 51, .int 0, .int 0, .int 0, .int 0, .int 0, .int 0, .int 0, .int 0, .ref 52, .int 0, .ref 53, .int 0, .ref 54, .int 0, .ref 55, .ref 56, .ref 57, .ref 58, .int 0, .ref 59, .ref 60])))) 41 = some (.inr (.inr (9, [.int 4, .int 0, .ref 42, .ref 43, .ref 44, .ref 45, .ref 46, .ref 47, .ref 48, .ref 49, .ref 50, .ref 51, .int 0, .int 0, .int 0, .int 0, .int 0, .int 0, .int 0, .int 0, .ref 52, .int 0, .ref 53, .int 0, .ref 54, .int 0, .ref 55, .ref 56, .ref 57, .ref 58, .int 0, .ref 59, .ref 60]))) := (at_eq f91)
  have e3 : a_m MT [] 100000 10 miX9_lays [.ref 41] (((((((((((H.set 42 (.inl [x1, 0, 0, 0, 0, 0, 0, 0, 0, 0, 0, 0, 0])).set 43 (.inl [x2, 0, 0, 0, 0, 0, 0, 0, 0, 0, 0, 0, 0])).set 44 (.inl [x3, 0, 0, 0, 0, 0, 0, 0, 0, 0, 0, 0, 0])).set 45 (.inl [x4, 0, 0, 0, 0, 0, 0, 0, 0, 0, 0, 0, 0])).set 46 (.inl [x5, 0, 0, 0, 0, 0, 0, 0, 0, 0, 0, 0, 0])).set 47 (.inl [x6, 0, 0, 0, 0, 0, 0, 0, 0, 0, 0, 0, 0])).set 48 (.inl [x7, 0, 0, 0, 0, 0, 0, 0, 0, 0, 0, 0, 0])).set 49 (.inl [(-1), 0, 0, 0, 0, 0, 0, 0, 0, 0, 0, 0, 0])).set 41 (.inr (.inr (9, [.int 4, .int 1, .ref 42, .ref 43, .ref 44, .ref 45, .ref 46, .ref 47, .ref 48, .ref 49, .ref 50, .ref 51, .int 0, .int 0, .int 0, .int 0, .int 0, .int 0, .int 0, .int 0, .ref 52, .int 0, .ref 53, .int 0, .ref 54, .int 0, .ref 55, .ref 56, .ref 57, .ref 58, .int 0, .ref 59, .ref 60])))).set 51 (.inl ((List.replicate 8 (0 : Int32)).set (Int32.toNatClampNeg x3) 8))).set 41 (.inr (.inr (9, [.int 4, .int 0, .ref 42, .ref 43, .ref 44, .ref 45, .ref 46, .ref 47, .ref 48, .ref 49, .ref 50, .ref 51, .int 0, .int 0, .int 0, .int 0, .int 0, .int 0, .int 0, .int 0, .ref 52, .int 0, .ref 53, .int 0, .ref 54, .int 0, .ref 55, .ref 56, .ref 57, .ref 58, .int 0, .ref 59, .ref 60])))) = some (some (.int 1), ((((((((((((H.set 42 (.inl [x1, 0, 0, 0, 0, 0, 0, 0, 0, 0, 0, 0, 0])).set 43 (.inl [x2, 0, 0, 0, 0, 0, 0, 0, 0, 0, 0, 0, 0])).set 44 (.inl [x3, 0, 0, 0, 0, 0, 0, 0, 0, 0, 0, 0, 0])).set 45 (.inl [x4, 0, 0, 0, 0, 0, 0, 0, 0, 0, 0, 0, 0])).set 46 (.inl [x5, 0, 0, 0, 0, 0, 0, 0, 0, 0, 0, 0, 0])).set 47 (.inl [x6, 0, 0, 0, 0, 0, 0, 0, 0, 0, 0, 0, 0])).set 48 (.inl [x7, 0, 0, 0, 0, 0, 0, 0, 0, 0, 0, 0, 0])).set 49 (.inl [(-1), 0, 0, 0, 0, 0, 0, 0, 0, 0, 0, 0, 0])).set 41 (.inr (.inr (9, [.int 4, .int 1, .ref 42, .ref 43, .ref 44, .ref 45, .ref 46, .ref 47, .ref 48, .ref 49, .ref 50, .ref 51, .int 0, .int 0, .int 0, .int 0, .int 0, .int 0, .int 0, .int 0, .ref 52, .int 0, .ref 53, .int 0, .ref 54, .int 0, .ref 55, .ref 56, .ref 57, .ref 58, .int 0, .ref 59, .ref 60])))).set 51 (.inl ((List.replicate 8 (0 : Int32)).set (Int32.toNatClampNeg x3) 8))).set 41 (.inr (.inr (9, [.int 4, .int 0, .ref 42, .ref 43, .ref 44, .ref 45, .ref 46, .ref 47, .ref 48, .ref 49, .ref 50, .ref 51, .int 0, .int 0, .int 0, .int 0, .int 0, .int 0, .int 0, .int 0, .ref 52, .int 0, .ref 53, .int 0, .ref 54, .int 0, .ref 55, .ref 56, .ref 57, .ref 58, .int 0, .ref 59, .ref 60])))).set 51 (.inl (List.replicate 8 0))), 0, 0) := by
    have f93 : a_at (((((((((((H.set 42 (.inl [x1, 0, 0, 0, 0, 0, 0, 0, 0, 0, 0, 0, 0])).set 43 (.inl [x2, 0, 0, 0, 0, 0, 0, 0, 0, 0, 0, 0, 0])).set 44 (.inl [x3, 0, 0, 0, 0, 0, 0, 0, 0, 0, 0, 0, 0])).set 45 (.inl [x4, 0, 0, 0, 0, 0, 0, 0, 0, 0, 0, 0, 0])).set 46 (.inl [x5, 0, 0, 0, 0, 0, 0, 0, 0, 0, 0, 0, 0])).set 47 (.inl [x6, 0, 0, 0, 0, 0, 0, 0, 0, 0, 0, 0, 0])).set 48 (.inl [x7, 0, 0, 0, 0, 0, 0, 0, 0, 0, 0, 0, 0])).set 49 (.inl [(-1), 0, 0, 0, 0, 0, 0, 0, 0, 0, 0, 0, 0])).set 41 (.inr (.inr (9, [.int 4, .int 1, .ref 42, .ref 43, .ref 44, .ref 45, .ref 46, .ref 47, .ref 48, .ref 49, .ref 50, .ref 51, .int 0, .int 0, .int 0, .int 0, .int 0, .int 0, .int 0, .int 0, .ref 52, .int 0, .ref 53, .int 0, .ref 54, .int 0, .ref 55, .ref 56, .ref 57, .ref 58, .int 0, .ref 59, .ref 60])))).set 51 (.inl ((List.replicate 8 (0 : Int32)).set (Int32.toNatClampNeg x3) 8))).set 41 (.inr (.inr (9, [.int 4, .int 0, .ref 42, .ref 43, .ref 44, .ref 45, .ref 46, .ref 47, .ref 48, .ref 49, .ref 50, .ref 51, .int 0, .int 0, .int 0, .int 0, .int 0, .int 0, .int 0, .int 0, .ref 52, .int 0, .ref 53, .int 0, .ref 54, .int 0, .ref 55, .ref 56, .ref 57, .ref 58, .int 0, .ref 59, .ref 60])))) 51 = some (.inl ((List.replicate 8 (0 : Int32)).set (Int32.toNatClampNeg x3) 8)) := ((at_ne (by decide)).trans (at_eq ((at_ne (by decide)).trans ((at_ne (by decide)).trans ((at_ne (by decide)).trans ((at_ne (by decide)).trans ((at_ne (by decide)).trans ((at_ne (by decide)).trans ((at_ne (by decide)).trans ((at_ne (by decide)).trans ((at_ne (by decide)).trans F51)))))))))))
    exact lays0 f92 rfl rfl f93 (by simp) rfl
  refine rrc rfl rfl rfl (do_of g_X9_lays rfl (rok9 f92 rfl rfl) e3) ?_
  refine rr rfl (s_istore rfl) ?_
  refine rr rfl (s_iload rfl) ?_
  refine rr rfl (s_ifT (by decide)) ?_
  refine rr rfl (s_bipush (v := (-3)) (by decide)) ?_
  exact rrt rfl rfl rfl rfl
set_option maxHeartbeats 4000000 in
set_option maxRecDepth 10000 in
theorem rm_Nohh {x1 x2 x3 x4 x5 x6 x7 : Int32} {H : AH} (F41 : a_at H 41 = some (.inr (.inr (9, [.int 4, .int 0, .ref 42, .ref 43, .ref 44, .ref 45, .ref 46, .ref 47, .ref 48, .ref 49, .ref 50, .ref 51, .int 0, .int 0, .int 0, .int 0, .int 0, .int 0, .int 0, .int 0, .ref 52, .int 0, .ref 53, .int 0, .ref 54, .int 0, .ref 55, .ref 56, .ref 57, .ref 58, .int 0, .ref 59, .ref 60])))) (F42 : a_at H 42 = some (.inl (List.replicate 13 0))) (F43 : a_at H 43 = some (.inl (List.replicate 13 0))) (F44 : a_at H 44 = some (.inl (List.replicate 13 0))) (F45 : a_at H 45 = some (.inl (List.replicate 13 0))) (F46 : a_at H 46 = some (.inl (List.replicate 13 0))) (F47 : a_at H 47 = some (.inl (List.replicate 13 0))) (F48 : a_at H 48 = some (.inl (List.replicate 13 0))) (F49 : a_at H 49 = some (.inl (List.replicate 13 0))) (F51 : a_at H 51 = some (.inl (List.replicate 8 0))) (g1 : x2 = 0) (g2 : ¬ x4 < 0) (g3 : x4 < nI 8) (g4 : ¬ x5 = (-1)) (g5 : ¬ x5 < 0) (g6 : x5 < nI 8) (g7 : ¬ x6 = (-1)) (g8 : ¬ x6 < 0) (g9 : x6 < nI 8) (g10 : ¬ x3 < 0) (g11 : x3 < nI 8) (g12 : x4 = x3) (g13 : ¬ x5 = x3) (g14 : x6 = x3) : a_run MT [] (a_m MT [] 100000 10) 11 (some .int) tabX9_rule 90000 95 (alQ x1 x2 x3 x4 x5 x6 x7) [] H 0 0 = some (some (.int (-3)), ((((((((((((H.set 42 (.inl [x1, 0, 0, 0, 0, 0, 0, 0, 0, 0, 0, 0, 0])).set 43 (.inl [x2, 0, 0, 0, 0, 0, 0, 0, 0, 0, 0, 0, 0])).set 44 (.inl [x3, 0, 0, 0, 0, 0, 0, 0, 0, 0, 0, 0, 0])).set 45 (.inl [x4, 0, 0, 0, 0, 0, 0, 0, 0, 0, 0, 0, 0])).set 46 (.inl [x5, 0, 0, 0, 0, 0, 0, 0, 0, 0, 0, 0, 0])).set 47 (.inl [x6, 0, 0, 0, 0, 0, 0, 0, 0, 0, 0, 0, 0])).set 48 (.inl [x7, 0, 0, 0, 0, 0, 0, 0, 0, 0, 0, 0, 0])).set 49 (.inl [(-1), 0, 0, 0, 0, 0, 0, 0, 0, 0, 0, 0, 0])).set 41 (.inr (.inr (9, [.int 4, .int 1, .ref 42, .ref 43, .ref 44, .ref 45, .ref 46, .ref 47, .ref 48, .ref 49, .ref 50, .ref 51, .int 0, .int 0, .int 0, .int 0, .int 0, .int 0, .int 0, .int 0, .ref 52, .int 0, .ref 53, .int 0, .ref 54, .int 0, .ref 55, .ref 56, .ref 57, .ref 58, .int 0, .ref 59, .ref 60])))).set 51 (.inl ((List.replicate 8 (0 : Int32)).set (Int32.toNatClampNeg x3) 8))).set 41 (.inr (.inr (9, [.int 4, .int 0, .ref 42, .ref 43, .ref 44, .ref 45, .ref 46, .ref 47, .ref 48, .ref 49, .ref 50, .ref 51, .int 0, .int 0, .int 0, .int 0, .int 0, .int 0, .int 0, .int 0, .ref 52, .int 0, .ref 53, .int 0, .ref 54, .int 0, .ref 55, .ref 56, .ref 57, .ref 58, .int 0, .ref 59, .ref 60])))).set 51 (.inl (List.replicate 8 0))), 0, 0) := by
  refine rr rfl (s_aload_n rfl) ?_
  refine rr rfl (s_aload_n rfl) ?_
  have f1 : a_at H 41 = some (.inr (.inr (9, [.int 4, .int 0, .ref 42, .ref 43, .ref 44, .ref 45, .ref 46, .ref 47, .ref 48, .ref 49, .ref 50, .ref 51, .int 0, .int 0, .int 0, .int 0, .int 0, .int 0, .int 0, .int 0, .ref 52, .int 0, .ref 53, .int 0, .ref 54, .int 0, .ref 55, .ref 56, .ref 57, .ref 58, .int 0, .ref 59, .ref 60]))) := F41
  refine rr rfl (s_getf f1 rfl) ?_
  refine rr rfl (s_iload_n rfl) ?_
  refine rr rfl (s_iload_n rfl) ?_
  refine rr rfl (s_iload_n rfl) ?_
  refine rr rfl (s_iload rfl) ?_
  refine rr rfl (s_iload rfl) ?_
  refine rr rfl (s_iload rfl) ?_
  refine rr rfl (s_iload rfl) ?_
  have e1 : a_m MT [] 100000 10 miX9_sets [.ref 41, .int 0, .int x1, .int x2, .int x3, .int x4, .int x5, .int x6, .int x7] H = some (none, ((((((((H.set 42 (.inl [x1, 0, 0, 0, 0, 0, 0, 0, 0, 0, 0, 0, 0])).set 43 (.inl [x2, 0, 0, 0, 0, 0, 0, 0, 0, 0, 0, 0, 0])).set 44 (.inl [x3, 0, 0, 0, 0, 0, 0, 0, 0, 0, 0, 0, 0])).set 45 (.inl [x4, 0, 0, 0, 0, 0, 0, 0, 0, 0, 0, 0, 0])).set 46 (.inl [x5, 0, 0, 0, 0, 0, 0, 0, 0, 0, 0, 0, 0])).set 47 (.inl [x6, 0, 0, 0, 0, 0, 0, 0, 0, 0, 0, 0, 0])).set 48 (.inl [x7, 0, 0, 0, 0, 0, 0, 0, 0, 0, 0, 0, 0])).set 49 (.inl [(-1), 0, 0, 0, 0, 0, 0, 0, 0, 0, 0, 0, 0])), 0, 0) := by
    refine me (d := 9) g_X9_sets (Nat.le_of_ble_eq_true rfl) ?_
    refine rr rfl (s_aload_n rfl) ?_
    refine rr rfl (s_getf f1 rfl) ?_
    refine rr rfl (s_iload_n rfl) ?_
    refine rr rfl (s_iload_n rfl) ?_
    have f2 : a_at H 42 = some (.inl (List.replicate 13 0)) := F42
    refine rr rfl (s_iastore (h' := (H.set 42 (.inl [x1, 0, 0, 0, 0, 0, 0, 0, 0, 0, 0, 0, 0]))) (j := 0) (f' := [x1, 0, 0, 0, 0, 0, 0, 0, 0, 0, 0, 0, 0]) rfl f2 (Nat.le_of_ble_eq_true rfl) rfl (len_of f2) rfl) ?_
    refine rr rfl (s_aload_n rfl) ?_
    have f3 : a_at (H.set 42 (.inl [x1, 0, 0, 0, 0, 0, 0, 0, 0, 0, 0, 0, 0])) 41 = some (.inr (.inr (9, [.int 4, .int 0, .ref 42, .ref 43, .ref 44, .ref 45, .ref 46, .ref 47, .ref 48, .ref 49, .ref 50, .ref 51, .int 0, .int 0, .int 0, .int 0, .int 0, .int 0, .int 0, .int 0, .ref 52, .int 0, .ref 53, .int 0, .ref 54, .int 0, .ref 55, .ref 56, .ref 57, .ref 58, .int 0, .ref 59, .ref 60]))) := ((at_ne (by decide)).trans f1)
    refine rr rfl (s_getf f3 rfl) ?_
    refine rr rfl (s_iload_n rfl) ?_
    refine rr rfl (s_iload_n rfl) ?_
    have f4 : a_at (H.set 42 (.inl [x1, 0, 0, 0, 0, 0, 0, 0, 0, 0, 0, 0, 0])) 43 = some (.inl (List.replicate 13 0)) := ((at_ne (by decide)).trans F43)
    refine rr rfl (s_iastore (h' := ((H.set 42 (.inl [x1, 0, 0, 0, 0, 0, 0, 0, 0, 0, 0, 0, 0])).set 43 (.inl [x2, 0, 0, 0, 0, 0, 0, 0, 0, 0, 0, 0, 0]))) (j := 0) (f' := [x2, 0, 0, 0, 0, 0, 0, 0, 0, 0, 0, 0, 0]) rfl f4 (Nat.le_of_ble_eq_true rfl) rfl (len_of f4) rfl) ?_
    refine rr rfl (s_aload_n rfl) ?_
    have f5 : a_at ((H.set 42 (.inl [x1, 0, 0, 0, 0, 0, 0, 0, 0, 0, 0, 0, 0])).set 43 (.inl [x2, 0, 0, 0, 0, 0, 0, 0, 0, 0, 0, 0, 0])) 41 = some (.inr (.inr (9, [.int 4, .int 0, .ref 42, .ref 43, .ref 44, .ref 45, .ref 46, .ref 47, .ref 48, .ref 49, .ref 50, .ref 51, .int 0, .int 0, .int 0, .int 0, .int 0, .int 0, .int 0, .int 0, .ref 52, .int 0, .ref 53, .int 0, .ref 54, .int 0, .ref 55, .ref 56, .ref 57, .ref 58, .int 0, .ref 59, .ref 60]))) := ((at_ne (by decide)).trans f3)
    refine rr rfl (s_getf f5 rfl) ?_
    refine rr rfl (s_iload_n rfl) ?_
    refine rr rfl (s_iload rfl) ?_
    have f6 : a_at ((H.set 42 (.inl [x1, 0, 0, 0, 0, 0, 0, 0, 0, 0, 0, 0, 0])).set 43 (.inl [x2, 0, 0, 0, 0, 0, 0, 0, 0, 0, 0, 0, 0])) 44 = some (.inl (List.replicate 13 0)) := ((at_ne (by decide)).trans ((at_ne (by decide)).trans F44))
    refine rr rfl (s_iastore (h' := (((H.set 42 (.inl [x1, 0, 0, 0, 0, 0, 0, 0, 0, 0, 0, 0, 0])).set 43 (.inl [x2, 0, 0, 0, 0, 0, 0, 0, 0, 0, 0, 0, 0])).set 44 (.inl [x3, 0, 0, 0, 0, 0, 0, 0, 0, 0, 0, 0, 0]))) (j := 0) (f' := [x3, 0, 0, 0, 0, 0, 0, 0, 0, 0, 0, 0, 0]) rfl f6 (Nat.le_of_ble_eq_true rfl) rfl (len_of f6) rfl) ?_
    refine rr rfl (s_aload_n rfl) ?_
    have f7 : a_at (((H.set 42 (.inl [x1, 0, 0, 0, 0, 0, 0, 0, 0, 0, 0, 0, 0])).set 43 (.inl [x2, 0, 0, 0, 0, 0, 0, 0, 0, 0, 0, 0, 0])).set 44 (.inl [x3, 0, 0, 0, 0, 0, 0, 0, 0, 0, 0, 0, 0])) 41 = some (.inr (.inr (9, [.int 4, .int 0, .ref 42, .ref 43, .ref 44, .ref 45, .ref 46, .ref 47, .ref 48, .ref 49, .ref 50, .ref 51, .int 0, .int 0, .int 0, .int 0, .int 0, .int 0, .int 0, .int 0, .ref 52, .int 0, .ref 53, .int 0, .ref 54, .int 0, .ref 55, .ref 56, .ref 57, .ref 58, .int 0, .ref 59, .ref 60]))) := ((at_ne (by decide)).trans f5)
    refine rr rfl (s_getf f7 rfl) ?_
    refine rr rfl (s_iload_n rfl) ?_
    refine rr rfl (s_iload rfl) ?_
    have f8 : a_at (((H.set 42 (.inl [x1, 0, 0, 0, 0, 0, 0, 0, 0, 0, 0, 0, 0])).set 43 (.inl [x2, 0, 0, 0, 0, 0, 0, 0, 0, 0, 0, 0, 0])).set 44 (.inl [x3, 0, 0, 0, 0, 0, 0, 0, 0, 0, 0, 0, 0])) 45 = some (.inl (List.replicate 13 0)) := ((at_ne (by decide)).trans ((at_ne (by decide)).trans ((at_ne (by decide)).trans F45)))
    refine rr rfl (s_iastore (h' := ((((H.set 42 (.inl [x1, 0, 0, 0, 0, 0, 0, 0, 0, 0, 0, 0, 0])).set 43 (.inl [x2, 0, 0, 0, 0, 0, 0, 0, 0, 0, 0, 0, 0])).set 44 (.inl [x3, 0, 0, 0, 0, 0, 0, 0, 0, 0, 0, 0, 0])).set 45 (.inl [x4, 0, 0, 0, 0, 0, 0, 0, 0, 0, 0, 0, 0]))) (j := 0) (f' := [x4, 0, 0, 0, 0, 0, 0, 0, 0, 0, 0, 0, 0]) rfl f8 (Nat.le_of_ble_eq_true rfl) rfl (len_of f8) rfl) ?_
    refine rr rfl (s_aload_n rfl) ?_
    have f9 : a_at ((((H.set 42 (.inl [x1, 0, 0, 0, 0, 0, 0, 0, 0, 0, 0, 0, 0])).set 43 (.inl [x2, 0, 0, 0, 0, 0, 0, 0, 0, 0, 0, 0, 0])).set 44 (.inl [x3, 0, 0, 0, 0, 0, 0, 0, 0, 0, 0, 0, 0])).set 45 (.inl [x4, 0, 0, 0, 0, 0, 0, 0, 0, 0, 0, 0, 0])) 41 = some (.inr (.inr (9, [.int 4, .int 0, .ref 42, .ref 43, .ref 44, .ref 45, .ref 46, .ref 47, .ref 48, .ref 49, .ref 50, .ref 51, .int 0, .int 0, .int 0, .int 0, .int 0, .int 0, .int 0, .int 0, .ref 52, .int 0, .ref 53, .int 0, .ref 54, .int 0, .ref 55, .ref 56, .ref 57, .ref 58, .int 0, .ref 59, .ref 60]))) := ((at_ne (by decide)).trans f7)
    refine rr rfl (s_getf f9 rfl) ?_
    refine rr rfl (s_iload_n rfl) ?_
    refine rr rfl (s_iload rfl) ?_
    have f10 : a_at ((((H.set 42 (.inl [x1, 0, 0, 0, 0, 0, 0, 0, 0, 0, 0, 0, 0])).set 43 (.inl [x2, 0, 0, 0, 0, 0, 0, 0, 0, 0, 0, 0, 0])).set 44 (.inl [x3, 0, 0, 0, 0, 0, 0, 0, 0, 0, 0, 0, 0])).set 45 (.inl [x4, 0, 0, 0, 0, 0, 0, 0, 0, 0, 0, 0, 0])) 46 = some (.inl (List.replicate 13 0)) := ((at_ne (by decide)).trans ((at_ne (by decide)).trans ((at_ne (by decide)).trans ((at_ne (by decide)).trans F46))))
    refine rr rfl (s_iastore (h' := (((((H.set 42 (.inl [x1, 0, 0, 0, 0, 0, 0, 0, 0, 0, 0, 0, 0])).set 43 (.inl [x2, 0, 0, 0, 0, 0, 0, 0, 0, 0, 0, 0, 0])).set 44 (.inl [x3, 0, 0, 0, 0, 0, 0, 0, 0, 0, 0, 0, 0])).set 45 (.inl [x4, 0, 0, 0, 0, 0, 0, 0, 0, 0, 0, 0, 0])).set 46 (.inl [x5, 0, 0, 0, 0, 0, 0, 0, 0, 0, 0, 0, 0]))) (j := 0) (f' := [x5, 0, 0, 0, 0, 0, 0, 0, 0, 0, 0, 0, 0]) rfl f10 (Nat.le_of_ble_eq_true rfl) rfl (len_of f10) rfl) ?_
    refine rr rfl (s_aload_n rfl) ?_
    have f11 : a_at (((((H.set 42 (.inl [x1, 0, 0, 0, 0, 0, 0, 0, 0, 0, 0, 0, 0])).set 43 (.inl [x2, 0, 0, 0, 0, 0, 0, 0, 0, 0, 0, 0, 0])).set 44 (.inl [x3, 0, 0, 0, 0, 0, 0, 0, 0, 0, 0, 0, 0])).set 45 (.inl [x4, 0, 0, 0, 0, 0, 0, 0, 0, 0, 0, 0, 0])).set 46 (.inl [x5, 0, 0, 0, 0, 0, 0, 0, 0, 0, 0, 0, 0])) 41 = some (.inr (.inr (9, [.int 4, .int 0, .ref 42, .ref 43, .ref 44, .ref 45, .ref 46, .ref 47, .ref 48, .ref 49, .ref 50, .ref 51, .int 0, .int 0, .int 0, .int 0, .int 0, .int 0, .int 0, .int 0, .ref 52, .int 0, .ref 53, .int 0, .ref 54, .int 0, .ref 55, .ref 56, .ref 57, .ref 58, .int 0, .ref 59, .ref 60]))) := ((at_ne (by decide)).trans f9)
    refine rr rfl (s_getf f11 rfl) ?_
    refine rr rfl (s_iload_n rfl) ?_
    refine rr rfl (s_iload rfl) ?_
    have f12 : a_at (((((H.set 42 (.inl [x1, 0, 0, 0, 0, 0, 0, 0, 0, 0, 0, 0, 0])).set 43 (.inl [x2, 0, 0, 0, 0, 0, 0, 0, 0, 0, 0, 0, 0])).set 44 (.inl [x3, 0, 0, 0, 0, 0, 0, 0, 0, 0, 0, 0, 0])).set 45 (.inl [x4, 0, 0, 0, 0, 0, 0, 0, 0, 0, 0, 0, 0])).set 46 (.inl [x5, 0, 0, 0, 0, 0, 0, 0, 0, 0, 0, 0, 0])) 47 = some (.inl (List.replicate 13 0)) := ((at_ne (by decide)).trans ((at_ne (by decide)).trans ((at_ne (by decide)).trans ((at_ne (by decide)).trans ((at_ne (by decide)).trans F47)))))
    refine rr rfl (s_iastore (h' := ((((((H.set 42 (.inl [x1, 0, 0, 0, 0, 0, 0, 0, 0, 0, 0, 0, 0])).set 43 (.inl [x2, 0, 0, 0, 0, 0, 0, 0, 0, 0, 0, 0, 0])).set 44 (.inl [x3, 0, 0, 0, 0, 0, 0, 0, 0, 0, 0, 0, 0])).set 45 (.inl [x4, 0, 0, 0, 0, 0, 0, 0, 0, 0, 0, 0, 0])).set 46 (.inl [x5, 0, 0, 0, 0, 0, 0, 0, 0, 0, 0, 0, 0])).set 47 (.inl [x6, 0, 0, 0, 0, 0, 0, 0, 0, 0, 0, 0, 0]))) (j := 0) (f' := [x6, 0, 0, 0, 0, 0, 0, 0, 0, 0, 0, 0, 0]) rfl f12 (Nat.le_of_ble_eq_true rfl) rfl (len_of f12) rfl) ?_
    refine rr rfl (s_aload_n rfl) ?_
    have f13 : a_at ((((((H.set 42 (.inl [x1, 0, 0, 0, 0, 0, 0, 0, 0, 0, 0, 0, 0])).set 43 (.inl [x2, 0, 0, 0, 0, 0, 0, 0, 0, 0, 0, 0, 0])).set 44 (.inl [x3, 0, 0, 0, 0, 0, 0, 0, 0, 0, 0, 0, 0])).set 45 (.inl [x4, 0, 0, 0, 0, 0, 0, 0, 0, 0, 0, 0, 0])).set 46 (.inl [x5, 0, 0, 0, 0, 0, 0, 0, 0, 0, 0, 0, 0])).set 47 (.inl [x6, 0, 0, 0, 0, 0, 0, 0, 0, 0, 0, 0, 0])) 41 = some (.inr (.inr (9, [.int 4, .int 0, .ref 42, .ref 43, .ref 44, .ref 45, .ref 46, .ref 47, .ref 48, .ref 49, .ref 50, .ref 51, .int 0, .int 0, .int 0, .int 0, .int 0, .int 0, .int 0, .int 0, .ref 52, .int 0, .ref 53, .int 0, .ref 54, .int 0, .ref 55, .ref 56, .ref 57, .ref 58, .int 0, .ref 59, .ref 60]))) := ((at_ne (by decide)).trans f11)
    refine rr rfl (s_getf f13 rfl) ?_
    refine rr rfl (s_iload_n rfl) ?_
    refine rr rfl (s_iload rfl) ?_
    have f14 : a_at ((((((H.set 42 (.inl [x1, 0, 0, 0, 0, 0, 0, 0, 0, 0, 0, 0, 0])).set 43 (.inl [x2, 0, 0, 0, 0, 0, 0, 0, 0, 0, 0, 0, 0])).set 44 (.inl [x3, 0, 0, 0, 0, 0, 0, 0, 0, 0, 0, 0, 0])).set 45 (.inl [x4, 0, 0, 0, 0, 0, 0, 0, 0, 0, 0, 0, 0])).set 46 (.inl [x5, 0, 0, 0, 0, 0, 0, 0, 0, 0, 0, 0, 0])).set 47 (.inl [x6, 0, 0, 0, 0, 0, 0, 0, 0, 0, 0, 0, 0])) 48 = some (.inl (List.replicate 13 0)) := ((at_ne (by decide)).trans ((at_ne (by decide)).trans ((at_ne (by decide)).trans ((at_ne (by decide)).trans ((at_ne (by decide)).trans ((at_ne (by decide)).trans F48))))))
    refine rr rfl (s_iastore (h' := (((((((H.set 42 (.inl [x1, 0, 0, 0, 0, 0, 0, 0, 0, 0, 0, 0, 0])).set 43 (.inl [x2, 0, 0, 0, 0, 0, 0, 0, 0, 0, 0, 0, 0])).set 44 (.inl [x3, 0, 0, 0, 0, 0, 0, 0, 0, 0, 0, 0, 0])).set 45 (.inl [x4, 0, 0, 0, 0, 0, 0, 0, 0, 0, 0, 0, 0])).set 46 (.inl [x5, 0, 0, 0, 0, 0, 0, 0, 0, 0, 0, 0, 0])).set 47 (.inl [x6, 0, 0, 0, 0, 0, 0, 0, 0, 0, 0, 0, 0])).set 48 (.inl [x7, 0, 0, 0, 0, 0, 0, 0, 0, 0, 0, 0, 0]))) (j := 0) (f' := [x7, 0, 0, 0, 0, 0, 0, 0, 0, 0, 0, 0, 0]) rfl f14 (Nat.le_of_ble_eq_true rfl) rfl (len_of f14) rfl) ?_
    refine rr rfl (s_aload_n rfl) ?_
    have f15 : a_at (((((((H.set 42 (.inl [x1, 0, 0, 0, 0, 0, 0, 0, 0, 0, 0, 0, 0])).set 43 (.inl [x2, 0, 0, 0, 0, 0, 0, 0, 0, 0, 0, 0, 0])).set 44 (.inl [x3, 0, 0, 0, 0, 0, 0, 0, 0, 0, 0, 0, 0])).set 45 (.inl [x4, 0, 0, 0, 0, 0, 0, 0, 0, 0, 0, 0, 0])).set 46 (.inl [x5, 0, 0, 0, 0, 0, 0, 0, 0, 0, 0, 0, 0])).set 47 (.inl [x6, 0, 0, 0, 0, 0, 0, 0, 0, 0, 0, 0, 0])).set 48 (.inl [x7, 0, 0, 0, 0, 0, 0, 0, 0, 0, 0, 0, 0])) 41 = some (.inr (.inr (9, [.int 4, .int 0, .ref 42, .ref 43, .ref 44, .ref 45, .ref 46, .ref 47, .ref 48, .ref 49, .ref 50, .ref 51, .int 0, .int 0, .int 0, .int 0, .int 0, .int 0, .int 0, .int 0, .ref 52, .int 0, .ref 53, .int 0, .ref 54, .int 0, .ref 55, .ref 56, .ref 57, .ref 58, .int 0, .ref 59, .ref 60]))) := ((at_ne (by decide)).trans f13)
    refine rr rfl (s_getf f15 rfl) ?_
    refine rr rfl (s_iload_n rfl) ?_
    refine rr rfl (s_iconst (v := (-1)) (by decide)) ?_
    have f16 : a_at (((((((H.set 42 (.inl [x1, 0, 0, 0, 0, 0, 0, 0, 0, 0, 0, 0, 0])).set 43 (.inl [x2, 0, 0, 0, 0, 0, 0, 0, 0, 0, 0, 0, 0])).set 44 (.inl [x3, 0, 0, 0, 0, 0, 0, 0, 0, 0, 0, 0, 0])).set 45 (.inl [x4, 0, 0, 0, 0, 0, 0, 0, 0, 0, 0, 0, 0])).set 46 (.inl [x5, 0, 0, 0, 0, 0, 0, 0, 0, 0, 0, 0, 0])).set 47 (.inl [x6, 0, 0, 0, 0, 0, 0, 0, 0, 0, 0, 0, 0])).set 48 (.inl [x7, 0, 0, 0, 0, 0, 0, 0, 0, 0, 0, 0, 0])) 49 = some (.inl (List.replicate 13 0)) := ((at_ne (by decide)).trans ((at_ne (by decide)).trans ((at_ne (by decide)).trans ((at_ne (by decide)).trans ((at_ne (by decide)).trans ((at_ne (by decide)).trans ((at_ne (by decide)).trans F49)))))))
    refine rr rfl (s_iastore (h' := ((((((((H.set 42 (.inl [x1, 0, 0, 0, 0, 0, 0, 0, 0, 0, 0, 0, 0])).set 43 (.inl [x2, 0, 0, 0, 0, 0, 0, 0, 0, 0, 0, 0, 0])).set 44 (.inl [x3, 0, 0, 0, 0, 0, 0, 0, 0, 0, 0, 0, 0])).set 45 (.inl [x4, 0, 0, 0, 0, 0, 0, 0, 0, 0, 0, 0, 0])).set 46 (.inl [x5, 0, 0, 0, 0, 0, 0, 0, 0, 0, 0, 0, 0])).set 47 (.inl [x6, 0, 0, 0, 0, 0, 0, 0, 0, 0, 0, 0, 0])).set 48 (.inl [x7, 0, 0, 0, 0, 0, 0, 0, 0, 0, 0, 0, 0])).set 49 (.inl [(-1), 0, 0, 0, 0, 0, 0, 0, 0, 0, 0, 0, 0]))) (j := 0) (f' := [(-1), 0, 0, 0, 0, 0, 0, 0, 0, 0, 0, 0, 0]) rfl f16 (Nat.le_of_ble_eq_true rfl) rfl (len_of f16) rfl) ?_
    exact rrt rfl rfl rfl rfl
  refine rrc rfl rfl rfl (do_of g_X9_sets rfl (rok9 f1 rfl rfl) e1) ?_
  refine rr rfl (s_aload_n rfl) ?_
  refine rr rfl s_dup ?_
  have f17 : a_at ((((((((H.set 42 (.inl [x1, 0, 0, 0, 0, 0, 0, 0, 0, 0, 0, 0, 0])).set 43 (.inl [x2, 0, 0, 0, 0, 0, 0, 0, 0, 0, 0, 0, 0])).set 44 (.inl [x3, 0, 0, 0, 0, 0, 0, 0, 0, 0, 0, 0, 0])).set 45 (.inl [x4, 0, 0, 0, 0, 0, 0, 0, 0, 0, 0, 0, 0])).set 46 (.inl [x5, 0, 0, 0, 0, 0, 0, 0, 0, 0, 0, 0, 0])).set 47 (.inl [x6, 0, 0, 0, 0, 0, 0, 0, 0, 0, 0, 0, 0])).set 48 (.inl [x7, 0, 0, 0, 0, 0, 0, 0, 0, 0, 0, 0, 0])).set 49 (.inl [(-1), 0, 0, 0, 0, 0, 0, 0, 0, 0, 0, 0, 0])) 41 = some (.inr (.inr (9, [.int 4, .int 0, .ref 42, .ref 43, .ref 44, .ref 45, .ref 46, .ref 47, .ref 48, .ref 49, .ref 50, .ref 51, .int 0, .int 0, .int 0, .int 0, .int 0, .int 0, .int 0, .int 0, .ref 52, .int 0, .ref 53, .int 0, .ref 54, .int 0, .ref 55, .ref 56, .ref 57, .ref 58, .int 0, .ref 59, .ref 60]))) := ((at_ne (by decide)).trans ((at_ne (by decide)).trans ((at_ne (by decide)).trans ((at_ne (by decide)).trans ((at_ne (by decide)).trans ((at_ne (by decide)).trans ((at_ne (by decide)).trans ((at_ne (by decide)).trans f1))))))))
  refine rr rfl (s_getf f17 rfl) ?_
  refine rr rfl (s_iconst (v := 1) (by decide)) ?_
  refine rr rfl (s_iadd (v := 1) (by decide)) ?_
  refine rr rfl (s_putf (h' := (((((((((H.set 42 (.inl [x1, 0, 0, 0, 0, 0, 0, 0, 0, 0, 0, 0, 0])).set 43 (.inl [x2, 0, 0, 0, 0, 0, 0, 0, 0, 0, 0, 0, 0])).set 44 (.inl [x3, 0, 0, 0, 0, 0, 0, 0, 0, 0, 0, 0, 0])).set 45 (.inl [x4, 0, 0, 0, 0, 0, 0, 0, 0, 0, 0, 0, 0])).set 46 (.inl [x5, 0, 0, 0, 0, 0, 0, 0, 0, 0, 0, 0, 0])).set 47 (.inl [x6, 0, 0, 0, 0, 0, 0, 0, 0, 0, 0, 0, 0])).set 48 (.inl [x7, 0, 0, 0, 0, 0, 0, 0, 0, 0, 0, 0, 0])).set 49 (.inl [(-1), 0, 0, 0, 0, 0, 0, 0, 0, 0, 0, 0, 0])).set 41 (.inr (.inr (9, [.int 4, .int 1, .ref 42, .ref 43, .ref 44, .ref 45, .ref 46, .ref 47, .ref 48, .ref 49, .ref 50, .ref 51, .int 0, .int 0, .int 0, .int 0, .int 0, .int 0, .int 0, .int 0, .ref 52, .int 0, .ref 53, .int 0, .ref 54, .int 0, .ref 55, .ref 56, .ref 57, .ref 58, .int 0, .ref 59, .ref 60]))))) f17 rfl (Nat.le_of_ble_eq_true rfl) rfl (len_of f17) rfl) ?_
  refine rr rfl (s_aload_n rfl) ?_
  have f18 : a_at (((((((((H.set 42 (.inl [x1, 0, 0, 0, 0, 0, 0, 0, 0, 0, 0, 0, 0])).set 43 (.inl [x2, 0, 0, 0, 0, 0, 0, 0, 0, 0, 0, 0, 0])).set 44 (.inl [x3, 0, 0, 0, 0, 0, 0, 0, 0, 0, 0, 0, 0])).set 45 (.inl [x4, 0, 0, 0, 0, 0, 0, 0, 0, 0, 0, 0, 0])).set 46 (.inl [x5, 0, 0, 0, 0, 0, 0, 0, 0, 0, 0, 0, 0])).set 47 (.inl [x6, 0, 0, 0, 0, 0, 0, 0, 0, 0, 0, 0, 0])).set 48 (.inl [x7, 0, 0, 0, 0, 0, 0, 0, 0, 0, 0, 0, 0])).set 49 (.inl [(-1), 0, 0, 0, 0, 0, 0, 0, 0, 0, 0, 0, 0])).set 41 (.inr (.inr (9, [.int 4, .int 1, .ref 42, .ref 43, .ref 44, .ref 45, .ref 46, .ref 47, .ref 48, .ref 49, .ref 50, .ref 51, .int 0, .int 0, .int 0, .int 0, .int 0, .int 0, .int 0, .int 0, .ref 52, .int 0, .ref 53, .int 0, .ref 54, .int 0, .ref 55, .ref 56, .ref 57, .ref 58, .int 0, .ref 59, .ref 60])))) 41 = some (.inr (.inr (9, [.int 4, .int 1, .ref 42, .ref 43, .ref 44, .ref 45, .ref 46, .ref 47, .ref 48, .ref 49, .ref 50, .ref 51, .int 0, .int 0, .int 0, .int 0, .int 0, .int 0, .int 0, .int 0, .ref 52, .int 0, .ref 53, .int 0, .ref 54, .int 0, .ref 55, .ref 56, .ref 57, .ref 58, .int 0, .ref 59, .ref 60]))) := (at_eq f17)
  have e2 : a_m MT [] 100000 10 miX9_lays [.ref 41] (((((((((H.set 42 (.inl [x1, 0, 0, 0, 0, 0, 0, 0, 0, 0, 0, 0, 0])).set 43 (.inl [x2, 0, 0, 0, 0, 0, 0, 0, 0, 0, 0, 0, 0])).set 44 (.inl [x3, 0, 0, 0, 0, 0, 0, 0, 0, 0, 0, 0, 0])).set 45 (.inl [x4, 0, 0, 0, 0, 0, 0, 0, 0, 0, 0, 0, 0])).set 46 (.inl [x5, 0, 0, 0, 0, 0, 0, 0, 0, 0, 0, 0, 0])).set 47 (.inl [x6, 0, 0, 0, 0, 0, 0, 0, 0, 0, 0, 0, 0])).set 48 (.inl [x7, 0, 0, 0, 0, 0, 0, 0, 0, 0, 0, 0, 0])).set 49 (.inl [(-1), 0, 0, 0, 0, 0, 0, 0, 0, 0, 0, 0, 0])).set 41 (.inr (.inr (9, [.int 4, .int 1, .ref 42, .ref 43, .ref 44, .ref 45, .ref 46, .ref 47, .ref 48, .ref 49, .ref 50, .ref 51, .int 0, .int 0, .int 0, .int 0, .int 0, .int 0, .int 0, .int 0, .ref 52, .int 0, .ref 53, .int 0, .ref 54, .int 0, .ref 55, .ref 56, .ref 57, .ref 58, .int 0, .ref 59, .ref 60])))) = some (some (.int 0), ((((((((((H.set 42 (.inl [x1, 0, 0, 0, 0, 0, 0, 0, 0, 0, 0, 0, 0])).set 43 (.inl [x2, 0, 0, 0, 0, 0, 0, 0, 0, 0, 0, 0, 0])).set 44 (.inl [x3, 0, 0, 0, 0, 0, 0, 0, 0, 0, 0, 0, 0])).set 45 (.inl [x4, 0, 0, 0, 0, 0, 0, 0, 0, 0, 0, 0, 0])).set 46 (.inl [x5, 0, 0, 0, 0, 0, 0, 0, 0, 0, 0, 0, 0])).set 47 (.inl [x6, 0, 0, 0, 0, 0, 0, 0, 0, 0, 0, 0, 0])).set 48 (.inl [x7, 0, 0, 0, 0, 0, 0, 0, 0, 0, 0, 0, 0])).set 49 (.inl [(-1), 0, 0, 0, 0, 0, 0, 0, 0, 0, 0, 0, 0])).set 41 (.inr (.inr (9, [.int 4, .int 1, .ref 42, .ref 43, .ref 44, .ref 45, .ref 46, .ref 47, .ref 48, .ref 49, .ref 50, .ref 51, .int 0, .int 0, .int 0, .int 0, .int 0, .int 0, .int 0, .int 0, .ref 52, .int 0, .ref 53, .int 0, .ref 54, .int 0, .ref 55, .ref 56, .ref 57, .ref 58, .int 0, .ref 59, .ref 60])))).set 51 (.inl ((List.replicate 8 (0 : Int32)).set (Int32.toNatClampNeg x3) 8))), 0, 0) := by
    refine me (d := 9) g_X9_lays (Nat.le_of_ble_eq_true rfl) ?_
    refine rr rfl (s_iconst (v := 0) (by decide)) ?_
    refine rr rfl (s_istore_n rfl) ?_
    refine rr rfl (s_iload_n rfl) ?_
    refine rr rfl (s_bipush (v := 8) (by decide)) ?_
    refine rr rfl (s_icF (by decide)) ?_
    refine rr rfl (s_aload_n rfl) ?_
    refine rr rfl (s_getf f18 rfl) ?_
    refine rr rfl (s_iload_n rfl) ?_
    refine rr rfl (s_iconst (v := 0) (by decide)) ?_
    have f19 : a_at (((((((((H.set 42 (.inl [x1, 0, 0, 0, 0, 0, 0, 0, 0, 0, 0, 0, 0])).set 43 (.inl [x2, 0, 0, 0, 0, 0, 0, 0, 0, 0, 0, 0, 0])).set 44 (.inl [x3, 0, 0, 0, 0, 0, 0, 0, 0, 0, 0, 0, 0])).set 45 (.inl [x4, 0, 0, 0, 0, 0, 0, 0, 0, 0, 0, 0, 0])).set 46 (.inl [x5, 0, 0, 0, 0, 0, 0, 0, 0, 0, 0, 0, 0])).set 47 (.inl [x6, 0, 0, 0, 0, 0, 0, 0, 0, 0, 0, 0, 0])).set 48 (.inl [x7, 0, 0, 0, 0, 0, 0, 0, 0, 0, 0, 0, 0])).set 49 (.inl [(-1), 0, 0, 0, 0, 0, 0, 0, 0, 0, 0, 0, 0])).set 41 (.inr (.inr (9, [.int 4, .int 1, .ref 42, .ref 43, .ref 44, .ref 45, .ref 46, .ref 47, .ref 48, .ref 49, .ref 50, .ref 51, .int 0, .int 0, .int 0, .int 0, .int 0, .int 0, .int 0, .int 0, .ref 52, .int 0, .ref 53, .int 0, .ref 54, .int 0, .ref 55, .ref 56, .ref 57, .ref 58, .int 0, .ref 59, .ref 60])))) 51 = some (.inl (List.replicate 8 0)) := ((at_ne (by decide)).trans ((at_ne (by decide)).trans ((at_ne (by decide)).trans ((at_ne (by decide)).trans ((at_ne (by decide)).trans ((at_ne (by decide)).trans ((at_ne (by decide)).trans ((at_ne (by decide)).trans ((at_ne (by decide)).trans F51)))))))))
    refine rr rfl (s_iastore (h' := ((((((((((H.set 42 (.inl [x1, 0, 0, 0, 0, 0, 0, 0, 0, 0, 0, 0, 0])).set 43 (.inl [x2, 0, 0, 0, 0, 0, 0, 0, 0, 0, 0, 0, 0])).set 44 (.inl [x3, 0, 0, 0, 0, 0, 0, 0, 0, 0, 0, 0, 0])).set 45 (.inl [x4, 0, 0, 0, 0, 0, 0, 0, 0, 0, 0, 0, 0])).set 46 (.inl [x5, 0, 0, 0, 0, 0, 0, 0, 0, 0, 0, 0, 0])).set 47 (.inl [x6, 0, 0, 0, 0, 0, 0, 0, 0, 0, 0, 0, 0])).set 48 (.inl [x7, 0, 0, 0, 0, 0, 0, 0, 0, 0, 0, 0, 0])).set 49 (.inl [(-1), 0, 0, 0, 0, 0, 0, 0, 0, 0, 0, 0, 0])).set 41 (.inr (.inr (9, [.int 4, .int 1, .ref 42, .ref 43, .ref 44, .ref 45, .ref 46, .ref 47, .ref 48, .ref 49, .ref 50, .ref 51, .int 0, .int 0, .int 0, .int 0, .int 0, .int 0, .int 0, .int 0, .ref 52, .int 0, .ref 53, .int 0, .ref 54, .int 0, .ref 55, .ref 56, .ref 57, .ref 58, .int 0, .ref 59, .ref 60])))).set 51 (.inl (List.replicate 8 0)))) (j := 0) (f' := (List.replicate 8 0)) rfl f19 (Nat.le_of_ble_eq_true rfl) rfl (len_of f19) rfl) ?_
    refine rr rfl (s_iinc (v := 1) rfl (by decide) rfl) ?_
    refine rr rfl s_goto ?_
    refine rr rfl (s_iload_n rfl) ?_
    refine rr rfl (s_bipush (v := 8) (by decide)) ?_
    refine rr rfl (s_icF (by decide)) ?_
    refine rr rfl (s_aload_n rfl) ?_
    have f20 : a_at ((((((((((H.set 42 (.inl [x1, 0, 0, 0, 0, 0, 0, 0, 0, 0, 0, 0, 0])).set 43 (.inl [x2, 0, 0, 0, 0, 0, 0, 0, 0, 0, 0, 0, 0])).set 44 (.inl [x3, 0, 0, 0, 0, 0, 0, 0, 0, 0, 0, 0, 0])).set 45 (.inl [x4, 0, 0, 0, 0, 0, 0, 0, 0, 0, 0, 0, 0])).set 46 (.inl [x5, 0, 0, 0, 0, 0, 0, 0, 0, 0, 0, 0, 0])).set 47 (.inl [x6, 0, 0, 0, 0, 0, 0, 0, 0, 0, 0, 0, 0])).set 48 (.inl [x7, 0, 0, 0, 0, 0, 0, 0, 0, 0, 0, 0, 0])).set 49 (.inl [(-1), 0, 0, 0, 0, 0, 0, 0, 0, 0, 0, 0, 0])).set 41 (.inr (.inr (9, [.int 4, .int 1, .ref 42, .ref 43, .ref 44, .ref 45, .ref 46, .ref 47, .ref 48, .ref 49, .ref 50, .ref 51, .int 0, .int 0, .int 0, .int 0, .int 0, .int 0, .int 0, .int 0, .ref 52, .int 0, .ref 53, .int 0, .ref 54, .int 0, .ref 55, .ref 56, .ref 57, .ref 58, .int 0, .ref 59, .ref 60])))).set 51 (.inl (List.replicate 8 0))) 41 = some (.inr (.inr (9, [.int 4, .int 1, .ref 42, .ref 43, .ref 44, .ref 45, .ref 46, .ref 47, .ref 48, .ref 49, .ref 50, .ref 51, .int 0, .int 0, .int 0, .int 0, .int 0, .int 0, .int 0, .int 0, .ref 52, .int 0, .ref 53, .int 0, .ref 54, .int 0, .ref 55, .ref 56, .ref 57, .ref 58, .int 0, .ref 59, .ref 60]))) := ((at_ne (by decide)).trans f18)
    refine rr rfl (s_getf f20 rfl) ?_
    refine rr rfl (s_iload_n rfl) ?_
    refine rr rfl (s_iconst (v := 0) (by decide)) ?_
    have f21 : a_at ((((((((((H.set 42 (.inl [x1, 0, 0, 0, 0, 0, 0, 0, 0, 0, 0, 0, 0])).set 43 (.inl [x2, 0, 0, 0, 0, 0, 0, 0, 0, 0, 0, 0, 0])).set 44 (.inl [x3, 0, 0, 0, 0, 0, 0, 0, 0, 0, 0, 0, 0])).set 45 (.inl [x4, 0, 0, 0, 0, 0, 0, 0, 0, 0, 0, 0, 0])).set 46 (.inl [x5, 0, 0, 0, 0, 0, 0, 0, 0, 0, 0, 0, 0])).set 47 (.inl [x6, 0, 0, 0, 0, 0, 0, 0, 0, 0, 0, 0, 0])).set 48 (.inl [x7, 0, 0, 0, 0, 0, 0, 0, 0, 0, 0, 0, 0])).set 49 (.inl [(-1), 0, 0, 0, 0, 0, 0, 0, 0, 0, 0, 0, 0])).set 41 (.inr (.inr (9, [.int 4, .int 1, .ref 42, .ref 43, .ref 44, .ref 45, .ref 46, .ref 47, .ref 48, .ref 49, .ref 50, .ref 51, .int 0, .int 0, .int 0, .int 0, .int 0, .int 0, .int 0, .int 0, .ref 52, .int 0, .ref 53, .int 0, .ref 54, .int 0, .ref 55, .ref 56, .ref 57, .ref 58, .int 0, .ref 59, .ref 60])))).set 51 (.inl (List.replicate 8 0))) 51 = some (.inl (List.replicate 8 0)) := (at_eq f19)
    refine rr rfl (s_iastore (h' := ((((((((((H.set 42 (.inl [x1, 0, 0, 0, 0, 0, 0, 0, 0, 0, 0, 0, 0])).set 43 (.inl [x2, 0, 0, 0, 0, 0, 0, 0, 0, 0, 0, 0, 0])).set 44 (.inl [x3, 0, 0, 0, 0, 0, 0, 0, 0, 0, 0, 0, 0])).set 45 (.inl [x4, 0, 0, 0, 0, 0, 0, 0, 0, 0, 0, 0, 0])).set 46 (.inl [x5, 0, 0, 0, 0, 0, 0, 0, 0, 0, 0, 0, 0])).set 47 (.inl [x6, 0, 0, 0, 0, 0, 0, 0, 0, 0, 0, 0, 0])).set 48 (.inl [x7, 0, 0, 0, 0, 0, 0, 0, 0, 0, 0, 0, 0])).set 49 (.inl [(-1), 0, 0, 0, 0, 0, 0, 0, 0, 0, 0, 0, 0])).set 41 (.inr (.inr (9, [.int 4, .int 1, .ref 42, .ref 43, .ref 44, .ref 45, .ref 46, .ref 47, .ref 48, .ref 49, .ref 50, .ref 51, .int 0, .int 0, .int 0, .int 0, .int 0, .int 0, .int 0, .int 0, .ref 52, .int 0, .ref 53, .int 0, .ref 54, .int 0, .ref 55, .ref 56, .ref 57, .ref 58, .int 0, .ref 59, .ref 60])))).set 51 (.inl (List.replicate 8 0)))) (j := 1) (f' := (List.replicate 8 0)) rfl f21 (Nat.le_of_ble_eq_true rfl) rfl (len_of f21) (List.set_set ..)) ?_
    refine rr rfl (s_iinc (v := 2) rfl (by decide) rfl) ?_
    refine rr rfl s_goto ?_
    refine rr rfl (s_iload_n rfl) ?_
    refine rr rfl (s_bipush (v := 8) (by decide)) ?_
    refine rr rfl (s_icF (by decide)) ?_
    refine rr rfl (s_aload_n rfl) ?_
    have f22 : a_at ((((((((((H.set 42 (.inl [x1, 0, 0, 0, 0, 0, 0, 0, 0, 0, 0, 0, 0])).set 43 (.inl [x2, 0, 0, 0, 0, 0, 0, 0, 0, 0, 0, 0, 0])).set 44 (.inl [x3, 0, 0, 0, 0, 0, 0, 0, 0, 0, 0, 0, 0])).set 45 (.inl [x4, 0, 0, 0, 0, 0, 0, 0, 0, 0, 0, 0, 0])).set 46 (.inl [x5, 0, 0, 0, 0, 0, 0, 0, 0, 0, 0, 0, 0])).set 47 (.inl [x6, 0, 0, 0, 0, 0, 0, 0, 0, 0, 0, 0, 0])).set 48 (.inl [x7, 0, 0, 0, 0, 0, 0, 0, 0, 0, 0, 0, 0])).set 49 (.inl [(-1), 0, 0, 0, 0, 0, 0, 0, 0, 0, 0, 0, 0])).set 41 (.inr (.inr (9, [.int 4, .int 1, .ref 42, .ref 43, .ref 44, .ref 45, .ref 46, .ref 47, .ref 48, .ref 49, .ref 50, .ref 51, .int 0, .int 0, .int 0, .int 0, .int 0, .int 0, .int 0, .int 0, .ref 52, .int 0, .ref 53, .int 0, .ref 54, .int 0, .ref 55, .ref 56, .ref 57, .ref 58, .int 0, .ref 59, .ref 60])))).set 51 (.inl (List.replicate 8 0))) 41 = some (.inr (.inr (9, [.int 4, .int 1, .ref 42, .ref 43, .ref 44, .ref 45, .ref 46, .ref 47, .ref 48, .ref 49, .ref 50, .ref 51, .int 0, .int 0, .int 0, .int 0, .int 0, .int 0, .int 0, .int 0, .ref 52, .int 0, .ref 53, .int 0, .ref 54, .int 0, .ref 55, .ref 56, .ref 57, .ref 58, .int 0, .ref 59, .ref 60]))) := ((at_ne (by decide)).trans f18)
    refine rr rfl (s_getf f22 rfl) ?_
    refine rr rfl (s_iload_n rfl) ?_
    refine rr rfl (s_iconst (v := 0) (by decide)) ?_
    have f23 : a_at ((((((((((H.set 42 (.inl [x1, 0, 0, 0, 0, 0, 0, 0, 0, 0, 0, 0, 0])).set 43 (.inl [x2, 0, 0, 0, 0, 0, 0, 0, 0, 0, 0, 0, 0])).set 44 (.inl [x3, 0, 0, 0, 0, 0, 0, 0, 0, 0, 0, 0, 0])).set 45 (.inl [x4, 0, 0, 0, 0, 0, 0, 0, 0, 0, 0, 0, 0])).set 46 (.inl [x5, 0, 0, 0, 0, 0, 0, 0, 0, 0, 0, 0, 0])).set 47 (.inl [x6, 0, 0, 0, 0, 0, 0, 0, 0, 0, 0, 0, 0])).set 48 (.inl [x7, 0, 0, 0, 0, 0, 0, 0, 0, 0, 0, 0, 0])).set 49 (.inl [(-1), 0, 0, 0, 0, 0, 0, 0, 0, 0, 0, 0, 0])).set 41 (.inr (.inr (9, [.int 4, .int 1, .ref 42, .ref 43, .ref 44, .ref 45, .ref 46, .ref 47, .ref 48, .ref 49, .ref 50, .ref 51, .int 0, .int 0, .int 0, .int 0, .int 0, .int 0, .int 0, .int 0, .ref 52, .int 0, .ref 53, .int 0, .ref 54, .int 0, .ref 55, .ref 56, .ref 57, .ref 58, .int 0, .ref 59, .ref 60])))).set 51 (.inl (List.replicate 8 0))) 51 = some (.inl (List.replicate 8 0)) := (at_eq f19)
    refine rr rfl (s_iastore (h' := ((((((((((H.set 42 (.inl [x1, 0, 0, 0, 0, 0, 0, 0, 0, 0, 0, 0, 0])).set 43 (.inl [x2, 0, 0, 0, 0, 0, 0, 0, 0, 0, 0, 0, 0])).set 44 (.inl [x3, 0, 0, 0, 0, 0, 0, 0, 0, 0, 0, 0, 0])).set 45 (.inl [x4, 0, 0, 0, 0, 0, 0, 0, 0, 0, 0, 0, 0])).set 46 (.inl [x5, 0, 0, 0, 0, 0, 0, 0, 0, 0, 0, 0, 0])).set 47 (.inl [x6, 0, 0, 0, 0, 0, 0, 0, 0, 0, 0, 0, 0])).set 48 (.inl [x7, 0, 0, 0, 0, 0, 0, 0, 0, 0, 0, 0, 0])).set 49 (.inl [(-1), 0, 0, 0, 0, 0, 0, 0, 0, 0, 0, 0, 0])).set 41 (.inr (.inr (9, [.int 4, .int 1, .ref 42, .ref 43, .ref 44, .ref 45, .ref 46, .ref 47, .ref 48, .ref 49, .ref 50, .ref 51, .int 0, .int 0, .int 0, .int 0, .int 0, .int 0, .int 0, .int 0, .ref 52, .int 0, .ref 53, .int 0, .ref 54, .int 0, .ref 55, .ref 56, .ref 57, .ref 58, .int 0, .ref 59, .ref 60])))).set 51 (.inl (List.replicate 8 0)))) (j := 2) (f' := (List.replicate 8 0)) rfl f23 (Nat.le_of_ble_eq_true rfl) rfl (len_of f23) (List.set_set ..)) ?_
    refine rr rfl (s_iinc (v := 3) rfl (by decide) rfl) ?_
    refine rr rfl s_goto ?_
    refine rr rfl (s_iload_n rfl) ?_
    refine rr rfl (s_bipush (v := 8) (by decide)) ?_
    refine rr rfl (s_icF (by decide)) ?_
    refine rr rfl (s_aload_n rfl) ?_
    have f24 : a_at ((((((((((H.set 42 (.inl [x1, 0, 0, 0, 0, 0, 0, 0, 0, 0, 0, 0, 0])).set 43 (.inl [x2, 0, 0, 0, 0, 0, 0, 0, 0, 0, 0, 0, 0])).set 44 (.inl [x3, 0, 0, 0, 0, 0, 0, 0, 0, 0, 0, 0, 0])).set 45 (.inl [x4, 0, 0, 0, 0, 0, 0, 0, 0, 0, 0, 0, 0])).set 46 (.inl [x5, 0, 0, 0, 0, 0, 0, 0, 0, 0, 0, 0, 0])).set 47 (.inl [x6, 0, 0, 0, 0, 0, 0, 0, 0, 0, 0, 0, 0])).set 48 (.inl [x7, 0, 0, 0, 0, 0, 0, 0, 0, 0, 0, 0, 0])).set 49 (.inl [(-1), 0, 0, 0, 0, 0, 0, 0, 0, 0, 0, 0, 0])).set 41 (.inr (.inr (9, [.int 4, .int 1, .ref 42, .ref 43, .ref 44, .ref 45, .ref 46, .ref 47, .ref 48, .ref 49, .ref 50, .ref 51, .int 0, .int 0, .int 0, .int 0, .int 0, .int 0, .int 0, .int 0, .ref 52, .int 0, .ref 53, .int 0, .ref 54, .int 0, .ref 55, .ref 56, .ref 57, .ref 58, .int 0, .ref 59, .ref 60])))).set 51 (.inl (List.replicate 8 0))) 41 = some (.inr (.inr (9, [.int 4, .int 1, .ref 42, .ref 43, .ref 44, .ref 45, .ref 46, .ref 47, .ref 48, .ref 49, .ref 50, .ref 51, .int 0, .int 0, .int 0, .int 0, .int 0, .int 0, .int 0, .int 0, .ref 52, .int 0, .ref 53, .int 0, .ref 54, .int 0, .ref 55, .ref 56, .ref 57, .ref 58, .int 0, .ref 59, .ref 60]))) := ((at_ne (by decide)).trans f18)
    refine rr rfl (s_getf f24 rfl) ?_
    refine rr rfl (s_iload_n rfl) ?_
    refine rr rfl (s_iconst (v := 0) (by decide)) ?_
    have f25 : a_at ((((((((((H.set 42 (.inl [x1, 0, 0, 0, 0, 0, 0, 0, 0, 0, 0, 0, 0])).set 43 (.inl [x2, 0, 0, 0, 0, 0, 0, 0, 0, 0, 0, 0, 0])).set 44 (.inl [x3, 0, 0, 0, 0, 0, 0, 0, 0, 0, 0, 0, 0])).set 45 (.inl [x4, 0, 0, 0, 0, 0, 0, 0, 0, 0, 0, 0, 0])).set 46 (.inl [x5, 0, 0, 0, 0, 0, 0, 0, 0, 0, 0, 0, 0])).set 47 (.inl [x6, 0, 0, 0, 0, 0, 0, 0, 0, 0, 0, 0, 0])).set 48 (.inl [x7, 0, 0, 0, 0, 0, 0, 0, 0, 0, 0, 0, 0])).set 49 (.inl [(-1), 0, 0, 0, 0, 0, 0, 0, 0, 0, 0, 0, 0])).set 41 (.inr (.inr (9, [.int 4, .int 1, .ref 42, .ref 43, .ref 44, .ref 45, .ref 46, .ref 47, .ref 48, .ref 49, .ref 50, .ref 51, .int 0, .int 0, .int 0, .int 0, .int 0, .int 0, .int 0, .int 0, .ref 52, .int 0, .ref 53, .int 0, .ref 54, .int 0, .ref 55, .ref 56, .ref 57, .ref 58, .int 0, .ref 59, .ref 60])))).set 51 (.inl (List.replicate 8 0))) 51 = some (.inl (List.replicate 8 0)) := (at_eq f19)
    refine rr rfl (s_iastore (h' := ((((((((((H.set 42 (.inl [x1, 0, 0, 0, 0, 0, 0, 0, 0, 0, 0, 0, 0])).set 43 (.inl [x2, 0, 0, 0, 0, 0, 0, 0, 0, 0, 0, 0, 0])).set 44 (.inl [x3, 0, 0, 0, 0, 0, 0, 0, 0, 0, 0, 0, 0])).set 45 (.inl [x4, 0, 0, 0, 0, 0, 0, 0, 0, 0, 0, 0, 0])).set 46 (.inl [x5, 0, 0, 0, 0, 0, 0, 0, 0, 0, 0, 0, 0])).set 47 (.inl [x6, 0, 0, 0, 0, 0, 0, 0, 0, 0, 0, 0, 0])).set 48 (.inl [x7, 0, 0, 0, 0, 0, 0, 0, 0, 0, 0, 0, 0])).set 49 (.inl [(-1), 0, 0, 0, 0, 0, 0, 0, 0, 0, 0, 0, 0])).set 41 (.inr (.inr (9, [.int 4, .int 1, .ref 42, .ref 43, .ref 44, .ref 45, .ref 46, .ref 47, .ref 48, .ref 49, .ref 50, .ref 51, .int 0, .int 0, .int 0, .int 0, .int 0, .int 0, .int 0, .int 0, .ref 52, .int 0, .ref 53, .int 0, .ref 54, .int 0, .ref 55, .ref 56, .ref 57, .ref 58, .int 0, .ref 59, .ref 60])))).set 51 (.inl (List.replicate 8 0)))) (j := 3) (f' := (List.replicate 8 0)) rfl f25 (Nat.le_of_ble_eq_true rfl) rfl (len_of f25) (List.set_set ..)) ?_
    refine rr rfl (s_iinc (v := 4) rfl (by decide) rfl) ?_
    refine rr rfl s_goto ?_
    refine rr rfl (s_iload_n rfl) ?_
    refine rr rfl (s_bipush (v := 8) (by decide)) ?_
    refine rr rfl (s_icF (by decide)) ?_
    refine rr rfl (s_aload_n rfl) ?_
    have f26 : a_at ((((((((((H.set 42 (.inl [x1, 0, 0, 0, 0, 0, 0, 0, 0, 0, 0, 0, 0])).set 43 (.inl [x2, 0, 0, 0, 0, 0, 0, 0, 0, 0, 0, 0, 0])).set 44 (.inl [x3, 0, 0, 0, 0, 0, 0, 0, 0, 0, 0, 0, 0])).set 45 (.inl [x4, 0, 0, 0, 0, 0, 0, 0, 0, 0, 0, 0, 0])).set 46 (.inl [x5, 0, 0, 0, 0, 0, 0, 0, 0, 0, 0, 0, 0])).set 47 (.inl [x6, 0, 0, 0, 0, 0, 0, 0, 0, 0, 0, 0, 0])).set 48 (.inl [x7, 0, 0, 0, 0, 0, 0, 0, 0, 0, 0, 0, 0])).set 49 (.inl [(-1), 0, 0, 0, 0, 0, 0, 0, 0, 0, 0, 0, 0])).set 41 (.inr (.inr (9, [.int 4, .int 1, .ref 42, .ref 43, .ref 44, .ref 45, .ref 46, .ref 47, .ref 48, .ref 49, .ref 50, .ref 51, .int 0, .int 0, .int 0, .int 0, .int 0, .int 0, .int 0, .int 0, .ref 52, .int 0, .ref 53, .int 0, .ref 54, .int 0, .ref 55, .ref 56, .ref 57, .ref 58, .int 0, .ref 59, .ref 60])))).set 51 (.inl (List.replicate 8 0))) 41 = some (.inr (.inr (9, [.int 4, .int 1, .ref 42, .ref 43, .ref 44, .ref 45, .ref 46, .ref 47, .ref 48, .ref 49, .ref 50, .ref 51, .int 0, .int 0, .int 0, .int 0, .int 0, .int 0, .int 0, .int 0, .ref 52, .int 0, .ref 53, .int 0, .ref 54, .int 0, .ref 55, .ref 56, .ref 57, .ref 58, .int 0, .ref 59, .ref 60]))) := ((at_ne (by decide)).trans f18)
    refine rr rfl (s_getf f26 rfl) ?_
    refine rr rfl (s_iload_n rfl) ?_
    refine rr rfl (s_iconst (v := 0) (by decide)) ?_
    have f27 : a_at ((((((((((H.set 42 (.inl [x1, 0, 0, 0, 0, 0, 0, 0, 0, 0, 0, 0, 0])).set 43 (.inl [x2, 0, 0, 0, 0, 0, 0, 0, 0, 0, 0, 0, 0])).set 44 (.inl [x3, 0, 0, 0, 0, 0, 0, 0, 0, 0, 0, 0, 0])).set 45 (.inl [x4, 0, 0, 0, 0, 0, 0, 0, 0, 0, 0, 0, 0])).set 46 (.inl [x5, 0, 0, 0, 0, 0, 0, 0, 0, 0, 0, 0, 0])).set 47 (.inl [x6, 0, 0, 0, 0, 0, 0, 0, 0, 0, 0, 0, 0])).set 48 (.inl [x7, 0, 0, 0, 0, 0, 0, 0, 0, 0, 0, 0, 0])).set 49 (.inl [(-1), 0, 0, 0, 0, 0, 0, 0, 0, 0, 0, 0, 0])).set 41 (.inr (.inr (9, [.int 4, .int 1, .ref 42, .ref 43, .ref 44, .ref 45, .ref 46, .ref 47, .ref 48, .ref 49, .ref 50, .ref 51, .int 0, .int 0, .int 0, .int 0, .int 0, .int 0, .int 0, .int 0, .ref 52, .int 0, .ref 53, .int 0, .ref 54, .int 0, .ref 55, .ref 56, .ref 57, .ref 58, .int 0, .ref 59, .ref 60])))).set 51 (.inl (List.replicate 8 0))) 51 = some (.inl (List.replicate 8 0)) := (at_eq f19)
    refine rr rfl (s_iastore (h' := ((((((((((H.set 42 (.inl [x1, 0, 0, 0, 0, 0, 0, 0, 0, 0, 0, 0, 0])).set 43 (.inl [x2, 0, 0, 0, 0, 0, 0, 0, 0, 0, 0, 0, 0])).set 44 (.inl [x3, 0, 0, 0, 0, 0, 0, 0, 0, 0, 0, 0, 0])).set 45 (.inl [x4, 0, 0, 0, 0, 0, 0, 0, 0, 0, 0, 0, 0])).set 46 (.inl [x5, 0, 0, 0, 0, 0, 0, 0, 0, 0, 0, 0, 0])).set 47 (.inl [x6, 0, 0, 0, 0, 0, 0, 0, 0, 0, 0, 0, 0])).set 48 (.inl [x7, 0, 0, 0, 0, 0, 0, 0, 0, 0, 0, 0, 0])).set 49 (.inl [(-1), 0, 0, 0, 0, 0, 0, 0, 0, 0, 0, 0, 0])).set 41 (.inr (.inr (9, [.int 4, .int 1, .ref 42, .ref 43, .ref 44, .ref 45, .ref 46, .ref 47, .ref 48, .ref 49, .ref 50, .ref 51, .int 0, .int 0, .int 0, .int 0, .int 0, .int 0, .int 0, .int 0, .ref 52, .int 0, .ref 53, .int 0, .ref 54, .int 0, .ref 55, .ref 56, .ref 57, .ref 58, .int 0, .ref 59, .ref 60])))).set 51 (.inl (List.replicate 8 0)))) (j := 4) (f' := (List.replicate 8 0)) rfl f27 (Nat.le_of_ble_eq_true rfl) rfl (len_of f27) (List.set_set ..)) ?_
    refine rr rfl (s_iinc (v := 5) rfl (by decide) rfl) ?_
    refine rr rfl s_goto ?_
    refine rr rfl (s_iload_n rfl) ?_
    refine rr rfl (s_bipush (v := 8) (by decide)) ?_
    refine rr rfl (s_icF (by decide)) ?_
    refine rr rfl (s_aload_n rfl) ?_
    have f28 : a_at ((((((((((H.set 42 (.inl [x1, 0, 0, 0, 0, 0, 0, 0, 0, 0, 0, 0, 0])).set 43 (.inl [x2, 0, 0, 0, 0, 0, 0, 0, 0, 0, 0, 0, 0])).set 44 (.inl [x3, 0, 0, 0, 0, 0, 0, 0, 0, 0, 0, 0, 0])).set 45 (.inl [x4, 0, 0, 0, 0, 0, 0, 0, 0, 0, 0, 0, 0])).set 46 (.inl [x5, 0, 0, 0, 0, 0, 0, 0, 0, 0, 0, 0, 0])).set 47 (.inl [x6, 0, 0, 0, 0, 0, 0, 0, 0, 0, 0, 0, 0])).set 48 (.inl [x7, 0, 0, 0, 0, 0, 0, 0, 0, 0, 0, 0, 0])).set 49 (.inl [(-1), 0, 0, 0, 0, 0, 0, 0, 0, 0, 0, 0, 0])).set 41 (.inr (.inr (9, [.int 4, .int 1, .ref 42, .ref 43, .ref 44, .ref 45, .ref 46, .ref 47, .ref 48, .ref 49, .ref 50, .ref 51, .int 0, .int 0, .int 0, .int 0, .int 0, .int 0, .int 0, .int 0, .ref 52, .int 0, .ref 53, .int 0, .ref 54, .int 0, .ref 55, .ref 56, .ref 57, .ref 58, .int 0, .ref 59, .ref 60])))).set 51 (.inl (List.replicate 8 0))) 41 = some (.inr (.inr (9, [.int 4, .int 1, .ref 42, .ref 43, .ref 44, .ref 45, .ref 46, .ref 47, .ref 48, .ref 49, .ref 50, .ref 51, .int 0, .int 0, .int 0, .int 0, .int 0, .int 0, .int 0, .int 0, .ref 52, .int 0, .ref 53, .int 0, .ref 54, .int 0, .ref 55, .ref 56, .ref 57, .ref 58, .int 0, .ref 59, .ref 60]))) := ((at_ne (by decide)).trans f18)
    refine rr rfl (s_getf f28 rfl) ?_
    refine rr rfl (s_iload_n rfl) ?_
    refine rr rfl (s_iconst (v := 0) (by decide)) ?_
    have f29 : a_at ((((((((((H.set 42 (.inl [x1, 0, 0, 0, 0, 0, 0, 0, 0, 0, 0, 0, 0])).set 43 (.inl [x2, 0, 0, 0, 0, 0, 0, 0, 0, 0, 0, 0, 0])).set 44 (.inl [x3, 0, 0, 0, 0, 0, 0, 0, 0, 0, 0, 0, 0])).set 45 (.inl [x4, 0, 0, 0, 0, 0, 0, 0, 0, 0, 0, 0, 0])).set 46 (.inl [x5, 0, 0, 0, 0, 0, 0, 0, 0, 0, 0, 0, 0])).set 47 (.inl [x6, 0, 0, 0, 0, 0, 0, 0, 0, 0, 0, 0, 0])).set 48 (.inl [x7, 0, 0, 0, 0, 0, 0, 0, 0, 0, 0, 0, 0])).set 49 (.inl [(-1), 0, 0, 0, 0, 0, 0, 0, 0, 0, 0, 0, 0])).set 41 (.inr (.inr (9, [.int 4, .int 1, .ref 42, .ref 43, .ref 44, .ref 45, .ref 46, .ref 47, .ref 48, .ref 49, .ref 50, .ref 51, .int 0, .int 0, .int 0, .int 0, .int 0, .int 0, .int 0, .int 0, .ref 52, .int 0, .ref 53, .int 0, .ref 54, .int 0, .ref 55, .ref 56, .ref 57, .ref 58, .int 0, .ref 59, .ref 60])))).set 51 (.inl (List.replicate 8 0))) 51 = some (.inl (List.replicate 8 0)) := (at_eq f19)
    refine rr rfl (s_iastore (h' := ((((((((((H.set 42 (.inl [x1, 0, 0, 0, 0, 0, 0, 0, 0, 0, 0, 0, 0])).set 43 (.inl [x2, 0, 0, 0, 0, 0, 0, 0, 0, 0, 0, 0, 0])).set 44 (.inl [x3, 0, 0, 0, 0, 0, 0, 0, 0, 0, 0, 0, 0])).set 45 (.inl [x4, 0, 0, 0, 0, 0, 0, 0, 0, 0, 0, 0, 0])).set 46 (.inl [x5, 0, 0, 0, 0, 0, 0, 0, 0, 0, 0, 0, 0])).set 47 (.inl [x6, 0, 0, 0, 0, 0, 0, 0, 0, 0, 0, 0, 0])).set 48 (.inl [x7, 0, 0, 0, 0, 0, 0, 0, 0, 0, 0, 0, 0])).set 49 (.inl [(-1), 0, 0, 0, 0, 0, 0, 0, 0, 0, 0, 0, 0])).set 41 (.inr (.inr (9, [.int 4, .int 1, .ref 42, .ref 43, .ref 44, .ref 45, .ref 46, .ref 47, .ref 48, .ref 49, .ref 50, .ref 51, .int 0, .int 0, .int 0, .int 0, .int 0, .int 0, .int 0, .int 0, .ref 52, .int 0, .ref 53, .int 0, .ref 54, .int 0, .ref 55, .ref 56, .ref 57, .ref 58, .int 0, .ref 59, .ref 60])))).set 51 (.inl (List.replicate 8 0)))) (j := 5) (f' := (List.replicate 8 0)) rfl f29 (Nat.le_of_ble_eq_true rfl) rfl (len_of f29) (List.set_set ..)) ?_
    refine rr rfl (s_iinc (v := 6) rfl (by decide) rfl) ?_
    refine rr rfl s_goto ?_
    refine rr rfl (s_iload_n rfl) ?_
    refine rr rfl (s_bipush (v := 8) (by decide)) ?_
    refine rr rfl (s_icF (by decide)) ?_
    refine rr rfl (s_aload_n rfl) ?_
    have f30 : a_at ((((((((((H.set 42 (.inl [x1, 0, 0, 0, 0, 0, 0, 0, 0, 0, 0, 0, 0])).set 43 (.inl [x2, 0, 0, 0, 0, 0, 0, 0, 0, 0, 0, 0, 0])).set 44 (.inl [x3, 0, 0, 0, 0, 0, 0, 0, 0, 0, 0, 0, 0])).set 45 (.inl [x4, 0, 0, 0, 0, 0, 0, 0, 0, 0, 0, 0, 0])).set 46 (.inl [x5, 0, 0, 0, 0, 0, 0, 0, 0, 0, 0, 0, 0])).set 47 (.inl [x6, 0, 0, 0, 0, 0, 0, 0, 0, 0, 0, 0, 0])).set 48 (.inl [x7, 0, 0, 0, 0, 0, 0, 0, 0, 0, 0, 0, 0])).set 49 (.inl [(-1), 0, 0, 0, 0, 0, 0, 0, 0, 0, 0, 0, 0])).set 41 (.inr (.inr (9, [.int 4, .int 1, .ref 42, .ref 43, .ref 44, .ref 45, .ref 46, .ref 47, .ref 48, .ref 49, .ref 50, .ref 51, .int 0, .int 0, .int 0, .int 0, .int 0, .int 0, .int 0, .int 0, .ref 52, .int 0, .ref 53, .int 0, .ref 54, .int 0, .ref 55, .ref 56, .ref 57, .ref 58, .int 0, .ref 59, .ref 60])))).set 51 (.inl (List.replicate 8 0))) 41 = some (.inr (.inr (9, [.int 4, .int 1, .ref 42, .ref 43, .ref 44, .ref 45, .ref 46, .ref 47, .ref 48, .ref 49, .ref 50, .ref 51, .int 0, .int 0, .int 0, .int 0, .int 0, .int 0, .int 0, .int 0, .ref 52, .int 0, .ref 53, .int 0, .ref 54, .int 0, .ref 55, .ref 56, .ref 57, .ref 58, .int 0, .ref 59, .ref 60]))) := ((at_ne (by decide)).trans f18)
    refine rr rfl (s_getf f30 rfl) ?_
    refine rr rfl (s_iload_n rfl) ?_
    refine rr rfl (s_iconst (v := 0) (by decide)) ?_
    have f31 : a_at ((((((((((H.set 42 (.inl [x1, 0, 0, 0, 0, 0, 0, 0, 0, 0, 0, 0, 0])).set 43 (.inl [x2, 0, 0, 0, 0, 0, 0, 0, 0, 0, 0, 0, 0])).set 44 (.inl [x3, 0, 0, 0, 0, 0, 0, 0, 0, 0, 0, 0, 0])).set 45 (.inl [x4, 0, 0, 0, 0, 0, 0, 0, 0, 0, 0, 0, 0])).set 46 (.inl [x5, 0, 0, 0, 0, 0, 0, 0, 0, 0, 0, 0, 0])).set 47 (.inl [x6, 0, 0, 0, 0, 0, 0, 0, 0, 0, 0, 0, 0])).set 48 (.inl [x7, 0, 0, 0, 0, 0, 0, 0, 0, 0, 0, 0, 0])).set 49 (.inl [(-1), 0, 0, 0, 0, 0, 0, 0, 0, 0, 0, 0, 0])).set 41 (.inr (.inr (9, [.int 4, .int 1, .ref 42, .ref 43, .ref 44, .ref 45, .ref 46, .ref 47, .ref 48, .ref 49, .ref 50, .ref 51, .int 0, .int 0, .int 0, .int 0, .int 0, .int 0, .int 0, .int 0, .ref 52, .int 0, .ref 53, .int 0, .ref 54, .int 0, .ref 55, .ref 56, .ref 57, .ref 58, .int 0, .ref 59, .ref 60])))).set 51 (.inl (List.replicate 8 0))) 51 = some (.inl (List.replicate 8 0)) := (at_eq f19)
    refine rr rfl (s_iastore (h' := ((((((((((H.set 42 (.inl [x1, 0, 0, 0, 0, 0, 0, 0, 0, 0, 0, 0, 0])).set 43 (.inl [x2, 0, 0, 0, 0, 0, 0, 0, 0, 0, 0, 0, 0])).set 44 (.inl [x3, 0, 0, 0, 0, 0, 0, 0, 0, 0, 0, 0, 0])).set 45 (.inl [x4, 0, 0, 0, 0, 0, 0, 0, 0, 0, 0, 0, 0])).set 46 (.inl [x5, 0, 0, 0, 0, 0, 0, 0, 0, 0, 0, 0, 0])).set 47 (.inl [x6, 0, 0, 0, 0, 0, 0, 0, 0, 0, 0, 0, 0])).set 48 (.inl [x7, 0, 0, 0, 0, 0, 0, 0, 0, 0, 0, 0, 0])).set 49 (.inl [(-1), 0, 0, 0, 0, 0, 0, 0, 0, 0, 0, 0, 0])).set 41 (.inr (.inr (9, [.int 4, .int 1, .ref 42, .ref 43, .ref 44, .ref 45, .ref 46, .ref 47, .ref 48, .ref 49, .ref 50, .ref 51, .int 0, .int 0, .int 0, .int 0, .int 0, .int 0, .int 0, .int 0, .ref 52, .int 0, .ref 53, .int 0, .ref 54, .int 0, .ref 55, .ref 56, .ref 57, .ref 58, .int 0, .ref 59, .ref 60])))).set 51 (.inl (List.replicate 8 0)))) (j := 6) (f' := (List.replicate 8 0)) rfl f31 (Nat.le_of_ble_eq_true rfl) rfl (len_of f31) (List.set_set ..)) ?_
    refine rr rfl (s_iinc (v := 7) rfl (by decide) rfl) ?_
    refine rr rfl s_goto ?_
    refine rr rfl (s_iload_n rfl) ?_
    refine rr rfl (s_bipush (v := 8) (by decide)) ?_
    refine rr rfl (s_icF (by decide)) ?_
    refine rr rfl (s_aload_n rfl) ?_
    have f32 : a_at ((((((((((H.set 42 (.inl [x1, 0, 0, 0, 0, 0, 0, 0, 0, 0, 0, 0, 0])).set 43 (.inl [x2, 0, 0, 0, 0, 0, 0, 0, 0, 0, 0, 0, 0])).set 44 (.inl [x3, 0, 0, 0, 0, 0, 0, 0, 0, 0, 0, 0, 0])).set 45 (.inl [x4, 0, 0, 0, 0, 0, 0, 0, 0, 0, 0, 0, 0])).set 46 (.inl [x5, 0, 0, 0, 0, 0, 0, 0, 0, 0, 0, 0, 0])).set 47 (.inl [x6, 0, 0, 0, 0, 0, 0, 0, 0, 0, 0, 0, 0])).set 48 (.inl [x7, 0, 0, 0, 0, 0, 0, 0, 0, 0, 0, 0, 0])).set 49 (.inl [(-1), 0, 0, 0, 0, 0, 0, 0, 0, 0, 0, 0, 0])).set 41 (.inr (.inr (9, [.int 4, .int 1, .ref 42, .ref 43, .ref 44, .ref 45, .ref 46, .ref 47, .ref 48, .ref 49, .ref 50, .ref 51, .int 0, .int 0, .int 0, .int 0, .int 0, .int 0, .int 0, .int 0, .ref 52, .int 0, .ref 53, .int 0, .ref 54, .int 0, .ref 55, .ref 56, .ref 57, .ref 58, .int 0, .ref 59, .ref 60])))).set 51 (.inl (List.replicate 8 0))) 41 = some (.inr (.inr (9, [.int 4, .int 1, .ref 42, .ref 43, .ref 44, .ref 45, .ref 46, .ref 47, .ref 48, .ref 49, .ref 50, .ref 51, .int 0, .int 0, .int 0, .int 0, .int 0, .int 0, .int 0, .int 0, .ref 52, .int 0, .ref 53, .int 0, .ref 54, .int 0, .ref 55, .ref 56, .ref 57, .ref 58, .int 0, .ref 59, .ref 60]))) := ((at_ne (by decide)).trans f18)
    refine rr rfl (s_getf f32 rfl) ?_
    refine rr rfl (s_iload_n rfl) ?_
    refine rr rfl (s_iconst (v := 0) (by decide)) ?_
    have f33 : a_at ((((((((((H.set 42 (.inl [x1, 0, 0, 0, 0, 0, 0, 0, 0, 0, 0, 0, 0])).set 43 (.inl [x2, 0, 0, 0, 0, 0, 0, 0, 0, 0, 0, 0, 0])).set 44 (.inl [x3, 0, 0, 0, 0, 0, 0, 0, 0, 0, 0, 0, 0])).set 45 (.inl [x4, 0, 0, 0, 0, 0, 0, 0, 0, 0, 0, 0, 0])).set 46 (.inl [x5, 0, 0, 0, 0, 0, 0, 0, 0, 0, 0, 0, 0])).set 47 (.inl [x6, 0, 0, 0, 0, 0, 0, 0, 0, 0, 0, 0, 0])).set 48 (.inl [x7, 0, 0, 0, 0, 0, 0, 0, 0, 0, 0, 0, 0])).set 49 (.inl [(-1), 0, 0, 0, 0, 0, 0, 0, 0, 0, 0, 0, 0])).set 41 (.inr (.inr (9, [.int 4, .int 1, .ref 42, .ref 43, .ref 44, .ref 45, .ref 46, .ref 47, .ref 48, .ref 49, .ref 50, .ref 51, .int 0, .int 0, .int 0, .int 0, .int 0, .int 0, .int 0, .int 0, .ref 52, .int 0, .ref 53, .int 0, .ref 54, .int 0, .ref 55, .ref 56, .ref 57, .ref 58, .int 0, .ref 59, .ref 60])))).set 51 (.inl (List.replicate 8 0))) 51 = some (.inl (List.replicate 8 0)) := (at_eq f19)
    refine rr rfl (s_iastore (h' := ((((((((((H.set 42 (.inl [x1, 0, 0, 0, 0, 0, 0, 0, 0, 0, 0, 0, 0])).set 43 (.inl [x2, 0, 0, 0, 0, 0, 0, 0, 0, 0, 0, 0, 0])).set 44 (.inl [x3, 0, 0, 0, 0, 0, 0, 0, 0, 0, 0, 0, 0])).set 45 (.inl [x4, 0, 0, 0, 0, 0, 0, 0, 0, 0, 0, 0, 0])).set 46 (.inl [x5, 0, 0, 0, 0, 0, 0, 0, 0, 0, 0, 0, 0])).set 47 (.inl [x6, 0, 0, 0, 0, 0, 0, 0, 0, 0, 0, 0, 0])).set 48 (.inl [x7, 0, 0, 0, 0, 0, 0, 0, 0, 0, 0, 0, 0])).set 49 (.inl [(-1), 0, 0, 0, 0, 0, 0, 0, 0, 0, 0, 0, 0])).set 41 (.inr (.inr (9, [.int 4, .int 1, .ref 42, .ref 43, .ref 44, .ref 45, .ref 46, .ref 47, .ref 48, .ref 49, .ref 50, .ref 51, .int 0, .int 0, .int 0, .int 0, .int 0, .int 0, .int 0, .int 0, .ref 52, .int 0, .ref 53, .int 0, .ref 54, .int 0, .ref 55, .ref 56, .ref 57, .ref 58, .int 0, .ref 59, .ref 60])))).set 51 (.inl (List.replicate 8 0)))) (j := 7) (f' := (List.replicate 8 0)) rfl f33 (Nat.le_of_ble_eq_true rfl) rfl (len_of f33) (List.set_set ..)) ?_
    refine rr rfl (s_iinc (v := 8) rfl (by decide) rfl) ?_
    refine rr rfl s_goto ?_
    refine rr rfl (s_iload_n rfl) ?_
    refine rr rfl (s_bipush (v := 8) (by decide)) ?_
    refine rr rfl (s_icT (by decide)) ?_
    refine rr rfl (s_iconst (v := 1) (by decide)) ?_
    refine rr rfl (s_istore_n rfl) ?_
    refine rr rfl (s_iconst (v := 1) (by decide)) ?_
    refine rr rfl (s_istore_n rfl) ?_
    refine rr rfl (s_iload_n rfl) ?_
    refine rr rfl (s_ifF (by decide)) ?_
    refine rr rfl (s_iload_n rfl) ?_
    refine rr rfl (s_ifF (by decide)) ?_
    refine rr rfl (s_iconst (v := 0) (by decide)) ?_
    refine rr rfl (s_istore_n rfl) ?_
    refine rr rfl (s_iconst (v := 0) (by decide)) ?_
    refine rr rfl (s_istore_n rfl) ?_
    refine rr rfl (s_iload_n rfl) ?_
    refine rr rfl (s_aload_n rfl) ?_
    have f34 : a_at ((((((((((H.set 42 (.inl [x1, 0, 0, 0, 0, 0, 0, 0, 0, 0, 0, 0, 0])).set 43 (.inl [x2, 0, 0, 0, 0, 0, 0, 0, 0, 0, 0, 0, 0])).set 44 (.inl [x3, 0, 0, 0, 0, 0, 0, 0, 0, 0, 0, 0, 0])).set 45 (.inl [x4, 0, 0, 0, 0, 0, 0, 0, 0, 0, 0, 0, 0])).set 46 (.inl [x5, 0, 0, 0, 0, 0, 0, 0, 0, 0, 0, 0, 0])).set 47 (.inl [x6, 0, 0, 0, 0, 0, 0, 0, 0, 0, 0, 0, 0])).set 48 (.inl [x7, 0, 0, 0, 0, 0, 0, 0, 0, 0, 0, 0, 0])).set 49 (.inl [(-1), 0, 0, 0, 0, 0, 0, 0, 0, 0, 0, 0, 0])).set 41 (.inr (.inr (9, [.int 4, .int 1, .ref 42, .ref 43, .ref 44, .ref 45, .ref 46, .ref 47, .ref 48, .ref 49, .ref 50, .ref 51, .int 0, .int 0, .int 0, .int 0, .int 0, .int 0, .int 0, .int 0, .ref 52, .int 0, .ref 53, .int 0, .ref 54, .int 0, .ref 55, .ref 56, .ref 57, .ref 58, .int 0, .ref 59, .ref 60])))).set 51 (.inl (List.replicate 8 0))) 41 = some (.inr (.inr (9, [.int 4, .int 1, .ref 42, .ref 43, .ref 44, .ref 45, .ref 46, .ref 47, .ref 48, .ref 49, .ref 50, .ref 51, .int 0, .int 0, .int 0, .int 0, .int 0, .int 0, .int 0, .int 0, .ref 52, .int 0, .ref 53, .int 0, .ref 54, .int 0, .ref 55, .ref 56, .ref 57, .ref 58, .int 0, .ref 59, .ref 60]))) := ((at_ne (by decide)).trans f18)
    refine rr rfl (s_getf f34 rfl) ?_
    refine rr rfl (s_icF (by decide)) ?_
    refine rr rfl (s_iconst (v := 0) (by decide)) ?_
    refine rr rfl (s_istore rfl) ?_
    refine rr rfl (s_aload_n rfl) ?_
    refine rr rfl (s_getf f34 rfl) ?_
    refine rr rfl (s_iload_n rfl) ?_
    have f35 : a_at ((((((((((H.set 42 (.inl [x1, 0, 0, 0, 0, 0, 0, 0, 0, 0, 0, 0, 0])).set 43 (.inl [x2, 0, 0, 0, 0, 0, 0, 0, 0, 0, 0, 0, 0])).set 44 (.inl [x3, 0, 0, 0, 0, 0, 0, 0, 0, 0, 0, 0, 0])).set 45 (.inl [x4, 0, 0, 0, 0, 0, 0, 0, 0, 0, 0, 0, 0])).set 46 (.inl [x5, 0, 0, 0, 0, 0, 0, 0, 0, 0, 0, 0, 0])).set 47 (.inl [x6, 0, 0, 0, 0, 0, 0, 0, 0, 0, 0, 0, 0])).set 48 (.inl [x7, 0, 0, 0, 0, 0, 0, 0, 0, 0, 0, 0, 0])).set 49 (.inl [(-1), 0, 0, 0, 0, 0, 0, 0, 0, 0, 0, 0, 0])).set 41 (.inr (.inr (9, [.int 4, .int 1, .ref 42, .ref 43, .ref 44, .ref 45, .ref 46, .ref 47, .ref 48, .ref 49, .ref 50, .ref 51, .int 0, .int 0, .int 0, .int 0, .int 0, .int 0, .int 0, .int 0, .ref 52, .int 0, .ref 53, .int 0, .ref 54, .int 0, .ref 55, .ref 56, .ref 57, .ref 58, .int 0, .ref 59, .ref 60])))).set 51 (.inl (List.replicate 8 0))) 43 = some (.inl [x2, 0, 0, 0, 0, 0, 0, 0, 0, 0, 0, 0, 0]) := ((at_ne (by decide)).trans ((at_ne (by decide)).trans ((at_ne (by decide)).trans ((at_ne (by decide)).trans ((at_ne (by decide)).trans ((at_ne (by decide)).trans ((at_ne (by decide)).trans ((at_ne (by decide)).trans (at_eq ((at_ne (by decide)).trans F43))))))))))
    refine rr rfl (s_iaload (j := 0) rfl f35 rfl) ?_
    refine rr rfl (s_ifF (ic_nne g1)) ?_
    refine rr rfl (s_aload_n rfl) ?_
    refine rr rfl (s_getf f34 rfl) ?_
    refine rr rfl (s_aload_n rfl) ?_
    refine rr rfl (s_getf f34 rfl) ?_
    refine rr rfl (s_iload_n rfl) ?_
    have f36 : a_at ((((((((((H.set 42 (.inl [x1, 0, 0, 0, 0, 0, 0, 0, 0, 0, 0, 0, 0])).set 43 (.inl [x2, 0, 0, 0, 0, 0, 0, 0, 0, 0, 0, 0, 0])).set 44 (.inl [x3, 0, 0, 0, 0, 0, 0, 0, 0, 0, 0, 0, 0])).set 45 (.inl [x4, 0, 0, 0, 0, 0, 0, 0, 0, 0, 0, 0, 0])).set 46 (.inl [x5, 0, 0, 0, 0, 0, 0, 0, 0, 0, 0, 0, 0])).set 47 (.inl [x6, 0, 0, 0, 0, 0, 0, 0, 0, 0, 0, 0, 0])).set 48 (.inl [x7, 0, 0, 0, 0, 0, 0, 0, 0, 0, 0, 0, 0])).set 49 (.inl [(-1), 0, 0, 0, 0, 0, 0, 0, 0, 0, 0, 0, 0])).set 41 (.inr (.inr (9, [.int 4, .int 1, .ref 42, .ref 43, .ref 44, .ref 45, .ref 46, .ref 47, .ref 48, .ref 49, .ref 50, .ref 51, .int 0, .int 0, .int 0, .int 0, .int 0, .int 0, .int 0, .int 0, .ref 52, .int 0, .ref 53, .int 0, .ref 54, .int 0, .ref 55, .ref 56, .ref 57, .ref 58, .int 0, .ref 59, .ref 60])))).set 51 (.inl (List.replicate 8 0))) 45 = some (.inl [x4, 0, 0, 0, 0, 0, 0, 0, 0, 0, 0, 0, 0]) := ((at_ne (by decide)).trans ((at_ne (by decide)).trans ((at_ne (by decide)).trans ((at_ne (by decide)).trans ((at_ne (by decide)).trans ((at_ne (by decide)).trans (at_eq ((at_ne (by decide)).trans ((at_ne (by decide)).trans ((at_ne (by decide)).trans F45))))))))))
    refine rr rfl (s_iaload (j := 0) rfl f36 rfl) ?_
    have f37 : a_at ((((((((((H.set 42 (.inl [x1, 0, 0, 0, 0, 0, 0, 0, 0, 0, 0, 0, 0])).set 43 (.inl [x2, 0, 0, 0, 0, 0, 0, 0, 0, 0, 0, 0, 0])).set 44 (.inl [x3, 0, 0, 0, 0, 0, 0, 0, 0, 0, 0, 0, 0])).set 45 (.inl [x4, 0, 0, 0, 0, 0, 0, 0, 0, 0, 0, 0, 0])).set 46 (.inl [x5, 0, 0, 0, 0, 0, 0, 0, 0, 0, 0, 0, 0])).set 47 (.inl [x6, 0, 0, 0, 0, 0, 0, 0, 0, 0, 0, 0, 0])).set 48 (.inl [x7, 0, 0, 0, 0, 0, 0, 0, 0, 0, 0, 0, 0])).set 49 (.inl [(-1), 0, 0, 0, 0, 0, 0, 0, 0, 0, 0, 0, 0])).set 41 (.inr (.inr (9, [.int 4, .int 1, .ref 42, .ref 43, .ref 44, .ref 45, .ref 46, .ref 47, .ref 48, .ref 49, .ref 50, .ref 51, .int 0, .int 0, .int 0, .int 0, .int 0, .int 0, .int 0, .int 0, .ref 52, .int 0, .ref 53, .int 0, .ref 54, .int 0, .ref 55, .ref 56, .ref 57, .ref 58, .int 0, .ref 59, .ref 60])))).set 51 (.inl (List.replicate 8 0))) 51 = some (.inl (List.replicate 8 0)) := (at_eq f19)
    refine rr rfl (s_ialdR (n := 8) (x := 0) f37 g2 g3) ?_
    refine rr rfl (s_istore rfl) ?_
    refine rr rfl (s_aload_n rfl) ?_
    refine rr rfl (s_getf f34 rfl) ?_
    refine rr rfl (s_iload_n rfl) ?_
    have f38 : a_at ((((((((((H.set 42 (.inl [x1, 0, 0, 0, 0, 0, 0, 0, 0, 0, 0, 0, 0])).set 43 (.inl [x2, 0, 0, 0, 0, 0, 0, 0, 0, 0, 0, 0, 0])).set 44 (.inl [x3, 0, 0, 0, 0, 0, 0, 0, 0, 0, 0, 0, 0])).set 45 (.inl [x4, 0, 0, 0, 0, 0, 0, 0, 0, 0, 0, 0, 0])).set 46 (.inl [x5, 0, 0, 0, 0, 0, 0, 0, 0, 0, 0, 0, 0])).set 47 (.inl [x6, 0, 0, 0, 0, 0, 0, 0, 0, 0, 0, 0, 0])).set 48 (.inl [x7, 0, 0, 0, 0, 0, 0, 0, 0, 0, 0, 0, 0])).set 49 (.inl [(-1), 0, 0, 0, 0, 0, 0, 0, 0, 0, 0, 0, 0])).set 41 (.inr (.inr (9, [.int 4, .int 1, .ref 42, .ref 43, .ref 44, .ref 45, .ref 46, .ref 47, .ref 48, .ref 49, .ref 50, .ref 51, .int 0, .int 0, .int 0, .int 0, .int 0, .int 0, .int 0, .int 0, .ref 52, .int 0, .ref 53, .int 0, .ref 54, .int 0, .ref 55, .ref 56, .ref 57, .ref 58, .int 0, .ref 59, .ref 60])))).set 51 (.inl (List.replicate 8 0))) 46 = some (.inl [x5, 0, 0, 0, 0, 0, 0, 0, 0, 0, 0, 0, 0]) := ((at_ne (by decide)).trans ((at_ne (by decide)).trans ((at_ne (by decide)).trans ((at_ne (by decide)).trans ((at_ne (by decide)).trans (at_eq ((at_ne (by decide)).trans ((at_ne (by decide)).trans ((at_ne (by decide)).trans ((at_ne (by decide)).trans F46))))))))))
    refine rr rfl (s_iaload (j := 0) rfl f38 rfl) ?_
    refine rr rfl (s_iconst (v := (-1)) (by decide)) ?_
    refine rr rfl (s_icF (ic_neq g4)) ?_
    refine rr rfl (s_aload_n rfl) ?_
    refine rr rfl (s_getf f34 rfl) ?_
    refine rr rfl (s_aload_n rfl) ?_
    refine rr rfl (s_getf f34 rfl) ?_
    refine rr rfl (s_iload_n rfl) ?_
    refine rr rfl (s_iaload (j := 0) rfl f38 rfl) ?_
    refine rr rfl (s_ialdR (n := 8) (x := 0) f37 g5 g6) ?_
    refine rr rfl (s_iload rfl) ?_
    refine rr rfl (s_icT (by decide)) ?_
    refine rr rfl (s_iload rfl) ?_
    refine rr rfl (s_istore rfl) ?_
    refine rr rfl (s_aload_n rfl) ?_
    refine rr rfl (s_getf f34 rfl) ?_
    refine rr rfl (s_iload_n rfl) ?_
    have f39 : a_at ((((((((((H.set 42 (.inl [x1, 0, 0, 0, 0, 0, 0, 0, 0, 0, 0, 0, 0])).set 43 (.inl [x2, 0, 0, 0, 0, 0, 0, 0, 0, 0, 0, 0, 0])).set 44 (.inl [x3, 0, 0, 0, 0, 0, 0, 0, 0, 0, 0, 0, 0])).set 45 (.inl [x4, 0, 0, 0, 0, 0, 0, 0, 0, 0, 0, 0, 0])).set 46 (.inl [x5, 0, 0, 0, 0, 0, 0, 0, 0, 0, 0, 0, 0])).set 47 (.inl [x6, 0, 0, 0, 0, 0, 0, 0, 0, 0, 0, 0, 0])).set 48 (.inl [x7, 0, 0, 0, 0, 0, 0, 0, 0, 0, 0, 0, 0])).set 49 (.inl [(-1), 0, 0, 0, 0, 0, 0, 0, 0, 0, 0, 0, 0])).set 41 (.inr (.inr (9, [.int 4, .int 1, .ref 42, .ref 43, .ref 44, .ref 45, .ref 46, .ref 47, .ref 48, .ref 49, .ref 50, .ref 51, .int 0, .int 0, .int 0, .int 0, .int 0, .int 0, .int 0, .int 0, .ref 52, .int 0, .ref 53, .int 0, .ref 54, .int 0, .ref 55, .ref 56, .ref 57, .ref 58, .int 0, .ref 59, .ref 60])))).set 51 (.inl (List.replicate 8 0))) 47 = some (.inl [x6, 0, 0, 0, 0, 0, 0, 0, 0, 0, 0, 0, 0]) := ((at_ne (by decide)).trans ((at_ne (by decide)).trans ((at_ne (by decide)).trans ((at_ne (by decide)).trans (at_eq ((at_ne (by decide)).trans ((at_ne (by decide)).trans ((at_ne (by decide)).trans ((at_ne (by decide)).trans ((at_ne (by decide)).trans F47))))))))))
    refine rr rfl (s_iaload (j := 0) rfl f39 rfl) ?_
    refine rr rfl (s_iconst (v := (-1)) (by decide)) ?_
    refine rr rfl (s_icF (ic_neq g7)) ?_
    refine rr rfl (s_aload_n rfl) ?_
    refine rr rfl (s_getf f34 rfl) ?_
    refine rr rfl (s_aload_n rfl) ?_
    refine rr rfl (s_getf f34 rfl) ?_
    refine rr rfl (s_iload_n rfl) ?_
    refine rr rfl (s_iaload (j := 0) rfl f39 rfl) ?_
    refine rr rfl (s_ialdR (n := 8) (x := 0) f37 g8 g9) ?_
    refine rr rfl (s_iconst (v := 1) (by decide)) ?_
    refine rr rfl (s_iadd (v := 1) (by decide)) ?_
    refine rr rfl (s_iload rfl) ?_
    refine rr rfl (s_icF (by decide)) ?_
    refine rr rfl (s_aload_n rfl) ?_
    refine rr rfl (s_getf f34 rfl) ?_
    refine rr rfl (s_aload_n rfl) ?_
    refine rr rfl (s_getf f34 rfl) ?_
    refine rr rfl (s_iload_n rfl) ?_
    refine rr rfl (s_iaload (j := 0) rfl f39 rfl) ?_
    refine rr rfl (s_ialdR (n := 8) (x := 0) f37 g8 g9) ?_
    refine rr rfl (s_iconst (v := 1) (by decide)) ?_
    refine rr rfl (s_iadd (v := 1) (by decide)) ?_
    refine rr rfl s_goto ?_
    refine rr rfl (s_istore rfl) ?_
    refine rr rfl (s_iload rfl) ?_
    refine rr rfl (s_aload_n rfl) ?_
    refine rr rfl (s_getf f34 rfl) ?_
    refine rr rfl (s_aload_n rfl) ?_
    refine rr rfl (s_getf f34 rfl) ?_
    refine rr rfl (s_iload_n rfl) ?_
    have f40 : a_at ((((((((((H.set 42 (.inl [x1, 0, 0, 0, 0, 0, 0, 0, 0, 0, 0, 0, 0])).set 43 (.inl [x2, 0, 0, 0, 0, 0, 0, 0, 0, 0, 0, 0, 0])).set 44 (.inl [x3, 0, 0, 0, 0, 0, 0, 0, 0, 0, 0, 0, 0])).set 45 (.inl [x4, 0, 0, 0, 0, 0, 0, 0, 0, 0, 0, 0, 0])).set 46 (.inl [x5, 0, 0, 0, 0, 0, 0, 0, 0, 0, 0, 0, 0])).set 47 (.inl [x6, 0, 0, 0, 0, 0, 0, 0, 0, 0, 0, 0, 0])).set 48 (.inl [x7, 0, 0, 0, 0, 0, 0, 0, 0, 0, 0, 0, 0])).set 49 (.inl [(-1), 0, 0, 0, 0, 0, 0, 0, 0, 0, 0, 0, 0])).set 41 (.inr (.inr (9, [.int 4, .int 1, .ref 42, .ref 43, .ref 44, .ref 45, .ref 46, .ref 47, .ref 48, .ref 49, .ref 50, .ref 51, .int 0, .int 0, .int 0, .int 0, .int 0, .int 0, .int 0, .int 0, .ref 52, .int 0, .ref 53, .int 0, .ref 54, .int 0, .ref 55, .ref 56, .ref 57, .ref 58, .int 0, .ref 59, .ref 60])))).set 51 (.inl (List.replicate 8 0))) 44 = some (.inl [x3, 0, 0, 0, 0, 0, 0, 0, 0, 0, 0, 0, 0]) := ((at_ne (by decide)).trans ((at_ne (by decide)).trans ((at_ne (by decide)).trans ((at_ne (by decide)).trans ((at_ne (by decide)).trans ((at_ne (by decide)).trans ((at_ne (by decide)).trans (at_eq ((at_ne (by decide)).trans ((at_ne (by decide)).trans F44))))))))))
    refine rr rfl (s_iaload (j := 0) rfl f40 rfl) ?_
    refine rr rfl (s_ialdR (n := 8) (x := 0) f37 g10 g11) ?_
    refine rr rfl (s_icF (by decide)) ?_
    refine rr rfl (s_aload_n rfl) ?_
    refine rr rfl (s_getf f34 rfl) ?_
    refine rr rfl (s_aload_n rfl) ?_
    refine rr rfl (s_getf f34 rfl) ?_
    refine rr rfl (s_iload_n rfl) ?_
    refine rr rfl (s_iaload (j := 0) rfl f40 rfl) ?_
    refine rr rfl (s_iload rfl) ?_
    refine rr rfl (s_iastR (h' := ((((((((((H.set 42 (.inl [x1, 0, 0, 0, 0, 0, 0, 0, 0, 0, 0, 0, 0])).set 43 (.inl [x2, 0, 0, 0, 0, 0, 0, 0, 0, 0, 0, 0, 0])).set 44 (.inl [x3, 0, 0, 0, 0, 0, 0, 0, 0, 0, 0, 0, 0])).set 45 (.inl [x4, 0, 0, 0, 0, 0, 0, 0, 0, 0, 0, 0, 0])).set 46 (.inl [x5, 0, 0, 0, 0, 0, 0, 0, 0, 0, 0, 0, 0])).set 47 (.inl [x6, 0, 0, 0, 0, 0, 0, 0, 0, 0, 0, 0, 0])).set 48 (.inl [x7, 0, 0, 0, 0, 0, 0, 0, 0, 0, 0, 0, 0])).set 49 (.inl [(-1), 0, 0, 0, 0, 0, 0, 0, 0, 0, 0, 0, 0])).set 41 (.inr (.inr (9, [.int 4, .int 1, .ref 42, .ref 43, .ref 44, .ref 45, .ref 46, .ref 47, .ref 48, .ref 49, .ref 50, .ref 51, .int 0, .int 0, .int 0, .int 0, .int 0, .int 0, .int 0, .int 0, .ref 52, .int 0, .ref 53, .int 0, .ref 54, .int 0, .ref 55, .ref 56, .ref 57, .ref 58, .int 0, .ref 59, .ref 60])))).set 51 (.inl ((List.replicate 8 (0 : Int32)).set (Int32.toNatClampNeg x3) 1)))) (n := 8) f37 g10 g11 (len_of f37) (List.set_set ..)) ?_
    refine rr rfl (s_iconst (v := 1) (by decide)) ?_
    refine rr rfl (s_istore_n rfl) ?_
    refine rr rfl (s_iload_n rfl) ?_
    refine rr rfl (s_ifF (by decide)) ?_
    refine rr rfl (s_iload rfl) ?_
    refine rr rfl (s_bipush (v := 8) (by decide)) ?_
    refine rr rfl (s_icF (by decide)) ?_
    refine rr rfl (s_iconst (v := 1) (by decide)) ?_
    refine rr rfl s_goto ?_
    refine rr rfl (s_istore_n rfl) ?_
    refine rr rfl (s_iinc (v := 1) rfl (by decide) rfl) ?_
    refine rr rfl s_goto ?_
    refine rr rfl (s_iload_n rfl) ?_
    refine rr rfl (s_aload_n rfl) ?_
    have f41 : a_at ((((((((((H.set 42 (.inl [x1, 0, 0, 0, 0, 0, 0, 0, 0, 0, 0, 0, 0])).set 43 (.inl [x2, 0, 0, 0, 0, 0, 0, 0, 0, 0, 0, 0, 0])).set 44 (.inl [x3, 0, 0, 0, 0, 0, 0, 0, 0, 0, 0, 0, 0])).set 45 (.inl [x4, 0, 0, 0, 0, 0, 0, 0, 0, 0, 0, 0, 0])).set 46 (.inl [x5, 0, 0, 0, 0, 0, 0, 0, 0, 0, 0, 0, 0])).set 47 (.inl [x6, 0, 0, 0, 0, 0, 0, 0, 0, 0, 0, 0, 0])).set 48 (.inl [x7, 0, 0, 0, 0, 0, 0, 0, 0, 0, 0, 0, 0])).set 49 (.inl [(-1), 0, 0, 0, 0, 0, 0, 0, 0, 0, 0, 0, 0])).set 41 (.inr (.inr (9, [.int 4, .int 1, .ref 42, .ref 43, .ref 44, .ref 45, .ref 46, .ref 47, .ref 48, .ref 49, .ref 50, .ref 51, .int 0, .int 0, .int 0, .int 0, .int 0, .int 0, .int 0, .int 0, .ref 52, .int 0, .ref 53, .int 0, .ref 54, .int 0, .ref 55, .ref 56, .ref 57, .ref 58, .int 0, .ref 59, .ref 60])))).set 51 (.inl ((List.replicate 8 (0 : Int32)).set (Int32.toNatClampNeg x3) 1))) 41 = some (.inr (.inr (9, [.int 4, .int 1, .ref 42, .ref 43, .ref 44, .ref 45, .ref 46, .ref 47, .ref 48, .ref 49, .ref 50, .ref 51, .int 0, .int 0, .int 0, .int 0, .int 0, .int 0, .int 0, .int 0, .ref 52, .int 0, .ref 53, .int 0, .ref 54, .int 0, .ref 55, .ref 56, .ref 57, .ref 58, .int 0, .ref 59, .ref 60]))) := ((at_ne (by decide)).trans f18)
    refine rr rfl (s_getf f41 rfl) ?_
    refine rr rfl (s_icT (by decide)) ?_
    refine rr rfl s_goto ?_
    refine rr rfl (s_iload_n rfl) ?_
    refine rr rfl (s_ifF (by decide)) ?_
    refine rr rfl (s_iload_n rfl) ?_
    refine rr rfl (s_ifF (by decide)) ?_
    refine rr rfl (s_iconst (v := 0) (by decide)) ?_
    refine rr rfl (s_istore_n rfl) ?_
    refine rr rfl (s_iconst (v := 0) (by decide)) ?_
    refine rr rfl (s_istore_n rfl) ?_
    refine rr rfl (s_iload_n rfl) ?_
    refine rr rfl (s_aload_n rfl) ?_
    refine rr rfl (s_getf f41 rfl) ?_
    refine rr rfl (s_icF (by decide)) ?_
    refine rr rfl (s_iconst (v := 0) (by decide)) ?_
    refine rr rfl (s_istore rfl) ?_
    refine rr rfl (s_aload_n rfl) ?_
    refine rr rfl (s_getf f41 rfl) ?_
    refine rr rfl (s_iload_n rfl) ?_
    have f42 : a_at ((((((((((H.set 42 (.inl [x1, 0, 0, 0, 0, 0, 0, 0, 0, 0, 0, 0, 0])).set 43 (.inl [x2, 0, 0, 0, 0, 0, 0, 0, 0, 0, 0, 0, 0])).set 44 (.inl [x3, 0, 0, 0, 0, 0, 0, 0, 0, 0, 0, 0, 0])).set 45 (.inl [x4, 0, 0, 0, 0, 0, 0, 0, 0, 0, 0, 0, 0])).set 46 (.inl [x5, 0, 0, 0, 0, 0, 0, 0, 0, 0, 0, 0, 0])).set 47 (.inl [x6, 0, 0, 0, 0, 0, 0, 0, 0, 0, 0, 0, 0])).set 48 (.inl [x7, 0, 0, 0, 0, 0, 0, 0, 0, 0, 0, 0, 0])).set 49 (.inl [(-1), 0, 0, 0, 0, 0, 0, 0, 0, 0, 0, 0, 0])).set 41 (.inr (.inr (9, [.int 4, .int 1, .ref 42, .ref 43, .ref 44, .ref 45, .ref 46, .ref 47, .ref 48, .ref 49, .ref 50, .ref 51, .int 0, .int 0, .int 0, .int 0, .int 0, .int 0, .int 0, .int 0, .ref 52, .int 0, .ref 53, .int 0, .ref 54, .int 0, .ref 55, .ref 56, .ref 57, .ref 58, .int 0, .ref 59, .ref 60])))).set 51 (.inl ((List.replicate 8 (0 : Int32)).set (Int32.toNatClampNeg x3) 1))) 43 = some (.inl [x2, 0, 0, 0, 0, 0, 0, 0, 0, 0, 0, 0, 0]) := ((at_ne (by decide)).trans ((at_ne (by decide)).trans ((at_ne (by decide)).trans ((at_ne (by decide)).trans ((at_ne (by decide)).trans ((at_ne (by decide)).trans ((at_ne (by decide)).trans ((at_ne (by decide)).trans (at_eq ((at_ne (by decide)).trans F43))))))))))
    refine rr rfl (s_iaload (j := 0) rfl f42 rfl) ?_
    refine rr rfl (s_ifF (ic_nne g1)) ?_
    refine rr rfl (s_aload_n rfl) ?_
    refine rr rfl (s_getf f41 rfl) ?_
    refine rr rfl (s_aload_n rfl) ?_
    refine rr rfl (s_getf f41 rfl) ?_
    refine rr rfl (s_iload_n rfl) ?_
    have f43 : a_at ((((((((((H.set 42 (.inl [x1, 0, 0, 0, 0, 0, 0, 0, 0, 0, 0, 0, 0])).set 43 (.inl [x2, 0, 0, 0, 0, 0, 0, 0, 0, 0, 0, 0, 0])).set 44 (.inl [x3, 0, 0, 0, 0, 0, 0, 0, 0, 0, 0, 0, 0])).set 45 (.inl [x4, 0, 0, 0, 0, 0, 0, 0, 0, 0, 0, 0, 0])).set 46 (.inl [x5, 0, 0, 0, 0, 0, 0, 0, 0, 0, 0, 0, 0])).set 47 (.inl [x6, 0, 0, 0, 0, 0, 0, 0, 0, 0, 0, 0, 0])).set 48 (.inl [x7, 0, 0, 0, 0, 0, 0, 0, 0, 0, 0, 0, 0])).set 49 (.inl [(-1), 0, 0, 0, 0, 0, 0, 0, 0, 0, 0, 0, 0])).set 41 (.inr (.inr (9, [.int 4, .int 1, .ref 42, .ref 43, .ref 44, .ref 45, .ref 46, .ref 47, .ref 48, .ref 49, .ref 50, .ref 51, .int 0, .int 0, .int 0, .int 0, .int 0, .int 0, .int 0, .int 0, .ref 52, .int 0, .ref 53, .int 0, .ref 54, .int 0, .ref 55, .ref 56, .ref 57, .ref 58, .int 0, .ref 59, .ref 60])))).set 51 (.inl ((List.replicate 8 (0 : Int32)).set (Int32.toNatClampNeg x3) 1))) 45 = some (.inl [x4, 0, 0, 0, 0, 0, 0, 0, 0, 0, 0, 0, 0]) := ((at_ne (by decide)).trans ((at_ne (by decide)).trans ((at_ne (by decide)).trans ((at_ne (by decide)).trans ((at_ne (by decide)).trans ((at_ne (by decide)).trans (at_eq ((at_ne (by decide)).trans ((at_ne (by decide)).trans ((at_ne (by decide)).trans F45))))))))))
    refine rr rfl (s_iaload (j := 0) rfl f43 rfl) ?_
    have f44 : a_at ((((((((((H.set 42 (.inl [x1, 0, 0, 0, 0, 0, 0, 0, 0, 0, 0, 0, 0])).set 43 (.inl [x2, 0, 0, 0, 0, 0, 0, 0, 0, 0, 0, 0, 0])).set 44 (.inl [x3, 0, 0, 0, 0, 0, 0, 0, 0, 0, 0, 0, 0])).set 45 (.inl [x4, 0, 0, 0, 0, 0, 0, 0, 0, 0, 0, 0, 0])).set 46 (.inl [x5, 0, 0, 0, 0, 0, 0, 0, 0, 0, 0, 0, 0])).set 47 (.inl [x6, 0, 0, 0, 0, 0, 0, 0, 0, 0, 0, 0, 0])).set 48 (.inl [x7, 0, 0, 0, 0, 0, 0, 0, 0, 0, 0, 0, 0])).set 49 (.inl [(-1), 0, 0, 0, 0, 0, 0, 0, 0, 0, 0, 0, 0])).set 41 (.inr (.inr (9, [.int 4, .int 1, .ref 42, .ref 43, .ref 44, .ref 45, .ref 46, .ref 47, .ref 48, .ref 49, .ref 50, .ref 51, .int 0, .int 0, .int 0, .int 0, .int 0, .int 0, .int 0, .int 0, .ref 52, .int 0, .ref 53, .int 0, .ref 54, .int 0, .ref 55, .ref 56, .ref 57, .ref 58, .int 0, .ref 59, .ref 60])))).set 51 (.inl ((List.replicate 8 (0 : Int32)).set (Int32.toNatClampNeg x3) 1))) 51 = some (.inl ((List.replicate 8 (0 : Int32)).set (Int32.toNatClampNeg x3) 1)) := (at_eq f19)
    refine rr rfl (s_ialdH f44 g12 g10 g11) ?_
    refine rr rfl (s_istore rfl) ?_
    refine rr rfl (s_aload_n rfl) ?_
    refine rr rfl (s_getf f41 rfl) ?_
    refine rr rfl (s_iload_n rfl) ?_
    have f45 : a_at ((((((((((H.set 42 (.inl [x1, 0, 0, 0, 0, 0, 0, 0, 0, 0, 0, 0, 0])).set 43 (.inl [x2, 0, 0, 0, 0, 0, 0, 0, 0, 0, 0, 0, 0])).set 44 (.inl [x3, 0, 0, 0, 0, 0, 0, 0, 0, 0, 0, 0, 0])).set 45 (.inl [x4, 0, 0, 0, 0, 0, 0, 0, 0, 0, 0, 0, 0])).set 46 (.inl [x5, 0, 0, 0, 0, 0, 0, 0, 0, 0, 0, 0, 0])).set 47 (.inl [x6, 0, 0, 0, 0, 0, 0, 0, 0, 0, 0, 0, 0])).set 48 (.inl [x7, 0, 0, 0, 0, 0, 0, 0, 0, 0, 0, 0, 0])).set 49 (.inl [(-1), 0, 0, 0, 0, 0, 0, 0, 0, 0, 0, 0, 0])).set 41 (.inr (.inr (9, [.int 4, .int 1, .ref 42, .ref 43, .ref 44, .ref 45, .ref 46, .ref 47, .ref 48, .ref 49, .ref 50, .ref 51, .int 0, .int 0, .int 0, .int 0, .int 0, .int 0, .int 0, .int 0, .ref 52, .int 0, .ref 53, .int 0, .ref 54, .int 0, .ref 55, .ref 56, .ref 57, .ref 58, .int 0, .ref 59, .ref 60])))).set 51 (.inl ((List.replicate 8 (0 : Int32)).set (Int32.toNatClampNeg x3) 1))) 46 = some (.inl [x5, 0, 0, 0, 0, 0, 0, 0, 0, 0, 0, 0, 0]) := ((at_ne (by decide)).trans ((at_ne (by decide)).trans ((at_ne (by decide)).trans ((at_ne (by decide)).trans ((at_ne (by decide)).trans (at_eq ((at_ne (by decide)).trans ((at_ne (by decide)).trans ((at_ne (by decide)).trans ((at_ne (by decide)).trans F46))))))))))
    refine rr rfl (s_iaload (j := 0) rfl f45 rfl) ?_
    refine rr rfl (s_iconst (v := (-1)) (by decide)) ?_
    refine rr rfl (s_icF (ic_neq g4)) ?_
    refine rr rfl (s_aload_n rfl) ?_
    refine rr rfl (s_getf f41 rfl) ?_
    refine rr rfl (s_aload_n rfl) ?_
    refine rr rfl (s_getf f41 rfl) ?_
    refine rr rfl (s_iload_n rfl) ?_
    refine rr rfl (s_iaload (j := 0) rfl f45 rfl) ?_
    refine rr rfl (s_ialdN f44 g13 g5 g6 g10) ?_
    refine rr rfl (s_iload rfl) ?_
    refine rr rfl (s_icT (by decide)) ?_
    refine rr rfl (s_iload rfl) ?_
    refine rr rfl (s_istore rfl) ?_
    refine rr rfl (s_aload_n rfl) ?_
    refine rr rfl (s_getf f41 rfl) ?_
    refine rr rfl (s_iload_n rfl) ?_
    have f46 : a_at ((((((((((H.set 42 (.inl [x1, 0, 0, 0, 0, 0, 0, 0, 0, 0, 0, 0, 0])).set 43 (.inl [x2, 0, 0, 0, 0, 0, 0, 0, 0, 0, 0, 0, 0])).set 44 (.inl [x3, 0, 0, 0, 0, 0, 0, 0, 0, 0, 0, 0, 0])).set 45 (.inl [x4, 0, 0, 0, 0, 0, 0, 0, 0, 0, 0, 0, 0])).set 46 (.inl [x5, 0, 0, 0, 0, 0, 0, 0, 0, 0, 0, 0, 0])).set 47 (.inl [x6, 0, 0, 0, 0, 0, 0, 0, 0, 0, 0, 0, 0])).set 48 (.inl [x7, 0, 0, 0, 0, 0, 0, 0, 0, 0, 0, 0, 0])).set 49 (.inl [(-1), 0, 0, 0, 0, 0, 0, 0, 0, 0, 0, 0, 0])).set 41 (.inr (.inr (9, [.int 4, .int 1, .ref 42, .ref 43, .ref 44, .ref 45, .ref 46, .ref 47, .ref 48, .ref 49, .ref 50, .ref 51, .int 0, .int 0, .int 0, .int 0, .int 0, .int 0, .int 0, .int 0, .ref 52, .int 0, .ref 53, .int 0, .ref 54, .int 0, .ref 55, .ref 56, .ref 57, .ref 58, .int 0, .ref 59, .ref 60])))).set 51 (.inl ((List.replicate 8 (0 : Int32)).set (Int32.toNatClampNeg x3) 1))) 47 = some (.inl [x6, 0, 0, 0, 0, 0, 0, 0, 0, 0, 0, 0, 0]) := ((at_ne (by decide)).trans ((at_ne (by decide)).trans ((at_ne (by decide)).trans ((at_ne (by decide)).trans (at_eq ((at_ne (by decide)).trans ((at_ne (by decide)).trans ((at_ne (by decide)).trans ((at_ne (by decide)).trans ((at_ne (by decide)).trans F47))))))))))
    refine rr rfl (s_iaload (j := 0) rfl f46 rfl) ?_
    refine rr rfl (s_iconst (v := (-1)) (by decide)) ?_
    refine rr rfl (s_icF (ic_neq g7)) ?_
    refine rr rfl (s_aload_n rfl) ?_
    refine rr rfl (s_getf f41 rfl) ?_
    refine rr rfl (s_aload_n rfl) ?_
    refine rr rfl (s_getf f41 rfl) ?_
    refine rr rfl (s_iload_n rfl) ?_
    refine rr rfl (s_iaload (j := 0) rfl f46 rfl) ?_
    refine rr rfl (s_ialdH f44 g14 g10 g11) ?_
    refine rr rfl (s_iconst (v := 1) (by decide)) ?_
    refine rr rfl (s_iadd (v := 2) (by decide)) ?_
    refine rr rfl (s_iload rfl) ?_
    refine rr rfl (s_icF (by decide)) ?_
    refine rr rfl (s_aload_n rfl) ?_
    refine rr rfl (s_getf f41 rfl) ?_
    refine rr rfl (s_aload_n rfl) ?_
    refine rr rfl (s_getf f41 rfl) ?_
    refine rr rfl (s_iload_n rfl) ?_
    refine rr rfl (s_iaload (j := 0) rfl f46 rfl) ?_
    refine rr rfl (s_ialdH f44 g14 g10 g11) ?_
    refine rr rfl (s_iconst (v := 1) (by decide)) ?_
    refine rr rfl (s_iadd (v := 2) (by decide)) ?_
    refine rr rfl s_goto ?_
    refine rr rfl (s_istore rfl) ?_
    refine rr rfl (s_iload rfl) ?_
    refine rr rfl (s_aload_n rfl) ?_
    refine rr rfl (s_getf f41 rfl) ?_
    refine rr rfl (s_aload_n rfl) ?_
    refine rr rfl (s_getf f41 rfl) ?_
    refine rr rfl (s_iload_n rfl) ?_
    have f47 : a_at ((((((((((H.set 42 (.inl [x1, 0, 0, 0, 0, 0, 0, 0, 0, 0, 0, 0, 0])).set 43 (.inl [x2, 0, 0, 0, 0, 0, 0, 0, 0, 0, 0, 0, 0])).set 44 (.inl [x3, 0, 0, 0, 0, 0, 0, 0, 0, 0, 0, 0, 0])).set 45 (.inl [x4, 0, 0, 0, 0, 0, 0, 0, 0, 0, 0, 0, 0])).set 46 (.inl [x5, 0, 0, 0, 0, 0, 0, 0, 0, 0, 0, 0, 0])).set 47 (.inl [x6, 0, 0, 0, 0, 0, 0, 0, 0, 0, 0, 0, 0])).set 48 (.inl [x7, 0, 0, 0, 0, 0, 0, 0, 0, 0, 0, 0, 0])).set 49 (.inl [(-1), 0, 0, 0, 0, 0, 0, 0, 0, 0, 0, 0, 0])).set 41 (.inr (.inr (9, [.int 4, .int 1, .ref 42, .ref 43, .ref 44, .ref 45, .ref 46, .ref 47, .ref 48, .ref 49, .ref 50, .ref 51, .int 0, .int 0, .int 0, .int 0, .int 0, .int 0, .int 0, .int 0, .ref 52, .int 0, .ref 53, .int 0, .ref 54, .int 0, .ref 55, .ref 56, .ref 57, .ref 58, .int 0, .ref 59, .ref 60])))).set 51 (.inl ((List.replicate 8 (0 : Int32)).set (Int32.toNatClampNeg x3) 1))) 44 = some (.inl [x3, 0, 0, 0, 0, 0, 0, 0, 0, 0, 0, 0, 0]) := ((at_ne (by decide)).trans ((at_ne (by decide)).trans ((at_ne (by decide)).trans ((at_ne (by decide)).trans ((at_ne (by decide)).trans ((at_ne (by decide)).trans ((at_ne (by decide)).trans (at_eq ((at_ne (by decide)).trans ((at_ne (by decide)).trans F44))))))))))
    refine rr rfl (s_iaload (j := 0) rfl f47 rfl) ?_
    refine rr rfl (s_ialdH f44 rfl g10 g11) ?_
    refine rr rfl (s_icF (by decide)) ?_
    refine rr rfl (s_aload_n rfl) ?_
    refine rr rfl (s_getf f41 rfl) ?_
    refine rr rfl (s_aload_n rfl) ?_
    refine rr rfl (s_getf f41 rfl) ?_
    refine rr rfl (s_iload_n rfl) ?_
    refine rr rfl (s_iaload (j := 0) rfl f47 rfl) ?_
    refine rr rfl (s_iload rfl) ?_
    refine rr rfl (s_iastH (h' := ((((((((((H.set 42 (.inl [x1, 0, 0, 0, 0, 0, 0, 0, 0, 0, 0, 0, 0])).set 43 (.inl [x2, 0, 0, 0, 0, 0, 0, 0, 0, 0, 0, 0, 0])).set 44 (.inl [x3, 0, 0, 0, 0, 0, 0, 0, 0, 0, 0, 0, 0])).set 45 (.inl [x4, 0, 0, 0, 0, 0, 0, 0, 0, 0, 0, 0, 0])).set 46 (.inl [x5, 0, 0, 0, 0, 0, 0, 0, 0, 0, 0, 0, 0])).set 47 (.inl [x6, 0, 0, 0, 0, 0, 0, 0, 0, 0, 0, 0, 0])).set 48 (.inl [x7, 0, 0, 0, 0, 0, 0, 0, 0, 0, 0, 0, 0])).set 49 (.inl [(-1), 0, 0, 0, 0, 0, 0, 0, 0, 0, 0, 0, 0])).set 41 (.inr (.inr (9, [.int 4, .int 1, .ref 42, .ref 43, .ref 44, .ref 45, .ref 46, .ref 47, .ref 48, .ref 49, .ref 50, .ref 51, .int 0, .int 0, .int 0, .int 0, .int 0, .int 0, .int 0, .int 0, .ref 52, .int 0, .ref 53, .int 0, .ref 54, .int 0, .ref 55, .ref 56, .ref 57, .ref 58, .int 0, .ref 59, .ref 60])))).set 51 (.inl ((List.replicate 8 (0 : Int32)).set (Int32.toNatClampNeg x3) 2)))) (v := 2) f44 rfl g10 g11 (len_of f44) (List.set_set ..)) ?_
    refine rr rfl (s_iconst (v := 1) (by decide)) ?_
    refine rr rfl (s_istore_n rfl) ?_
    refine rr rfl (s_iload_n rfl) ?_
    refine rr rfl (s_ifF (by decide)) ?_
    refine rr rfl (s_iload rfl) ?_
    refine rr rfl (s_bipush (v := 8) (by decide)) ?_
    refine rr rfl (s_icF (by decide)) ?_
    refine rr rfl (s_iconst (v := 1) (by decide)) ?_
    refine rr rfl s_goto ?_
    refine rr rfl (s_istore_n rfl) ?_
    refine rr rfl (s_iinc (v := 1) rfl (by decide) rfl) ?_
    refine rr rfl s_goto ?_
    refine rr rfl (s_iload_n rfl) ?_
    refine rr rfl (s_aload_n rfl) ?_
    have f48 : a_at ((((((((((H.set 42 (.inl [x1, 0, 0, 0, 0, 0, 0, 0, 0, 0, 0, 0, 0])).set 43 (.inl [x2, 0, 0, 0, 0, 0, 0, 0, 0, 0, 0, 0, 0])).set 44 (.inl [x3, 0, 0, 0, 0, 0, 0, 0, 0, 0, 0, 0, 0])).set 45 (.inl [x4, 0, 0, 0, 0, 0, 0, 0, 0, 0, 0, 0, 0])).set 46 (.inl [x5, 0, 0, 0, 0, 0, 0, 0, 0, 0, 0, 0, 0])).set 47 (.inl [x6, 0, 0, 0, 0, 0, 0, 0, 0, 0, 0, 0, 0])).set 48 (.inl [x7, 0, 0, 0, 0, 0, 0, 0, 0, 0, 0, 0, 0])).set 49 (.inl [(-1), 0, 0, 0, 0, 0, 0, 0, 0, 0, 0, 0, 0])).set 41 (.inr (.inr (9, [.int 4, .int 1, .ref 42, .ref 43, .ref 44, .ref 45, .ref 46, .ref 47, .ref 48, .ref 49, .ref 50, .ref 51, .int 0, .int 0, .int 0, .int 0, .int 0, .int 0, .int 0, .int 0, .ref 52, .int 0, .ref 53, .int 0, .ref 54, .int 0, .ref 55, .ref 56, .ref 57, .ref 58, .int 0, .ref 59, .ref 60])))).set 51 (.inl ((List.replicate 8 (0 : Int32)).set (Int32.toNatClampNeg x3) 2))) 41 = some (.inr (.inr (9, [.int 4, .int 1, .ref 42, .ref 43, .ref 44, .ref 45, .ref 46, .ref 47, .ref 48, .ref 49, .ref 50, .ref 51, .int 0, .int 0, .int 0, .int 0, .int 0, .int 0, .int 0, .int 0, .ref 52, .int 0, .ref 53, .int 0, .ref 54, .int 0, .ref 55, .ref 56, .ref 57, .ref 58, .int 0, .ref 59, .ref 60]))) := ((at_ne (by decide)).trans f18)
    refine rr rfl (s_getf f48 rfl) ?_
    refine rr rfl (s_icT (by decide)) ?_
    refine rr rfl s_goto ?_
    refine rr rfl (s_iload_n rfl) ?_
    refine rr rfl (s_ifF (by decide)) ?_
    refine rr rfl (s_iload_n rfl) ?_
    refine rr rfl (s_ifF (by decide)) ?_
    refine rr rfl (s_iconst (v := 0) (by decide)) ?_
    refine rr rfl (s_istore_n rfl) ?_
    refine rr rfl (s_iconst (v := 0) (by decide)) ?_
    refine rr rfl (s_istore_n rfl) ?_
    refine rr rfl (s_iload_n rfl) ?_
    refine rr rfl (s_aload_n rfl) ?_
    refine rr rfl (s_getf f48 rfl) ?_
    refine rr rfl (s_icF (by decide)) ?_
    refine rr rfl (s_iconst (v := 0) (by decide)) ?_
    refine rr rfl (s_istore rfl) ?_
    refine rr rfl (s_aload_n rfl) ?_
    refine rr rfl (s_getf f48 rfl) ?_
    refine rr rfl (s_iload_n rfl) ?_
    have f49 : a_at ((((((((((H.set 42 (.inl [x1, 0, 0, 0, 0, 0, 0, 0, 0, 0, 0, 0, 0])).set 43 (.inl [x2, 0, 0, 0, 0, 0, 0, 0, 0, 0, 0, 0, 0])).set 44 (.inl [x3, 0, 0, 0, 0, 0, 0, 0, 0, 0, 0, 0, 0])).set 45 (.inl [x4, 0, 0, 0, 0, 0, 0, 0, 0, 0, 0, 0, 0])).set 46 (.inl [x5, 0, 0, 0, 0, 0, 0, 0, 0, 0, 0, 0, 0])).set 47 (.inl [x6, 0, 0, 0, 0, 0, 0, 0, 0, 0, 0, 0, 0])).set 48 (.inl [x7, 0, 0, 0, 0, 0, 0, 0, 0, 0, 0, 0, 0])).set 49 (.inl [(-1), 0, 0, 0, 0, 0, 0, 0, 0, 0, 0, 0, 0])).set 41 (.inr (.inr (9, [.int 4, .int 1, .ref 42, .ref 43, .ref 44, .ref 45, .ref 46, .ref 47, .ref 48, .ref 49, .ref 50, .ref 51, .int 0, .int 0, .int 0, .int 0, .int 0, .int 0, .int 0, .int 0, .ref 52, .int 0, .ref 53, .int 0, .ref 54, .int 0, .ref 55, .ref 56, .ref 57, .ref 58, .int 0, .ref 59, .ref 60])))).set 51 (.inl ((List.replicate 8 (0 : Int32)).set (Int32.toNatClampNeg x3) 2))) 43 = some (.inl [x2, 0, 0, 0, 0, 0, 0, 0, 0, 0, 0, 0, 0]) := ((at_ne (by decide)).trans ((at_ne (by decide)).trans ((at_ne (by decide)).trans ((at_ne (by decide)).trans ((at_ne (by decide)).trans ((at_ne (by decide)).trans ((at_ne (by decide)).trans ((at_ne (by decide)).trans (at_eq ((at_ne (by decide)).trans F43))))))))))
    refine rr rfl (s_iaload (j := 0) rfl f49 rfl) ?_
    refine rr rfl (s_ifF (ic_nne g1)) ?_
    refine rr rfl (s_aload_n rfl) ?_
    refine rr rfl (s_getf f48 rfl) ?_
    refine rr rfl (s_aload_n rfl) ?_
    refine rr rfl (s_getf f48 rfl) ?_
    refine rr rfl (s_iload_n rfl) ?_
    have f50 : a_at ((((((((((H.set 42 (.inl [x1, 0, 0, 0, 0, 0, 0, 0, 0, 0, 0, 0, 0])).set 43 (.inl [x2, 0, 0, 0, 0, 0, 0, 0, 0, 0, 0, 0, 0])).set 44 (.inl [x3, 0, 0, 0, 0, 0, 0, 0, 0, 0, 0, 0, 0])).set 45 (.inl [x4, 0, 0, 0, 0, 0, 0, 0, 0, 0, 0, 0, 0])).set 46 (.inl [x5, 0, 0, 0, 0, 0, 0, 0, 0, 0, 0, 0, 0])).set 47 (.inl [x6, 0, 0, 0, 0, 0, 0, 0, 0, 0, 0, 0, 0])).set 48 (.inl [x7, 0, 0, 0, 0, 0, 0, 0, 0, 0, 0, 0, 0])).set 49 (.inl [(-1), 0, 0, 0, 0, 0, 0, 0, 0, 0, 0, 0, 0])).set 41 (.inr (.inr (9, [.int 4, .int 1, .ref 42, .ref 43, .ref 44, .ref 45, .ref 46, .ref 47, .ref 48, .ref 49, .ref 50, .ref 51, .int 0, .int 0, .int 0, .int 0, .int 0, .int 0, .int 0, .int 0, .ref 52, .int 0, .ref 53, .int 0, .ref 54, .int 0, .ref 55, .ref 56, .ref 57, .ref 58, .int 0, .ref 59, .ref 60])))).set 51 (.inl ((List.replicate 8 (0 : Int32)).set (Int32.toNatClampNeg x3) 2))) 45 = some (.inl [x4, 0, 0, 0, 0, 0, 0, 0, 0, 0, 0, 0, 0]) := ((at_ne (by decide)).trans ((at_ne (by decide)).trans ((at_ne (by decide)).trans ((at_ne (by decide)).trans ((at_ne (by decide)).trans ((at_ne (by decide)).trans (at_eq ((at_ne (by decide)).trans ((at_ne (by decide)).trans ((at_ne (by decide)).trans F45))))))))))
    refine rr rfl (s_iaload (j := 0) rfl f50 rfl) ?_
    have f51 : a_at ((((((((((H.set 42 (.inl [x1, 0, 0, 0, 0, 0, 0, 0, 0, 0, 0, 0, 0])).set 43 (.inl [x2, 0, 0, 0, 0, 0, 0, 0, 0, 0, 0, 0, 0])).set 44 (.inl [x3, 0, 0, 0, 0, 0, 0, 0, 0, 0, 0, 0, 0])).set 45 (.inl [x4, 0, 0, 0, 0, 0, 0, 0, 0, 0, 0, 0, 0])).set 46 (.inl [x5, 0, 0, 0, 0, 0, 0, 0, 0, 0, 0, 0, 0])).set 47 (.inl [x6, 0, 0, 0, 0, 0, 0, 0, 0, 0, 0, 0, 0])).set 48 (.inl [x7, 0, 0, 0, 0, 0, 0, 0, 0, 0, 0, 0, 0])).set 49 (.inl [(-1), 0, 0, 0, 0, 0, 0, 0, 0, 0, 0, 0, 0])).set 41 (.inr (.inr (9, [.int 4, .int 1, .ref 42, .ref 43, .ref 44, .ref 45, .ref 46, .ref 47, .ref 48, .ref 49, .ref 50, .ref 51, .int 0, .int 0, .int 0, .int 0, .int 0, .int 0, .int 0, .int 0, .ref 52, .int 0, .ref 53, .int 0, .ref 54, .int 0, .ref 55, .ref 56, .ref 57, .ref 58, .int 0, .ref 59, .ref 60])))).set 51 (.inl ((List.replicate 8 (0 : Int32)).set (Int32.toNatClampNeg x3) 2))) 51 = some (.inl ((List.replicate 8 (0 : Int32)).set (Int32.toNatClampNeg x3) 2)) := (at_eq f19)
    refine rr rfl (s_ialdH f51 g12 g10 g11) ?_
    refine rr rfl (s_istore rfl) ?_
    refine rr rfl (s_aload_n rfl) ?_
    refine rr rfl (s_getf f48 rfl) ?_
    refine rr rfl (s_iload_n rfl) ?_
    have f52 : a_at ((((((((((H.set 42 (.inl [x1, 0, 0, 0, 0, 0, 0, 0, 0, 0, 0, 0, 0])).set 43 (.inl [x2, 0, 0, 0, 0, 0, 0, 0, 0, 0, 0, 0, 0])).set 44 (.inl [x3, 0, 0, 0, 0, 0, 0, 0, 0, 0, 0, 0, 0])).set 45 (.inl [x4, 0, 0, 0, 0, 0, 0, 0, 0, 0, 0, 0, 0])).set 46 (.inl [x5, 0, 0, 0, 0, 0, 0, 0, 0, 0, 0, 0, 0])).set 47 (.inl [x6, 0, 0, 0, 0, 0, 0, 0, 0, 0, 0, 0, 0])).set 48 (.inl [x7, 0, 0, 0, 0, 0, 0, 0, 0, 0, 0, 0, 0])).set 49 (.inl [(-1), 0, 0, 0, 0, 0, 0, 0, 0, 0, 0, 0, 0])).set 41 (.inr (.inr (9, [.int 4, .int 1, .ref 42, .ref 43, .ref 44, .ref 45, .ref 46, .ref 47, .ref 48, .ref 49, .ref 50, .ref 51, .int 0, .int 0, .int 0, .int 0, .int 0, .int 0, .int 0, .int 0, .ref 52, .int 0, .ref 53, .int 0, .ref 54, .int 0, .ref 55, .ref 56, .ref 57, .ref 58, .int 0, .ref 59, .ref 60])))).set 51 (.inl ((List.replicate 8 (0 : Int32)).set (Int32.toNatClampNeg x3) 2))) 46 = some (.inl [x5, 0, 0, 0, 0, 0, 0, 0, 0, 0, 0, 0, 0]) := ((at_ne (by decide)).trans ((at_ne (by decide)).trans ((at_ne (by decide)).trans ((at_ne (by decide)).trans ((at_ne (by decide)).trans (at_eq ((at_ne (by decide)).trans ((at_ne (by decide)).trans ((at_ne (by decide)).trans ((at_ne (by decide)).trans F46))))))))))
    refine rr rfl (s_iaload (j := 0) rfl f52 rfl) ?_
    refine rr rfl (s_iconst (v := (-1)) (by decide)) ?_
    refine rr rfl (s_icF (ic_neq g4)) ?_
    refine rr rfl (s_aload_n rfl) ?_
    refine rr rfl (s_getf f48 rfl) ?_
    refine rr rfl (s_aload_n rfl) ?_
    refine rr rfl (s_getf f48 rfl) ?_
    refine rr rfl (s_iload_n rfl) ?_
    refine rr rfl (s_iaload (j := 0) rfl f52 rfl) ?_
    refine rr rfl (s_ialdN f51 g13 g5 g6 g10) ?_
    refine rr rfl (s_iload rfl) ?_
    refine rr rfl (s_icT (by decide)) ?_
    refine rr rfl (s_iload rfl) ?_
    refine rr rfl (s_istore rfl) ?_
    refine rr rfl (s_aload_n rfl) ?_
    refine rr rfl (s_getf f48 rfl) ?_
    refine rr rfl (s_iload_n rfl) ?_
    have f53 : a_at ((((((((((H.set 42 (.inl [x1, 0, 0, 0, 0, 0, 0, 0, 0, 0, 0, 0, 0])).set 43 (.inl [x2, 0, 0, 0, 0, 0, 0, 0, 0, 0, 0, 0, 0])).set 44 (.inl [x3, 0, 0, 0, 0, 0, 0, 0, 0, 0, 0, 0, 0])).set 45 (.inl [x4, 0, 0, 0, 0, 0, 0, 0, 0, 0, 0, 0, 0])).set 46 (.inl [x5, 0, 0, 0, 0, 0, 0, 0, 0, 0, 0, 0, 0])).set 47 (.inl [x6, 0, 0, 0, 0, 0, 0, 0, 0, 0, 0, 0, 0])).set 48 (.inl [x7, 0, 0, 0, 0, 0, 0, 0, 0, 0, 0, 0, 0])).set 49 (.inl [(-1), 0, 0, 0, 0, 0, 0, 0, 0, 0, 0, 0, 0])).set 41 (.inr (.inr (9, [.int 4, .int 1, .ref 42, .ref 43, .ref 44, .ref 45, .ref 46, .ref 47, .ref 48, .ref 49, .ref 50, .ref 51, .int 0, .int 0, .int 0, .int 0, .int 0, .int 0, .int 0, .int 0, .ref 52, .int 0, .ref 53, .int 0, .ref 54, .int 0, .ref 55, .ref 56, .ref 57, .ref 58, .int 0, .ref 59, .ref 60])))).set 51 (.inl ((List.replicate 8 (0 : Int32)).set (Int32.toNatClampNeg x3) 2))) 47 = some (.inl [x6, 0, 0, 0, 0, 0, 0, 0, 0, 0, 0, 0, 0]) := ((at_ne (by decide)).trans ((at_ne (by decide)).trans ((at_ne (by decide)).trans ((at_ne (by decide)).trans (at_eq ((at_ne (by decide)).trans ((at_ne (by decide)).trans ((at_ne (by decide)).trans ((at_ne (by decide)).trans ((at_ne (by decide)).trans F47))))))))))
    refine rr rfl (s_iaload (j := 0) rfl f53 rfl) ?_
    refine rr rfl (s_iconst (v := (-1)) (by decide)) ?_
    refine rr rfl (s_icF (ic_neq g7)) ?_
    refine rr rfl (s_aload_n rfl) ?_
    refine rr rfl (s_getf f48 rfl) ?_
    refine rr rfl (s_aload_n rfl) ?_
    refine rr rfl (s_getf f48 rfl) ?_
    refine rr rfl (s_iload_n rfl) ?_
    refine rr rfl (s_iaload (j := 0) rfl f53 rfl) ?_
    refine rr rfl (s_ialdH f51 g14 g10 g11) ?_
    refine rr rfl (s_iconst (v := 1) (by decide)) ?_
    refine rr rfl (s_iadd (v := 3) (by decide)) ?_
    refine rr rfl (s_iload rfl) ?_
    refine rr rfl (s_icF (by decide)) ?_
    refine rr rfl (s_aload_n rfl) ?_
    refine rr rfl (s_getf f48 rfl) ?_
    refine rr rfl (s_aload_n rfl) ?_
    refine rr rfl (s_getf f48 rfl) ?_
    refine rr rfl (s_iload_n rfl) ?_
    refine rr rfl (s_iaload (j := 0) rfl f53 rfl) ?_
    refine rr rfl (s_ialdH f51 g14 g10 g11) ?_
    refine rr rfl (s_iconst (v := 1) (by decide)) ?_
    refine rr rfl (s_iadd (v := 3) (by decide)) ?_
    refine rr rfl s_goto ?_
    refine rr rfl (s_istore rfl) ?_
    refine rr rfl (s_iload rfl) ?_
    refine rr rfl (s_aload_n rfl) ?_
    refine rr rfl (s_getf f48 rfl) ?_
    refine rr rfl (s_aload_n rfl) ?_
    refine rr rfl (s_getf f48 rfl) ?_
    refine rr rfl (s_iload_n rfl) ?_
    have f54 : a_at ((((((((((H.set 42 (.inl [x1, 0, 0, 0, 0, 0, 0, 0, 0, 0, 0, 0, 0])).set 43 (.inl [x2, 0, 0, 0, 0, 0, 0, 0, 0, 0, 0, 0, 0])).set 44 (.inl [x3, 0, 0, 0, 0, 0, 0, 0, 0, 0, 0, 0, 0])).set 45 (.inl [x4, 0, 0, 0, 0, 0, 0, 0, 0, 0, 0, 0, 0])).set 46 (.inl [x5, 0, 0, 0, 0, 0, 0, 0, 0, 0, 0, 0, 0])).set 47 (.inl [x6, 0, 0, 0, 0, 0, 0, 0, 0, 0, 0, 0, 0])).set 48 (.inl [x7, 0, 0, 0, 0, 0, 0, 0, 0, 0, 0, 0, 0])).set 49 (.inl [(-1), 0, 0, 0, 0, 0, 0, 0, 0, 0, 0, 0, 0])).set 41 (.inr (.inr (9, [.int 4, .int 1, .ref 42, .ref 43, .ref 44, .ref 45, .ref 46, .ref 47, .ref 48, .ref 49, .ref 50, .ref 51, .int 0, .int 0, .int 0, .int 0, .int 0, .int 0, .int 0, .int 0, .ref 52, .int 0, .ref 53, .int 0, .ref 54, .int 0, .ref 55, .ref 56, .ref 57, .ref 58, .int 0, .ref 59, .ref 60])))).set 51 (.inl ((List.replicate 8 (0 : Int32)).set (Int32.toNatClampNeg x3) 2))) 44 = some (.inl [x3, 0, 0, 0, 0, 0, 0, 0, 0, 0, 0, 0, 0]) := ((at_ne (by decide)).trans ((at_ne (by decide)).trans ((at_ne (by decide)).trans ((at_ne (by decide)).trans ((at_ne (by decide)).trans ((at_ne (by decide)).trans ((at_ne (by decide)).trans (at_eq ((at_ne (by decide)).trans ((at_ne (by decide)).trans F44))))))))))
    refine rr rfl (s_iaload (j := 0) rfl f54 rfl) ?_
    refine rr rfl (s_ialdH f51 rfl g10 g11) ?_
    refine rr rfl (s_icF (by decide)) ?_
    refine rr rfl (s_aload_n rfl) ?_
    refine rr rfl (s_getf f48 rfl) ?_
    refine rr rfl (s_aload_n rfl) ?_
    refine rr rfl (s_getf f48 rfl) ?_
    refine rr rfl (s_iload_n rfl) ?_
    refine rr rfl (s_iaload (j := 0) rfl f54 rfl) ?_
    refine rr rfl (s_iload rfl) ?_
    refine rr rfl (s_iastH (h' := ((((((((((H.set 42 (.inl [x1, 0, 0, 0, 0, 0, 0, 0, 0, 0, 0, 0, 0])).set 43 (.inl [x2, 0, 0, 0, 0, 0, 0, 0, 0, 0, 0, 0, 0])).set 44 (.inl [x3, 0, 0, 0, 0, 0, 0, 0, 0, 0, 0, 0, 0])).set 45 (.inl [x4, 0, 0, 0, 0, 0, 0, 0, 0, 0, 0, 0, 0])).set 46 (.inl [x5, 0, 0, 0, 0, 0, 0, 0, 0, 0, 0, 0, 0])).set 47 (.inl [x6, 0, 0, 0, 0, 0, 0, 0, 0, 0, 0, 0, 0])).set 48 (.inl [x7, 0, 0, 0, 0, 0, 0, 0, 0, 0, 0, 0, 0])).set 49 (.inl [(-1), 0, 0, 0, 0, 0, 0, 0, 0, 0, 0, 0, 0])).set 41 (.inr (.inr (9, [.int 4, .int 1, .ref 42, .ref 43, .ref 44, .ref 45, .ref 46, .ref 47, .ref 48, .ref 49, .ref 50, .ref 51, .int 0, .int 0, .int 0, .int 0, .int 0, .int 0, .int 0, .int 0, .ref 52, .int 0, .ref 53, .int 0, .ref 54, .int 0, .ref 55, .ref 56, .ref 57, .ref 58, .int 0, .ref 59, .ref 60])))).set 51 (.inl ((List.replicate 8 (0 : Int32)).set (Int32.toNatClampNeg x3) 3)))) (v := 3) f51 rfl g10 g11 (len_of f51) (List.set_set ..)) ?_
    refine rr rfl (s_iconst (v := 1) (by decide)) ?_
    refine rr rfl (s_istore_n rfl) ?_
    refine rr rfl (s_iload_n rfl) ?_
    refine rr rfl (s_ifF (by decide)) ?_
    refine rr rfl (s_iload rfl) ?_
    refine rr rfl (s_bipush (v := 8) (by decide)) ?_
    refine rr rfl (s_icF (by decide)) ?_
    refine rr rfl (s_iconst (v := 1) (by decide)) ?_
    refine rr rfl s_goto ?_
    refine rr rfl (s_istore_n rfl) ?_
    refine rr rfl (s_iinc (v := 1) rfl (by decide) rfl) ?_
    refine rr rfl s_goto ?_
    refine rr rfl (s_iload_n rfl) ?_
    refine rr rfl (s_aload_n rfl) ?_
    have f55 : a_at ((((((((((H.set 42 (.inl [x1, 0, 0, 0, 0, 0, 0, 0, 0, 0, 0, 0, 0])).set 43 (.inl [x2, 0, 0, 0, 0, 0, 0, 0, 0, 0, 0, 0, 0])).set 44 (.inl [x3, 0, 0, 0, 0, 0, 0, 0, 0, 0, 0, 0, 0])).set 45 (.inl [x4, 0, 0, 0, 0, 0, 0, 0, 0, 0, 0, 0, 0])).set 46 (.inl [x5, 0, 0, 0, 0, 0, 0, 0, 0, 0, 0, 0, 0])).set 47 (.inl [x6, 0, 0, 0, 0, 0, 0, 0, 0, 0, 0, 0, 0])).set 48 (.inl [x7, 0, 0, 0, 0, 0, 0, 0, 0, 0, 0, 0, 0])).set 49 (.inl [(-1), 0, 0, 0, 0, 0, 0, 0, 0, 0, 0, 0, 0])).set 41 (.inr (.inr (9, [.int 4, .int 1, .ref 42, .ref 43, .ref 44, .ref 45, .ref 46, .ref 47, .ref 48, .ref 49, .ref 50, .ref 51, .int 0, .int 0, .int 0, .int 0, .int 0, .int 0, .int 0, .int 0, .ref 52, .int 0, .ref 53, .int 0, .ref 54, .int 0, .ref 55, .ref 56, .ref 57, .ref 58, .int 0, .ref 59, .ref 60])))).set 51 (.inl ((List.replicate 8 (0 : Int32)).set (Int32.toNatClampNeg x3) 3))) 41 = some (.inr (.inr (9, [.int 4, .int 1, .ref 42, .ref 43, .ref 44, .ref 45, .ref 46, .ref 47, .ref 48, .ref 49, .ref 50, .ref 51, .int 0, .int 0, .int 0, .int 0, .int 0, .int 0, .int 0, .int 0, .ref 52, .int 0, .ref 53, .int 0, .ref 54, .int 0, .ref 55, .ref 56, .ref 57, .ref 58, .int 0, .ref 59, .ref 60]))) := ((at_ne (by decide)).trans f18)
    refine rr rfl (s_getf f55 rfl) ?_
    refine rr rfl (s_icT (by decide)) ?_
    refine rr rfl s_goto ?_
    refine rr rfl (s_iload_n rfl) ?_
    refine rr rfl (s_ifF (by decide)) ?_
    refine rr rfl (s_iload_n rfl) ?_
    refine rr rfl (s_ifF (by decide)) ?_
    refine rr rfl (s_iconst (v := 0) (by decide)) ?_
    refine rr rfl (s_istore_n rfl) ?_
    refine rr rfl (s_iconst (v := 0) (by decide)) ?_
    refine rr rfl (s_istore_n rfl) ?_
    refine rr rfl (s_iload_n rfl) ?_
    refine rr rfl (s_aload_n rfl) ?_
    refine rr rfl (s_getf f55 rfl) ?_
    refine rr rfl (s_icF (by decide)) ?_
    refine rr rfl (s_iconst (v := 0) (by decide)) ?_
    refine rr rfl (s_istore rfl) ?_
    refine rr rfl (s_aload_n rfl) ?_
    refine rr rfl (s_getf f55 rfl) ?_
    refine rr rfl (s_iload_n rfl) ?_
    have f56 : a_at ((((((((((H.set 42 (.inl [x1, 0, 0, 0, 0, 0, 0, 0, 0, 0, 0, 0, 0])).set 43 (.inl [x2, 0, 0, 0, 0, 0, 0, 0, 0, 0, 0, 0, 0])).set 44 (.inl [x3, 0, 0, 0, 0, 0, 0, 0, 0, 0, 0, 0, 0])).set 45 (.inl [x4, 0, 0, 0, 0, 0, 0, 0, 0, 0, 0, 0, 0])).set 46 (.inl [x5, 0, 0, 0, 0, 0, 0, 0, 0, 0, 0, 0, 0])).set 47 (.inl [x6, 0, 0, 0, 0, 0, 0, 0, 0, 0, 0, 0, 0])).set 48 (.inl [x7, 0, 0, 0, 0, 0, 0, 0, 0, 0, 0, 0, 0])).set 49 (.inl [(-1), 0, 0, 0, 0, 0, 0, 0, 0, 0, 0, 0, 0])).set 41 (.inr (.inr (9, [.int 4, .int 1, .ref 42, .ref 43, .ref 44, .ref 45, .ref 46, .ref 47, .ref 48, .ref 49, .ref 50, .ref 51, .int 0, .int 0, .int 0, .int 0, .int 0, .int 0, .int 0, .int 0, .ref 52, .int 0, .ref 53, .int 0, .ref 54, .int 0, .ref 55, .ref 56, .ref 57, .ref 58, .int 0, .ref 59, .ref 60])))).set 51 (.inl ((List.replicate 8 (0 : Int32)).set (Int32.toNatClampNeg x3) 3))) 43 = some (.inl [x2, 0, 0, 0, 0, 0, 0, 0, 0, 0, 0, 0, 0]) := ((at_ne (by decide)).trans ((at_ne (by decide)).trans ((at_ne (by decide)).trans ((at_ne (by decide)).trans ((at_ne (by decide)).trans ((at_ne (by decide)).trans ((at_ne (by decide)).trans ((at_ne (by decide)).trans (at_eq ((at_ne (by decide)).trans F43))))))))))
    refine rr rfl (s_iaload (j := 0) rfl f56 rfl) ?_
    refine rr rfl (s_ifF (ic_nne g1)) ?_
    refine rr rfl (s_aload_n rfl) ?_
    refine rr rfl (s_getf f55 rfl) ?_
    refine rr rfl (s_aload_n rfl) ?_
    refine rr rfl (s_getf f55 rfl) ?_
    refine rr rfl (s_iload_n rfl) ?_
    have f57 : a_at ((((((((((H.set 42 (.inl [x1, 0, 0, 0, 0, 0, 0, 0, 0, 0, 0, 0, 0])).set 43 (.inl [x2, 0, 0, 0, 0, 0, 0, 0, 0, 0, 0, 0, 0])).set 44 (.inl [x3, 0, 0, 0, 0, 0, 0, 0, 0, 0, 0, 0, 0])).set 45 (.inl [x4, 0, 0, 0, 0, 0, 0, 0, 0, 0, 0, 0, 0])).set 46 (.inl [x5, 0, 0, 0, 0, 0, 0, 0, 0, 0, 0, 0, 0])).set 47 (.inl [x6, 0, 0, 0, 0, 0, 0, 0, 0, 0, 0, 0, 0])).set 48 (.inl [x7, 0, 0, 0, 0, 0, 0, 0, 0, 0, 0, 0, 0])).set 49 (.inl [(-1), 0, 0, 0, 0, 0, 0, 0, 0, 0, 0, 0, 0])).set 41 (.inr (.inr (9, [.int 4, .int 1, .ref 42, .ref 43, .ref 44, .ref 45, .ref 46, .ref 47, .ref 48, .ref 49, .ref 50, .ref 51, .int 0, .int 0, .int 0, .int 0, .int 0, .int 0, .int 0, .int 0, .ref 52, .int 0, .ref 53, .int 0, .ref 54, .int 0, .ref 55, .ref 56, .ref 57, .ref 58, .int 0, .ref 59, .ref 60])))).set 51 (.inl ((List.replicate 8 (0 : Int32)).set (Int32.toNatClampNeg x3) 3))) 45 = some (.inl [x4, 0, 0, 0, 0, 0, 0, 0, 0, 0, 0, 0, 0]) := ((at_ne (by decide)).trans ((at_ne (by decide)).trans ((at_ne (by decide)).trans ((at_ne (by decide)).trans ((at_ne (by decide)).trans ((at_ne (by decide)).trans (at_eq ((at_ne (by decide)).trans ((at_ne (by decide)).trans ((at_ne (by decide)).trans F45))))))))))
    refine rr rfl (s_iaload (j := 0) rfl f57 rfl) ?_
    have f58 : a_at ((((((((((H.set 42 (.inl [x1, 0, 0, 0, 0, 0, 0, 0, 0, 0, 0, 0, 0])).set 43 (.inl [x2, 0, 0, 0, 0, 0, 0, 0, 0, 0, 0, 0, 0])).set 44 (.inl [x3, 0, 0, 0, 0, 0, 0, 0, 0, 0, 0, 0, 0])).set 45 (.inl [x4, 0, 0, 0, 0, 0, 0, 0, 0, 0, 0, 0, 0])).set 46 (.inl [x5, 0, 0, 0, 0, 0, 0, 0, 0, 0, 0, 0, 0])).set 47 (.inl [x6, 0, 0, 0, 0, 0, 0, 0, 0, 0, 0, 0, 0])).set 48 (.inl [x7, 0, 0, 0, 0, 0, 0, 0, 0, 0, 0, 0, 0])).set 49 (.inl [(-1), 0, 0, 0, 0, 0, 0, 0, 0, 0, 0, 0, 0])).set 41 (.inr (.inr (9, [.int 4, .int 1, .ref 42, .ref 43, .ref 44, .ref 45, .ref 46, .ref 47, .ref 48, .ref 49, .ref 50, .ref 51, .int 0, .int 0, .int 0, .int 0, .int 0, .int 0, .int 0, .int 0, .ref 52, .int 0, .ref 53, .int 0, .ref 54, .int 0, .ref 55, .ref 56, .ref 57, .ref 58, .int 0, .ref 59, .ref 60])))).set 51 (.inl ((List.replicate 8 (0 : Int32)).set (Int32.toNatClampNeg x3) 3))) 51 = some (.inl ((List.replicate 8 (0 : Int32)).set (Int32.toNatClampNeg x3) 3)) := (at_eq f19)
    refine rr rfl (s_ialdH f58 g12 g10 g11) ?_
    refine rr rfl (s_istore rfl) ?_
    refine rr rfl (s_aload_n rfl) ?_
    refine rr rfl (s_getf f55 rfl) ?_
    refine rr rfl (s_iload_n rfl) ?_
    have f59 : a_at ((((((((((H.set 42 (.inl [x1, 0, 0, 0, 0, 0, 0, 0, 0, 0, 0, 0, 0])).set 43 (.inl [x2, 0, 0, 0, 0, 0, 0, 0, 0, 0, 0, 0, 0])).set 44 (.inl [x3, 0, 0, 0, 0, 0, 0, 0, 0, 0, 0, 0, 0])).set 45 (.inl [x4, 0, 0, 0, 0, 0, 0, 0, 0, 0, 0, 0, 0])).set 46 (.inl [x5, 0, 0, 0, 0, 0, 0, 0, 0, 0, 0, 0, 0])).set 47 (.inl [x6, 0, 0, 0, 0, 0, 0, 0, 0, 0, 0, 0, 0])).set 48 (.inl [x7, 0, 0, 0, 0, 0, 0, 0, 0, 0, 0, 0, 0])).set 49 (.inl [(-1), 0, 0, 0, 0, 0, 0, 0, 0, 0, 0, 0, 0])).set 41 (.inr (.inr (9, [.int 4, .int 1, .ref 42, .ref 43, .ref 44, .ref 45, .ref 46, .ref 47, .ref 48, .ref 49, .ref 50, .ref 51, .int 0, .int 0, .int 0, .int 0, .int 0, .int 0, .int 0, .int 0, .ref 52, .int 0, .ref 53, .int 0, .ref 54, .int 0, .ref 55, .ref 56, .ref 57, .ref 58, .int 0, .ref 59, .ref 60])))).set 51 (.inl ((List.replicate 8 (0 : Int32)).set (Int32.toNatClampNeg x3) 3))) 46 = some (.inl [x5, 0, 0, 0, 0, 0, 0, 0, 0, 0, 0, 0, 0]) := ((at_ne (by decide)).trans ((at_ne (by decide)).trans ((at_ne (by decide)).trans ((at_ne (by decide)).trans ((at_ne (by decide)).trans (at_eq ((at_ne (by decide)).trans ((at_ne (by decide)).trans ((at_ne (by decide)).trans ((at_ne (by decide)).trans F46))))))))))
    refine rr rfl (s_iaload (j := 0) rfl f59 rfl) ?_
    refine rr rfl (s_iconst (v := (-1)) (by decide)) ?_
    refine rr rfl (s_icF (ic_neq g4)) ?_
    refine rr rfl (s_aload_n rfl) ?_
    refine rr rfl (s_getf f55 rfl) ?_
    refine rr rfl (s_aload_n rfl) ?_
    refine rr rfl (s_getf f55 rfl) ?_
    refine rr rfl (s_iload_n rfl) ?_
    refine rr rfl (s_iaload (j := 0) rfl f59 rfl) ?_
    refine rr rfl (s_ialdN f58 g13 g5 g6 g10) ?_
    refine rr rfl (s_iload rfl) ?_
    refine rr rfl (s_icT (by decide)) ?_
    refine rr rfl (s_iload rfl) ?_
    refine rr rfl (s_istore rfl) ?_
    refine rr rfl (s_aload_n rfl) ?_
    refine rr rfl (s_getf f55 rfl) ?_
    refine rr rfl (s_iload_n rfl) ?_
    have f60 : a_at ((((((((((H.set 42 (.inl [x1, 0, 0, 0, 0, 0, 0, 0, 0, 0, 0, 0, 0])).set 43 (.inl [x2, 0, 0, 0, 0, 0, 0, 0, 0, 0, 0, 0, 0])).set 44 (.inl [x3, 0, 0, 0, 0, 0, 0, 0, 0, 0, 0, 0, 0])).set 45 (.inl [x4, 0, 0, 0, 0, 0, 0, 0, 0, 0, 0, 0, 0])).set 46 (.inl [x5, 0, 0, 0, 0, 0, 0, 0, 0, 0, 0, 0, 0])).set 47 (.inl [x6, 0, 0, 0, 0, 0, 0, 0, 0, 0, 0, 0, 0])).set 48 (.inl [x7, 0, 0, 0, 0, 0, 0, 0, 0, 0, 0, 0, 0])).set 49 (.inl [(-1), 0, 0, 0, 0, 0, 0, 0, 0, 0, 0, 0, 0])).set 41 (.inr (.inr (9, [.int 4, .int 1, .ref 42, .ref 43, .ref 44, .ref 45, .ref 46, .ref 47, .ref 48, .ref 49, .ref 50, .ref 51, .int 0, .int 0, .int 0, .int 0, .int 0, .int 0, .int 0, .int 0, .ref 52, .int 0, .ref 53, .int 0, .ref 54, .int 0, .ref 55, .ref 56, .ref 57, .ref 58, .int 0, .ref 59, .ref 60])))).set 51 (.inl ((List.replicate 8 (0 : Int32)).set (Int32.toNatClampNeg x3) 3))) 47 = some (.inl [x6, 0, 0, 0, 0, 0, 0, 0, 0, 0, 0, 0, 0]) := ((at_ne (by decide)).trans ((at_ne (by decide)).trans ((at_ne (by decide)).trans ((at_ne (by decide)).trans (at_eq ((at_ne (by decide)).trans ((at_ne (by decide)).trans ((at_ne (by decide)).trans ((at_ne (by decide)).trans ((at_ne (by decide)).trans F47))))))))))
    refine rr rfl (s_iaload (j := 0) rfl f60 rfl) ?_
    refine rr rfl (s_iconst (v := (-1)) (by decide)) ?_
    refine rr rfl (s_icF (ic_neq g7)) ?_
    refine rr rfl (s_aload_n rfl) ?_
    refine rr rfl (s_getf f55 rfl) ?_
    refine rr rfl (s_aload_n rfl) ?_
    refine rr rfl (s_getf f55 rfl) ?_
    refine rr rfl (s_iload_n rfl) ?_
    refine rr rfl (s_iaload (j := 0) rfl f60 rfl) ?_
    refine rr rfl (s_ialdH f58 g14 g10 g11) ?_
    refine rr rfl (s_iconst (v := 1) (by decide)) ?_
    refine rr rfl (s_iadd (v := 4) (by decide)) ?_
    refine rr rfl (s_iload rfl) ?_
    refine rr rfl (s_icF (by decide)) ?_
    refine rr rfl (s_aload_n rfl) ?_
    refine rr rfl (s_getf f55 rfl) ?_
    refine rr rfl (s_aload_n rfl) ?_
    refine rr rfl (s_getf f55 rfl) ?_
    refine rr rfl (s_iload_n rfl) ?_
    refine rr rfl (s_iaload (j := 0) rfl f60 rfl) ?_
    refine rr rfl (s_ialdH f58 g14 g10 g11) ?_
    refine rr rfl (s_iconst (v := 1) (by decide)) ?_
    refine rr rfl (s_iadd (v := 4) (by decide)) ?_
    refine rr rfl s_goto ?_
    refine rr rfl (s_istore rfl) ?_
    refine rr rfl (s_iload rfl) ?_
    refine rr rfl (s_aload_n rfl) ?_
    refine rr rfl (s_getf f55 rfl) ?_
    refine rr rfl (s_aload_n rfl) ?_
    refine rr rfl (s_getf f55 rfl) ?_
    refine rr rfl (s_iload_n rfl) ?_
    have f61 : a_at ((((((((((H.set 42 (.inl [x1, 0, 0, 0, 0, 0, 0, 0, 0, 0, 0, 0, 0])).set 43 (.inl [x2, 0, 0, 0, 0, 0, 0, 0, 0, 0, 0, 0, 0])).set 44 (.inl [x3, 0, 0, 0, 0, 0, 0, 0, 0, 0, 0, 0, 0])).set 45 (.inl [x4, 0, 0, 0, 0, 0, 0, 0, 0, 0, 0, 0, 0])).set 46 (.inl [x5, 0, 0, 0, 0, 0, 0, 0, 0, 0, 0, 0, 0])).set 47 (.inl [x6, 0, 0, 0, 0, 0, 0, 0, 0, 0, 0, 0, 0])).set 48 (.inl [x7, 0, 0, 0, 0, 0, 0, 0, 0, 0, 0, 0, 0])).set 49 (.inl [(-1), 0, 0, 0, 0, 0, 0, 0, 0, 0, 0, 0, 0])).set 41 (.inr (.inr (9, [.int 4, .int 1, .ref 42, .ref 43, .ref 44, .ref 45, .ref 46, .ref 47, .ref 48, .ref 49, .ref 50, .ref 51, .int 0, .int 0, .int 0, .int 0, .int 0, .int 0, .int 0, .int 0, .ref 52, .int 0, .ref 53, .int 0, .ref 54, .int 0, .ref 55, .ref 56, .ref 57, .ref 58, .int 0, .ref 59, .ref 60])))).set 51 (.inl ((List.replicate 8 (0 : Int32)).set (Int32.toNatClampNeg x3) 3))) 44 = some (.inl [x3, 0, 0, 0, 0, 0, 0, 0, 0, 0, 0, 0, 0]) := ((at_ne (by decide)).trans ((at_ne (by decide)).trans ((at_ne (by decide)).trans ((at_ne (by decide)).trans ((at_ne (by decide)).trans ((at_ne (by decide)).trans ((at_ne (by decide)).trans (at_eq ((at_ne (by decide)).trans ((at_ne (by decide)).trans F44))))))))))
    refine rr rfl (s_iaload (j := 0) rfl f61 rfl) ?_
    refine rr rfl (s_ialdH f58 rfl g10 g11) ?_
    refine rr rfl (s_icF (by decide)) ?_
    refine rr rfl (s_aload_n rfl) ?_
    refine rr rfl (s_getf f55 rfl) ?_
    refine rr rfl (s_aload_n rfl) ?_
    refine rr rfl (s_getf f55 rfl) ?_
    refine rr rfl (s_iload_n rfl) ?_
    refine rr rfl (s_iaload (j := 0) rfl f61 rfl) ?_
    refine rr rfl (s_iload rfl) ?_
    refine rr rfl (s_iastH (h' := ((((((((((H.set 42 (.inl [x1, 0, 0, 0, 0, 0, 0, 0, 0, 0, 0, 0, 0])).set 43 (.inl [x2, 0, 0, 0, 0, 0, 0, 0, 0, 0, 0, 0, 0])).set 44 (.inl [x3, 0, 0, 0, 0, 0, 0, 0, 0, 0, 0, 0, 0])).set 45 (.inl [x4, 0, 0, 0, 0, 0, 0, 0, 0, 0, 0, 0, 0])).set 46 (.inl [x5, 0, 0, 0, 0, 0, 0, 0, 0, 0, 0, 0, 0])).set 47 (.inl [x6, 0, 0, 0, 0, 0, 0, 0, 0, 0, 0, 0, 0])).set 48 (.inl [x7, 0, 0, 0, 0, 0, 0, 0, 0, 0, 0, 0, 0])).set 49 (.inl [(-1), 0, 0, 0, 0, 0, 0, 0, 0, 0, 0, 0, 0])).set 41 (.inr (.inr (9, [.int 4, .int 1, .ref 42, .ref 43, .ref 44, .ref 45, .ref 46, .ref 47, .ref 48, .ref 49, .ref 50, .ref 51, .int 0, .int 0, .int 0, .int 0, .int 0, .int 0, .int 0, .int 0, .ref 52, .int 0, .ref 53, .int 0, .ref 54, .int 0, .ref 55, .ref 56, .ref 57, .ref 58, .int 0, .ref 59, .ref 60])))).set 51 (.inl ((List.replicate 8 (0 : Int32)).set (Int32.toNatClampNeg x3) 4)))) (v := 4) f58 rfl g10 g11 (len_of f58) (List.set_set ..)) ?_
    refine rr rfl (s_iconst (v := 1) (by decide)) ?_
    refine rr rfl (s_istore_n rfl) ?_
    refine rr rfl (s_iload_n rfl) ?_
    refine rr rfl (s_ifF (by decide)) ?_
    refine rr rfl (s_iload rfl) ?_
    refine rr rfl (s_bipush (v := 8) (by decide)) ?_
    refine rr rfl (s_icF (by decide)) ?_
    refine rr rfl (s_iconst (v := 1) (by decide)) ?_
    refine rr rfl s_goto ?_
    refine rr rfl (s_istore_n rfl) ?_
    refine rr rfl (s_iinc (v := 1) rfl (by decide) rfl) ?_
    refine rr rfl s_goto ?_
    refine rr rfl (s_iload_n rfl) ?_
    refine rr rfl (s_aload_n rfl) ?_
    have f62 : a_at ((((((((((H.set 42 (.inl [x1, 0, 0, 0, 0, 0, 0, 0, 0, 0, 0, 0, 0])).set 43 (.inl [x2, 0, 0, 0, 0, 0, 0, 0, 0, 0, 0, 0, 0])).set 44 (.inl [x3, 0, 0, 0, 0, 0, 0, 0, 0, 0, 0, 0, 0])).set 45 (.inl [x4, 0, 0, 0, 0, 0, 0, 0, 0, 0, 0, 0, 0])).set 46 (.inl [x5, 0, 0, 0, 0, 0, 0, 0, 0, 0, 0, 0, 0])).set 47 (.inl [x6, 0, 0, 0, 0, 0, 0, 0, 0, 0, 0, 0, 0])).set 48 (.inl [x7, 0, 0, 0, 0, 0, 0, 0, 0, 0, 0, 0, 0])).set 49 (.inl [(-1), 0, 0, 0, 0, 0, 0, 0, 0, 0, 0, 0, 0])).set 41 (.inr (.inr (9, [.int 4, .int 1, .ref 42, .ref 43, .ref 44, .ref 45, .ref 46, .ref 47, .ref 48, .ref 49, .ref 50, .ref 51, .int 0, .int 0, .int 0, .int 0, .int 0, .int 0, .int 0, .int 0, .ref 52, .int 0, .ref 53, .int 0, .ref 54, .int 0, .ref 55, .ref 56, .ref 57, .ref 58, .int 0, .ref 59, .ref 60])))).set 51 (.inl ((List.replicate 8 (0 : Int32)).set (Int32.toNatClampNeg x3) 4))) 41 = some (.inr (.inr (9, [.int 4, .int 1, .ref 42, .ref 43, .ref 44, .ref 45, .ref 46, .ref 47, .ref 48, .ref 49, .ref 50, .ref 51, .int 0, .int 0, .int 0, .int 0, .int 0, .int 0, .int 0, .int 0, .ref 52, .int 0, .ref 53, .int 0, .ref 54, .int 0, .ref 55, .ref 56, .ref 57, .ref 58, .int 0, .ref 59, .ref 60]))) := ((at_ne (by decide)).trans f18)
    refine rr rfl (s_getf f62 rfl) ?_
    refine rr rfl (s_icT (by decide)) ?_
    refine rr rfl s_goto ?_
    refine rr rfl (s_iload_n rfl) ?_
    refine rr rfl (s_ifF (by decide)) ?_
    refine rr rfl (s_iload_n rfl) ?_
    refine rr rfl (s_ifF (by decide)) ?_
    refine rr rfl (s_iconst (v := 0) (by decide)) ?_
    refine rr rfl (s_istore_n rfl) ?_
    refine rr rfl (s_iconst (v := 0) (by decide)) ?_
    refine rr rfl (s_istore_n rfl) ?_
    refine rr rfl (s_iload_n rfl) ?_
    refine rr rfl (s_aload_n rfl) ?_
    refine rr rfl (s_getf f62 rfl) ?_
    refine rr rfl (s_icF (by decide)) ?_
    refine rr rfl (s_iconst (v := 0) (by decide)) ?_
    refine rr rfl (s_istore rfl) ?_
    refine rr rfl (s_aload_n rfl) ?_
    refine rr rfl (s_getf f62 rfl) ?_
    refine rr rfl (s_iload_n rfl) ?_
    have f63 : a_at ((((((((((H.set 42 (.inl [x1, 0, 0, 0, 0, 0, 0, 0, 0, 0, 0, 0, 0])).set 43 (.inl [x2, 0, 0, 0, 0, 0, 0, 0, 0, 0, 0, 0, 0])).set 44 (.inl [x3, 0, 0, 0, 0, 0, 0, 0, 0, 0, 0, 0, 0])).set 45 (.inl [x4, 0, 0, 0, 0, 0, 0, 0, 0, 0, 0, 0, 0])).set 46 (.inl [x5, 0, 0, 0, 0, 0, 0, 0, 0, 0, 0, 0, 0])).set 47 (.inl [x6, 0, 0, 0, 0, 0, 0, 0, 0, 0, 0, 0, 0])).set 48 (.inl [x7, 0, 0, 0, 0, 0, 0, 0, 0, 0, 0, 0, 0])).set 49 (.inl [(-1), 0, 0, 0, 0, 0, 0, 0, 0, 0, 0, 0, 0])).set 41 (.inr (.inr (9, [.int 4, .int 1, .ref 42, .ref 43, .ref 44, .ref 45, .ref 46, .ref 47, .ref 48, .ref 49, .ref 50, .ref 51, .int 0, .int 0, .int 0, .int 0, .int 0, .int 0, .int 0, .int 0, .ref 52, .int 0, .ref 53, .int 0, .ref 54, .int 0, .ref 55, .ref 56, .ref 57, .ref 58, .int 0, .ref 59, .ref 60])))).set 51 (.inl ((List.replicate 8 (0 : Int32)).set (Int32.toNatClampNeg x3) 4))) 43 = some (.inl [x2, 0, 0, 0, 0, 0, 0, 0, 0, 0, 0, 0, 0]) := ((at_ne (by decide)).trans ((at_ne (by decide)).trans ((at_ne (by decide)).trans ((at_ne (by decide)).trans ((at_ne (by decide)).trans ((at_ne (by decide)).trans ((at_ne (by decide)).trans ((at_ne (by decide)).trans (at_eq ((at_ne (by decide)).trans F43))))))))))
    refine rr rfl (s_iaload (j := 0) rfl f63 rfl) ?_
    refine rr rfl (s_ifF (ic_nne g1)) ?_
    refine rr rfl (s_aload_n rfl) ?_
    refine rr rfl (s_getf f62 rfl) ?_
    refine rr rfl (s_aload_n rfl) ?_
    refine rr rfl (s_getf f62 rfl) ?_
    refine rr rfl (s_iload_n rfl) ?_
    have f64 : a_at ((((((((((H.set 42 (.inl [x1, 0, 0, 0, 0, 0, 0, 0, 0, 0, 0, 0, 0])).set 43 (.inl [x2, 0, 0, 0, 0, 0, 0, 0, 0, 0, 0, 0, 0])).set 44 (.inl [x3, 0, 0, 0, 0, 0, 0, 0, 0, 0, 0, 0, 0])).set 45 (.inl [x4, 0, 0, 0, 0, 0, 0, 0, 0, 0, 0, 0, 0])).set 46 (.inl [x5, 0, 0, 0, 0, 0, 0, 0, 0, 0, 0, 0, 0])).set 47 (.inl [x6, 0, 0, 0, 0, 0, 0, 0, 0, 0, 0, 0, 0])).set 48 (.inl [x7, 0, 0, 0, 0, 0, 0, 0, 0, 0, 0, 0, 0])).set 49 (.inl [(-1), 0, 0, 0, 0, 0, 0, 0, 0, 0, 0, 0, 0])).set 41 (.inr (.inr (9, [.int 4, .int 1, .ref 42, .ref 43, .ref 44, .ref 45, .ref 46, .ref 47, .ref 48, .ref 49, .ref 50, .ref 51, .int 0, .int 0, .int 0, .int 0, .int 0, .int 0, .int 0, .int 0, .ref 52, .int 0, .ref 53, .int 0, .ref 54, .int 0, .ref 55, .ref 56, .ref 57, .ref 58, .int 0, .ref 59, .ref 60])))).set 51 (.inl ((List.replicate 8 (0 : Int32)).set (Int32.toNatClampNeg x3) 4))) 45 = some (.inl [x4, 0, 0, 0, 0, 0, 0, 0, 0, 0, 0, 0, 0]) := ((at_ne (by decide)).trans ((at_ne (by decide)).trans ((at_ne (by decide)).trans ((at_ne (by decide)).trans ((at_ne (by decide)).trans ((at_ne (by decide)).trans (at_eq ((at_ne (by decide)).trans ((at_ne (by decide)).trans ((at_ne (by decide)).trans F45))))))))))
    refine rr rfl (s_iaload (j := 0) rfl f64 rfl) ?_
    have f65 : a_at ((((((((((H.set 42 (.inl [x1, 0, 0, 0, 0, 0, 0, 0, 0, 0, 0, 0, 0])).set 43 (.inl [x2, 0, 0, 0, 0, 0, 0, 0, 0, 0, 0, 0, 0])).set 44 (.inl [x3, 0, 0, 0, 0, 0, 0, 0, 0, 0, 0, 0, 0])).set 45 (.inl [x4, 0, 0, 0, 0, 0, 0, 0, 0, 0, 0, 0, 0])).set 46 (.inl [x5, 0, 0, 0, 0, 0, 0, 0, 0, 0, 0, 0, 0])).set 47 (.inl [x6, 0, 0, 0, 0, 0, 0, 0, 0, 0, 0, 0, 0])).set 48 (.inl [x7, 0, 0, 0, 0, 0, 0, 0, 0, 0, 0, 0, 0])).set 49 (.inl [(-1), 0, 0, 0, 0, 0, 0, 0, 0, 0, 0, 0, 0])).set 41 (.inr (.inr (9, [.int 4, .int 1, .ref 42, .ref 43, .ref 44, .ref 45, .ref 46, .ref 47, .ref 48, .ref 49, .ref 50, .ref 51, .int 0, .int 0, .int 0, .int 0, .int 0, .int 0, .int 0, .int 0, .ref 52, .int 0, .ref 53, .int 0, .ref 54, .int 0, .ref 55, .ref 56, .ref 57, .ref 58, .int 0, .ref 59, .ref 60])))).set 51 (.inl ((List.replicate 8 (0 : Int32)).set (Int32.toNatClampNeg x3) 4))) 51 = some (.inl ((List.replicate 8 (0 : Int32)).set (Int32.toNatClampNeg x3) 4)) := (at_eq f19)
    refine rr rfl (s_ialdH f65 g12 g10 g11) ?_
    refine rr rfl (s_istore rfl) ?_
    refine rr rfl (s_aload_n rfl) ?_
    refine rr rfl (s_getf f62 rfl) ?_
    refine rr rfl (s_iload_n rfl) ?_
    have f66 : a_at ((((((((((H.set 42 (.inl [x1, 0, 0, 0, 0, 0, 0, 0, 0, 0, 0, 0, 0])).set 43 (.inl [x2, 0, 0, 0, 0, 0, 0, 0, 0, 0, 0, 0, 0])).set 44 (.inl [x3, 0, 0, 0, 0, 0, 0, 0, 0, 0, 0, 0, 0])).set 45 (.inl [x4, 0, 0, 0, 0, 0, 0, 0, 0, 0, 0, 0, 0])).set 46 (.inl [x5, 0, 0, 0, 0, 0, 0, 0, 0, 0, 0, 0, 0])).set 47 (.inl [x6, 0, 0, 0, 0, 0, 0, 0, 0, 0, 0, 0, 0])).set 48 (.inl [x7, 0, 0, 0, 0, 0, 0, 0, 0, 0, 0, 0, 0])).set 49 (.inl [(-1), 0, 0, 0, 0, 0, 0, 0, 0, 0, 0, 0, 0])).set 41 (.inr (.inr (9, [.int 4, .int 1, .ref 42, .ref 43, .ref 44, .ref 45, .ref 46, .ref 47, .ref 48, .ref 49, .ref 50, .ref 51, .int 0, .int 0, .int 0, .int 0, .int 0, .int 0, .int 0, .int 0, .ref 52, .int 0, .ref 53, .int 0, .ref 54, .int 0, .ref 55, .ref 56, .ref 57, .ref 58, .int 0, .ref 59, .ref 60])))).set 51 (.inl ((List.replicate 8 (0 : Int32)).set (Int32.toNatClampNeg x3) 4))) 46 = some (.inl [x5, 0, 0, 0, 0, 0, 0, 0, 0, 0, 0, 0, 0]) := ((at_ne (by decide)).trans ((at_ne (by decide)).trans ((at_ne (by decide)).trans ((at_ne (by decide)).trans ((at_ne (by decide)).trans (at_eq ((at_ne (by decide)).trans ((at_ne (by decide)).trans ((at_ne (by decide)).trans ((at_ne (by decide)).trans F46))))))))))
    refine rr rfl (s_iaload (j := 0) rfl f66 rfl) ?_
    refine rr rfl (s_iconst (v := (-1)) (by decide)) ?_
    refine rr rfl (s_icF (ic_neq g4)) ?_
    refine rr rfl (s_aload_n rfl) ?_
    refine rr rfl (s_getf f62 rfl) ?_
    refine rr rfl (s_aload_n rfl) ?_
    refine rr rfl (s_getf f62 rfl) ?_
    refine rr rfl (s_iload_n rfl) ?_
    refine rr rfl (s_iaload (j := 0) rfl f66 rfl) ?_
    refine rr rfl (s_ialdN f65 g13 g5 g6 g10) ?_
    refine rr rfl (s_iload rfl) ?_
    refine rr rfl (s_icT (by decide)) ?_
    refine rr rfl (s_iload rfl) ?_
    refine rr rfl (s_istore rfl) ?_
    refine rr rfl (s_aload_n rfl) ?_
    refine rr rfl (s_getf f62 rfl) ?_
    refine rr rfl (s_iload_n rfl) ?_
    have f67 : a_at ((((((((((H.set 42 (.inl [x1, 0, 0, 0, 0, 0, 0, 0, 0, 0, 0, 0, 0])).set 43 (.inl [x2, 0, 0, 0, 0, 0, 0, 0, 0, 0, 0, 0, 0])).set 44 (.inl [x3, 0, 0, 0, 0, 0, 0, 0, 0, 0, 0, 0, 0])).set 45 (.inl [x4, 0, 0, 0, 0, 0, 0, 0, 0, 0, 0, 0, 0])).set 46 (.inl [x5, 0, 0, 0, 0, 0, 0, 0, 0, 0, 0, 0, 0])).set 47 (.inl [x6, 0, 0, 0, 0, 0, 0, 0, 0, 0, 0, 0, 0])).set 48 (.inl [x7, 0, 0, 0, 0, 0, 0, 0, 0, 0, 0, 0, 0])).set 49 (.inl [(-1), 0, 0, 0, 0, 0, 0, 0, 0, 0, 0, 0, 0])).set 41 (.inr (.inr (9, [.int 4, .int 1, .ref 42, .ref 43, .ref 44, .ref 45, .ref 46, .ref 47, .ref 48, .ref 49, .ref 50, .ref 51, .int 0, .int 0, .int 0, .int 0, .int 0, .int 0, .int 0, .int 0, .ref 52, .int 0, .ref 53, .int 0, .ref 54, .int 0, .ref 55, .ref 56, .ref 57, .ref 58, .int 0, .ref 59, .ref 60])))).set 51 (.inl ((List.replicate 8 (0 : Int32)).set (Int32.toNatClampNeg x3) 4))) 47 = some (.inl [x6, 0, 0, 0, 0, 0, 0, 0, 0, 0, 0, 0, 0]) := ((at_ne (by decide)).trans ((at_ne (by decide)).trans ((at_ne (by decide)).trans ((at_ne (by decide)).trans (at_eq ((at_ne (by decide)).trans ((at_ne (by decide)).trans ((at_ne (by decide)).trans ((at_ne (by decide)).trans ((at_ne (by decide)).trans F47))))))))))
    refine rr rfl (s_iaload (j := 0) rfl f67 rfl) ?_
    refine rr rfl (s_iconst (v := (-1)) (by decide)) ?_
    refine rr rfl (s_icF (ic_neq g7)) ?_
    refine rr rfl (s_aload_n rfl) ?_
    refine rr rfl (s_getf f62 rfl) ?_
    refine rr rfl (s_aload_n rfl) ?_
    refine rr rfl (s_getf f62 rfl) ?_
    refine rr rfl (s_iload_n rfl) ?_
    refine rr rfl (s_iaload (j := 0) rfl f67 rfl) ?_
    refine rr rfl (s_ialdH f65 g14 g10 g11) ?_
    refine rr rfl (s_iconst (v := 1) (by decide)) ?_
    refine rr rfl (s_iadd (v := 5) (by decide)) ?_
    refine rr rfl (s_iload rfl) ?_
    refine rr rfl (s_icF (by decide)) ?_
    refine rr rfl (s_aload_n rfl) ?_
    refine rr rfl (s_getf f62 rfl) ?_
    refine rr rfl (s_aload_n rfl) ?_
    refine rr rfl (s_getf f62 rfl) ?_
    refine rr rfl (s_iload_n rfl) ?_
    refine rr rfl (s_iaload (j := 0) rfl f67 rfl) ?_
    refine rr rfl (s_ialdH f65 g14 g10 g11) ?_
    refine rr rfl (s_iconst (v := 1) (by decide)) ?_
    refine rr rfl (s_iadd (v := 5) (by decide)) ?_
    refine rr rfl s_goto ?_
    refine rr rfl (s_istore rfl) ?_
    refine rr rfl (s_iload rfl) ?_
    refine rr rfl (s_aload_n rfl) ?_
    refine rr rfl (s_getf f62 rfl) ?_
    refine rr rfl (s_aload_n rfl) ?_
    refine rr rfl (s_getf f62 rfl) ?_
    refine rr rfl (s_iload_n rfl) ?_
    have f68 : a_at ((((((((((H.set 42 (.inl [x1, 0, 0, 0, 0, 0, 0, 0, 0, 0, 0, 0, 0])).set 43 (.inl [x2, 0, 0, 0, 0, 0, 0, 0, 0, 0, 0, 0, 0])).set 44 (.inl [x3, 0, 0, 0, 0, 0, 0, 0, 0, 0, 0, 0, 0])).set 45 (.inl [x4, 0, 0, 0, 0, 0, 0, 0, 0, 0, 0, 0, 0])).set 46 (.inl [x5, 0, 0, 0, 0, 0, 0, 0, 0, 0, 0, 0, 0])).set 47 (.inl [x6, 0, 0, 0, 0, 0, 0, 0, 0, 0, 0, 0, 0])).set 48 (.inl [x7, 0, 0, 0, 0, 0, 0, 0, 0, 0, 0, 0, 0])).set 49 (.inl [(-1), 0, 0, 0, 0, 0, 0, 0, 0, 0, 0, 0, 0])).set 41 (.inr (.inr (9, [.int 4, .int 1, .ref 42, .ref 43, .ref 44, .ref 45, .ref 46, .ref 47, .ref 48, .ref 49, .ref 50, .ref 51, .int 0, .int 0, .int 0, .int 0, .int 0, .int 0, .int 0, .int 0, .ref 52, .int 0, .ref 53, .int 0, .ref 54, .int 0, .ref 55, .ref 56, .ref 57, .ref 58, .int 0, .ref 59, .ref 60])))).set 51 (.inl ((List.replicate 8 (0 : Int32)).set (Int32.toNatClampNeg x3) 4))) 44 = some (.inl [x3, 0, 0, 0, 0, 0, 0, 0, 0, 0, 0, 0, 0]) := ((at_ne (by decide)).trans ((at_ne (by decide)).trans ((at_ne (by decide)).trans ((at_ne (by decide)).trans ((at_ne (by decide)).trans ((at_ne (by decide)).trans ((at_ne (by decide)).trans (at_eq ((at_ne (by decide)).trans ((at_ne (by decide)).trans F44))))))))))
    refine rr rfl (s_iaload (j := 0) rfl f68 rfl) ?_
    refine rr rfl (s_ialdH f65 rfl g10 g11) ?_
    refine rr rfl (s_icF (by decide)) ?_
    refine rr rfl (s_aload_n rfl) ?_
    refine rr rfl (s_getf f62 rfl) ?_
    refine rr rfl (s_aload_n rfl) ?_
    refine rr rfl (s_getf f62 rfl) ?_
    refine rr rfl (s_iload_n rfl) ?_
    refine rr rfl (s_iaload (j := 0) rfl f68 rfl) ?_
    refine rr rfl (s_iload rfl) ?_
    refine rr rfl (s_iastH (h' := ((((((((((H.set 42 (.inl [x1, 0, 0, 0, 0, 0, 0, 0, 0, 0, 0, 0, 0])).set 43 (.inl [x2, 0, 0, 0, 0, 0, 0, 0, 0, 0, 0, 0, 0])).set 44 (.inl [x3, 0, 0, 0, 0, 0, 0, 0, 0, 0, 0, 0, 0])).set 45 (.inl [x4, 0, 0, 0, 0, 0, 0, 0, 0, 0, 0, 0, 0])).set 46 (.inl [x5, 0, 0, 0, 0, 0, 0, 0, 0, 0, 0, 0, 0])).set 47 (.inl [x6, 0, 0, 0, 0, 0, 0, 0, 0, 0, 0, 0, 0])).set 48 (.inl [x7, 0, 0, 0, 0, 0, 0, 0, 0, 0, 0, 0, 0])).set 49 (.inl [(-1), 0, 0, 0, 0, 0, 0, 0, 0, 0, 0, 0, 0])).set 41 (.inr (.inr (9, [.int 4, .int 1, .ref 42, .ref 43, .ref 44, .ref 45, .ref 46, .ref 47, .ref 48, .ref 49, .ref 50, .ref 51, .int 0, .int 0, .int 0, .int 0, .int 0, .int 0, .int 0, .int 0, .ref 52, .int 0, .ref 53, .int 0, .ref 54, .int 0, .ref 55, .ref 56, .ref 57, .ref 58, .int 0, .ref 59, .ref 60])))).set 51 (.inl ((List.replicate 8 (0 : Int32)).set (Int32.toNatClampNeg x3) 5)))) (v := 5) f65 rfl g10 g11 (len_of f65) (List.set_set ..)) ?_
    refine rr rfl (s_iconst (v := 1) (by decide)) ?_
    refine rr rfl (s_istore_n rfl) ?_
    refine rr rfl (s_iload_n rfl) ?_
    refine rr rfl (s_ifF (by decide)) ?_
    refine rr rfl (s_iload rfl) ?_
    refine rr rfl (s_bipush (v := 8) (by decide)) ?_
    refine rr rfl (s_icF (by decide)) ?_
    refine rr rfl (s_iconst (v := 1) (by decide)) ?_
    refine rr rfl s_goto ?_
    refine rr rfl (s_istore_n rfl) ?_
    refine rr rfl (s_iinc (v := 1) rfl (by decide) rfl) ?_
    refine rr rfl s_goto ?_
    refine rr rfl (s_iload_n rfl) ?_
    refine rr rfl (s_aload_n rfl) ?_
    have f69 : a_at ((((((((((H.set 42 (.inl [x1, 0, 0, 0, 0, 0, 0, 0, 0, 0, 0, 0, 0])).set 43 (.inl [x2, 0, 0, 0, 0, 0, 0, 0, 0, 0, 0, 0, 0])).set 44 (.inl [x3, 0, 0, 0, 0, 0, 0, 0, 0, 0, 0, 0, 0])).set 45 (.inl [x4, 0, 0, 0, 0, 0, 0, 0, 0, 0, 0, 0, 0])).set 46 (.inl [x5, 0, 0, 0, 0, 0, 0, 0, 0, 0, 0, 0, 0])).set 47 (.inl [x6, 0, 0, 0, 0, 0, 0, 0, 0, 0, 0, 0, 0])).set 48 (.inl [x7, 0, 0, 0, 0, 0, 0, 0, 0, 0, 0, 0, 0])).set 49 (.inl [(-1), 0, 0, 0, 0, 0, 0, 0, 0, 0, 0, 0, 0])).set 41 (.inr (.inr (9, [.int 4, .int 1, .ref 42, .ref 43, .ref 44, .ref 45, .ref 46, .ref 47, .ref 48, .ref 49, .ref 50, .ref 51, .int 0, .int 0, .int 0, .int 0, .int 0, .int 0, .int 0, .int 0, .ref 52, .int 0, .ref 53, .int 0, .ref 54, .int 0, .ref 55, .ref 56, .ref 57, .ref 58, .int 0, .ref 59, .ref 60])))).set 51 (.inl ((List.replicate 8 (0 : Int32)).set (Int32.toNatClampNeg x3) 5))) 41 = some (.inr (.inr (9, [.int 4, .int 1, .ref 42, .ref 43, .ref 44, .ref 45, .ref 46, .ref 47, .ref 48, .ref 49, .ref 50, .ref 51, .int 0, .int 0, .int 0, .int 0, .int 0, .int 0, .int 0, .int 0, .ref 52, .int 0, .ref 53, .int 0, .ref 54, .int 0, .ref 55, .ref 56, .ref 57, .ref 58, .int 0, .ref 59, .ref 60]))) := ((at_ne (by decide)).trans f18)
    refine rr rfl (s_getf f69 rfl) ?_
    refine rr rfl (s_icT (by decide)) ?_
    refine rr rfl s_goto ?_
    refine rr rfl (s_iload_n rfl) ?_
    refine rr rfl (s_ifF (by decide)) ?_
    refine rr rfl (s_iload_n rfl) ?_
    refine rr rfl (s_ifF (by decide)) ?_
    refine rr rfl (s_iconst (v := 0) (by decide)) ?_
    refine rr rfl (s_istore_n rfl) ?_
    refine rr rfl (s_iconst (v := 0) (by decide)) ?_
    refine rr rfl (s_istore_n rfl) ?_
    refine rr rfl (s_iload_n rfl) ?_
    refine rr rfl (s_aload_n rfl) ?_
    refine rr rfl (s_getf f69 rfl) ?_
    refine rr rfl (s_icF (by decide)) ?_
    refine rr rfl (s_iconst (v := 0) (by decide)) ?_
    refine rr rfl (s_istore rfl) ?_
    refine rr rfl (s_aload_n rfl) ?_
    refine rr rfl (s_getf f69 rfl) ?_
    refine rr rfl (s_iload_n rfl) ?_
    have f70 : a_at ((((((((((H.set 42 (.inl [x1, 0, 0, 0, 0, 0, 0, 0, 0, 0, 0, 0, 0])).set 43 (.inl [x2, 0, 0, 0, 0, 0, 0, 0, 0, 0, 0, 0, 0])).set 44 (.inl [x3, 0, 0, 0, 0, 0, 0, 0, 0, 0, 0, 0, 0])).set 45 (.inl [x4, 0, 0, 0, 0, 0, 0, 0, 0, 0, 0, 0, 0])).set 46 (.inl [x5, 0, 0, 0, 0, 0, 0, 0, 0, 0, 0, 0, 0])).set 47 (.inl [x6, 0, 0, 0, 0, 0, 0, 0, 0, 0, 0, 0, 0])).set 48 (.inl [x7, 0, 0, 0, 0, 0, 0, 0, 0, 0, 0, 0, 0])).set 49 (.inl [(-1), 0, 0, 0, 0, 0, 0, 0, 0, 0, 0, 0, 0])).set 41 (.inr (.inr (9, [.int 4, .int 1, .ref 42, .ref 43, .ref 44, .ref 45, .ref 46, .ref 47, .ref 48, .ref 49, .ref 50, .ref 51, .int 0, .int 0, .int 0, .int 0, .int 0, .int 0, .int 0, .int 0, .ref 52, .int 0, .ref 53, .int 0, .ref 54, .int 0, .ref 55, .ref 56, .ref 57, .ref 58, .int 0, .ref 59, .ref 60])))).set 51 (.inl ((List.replicate 8 (0 : Int32)).set (Int32.toNatClampNeg x3) 5))) 43 = some (.inl [x2, 0, 0, 0, 0, 0, 0, 0, 0, 0, 0, 0, 0]) := ((at_ne (by decide)).trans ((at_ne (by decide)).trans ((at_ne (by decide)).trans ((at_ne (by decide)).trans ((at_ne (by decide)).trans ((at_ne (by decide)).trans ((at_ne (by decide)).trans ((at_ne (by decide)).trans (at_eq ((at_ne (by decide)).trans F43))))))))))
    refine rr rfl (s_iaload (j := 0) rfl f70 rfl) ?_
    refine rr rfl (s_ifF (ic_nne g1)) ?_
    refine rr rfl (s_aload_n rfl) ?_
    refine rr rfl (s_getf f69 rfl) ?_
    refine rr rfl (s_aload_n rfl) ?_
    refine rr rfl (s_getf f69 rfl) ?_
    refine rr rfl (s_iload_n rfl) ?_
    have f71 : a_at ((((((((((H.set 42 (.inl [x1, 0, 0, 0, 0, 0, 0, 0, 0, 0, 0, 0, 0])).set 43 (.inl [x2, 0, 0, 0, 0, 0, 0, 0, 0, 0, 0, 0, 0])).set 44 (.inl [x3, 0, 0, 0, 0, 0, 0, 0, 0, 0, 0, 0, 0])).set 45 (.inl [x4, 0, 0, 0, 0, 0, 0, 0, 0, 0, 0, 0, 0])).set 46 (.inl [x5, 0, 0, 0, 0, 0, 0, 0, 0, 0, 0, 0, 0])).set 47 (.inl [x6, 0, 0, 0, 0, 0, 0, 0, 0, 0, 0, 0, 0])).set 48 (.inl [x7, 0, 0, 0, 0, 0, 0, 0, 0, 0, 0, 0, 0])).set 49 (.inl [(-1), 0, 0, 0, 0, 0, 0, 0, 0, 0, 0, 0, 0])).set 41 (.inr (.inr (9, [.int 4, .int 1, .ref 42, .ref 43, .ref 44, .ref 45, .ref 46, .ref 47, .ref 48, .ref 49, .ref 50, .ref 51, .int 0, .int 0, .int 0, .int 0, .int 0, .int 0, .int 0, .int 0, .ref 52, .int 0, .ref 53, .int 0, .ref 54, .int 0, .ref 55, .ref 56, .ref 57, .ref 58, .int 0, .ref 59, .ref 60])))).set 51 (.inl ((List.replicate 8 (0 : Int32)).set (Int32.toNatClampNeg x3) 5))) 45 = some (.inl [x4, 0, 0, 0, 0, 0, 0, 0, 0, 0, 0, 0, 0]) := ((at_ne (by decide)).trans ((at_ne (by decide)).trans ((at_ne (by decide)).trans ((at_ne (by decide)).trans ((at_ne (by decide)).trans ((at_ne (by decide)).trans (at_eq ((at_ne (by decide)).trans ((at_ne (by decide)).trans ((at_ne (by decide)).trans F45))))))))))
    refine rr rfl (s_iaload (j := 0) rfl f71 rfl) ?_
    have f72 : a_at ((((((((((H.set 42 (.inl [x1, 0, 0, 0, 0, 0, 0, 0, 0, 0, 0, 0, 0])).set 43 (.inl [x2, 0, 0, 0, 0, 0, 0, 0, 0, 0, 0, 0, 0])).set 44 (.inl [x3, 0, 0, 0, 0, 0, 0, 0, 0, 0, 0, 0, 0])).set 45 (.inl [x4, 0, 0, 0, 0, 0, 0, 0, 0, 0, 0, 0, 0])).set 46 (.inl [x5, 0, 0, 0, 0, 0, 0, 0, 0, 0, 0, 0, 0])).set 47 (.inl [x6, 0, 0, 0, 0, 0, 0, 0, 0, 0, 0, 0, 0])).set 48 (.inl [x7, 0, 0, 0, 0, 0, 0, 0, 0, 0, 0, 0, 0])).set 49 (.inl [(-1), 0, 0, 0, 0, 0, 0, 0, 0, 0, 0, 0, 0])).set 41 (.inr (.inr (9, [.int 4, .int 1, .ref 42, .ref 43, .ref 44, .ref 45, .ref 46, .ref 47, .ref 48, .ref 49, .ref 50, .ref 51, .int 0, .int 0, .int 0, .int 0, .int 0, .int 0, .int 0, .int 0, .ref 52, .int 0, .ref 53, .int 0, .ref 54, .int 0, .ref 55, .ref 56, .ref 57, .ref 58, .int 0, .ref 59, .ref 60])))).set 51 (.inl ((List.replicate 8 (0 : Int32)).set (Int32.toNatClampNeg x3) 5))) 51 = some (.inl ((List.replicate 8 (0 : Int32)).set (Int32.toNatClampNeg x3) 5)) := (at_eq f19)
    refine rr rfl (s_ialdH f72 g12 g10 g11) ?_
    refine rr rfl (s_istore rfl) ?_
    refine rr rfl (s_aload_n rfl) ?_
    refine rr rfl (s_getf f69 rfl) ?_
    refine rr rfl (s_iload_n rfl) ?_
    have f73 : a_at ((((((((((H.set 42 (.inl [x1, 0, 0, 0, 0, 0, 0, 0, 0, 0, 0, 0, 0])).set 43 (.inl [x2, 0, 0, 0, 0, 0, 0, 0, 0, 0, 0, 0, 0])).set 44 (.inl [x3, 0, 0, 0, 0, 0, 0, 0, 0, 0, 0, 0, 0])).set 45 (.inl [x4, 0, 0, 0, 0, 0, 0, 0, 0, 0, 0, 0, 0])).set 46 (.inl [x5, 0, 0, 0, 0, 0, 0, 0, 0, 0, 0, 0, 0])).set 47 (.inl [x6, 0, 0, 0, 0, 0, 0, 0, 0, 0, 0, 0, 0])).set 48 (.inl [x7, 0, 0, 0, 0, 0, 0, 0, 0, 0, 0, 0, 0])).set 49 (.inl [(-1), 0, 0, 0, 0, 0, 0, 0, 0, 0, 0, 0, 0])).set 41 (.inr (.inr (9, [.int 4, .int 1, .ref 42, .ref 43, .ref 44, .ref 45, .ref 46, .ref 47, .ref 48, .ref 49, .ref 50, .ref 51, .int 0, .int 0, .int 0, .int 0, .int 0, .int 0, .int 0, .int 0, .ref 52, .int 0, .ref 53, .int 0, .ref 54, .int 0, .ref 55, .ref 56, .ref 57, .ref 58, .int 0, .ref 59, .ref 60])))).set 51 (.inl ((List.replicate 8 (0 : Int32)).set (Int32.toNatClampNeg x3) 5))) 46 = some (.inl [x5, 0, 0, 0, 0, 0, 0, 0, 0, 0, 0, 0, 0]) := ((at_ne (by decide)).trans ((at_ne (by decide)).trans ((at_ne (by decide)).trans ((at_ne (by decide)).trans ((at_ne (by decide)).trans (at_eq ((at_ne (by decide)).trans ((at_ne (by decide)).trans ((at_ne (by decide)).trans ((at_ne (by decide)).trans F46))))))))))
    refine rr rfl (s_iaload (j := 0) rfl f73 rfl) ?_
    refine rr rfl (s_iconst (v := (-1)) (by decide)) ?_
    refine rr rfl (s_icF (ic_neq g4)) ?_
    refine rr rfl (s_aload_n rfl) ?_
    refine rr rfl (s_getf f69 rfl) ?_
    refine rr rfl (s_aload_n rfl) ?_
    refine rr rfl (s_getf f69 rfl) ?_
    refine rr rfl (s_iload_n rfl) ?_
    refine rr rfl (s_iaload (j := 0) rfl f73 rfl) ?_
    refine rr rfl (s_ialdN f72 g13 g5 g6 g10) ?_
    refine rr rfl (s_iload rfl) ?_
    refine rr rfl (s_icT (by decide)) ?_
    refine rr rfl (s_iload rfl) ?_
    refine rr rfl (s_istore rfl) ?_
    refine rr rfl (s_aload_n rfl) ?_
    refine rr rfl (s_getf f69 rfl) ?_
    refine rr rfl (s_iload_n rfl) ?_
    have f74 : a_at ((((((((((H.set 42 (.inl [x1, 0, 0, 0, 0, 0, 0, 0, 0, 0, 0, 0, 0])).set 43 (.inl [x2, 0, 0, 0, 0, 0, 0, 0, 0, 0, 0, 0, 0])).set 44 (.inl [x3, 0, 0, 0, 0, 0, 0, 0, 0, 0, 0, 0, 0])).set 45 (.inl [x4, 0, 0, 0, 0, 0, 0, 0, 0, 0, 0, 0, 0])).set 46 (.inl [x5, 0, 0, 0, 0, 0, 0, 0, 0, 0, 0, 0, 0])).set 47 (.inl [x6, 0, 0, 0, 0, 0, 0, 0, 0, 0, 0, 0, 0])).set 48 (.inl [x7, 0, 0, 0, 0, 0, 0, 0, 0, 0, 0, 0, 0])).set 49 (.inl [(-1), 0, 0, 0, 0, 0, 0, 0, 0, 0, 0, 0, 0])).set 41 (.inr (.inr (9, [.int 4, .int 1, .ref 42, .ref 43, .ref 44, .ref 45, .ref 46, .ref 47, .ref 48, .ref 49, .ref 50, .ref 51, .int 0, .int 0, .int 0, .int 0, .int 0, .int 0, .int 0, .int 0, .ref 52, .int 0, .ref 53, .int 0, .ref 54, .int 0, .ref 55, .ref 56, .ref 57, .ref 58, .int 0, .ref 59, .ref 60])))).set 51 (.inl ((List.replicate 8 (0 : Int32)).set (Int32.toNatClampNeg x3) 5))) 47 = some (.inl [x6, 0, 0, 0, 0, 0, 0, 0, 0, 0, 0, 0, 0]) := ((at_ne (by decide)).trans ((at_ne (by decide)).trans ((at_ne (by decide)).trans ((at_ne (by decide)).trans (at_eq ((at_ne (by decide)).trans ((at_ne (by decide)).trans ((at_ne (by decide)).trans ((at_ne (by decide)).trans ((at_ne (by decide)).trans F47))))))))))
    refine rr rfl (s_iaload (j := 0) rfl f74 rfl) ?_
    refine rr rfl (s_iconst (v := (-1)) (by decide)) ?_
    refine rr rfl (s_icF (ic_neq g7)) ?_
    refine rr rfl (s_aload_n rfl) ?_
    refine rr rfl (s_getf f69 rfl) ?_
    refine rr rfl (s_aload_n rfl) ?_
    refine rr rfl (s_getf f69 rfl) ?_
    refine rr rfl (s_iload_n rfl) ?_
    refine rr rfl (s_iaload (j := 0) rfl f74 rfl) ?_
    refine rr rfl (s_ialdH f72 g14 g10 g11) ?_
    refine rr rfl (s_iconst (v := 1) (by decide)) ?_
    refine rr rfl (s_iadd (v := 6) (by decide)) ?_
    refine rr rfl (s_iload rfl) ?_
    refine rr rfl (s_icF (by decide)) ?_
    refine rr rfl (s_aload_n rfl) ?_
    refine rr rfl (s_getf f69 rfl) ?_
    refine rr rfl (s_aload_n rfl) ?_
    refine rr rfl (s_getf f69 rfl) ?_
    refine rr rfl (s_iload_n rfl) ?_
    refine rr rfl (s_iaload (j := 0) rfl f74 rfl) ?_
    refine rr rfl (s_ialdH f72 g14 g10 g11) ?_
    refine rr rfl (s_iconst (v := 1) (by decide)) ?_
    refine rr rfl (s_iadd (v := 6) (by decide)) ?_
    refine rr rfl s_goto ?_
    refine rr rfl (s_istore rfl) ?_
    refine rr rfl (s_iload rfl) ?_
    refine rr rfl (s_aload_n rfl) ?_
    refine rr rfl (s_getf f69 rfl) ?_
    refine rr rfl (s_aload_n rfl) ?_
    refine rr rfl (s_getf f69 rfl) ?_
    refine rr rfl (s_iload_n rfl) ?_
    have f75 : a_at ((((((((((H.set 42 (.inl [x1, 0, 0, 0, 0, 0, 0, 0, 0, 0, 0, 0, 0])).set 43 (.inl [x2, 0, 0, 0, 0, 0, 0, 0, 0, 0, 0, 0, 0])).set 44 (.inl [x3, 0, 0, 0, 0, 0, 0, 0, 0, 0, 0, 0, 0])).set 45 (.inl [x4, 0, 0, 0, 0, 0, 0, 0, 0, 0, 0, 0, 0])).set 46 (.inl [x5, 0, 0, 0, 0, 0, 0, 0, 0, 0, 0, 0, 0])).set 47 (.inl [x6, 0, 0, 0, 0, 0, 0, 0, 0, 0, 0, 0, 0])).set 48 (.inl [x7, 0, 0, 0, 0, 0, 0, 0, 0, 0, 0, 0, 0])).set 49 (.inl [(-1), 0, 0, 0, 0, 0, 0, 0, 0, 0, 0, 0, 0])).set 41 (.inr (.inr (9, [.int 4, .int 1, .ref 42, .ref 43, .ref 44, .ref 45, .ref 46, .ref 47, .ref 48, .ref 49, .ref 50, .ref 51, .int 0, .int 0, .int 0, .int 0, .int 0, .int 0, .int 0, .int 0, .ref 52, .int 0, .ref 53, .int 0, .ref 54, .int 0, .ref 55, .ref 56, .ref 57, .ref 58, .int 0, .ref 59, .ref 60])))).set 51 (.inl ((List.replicate 8 (0 : Int32)).set (Int32.toNatClampNeg x3) 5))) 44 = some (.inl [x3, 0, 0, 0, 0, 0, 0, 0, 0, 0, 0, 0, 0]) := ((at_ne (by decide)).trans ((at_ne (by decide)).trans ((at_ne (by decide)).trans ((at_ne (by decide)).trans ((at_ne (by decide)).trans ((at_ne (by decide)).trans ((at_ne (by decide)).trans (at_eq ((at_ne (by decide)).trans ((at_ne (by decide)).trans F44))))))))))
    refine rr rfl (s_iaload (j := 0) rfl f75 rfl) ?_
    refine rr rfl (s_ialdH f72 rfl g10 g11) ?_
    refine rr rfl (s_icF (by decide)) ?_
    refine rr rfl (s_aload_n rfl) ?_
    refine rr rfl (s_getf f69 rfl) ?_
    refine rr rfl (s_aload_n rfl) ?_
    refine rr rfl (s_getf f69 rfl) ?_
    refine rr rfl (s_iload_n rfl) ?_
    refine rr rfl (s_iaload (j := 0) rfl f75 rfl) ?_
    refine rr rfl (s_iload rfl) ?_
    refine rr rfl (s_iastH (h' := ((((((((((H.set 42 (.inl [x1, 0, 0, 0, 0, 0, 0, 0, 0, 0, 0, 0, 0])).set 43 (.inl [x2, 0, 0, 0, 0, 0, 0, 0, 0, 0, 0, 0, 0])).set 44 (.inl [x3, 0, 0, 0, 0, 0, 0, 0, 0, 0, 0, 0, 0])).set 45 (.inl [x4, 0, 0, 0, 0, 0, 0, 0, 0, 0, 0, 0, 0])).set 46 (.inl [x5, 0, 0, 0, 0, 0, 0, 0, 0, 0, 0, 0, 0])).set 47 (.inl [x6, 0, 0, 0, 0, 0, 0, 0, 0, 0, 0, 0, 0])).set 48 (.inl [x7, 0, 0, 0, 0, 0, 0, 0, 0, 0, 0, 0, 0])).set 49 (.inl [(-1), 0, 0, 0, 0, 0, 0, 0, 0, 0, 0, 0, 0])).set 41 (.inr (.inr (9, [.int 4, .int 1, .ref 42, .ref 43, .ref 44, .ref 45, .ref 46, .ref 47, .ref 48, .ref 49, .ref 50, .ref 51, .int 0, .int 0, .int 0, .int 0, .int 0, .int 0, .int 0, .int 0, .ref 52, .int 0, .ref 53, .int 0, .ref 54, .int 0, .ref 55, .ref 56, .ref 57, .ref 58, .int 0, .ref 59, .ref 60])))).set 51 (.inl ((List.replicate 8 (0 : Int32)).set (Int32.toNatClampNeg x3) 6)))) (v := 6) f72 rfl g10 g11 (len_of f72) (List.set_set ..)) ?_
    refine rr rfl (s_iconst (v := 1) (by decide)) ?_
    refine rr rfl (s_istore_n rfl) ?_
    refine rr rfl (s_iload_n rfl) ?_
    refine rr rfl (s_ifF (by decide)) ?_
    refine rr rfl (s_iload rfl) ?_
    refine rr rfl (s_bipush (v := 8) (by decide)) ?_
    refine rr rfl (s_icF (by decide)) ?_
    refine rr rfl (s_iconst (v := 1) (by decide)) ?_
    refine rr rfl s_goto ?_
    refine rr rfl (s_istore_n rfl) ?_
    refine rr rfl (s_iinc (v := 1) rfl (by decide) rfl) ?_
    refine rr rfl s_goto ?_
    refine rr rfl (s_iload_n rfl) ?_
    refine rr rfl (s_aload_n rfl) ?_
    have f76 : a_at ((((((((((H.set 42 (.inl [x1, 0, 0, 0, 0, 0, 0, 0, 0, 0, 0, 0, 0])).set 43 (.inl [x2, 0, 0, 0, 0, 0, 0, 0, 0, 0, 0, 0, 0])).set 44 (.inl [x3, 0, 0, 0, 0, 0, 0, 0, 0, 0, 0, 0, 0])).set 45 (.inl [x4, 0, 0, 0, 0, 0, 0, 0, 0, 0, 0, 0, 0])).set 46 (.inl [x5, 0, 0, 0, 0, 0, 0, 0, 0, 0, 0, 0, 0])).set 47 (.inl [x6, 0, 0, 0, 0, 0, 0, 0, 0, 0, 0, 0, 0])).set 48 (.inl [x7, 0, 0, 0, 0, 0, 0, 0, 0, 0, 0, 0, 0])).set 49 (.inl [(-1), 0, 0, 0, 0, 0, 0, 0, 0, 0, 0, 0, 0])).set 41 (.inr (.inr (9, [.int 4, .int 1, .ref 42, .ref 43, .ref 44, .ref 45, .ref 46, .ref 47, .ref 48, .ref 49, .ref 50, .ref 51, .int 0, .int 0, .int 0, .int 0, .int 0, .int 0, .int 0, .int 0, .ref 52, .int 0, .ref 53, .int 0, .ref 54, .int 0, .ref 55, .ref 56, .ref 57, .ref 58, .int 0, .ref 59, .ref 60])))).set 51 (.inl ((List.replicate 8 (0 : Int32)).set (Int32.toNatClampNeg x3) 6))) 41 = some (.inr (.inr (9, [.int 4, .int 1, .ref 42, .ref 43, .ref 44, .ref 45, .ref 46, .ref 47, .ref 48, .ref 49, .ref 50, .ref 51, .int 0, .int 0, .int 0, .int 0, .int 0, .int 0, .int 0, .int 0, .ref 52, .int 0, .ref 53, .int 0, .ref 54, .int 0, .ref 55, .ref 56, .ref 57, .ref 58, .int 0, .ref 59, .ref 60]))) := ((at_ne (by decide)).trans f18)
    refine rr rfl (s_getf f76 rfl) ?_
    refine rr rfl (s_icT (by decide)) ?_
    refine rr rfl s_goto ?_
    refine rr rfl (s_iload_n rfl) ?_
    refine rr rfl (s_ifF (by decide)) ?_
    refine rr rfl (s_iload_n rfl) ?_
    refine rr rfl (s_ifF (by decide)) ?_
    refine rr rfl (s_iconst (v := 0) (by decide)) ?_
    refine rr rfl (s_istore_n rfl) ?_
    refine rr rfl (s_iconst (v := 0) (by decide)) ?_
    refine rr rfl (s_istore_n rfl) ?_
    refine rr rfl (s_iload_n rfl) ?_
    refine rr rfl (s_aload_n rfl) ?_
    refine rr rfl (s_getf f76 rfl) ?_
    refine rr rfl (s_icF (by decide)) ?_
    refine rr rfl (s_iconst (v := 0) (by decide)) ?_
    refine rr rfl (s_istore rfl) ?_
    refine rr rfl (s_aload_n rfl) ?_
    refine rr rfl (s_getf f76 rfl) ?_
    refine rr rfl (s_iload_n rfl) ?_
    have f77 : a_at ((((((((((H.set 42 (.inl [x1, 0, 0, 0, 0, 0, 0, 0, 0, 0, 0, 0, 0])).set 43 (.inl [x2, 0, 0, 0, 0, 0, 0, 0, 0, 0, 0, 0, 0])).set 44 (.inl [x3, 0, 0, 0, 0, 0, 0, 0, 0, 0, 0, 0, 0])).set 45 (.inl [x4, 0, 0, 0, 0, 0, 0, 0, 0, 0, 0, 0, 0])).set 46 (.inl [x5, 0, 0, 0, 0, 0, 0, 0, 0, 0, 0, 0, 0])).set 47 (.inl [x6, 0, 0, 0, 0, 0, 0, 0, 0, 0, 0, 0, 0])).set 48 (.inl [x7, 0, 0, 0, 0, 0, 0, 0, 0, 0, 0, 0, 0])).set 49 (.inl [(-1), 0, 0, 0, 0, 0, 0, 0, 0, 0, 0, 0, 0])).set 41 (.inr (.inr (9, [.int 4, .int 1, .ref 42, .ref 43, .ref 44, .ref 45, .ref 46, .ref 47, .ref 48, .ref 49, .ref 50, .ref 51, .int 0, .int 0, .int 0, .int 0, .int 0, .int 0, .int 0, .int 0, .ref 52, .int 0, .ref 53, .int 0, .ref 54, .int 0, .ref 55, .ref 56, .ref 57, .ref 58, .int 0, .ref 59, .ref 60])))).set 51 (.inl ((List.replicate 8 (0 : Int32)).set (Int32.toNatClampNeg x3) 6))) 43 = some (.inl [x2, 0, 0, 0, 0, 0, 0, 0, 0, 0, 0, 0, 0]) := ((at_ne (by decide)).trans ((at_ne (by decide)).trans ((at_ne (by decide)).trans ((at_ne (by decide)).trans ((at_ne (by decide)).trans ((at_ne (by decide)).trans ((at_ne (by decide)).trans ((at_ne (by decide)).trans (at_eq ((at_ne (by decide)).trans F43))))))))))
    refine rr rfl (s_iaload (j := 0) rfl f77 rfl) ?_
    refine rr rfl (s_ifF (ic_nne g1)) ?_
    refine rr rfl (s_aload_n rfl) ?_
    refine rr rfl (s_getf f76 rfl) ?_
    refine rr rfl (s_aload_n rfl) ?_
    refine rr rfl (s_getf f76 rfl) ?_
    refine rr rfl (s_iload_n rfl) ?_
    have f78 : a_at ((((((((((H.set 42 (.inl [x1, 0, 0, 0, 0, 0, 0, 0, 0, 0, 0, 0, 0])).set 43 (.inl [x2, 0, 0, 0, 0, 0, 0, 0, 0, 0, 0, 0, 0])).set 44 (.inl [x3, 0, 0, 0, 0, 0, 0, 0, 0, 0, 0, 0, 0])).set 45 (.inl [x4, 0, 0, 0, 0, 0, 0, 0, 0, 0, 0, 0, 0])).set 46 (.inl [x5, 0, 0, 0, 0, 0, 0, 0, 0, 0, 0, 0, 0])).set 47 (.inl [x6, 0, 0, 0, 0, 0, 0, 0, 0, 0, 0, 0, 0])).set 48 (.inl [x7, 0, 0, 0, 0, 0, 0, 0, 0, 0, 0, 0, 0])).set 49 (.inl [(-1), 0, 0, 0, 0, 0, 0, 0, 0, 0, 0, 0, 0])).set 41 (.inr (.inr (9, [.int 4, .int 1, .ref 42, .ref 43, .ref 44, .ref 45, .ref 46, .ref 47, .ref 48, .ref 49, .ref 50, .ref 51, .int 0, .int 0, .int 0, .int 0, .int 0, .int 0, .int 0, .int 0, .ref 52, .int 0, .ref 53, .int 0, .ref 54, .int 0, .ref 55, .ref 56, .ref 57, .ref 58, .int 0, .ref 59, .ref 60])))).set 51 (.inl ((List.replicate 8 (0 : Int32)).set (Int32.toNatClampNeg x3) 6))) 45 = some (.inl [x4, 0, 0, 0, 0, 0, 0, 0, 0, 0, 0, 0, 0]) := ((at_ne (by decide)).trans ((at_ne (by decide)).trans ((at_ne (by decide)).trans ((at_ne (by decide)).trans ((at_ne (by decide)).trans ((at_ne (by decide)).trans (at_eq ((at_ne (by decide)).trans ((at_ne (by decide)).trans ((at_ne (by decide)).trans F45))))))))))
    refine rr rfl (s_iaload (j := 0) rfl f78 rfl) ?_
    have f79 : a_at ((((((((((H.set 42 (.inl [x1, 0, 0, 0, 0, 0, 0, 0, 0, 0, 0, 0, 0])).set 43 (.inl [x2, 0, 0, 0, 0, 0, 0, 0, 0, 0, 0, 0, 0])).set 44 (.inl [x3, 0, 0, 0, 0, 0, 0, 0, 0, 0, 0, 0, 0])).set 45 (.inl [x4, 0, 0, 0, 0, 0, 0, 0, 0, 0, 0, 0, 0])).set 46 (.inl [x5, 0, 0, 0, 0, 0, 0, 0, 0, 0, 0, 0, 0])).set 47 (.inl [x6, 0, 0, 0, 0, 0, 0, 0, 0, 0, 0, 0, 0])).set 48 (.inl [x7, 0, 0, 0, 0, 0, 0, 0, 0, 0, 0, 0, 0])).set 49 (.inl [(-1), 0, 0, 0, 0, 0, 0, 0, 0, 0, 0, 0, 0])).set 41 (.inr (.inr (9, [.int 4, .int 1, .ref 42, .ref 43, .ref 44, .ref 45, .ref 46, .ref 47, .ref 48, .ref 49, .ref 50, .ref 51, .int 0, .int 0, .int 0, .int 0, .int 0, .int 0, .int 0, .int 0, .ref 52, .int 0, .ref 53, .int 0, .ref 54, .int 0, .ref 55, .ref 56, .ref 57, .ref 58, .int 0, .ref 59, .ref 60])))).set 51 (.inl ((List.replicate 8 (0 : Int32)).set (Int32.toNatClampNeg x3) 6))) 51 = some (.inl ((List.replicate 8 (0 : Int32)).set (Int32.toNatClampNeg x3) 6)) := (at_eq f19)
    refine rr rfl (s_ialdH f79 g12 g10 g11) ?_
    refine rr rfl (s_istore rfl) ?_
    refine rr rfl (s_aload_n rfl) ?_
    refine rr rfl (s_getf f76 rfl) ?_
    refine rr rfl (s_iload_n rfl) ?_
    have f80 : a_at ((((((((((H.set 42 (.inl [x1, 0, 0, 0, 0, 0, 0, 0, 0, 0, 0, 0, 0])).set 43 (.inl [x2, 0, 0, 0, 0, 0, 0, 0, 0, 0, 0, 0, 0])).set 44 (.inl [x3, 0, 0, 0, 0, 0, 0, 0, 0, 0, 0, 0, 0])).set 45 (.inl [x4, 0, 0, 0, 0, 0, 0, 0, 0, 0, 0, 0, 0])).set 46 (.inl [x5, 0, 0, 0, 0, 0, 0, 0, 0, 0, 0, 0, 0])).set 47 (.inl [x6, 0, 0, 0, 0, 0, 0, 0, 0, 0, 0, 0, 0])).set 48 (.inl [x7, 0, 0, 0, 0, 0, 0, 0, 0, 0, 0, 0, 0])).set 49 (.inl [(-1), 0, 0, 0, 0, 0, 0, 0, 0, 0, 0, 0, 0])).set 41 (.inr (.inr (9, [.int 4, .int 1, .ref 42, .ref 43, .ref 44, .ref 45, .ref 46, .ref 47, .ref 48, .ref 49, .ref 50, .ref 51, .int 0, .int 0, .int 0, .int 0, .int 0, .int 0, .int 0, .int 0, .ref 52, .int 0, .ref 53, .int 0, .ref 54, .int 0, .ref 55, .ref 56, .ref 57, .ref 58, .int 0, .ref 59, .ref 60])))).set 51 (.inl ((List.replicate 8 (0 : Int32)).set (Int32.toNatClampNeg x3) 6))) 46 = some (.inl [x5, 0, 0, 0, 0, 0, 0, 0, 0, 0, 0, 0, 0]) := ((at_ne (by decide)).trans ((at_ne (by decide)).trans ((at_ne (by decide)).trans ((at_ne (by decide)).trans ((at_ne (by decide)).trans (at_eq ((at_ne (by decide)).trans ((at_ne (by decide)).trans ((at_ne (by decide)).trans ((at_ne (by decide)).trans F46))))))))))
    refine rr rfl (s_iaload (j := 0) rfl f80 rfl) ?_
    refine rr rfl (s_iconst (v := (-1)) (by decide)) ?_
    refine rr rfl (s_icF (ic_neq g4)) ?_
    refine rr rfl (s_aload_n rfl) ?_
    refine rr rfl (s_getf f76 rfl) ?_
    refine rr rfl (s_aload_n rfl) ?_
    refine rr rfl (s_getf f76 rfl) ?_
    refine rr rfl (s_iload_n rfl) ?_
    refine rr rfl (s_iaload (j := 0) rfl f80 rfl) ?_
    refine rr rfl (s_ialdN f79 g13 g5 g6 g10) ?_
    refine rr rfl (s_iload rfl) ?_
    refine rr rfl (s_icT (by decide)) ?_
    refine rr rfl (s_iload rfl) ?_
    refine rr rfl (s_istore rfl) ?_
    refine rr rfl (s_aload_n rfl) ?_
    refine rr rfl (s_getf f76 rfl) ?_
    refine rr rfl (s_iload_n rfl) ?_
    have f81 : a_at ((((((((((H.set 42 (.inl [x1, 0, 0, 0, 0, 0, 0, 0, 0, 0, 0, 0, 0])).set 43 (.inl [x2, 0, 0, 0, 0, 0, 0, 0, 0, 0, 0, 0, 0])).set 44 (.inl [x3, 0, 0, 0, 0, 0, 0, 0, 0, 0, 0, 0, 0])).set 45 (.inl [x4, 0, 0, 0, 0, 0, 0, 0, 0, 0, 0, 0, 0])).set 46 (.inl [x5, 0, 0, 0, 0, 0, 0, 0, 0, 0, 0, 0, 0])).set 47 (.inl [x6, 0, 0, 0, 0, 0, 0, 0, 0, 0, 0, 0, 0])).set 48 (.inl [x7, 0, 0, 0, 0, 0, 0, 0, 0, 0, 0, 0, 0])).set 49 (.inl [(-1), 0, 0, 0, 0, 0, 0, 0, 0, 0, 0, 0, 0])).set 41 (.inr (.inr (9, [.int 4, .int 1, .ref 42, .ref 43, .ref 44, .ref 45, .ref 46, .ref 47, .ref 48, .ref 49, .ref 50, .ref 51, .int 0, .int 0, .int 0, .int 0, .int 0, .int 0, .int 0, .int 0, .ref 52, .int 0, .ref 53, .int 0, .ref 54, .int 0, .ref 55, .ref 56, .ref 57, .ref 58, .int 0, .ref 59, .ref 60])))).set 51 (.inl ((List.replicate 8 (0 : Int32)).set (Int32.toNatClampNeg x3) 6))) 47 = some (.inl [x6, 0, 0, 0, 0, 0, 0, 0, 0, 0, 0, 0, 0]) := ((at_ne (by decide)).trans ((at_ne (by decide)).trans ((at_ne (by decide)).trans ((at_ne (by decide)).trans (at_eq ((at_ne (by decide)).trans ((at_ne (by decide)).trans ((at_ne (by decide)).trans ((at_ne (by decide)).trans ((at_ne (by decide)).trans F47))))))))))
    refine rr rfl (s_iaload (j := 0) rfl f81 rfl) ?_
    refine rr rfl (s_iconst (v := (-1)) (by decide)) ?_
    refine rr rfl (s_icF (ic_neq g7)) ?_
    refine rr rfl (s_aload_n rfl) ?_
    refine rr rfl (s_getf f76 rfl) ?_
    refine rr rfl (s_aload_n rfl) ?_
    refine rr rfl (s_getf f76 rfl) ?_
    refine rr rfl (s_iload_n rfl) ?_
    refine rr rfl (s_iaload (j := 0) rfl f81 rfl) ?_
    refine rr rfl (s_ialdH f79 g14 g10 g11) ?_
    refine rr rfl (s_iconst (v := 1) (by decide)) ?_
    refine rr rfl (s_iadd (v := 7) (by decide)) ?_
    refine rr rfl (s_iload rfl) ?_
    refine rr rfl (s_icF (by decide)) ?_
    refine rr rfl (s_aload_n rfl) ?_
    refine rr rfl (s_getf f76 rfl) ?_
    refine rr rfl (s_aload_n rfl) ?_
    refine rr rfl (s_getf f76 rfl) ?_
    refine rr rfl (s_iload_n rfl) ?_
    refine rr rfl (s_iaload (j := 0) rfl f81 rfl) ?_
    refine rr rfl (s_ialdH f79 g14 g10 g11) ?_
    refine rr rfl (s_iconst (v := 1) (by decide)) ?_
    refine rr rfl (s_iadd (v := 7) (by decide)) ?_
    refine rr rfl s_goto ?_
    refine rr rfl (s_istore rfl) ?_
    refine rr rfl (s_iload rfl) ?_
    refine rr rfl (s_aload_n rfl) ?_
    refine rr rfl (s_getf f76 rfl) ?_
    refine rr rfl (s_aload_n rfl) ?_
    refine rr rfl (s_getf f76 rfl) ?_
    refine rr rfl (s_iload_n rfl) ?_
    have f82 : a_at ((((((((((H.set 42 (.inl [x1, 0, 0, 0, 0, 0, 0, 0, 0, 0, 0, 0, 0])).set 43 (.inl [x2, 0, 0, 0, 0, 0, 0, 0, 0, 0, 0, 0, 0])).set 44 (.inl [x3, 0, 0, 0, 0, 0, 0, 0, 0, 0, 0, 0, 0])).set 45 (.inl [x4, 0, 0, 0, 0, 0, 0, 0, 0, 0, 0, 0, 0])).set 46 (.inl [x5, 0, 0, 0, 0, 0, 0, 0, 0, 0, 0, 0, 0])).set 47 (.inl [x6, 0, 0, 0, 0, 0, 0, 0, 0, 0, 0, 0, 0])).set 48 (.inl [x7, 0, 0, 0, 0, 0, 0, 0, 0, 0, 0, 0, 0])).set 49 (.inl [(-1), 0, 0, 0, 0, 0, 0, 0, 0, 0, 0, 0, 0])).set 41 (.inr (.inr (9, [.int 4, .int 1, .ref 42, .ref 43, .ref 44, .ref 45, .ref 46, .ref 47, .ref 48, .ref 49, .ref 50, .ref 51, .int 0, .int 0, .int 0, .int 0, .int 0, .int 0, .int 0, .int 0, .ref 52, .int 0, .ref 53, .int 0, .ref 54, .int 0, .ref 55, .ref 56, .ref 57, .ref 58, .int 0, .ref 59, .ref 60])))).set 51 (.inl ((List.replicate 8 (0 : Int32)).set (Int32.toNatClampNeg x3) 6))) 44 = some (.inl [x3, 0, 0, 0, 0, 0, 0, 0, 0, 0, 0, 0, 0]) := ((at_ne (by decide)).trans ((at_ne (by decide)).trans ((at_ne (by decide)).trans ((at_ne (by decide)).trans ((at_ne (by decide)).trans ((at_ne (by decide)).trans ((at_ne (by decide)).trans (at_eq ((at_ne (by decide)).trans ((at_ne (by decide)).trans F44))))))))))
    refine rr rfl (s_iaload (j := 0) rfl f82 rfl) ?_
    refine rr rfl (s_ialdH f79 rfl g10 g11) ?_
    refine rr rfl (s_icF (by decide)) ?_
    refine rr rfl (s_aload_n rfl) ?_
    refine rr rfl (s_getf f76 rfl) ?_
    refine rr rfl (s_aload_n rfl) ?_
    refine rr rfl (s_getf f76 rfl) ?_
    refine rr rfl (s_iload_n rfl) ?_
    refine rr rfl (s_iaload (j := 0) rfl f82 rfl) ?_
    refine rr rfl (s_iload rfl) ?_
    refine rr rfl (s_iastH (h' := ((((((((((H.set 42 (.inl [x1, 0, 0, 0, 0, 0, 0, 0, 0, 0, 0, 0, 0])).set 43 (.inl [x2, 0, 0, 0, 0, 0, 0, 0, 0, 0, 0, 0, 0])).set 44 (.inl [x3, 0, 0, 0, 0, 0, 0, 0, 0, 0, 0, 0, 0])).set 45 (.inl [x4, 0, 0, 0, 0, 0, 0, 0, 0, 0, 0, 0, 0])).set 46 (.inl [x5, 0, 0, 0, 0, 0, 0, 0, 0, 0, 0, 0, 0])).set 47 (.inl [x6, 0, 0, 0, 0, 0, 0, 0, 0, 0, 0, 0, 0])).set 48 (.inl [x7, 0, 0, 0, 0, 0, 0, 0, 0, 0, 0, 0, 0])).set 49 (.inl [(-1), 0, 0, 0, 0, 0, 0, 0, 0, 0, 0, 0, 0])).set 41 (.inr (.inr (9, [.int 4, .int 1, .ref 42, .ref 43, .ref 44, .ref 45, .ref 46, .ref 47, .ref 48, .ref 49, .ref 50, .ref 51, .int 0, .int 0, .int 0, .int 0, .int 0, .int 0, .int 0, .int 0, .ref 52, .int 0, .ref 53, .int 0, .ref 54, .int 0, .ref 55, .ref 56, .ref 57, .ref 58, .int 0, .ref 59, .ref 60])))).set 51 (.inl ((List.replicate 8 (0 : Int32)).set (Int32.toNatClampNeg x3) 7)))) (v := 7) f79 rfl g10 g11 (len_of f79) (List.set_set ..)) ?_
    refine rr rfl (s_iconst (v := 1) (by decide)) ?_
    refine rr rfl (s_istore_n rfl) ?_
    refine rr rfl (s_iload_n rfl) ?_
    refine rr rfl (s_ifF (by decide)) ?_
    refine rr rfl (s_iload rfl) ?_
    refine rr rfl (s_bipush (v := 8) (by decide)) ?_
    refine rr rfl (s_icF (by decide)) ?_
    refine rr rfl (s_iconst (v := 1) (by decide)) ?_
    refine rr rfl s_goto ?_
    refine rr rfl (s_istore_n rfl) ?_
    refine rr rfl (s_iinc (v := 1) rfl (by decide) rfl) ?_
    refine rr rfl s_goto ?_
    refine rr rfl (s_iload_n rfl) ?_
    refine rr rfl (s_aload_n rfl) ?_
    have f83 : a_at ((((((((((H.set 42 (.inl [x1, 0, 0, 0, 0, 0, 0, 0, 0, 0, 0, 0, 0])).set 43 (.inl [x2, 0, 0, 0, 0, 0, 0, 0, 0, 0, 0, 0, 0])).set 44 (.inl [x3, 0, 0, 0, 0, 0, 0, 0, 0, 0, 0, 0, 0])).set 45 (.inl [x4, 0, 0, 0, 0, 0, 0, 0, 0, 0, 0, 0, 0])).set 46 (.inl [x5, 0, 0, 0, 0, 0, 0, 0, 0, 0, 0, 0, 0])).set 47 (.inl [x6, 0, 0, 0, 0, 0, 0, 0, 0, 0, 0, 0, 0])).set 48 (.inl [x7, 0, 0, 0, 0, 0, 0, 0, 0, 0, 0, 0, 0])).set 49 (.inl [(-1), 0, 0, 0, 0, 0, 0, 0, 0, 0, 0, 0, 0])).set 41 (.inr (.inr (9, [.int 4, .int 1, .ref 42, .ref 43, .ref 44, .ref 45, .ref 46, .ref 47, .ref 48, .ref 49, .ref 50, .ref 51, .int 0, .int 0, .int 0, .int 0, .int 0, .int 0, .int 0, .int 0, .ref 52, .int 0, .ref 53, .int 0, .ref 54, .int 0, .ref 55, .ref 56, .ref 57, .ref 58, .int 0, .ref 59, .ref 60])))).set 51 (.inl ((List.replicate 8 (0 : Int32)).set (Int32.toNatClampNeg x3) 7))) 41 = some (.inr (.inr (9, [.int 4, .int 1, .ref 42, .ref 43, .ref 44, .ref 45, .ref 46, .ref 47, .ref 48, .ref 49, .ref 50, .ref 51, .int 0, .int 0, .int 0, .int 0, .int 0, .int 0, .int 0, .int 0, .ref 52, .int 0, .ref 53, .int 0, .ref 54, .int 0, .ref 55, .ref 56, .ref 57, .ref 58, .int 0, .ref 59, .ref 60]))) := ((at_ne (by decide)).trans f18)
    refine rr rfl (s_getf f83 rfl) ?_
    refine rr rfl (s_icT (by decide)) ?_
    refine rr rfl s_goto ?_
    refine rr rfl (s_iload_n rfl) ?_
    refine rr rfl (s_ifF (by decide)) ?_
    refine rr rfl (s_iload_n rfl) ?_
    refine rr rfl (s_ifF (by decide)) ?_
    refine rr rfl (s_iconst (v := 0) (by decide)) ?_
    refine rr rfl (s_istore_n rfl) ?_
    refine rr rfl (s_iconst (v := 0) (by decide)) ?_
    refine rr rfl (s_istore_n rfl) ?_
    refine rr rfl (s_iload_n rfl) ?_
    refine rr rfl (s_aload_n rfl) ?_
    refine rr rfl (s_getf f83 rfl) ?_
    refine rr rfl (s_icF (by decide)) ?_
    refine rr rfl (s_iconst (v := 0) (by decide)) ?_
    refine rr rfl (s_istore rfl) ?_
    refine rr rfl (s_aload_n rfl) ?_
    refine rr rfl (s_getf f83 rfl) ?_
    refine rr rfl (s_iload_n rfl) ?_
    have f84 : a_at ((((((((((H.set 42 (.inl [x1, 0, 0, 0, 0, 0, 0, 0, 0, 0, 0, 0, 0])).set 43 (.inl [x2, 0, 0, 0, 0, 0, 0, 0, 0, 0, 0, 0, 0])).set 44 (.inl [x3, 0, 0, 0, 0, 0, 0, 0, 0, 0, 0, 0, 0])).set 45 (.inl [x4, 0, 0, 0, 0, 0, 0, 0, 0, 0, 0, 0, 0])).set 46 (.inl [x5, 0, 0, 0, 0, 0, 0, 0, 0, 0, 0, 0, 0])).set 47 (.inl [x6, 0, 0, 0, 0, 0, 0, 0, 0, 0, 0, 0, 0])).set 48 (.inl [x7, 0, 0, 0, 0, 0, 0, 0, 0, 0, 0, 0, 0])).set 49 (.inl [(-1), 0, 0, 0, 0, 0, 0, 0, 0, 0, 0, 0, 0])).set 41 (.inr (.inr (9, [.int 4, .int 1, .ref 42, .ref 43, .ref 44, .ref 45, .ref 46, .ref 47, .ref 48, .ref 49, .ref 50, .ref 51, .int 0, .int 0, .int 0, .int 0, .int 0, .int 0, .int 0, .int 0, .ref 52, .int 0, .ref 53, .int 0, .ref 54, .int 0, .ref 55, .ref 56, .ref 57, .ref 58, .int 0, .ref 59, .ref 60])))).set 51 (.inl ((List.replicate 8 (0 : Int32)).set (Int32.toNatClampNeg x3) 7))) 43 = some (.inl [x2, 0, 0, 0, 0, 0, 0, 0, 0, 0, 0, 0, 0]) := ((at_ne (by decide)).trans ((at_ne (by decide)).trans ((at_ne (by decide)).trans ((at_ne (by decide)).trans ((at_ne (by decide)).trans ((at_ne (by decide)).trans ((at_ne (by decide)).trans ((at_ne (by decide)).trans (at_eq ((at_ne (by decide)).trans F43))))))))))
    refine rr rfl (s_iaload (j := 0) rfl f84 rfl) ?_
    refine rr rfl (s_ifF (ic_nne g1)) ?_
    refine rr rfl (s_aload_n rfl) ?_
    refine rr rfl (s_getf f83 rfl) ?_
    refine rr rfl (s_aload_n rfl) ?_
    refine rr rfl (s_getf f83 rfl) ?_
    refine rr rfl (s_iload_n rfl) ?_
    have f85 : a_at ((((((((((H.set 42 (.inl [x1, 0, 0, 0, 0, 0, 0, 0, 0, 0, 0, 0, 0])).set 43 (.inl [x2, 0, 0, 0, 0, 0, 0, 0, 0, 0, 0, 0, 0])).set 44 (.inl [x3, 0, 0, 0, 0, 0, 0, 0, 0, 0, 0, 0, 0])).set 45 (.inl [x4, 0, 0, 0, 0, 0, 0, 0, 0, 0, 0, 0, 0])).set 46 (.inl [x5, 0, 0, 0, 0, 0, 0, 0, 0, 0, 0, 0, 0])).set 47 (.inl [x6, 0, 0, 0, 0, 0, 0, 0, 0, 0, 0, 0, 0])).set 48 (.inl [x7, 0, 0, 0, 0, 0, 0, 0, 0, 0, 0, 0, 0])).set 49 (.inl [(-1), 0, 0, 0, 0, 0, 0, 0, 0, 0, 0, 0, 0])).set 41 (.inr (.inr (9, [.int 4, .int 1, .ref 42, .ref 43, .ref 44, .ref 45, .ref 46, .ref 47, .ref 48, .ref 49, .ref 50, .ref 51, .int 0, .int 0, .int 0, .int 0, .int 0, .int 0, .int 0, .int 0, .ref 52, .int 0, .ref 53, .int 0, .ref 54, .int 0, .ref 55, .ref 56, .ref 57, .ref 58, .int 0, .ref 59, .ref 60])))).set 51 (.inl ((List.replicate 8 (0 : Int32)).set (Int32.toNatClampNeg x3) 7))) 45 = some (.inl [x4, 0, 0, 0, 0, 0, 0, 0, 0, 0, 0, 0, 0]) := ((at_ne (by decide)).trans ((at_ne (by decide)).trans ((at_ne (by decide)).trans ((at_ne (by decide)).trans ((at_ne (by decide)).trans ((at_ne (by decide)).trans (at_eq ((at_ne (by decide)).trans ((at_ne (by decide)).trans ((at_ne (by decide)).trans F45))))))))))
    refine rr rfl (s_iaload (j := 0) rfl f85 rfl) ?_
    have f86 : a_at ((((((((((H.set 42 (.inl [x1, 0, 0, 0, 0, 0, 0, 0, 0, 0, 0, 0, 0])).set 43 (.inl [x2, 0, 0, 0, 0, 0, 0, 0, 0, 0, 0, 0, 0])).set 44 (.inl [x3, 0, 0, 0, 0, 0, 0, 0, 0, 0, 0, 0, 0])).set 45 (.inl [x4, 0, 0, 0, 0, 0, 0, 0, 0, 0, 0, 0, 0])).set 46 (.inl [x5, 0, 0, 0, 0, 0, 0, 0, 0, 0, 0, 0, 0])).set 47 (.inl [x6, 0, 0, 0, 0, 0, 0, 0, 0, 0, 0, 0, 0])).set 48 (.inl [x7, 0, 0, 0, 0, 0, 0, 0, 0, 0, 0, 0, 0])).set 49 (.inl [(-1), 0, 0, 0, 0, 0, 0, 0, 0, 0, 0, 0, 0])).set 41 (.inr (.inr (9, [.int 4, .int 1, .ref 42, .ref 43, .ref 44, .ref 45, .ref 46, .ref 47, .ref 48, .ref 49, .ref 50, .ref 51, .int 0, .int 0, .int 0, .int 0, .int 0, .int 0, .int 0, .int 0, .ref 52, .int 0, .ref 53, .int 0, .ref 54, .int 0, .ref 55, .ref 56, .ref 57, .ref 58, .int 0, .ref 59, .ref 60])))).set 51 (.inl ((List.replicate 8 (0 : Int32)).set (Int32.toNatClampNeg x3) 7))) 51 = some (.inl ((List.replicate 8 (0 : Int32)).set (Int32.toNatClampNeg x3) 7)) := (at_eq f19)
    refine rr rfl (s_ialdH f86 g12 g10 g11) ?_
    refine rr rfl (s_istore rfl) ?_
    refine rr rfl (s_aload_n rfl) ?_
    refine rr rfl (s_getf f83 rfl) ?_
    refine rr rfl (s_iload_n rfl) ?_
    have f87 : a_at ((((((((((H.set 42 (.inl [x1, 0, 0, 0, 0, 0, 0, 0, 0, 0, 0, 0, 0])).set 43 (.inl [x2, 0, 0, 0, 0, 0, 0, 0, 0, 0, 0, 0, 0])).set 44 (.inl [x3, 0, 0, 0, 0, 0, 0, 0, 0, 0, 0, 0, 0])).set 45 (.inl [x4, 0, 0, 0, 0, 0, 0, 0, 0, 0, 0, 0, 0])).set 46 (.inl [x5, 0, 0, 0, 0, 0, 0, 0, 0, 0, 0, 0, 0])).set 47 (.inl [x6, 0, 0, 0, 0, 0, 0, 0, 0, 0, 0, 0, 0])).set 48 (.inl [x7, 0, 0, 0, 0, 0, 0, 0, 0, 0, 0, 0, 0])).set 49 (.inl [(-1), 0, 0, 0, 0, 0, 0, 0, 0, 0, 0, 0, 0])).set 41 (.inr (.inr (9, [.int 4, .int 1, .ref 42, .ref 43, .ref 44, .ref 45, .ref 46, .ref 47, .ref 48, .ref 49, .ref 50, .ref 51, .int 0, .int 0, .int 0, .int 0, .int 0, .int 0, .int 0, .int 0, .ref 52, .int 0, .ref 53, .int 0, .ref 54, .int 0, .ref 55, .ref 56, .ref 57, .ref 58, .int 0, .ref 59, .ref 60])))).set 51 (.inl ((List.replicate 8 (0 : Int32)).set (Int32.toNatClampNeg x3) 7))) 46 = some (.inl [x5, 0, 0, 0, 0, 0, 0, 0, 0, 0, 0, 0, 0]) := ((at_ne (by decide)).trans ((at_ne (by decide)).trans ((at_ne (by decide)).trans ((at_ne (by decide)).trans ((at_ne (by decide)).trans (at_eq ((at_ne (by decide)).trans ((at_ne (by decide)).trans ((at_ne (by decide)).trans ((at_ne (by decide)).trans F46))))))))))
    refine rr rfl (s_iaload (j := 0) rfl f87 rfl) ?_
    refine rr rfl (s_iconst (v := (-1)) (by decide)) ?_
    refine rr rfl (s_icF (ic_neq g4)) ?_
    refine rr rfl (s_aload_n rfl) ?_
    refine rr rfl (s_getf f83 rfl) ?_
    refine rr rfl (s_aload_n rfl) ?_
    refine rr rfl (s_getf f83 rfl) ?_
    refine rr rfl (s_iload_n rfl) ?_
    refine rr rfl (s_iaload (j := 0) rfl f87 rfl) ?_
    refine rr rfl (s_ialdN f86 g13 g5 g6 g10) ?_
    refine rr rfl (s_iload rfl) ?_
    refine rr rfl (s_icT (by decide)) ?_
    refine rr rfl (s_iload rfl) ?_
    refine rr rfl (s_istore rfl) ?_
    refine rr rfl (s_aload_n rfl) ?_
    refine rr rfl (s_getf f83 rfl) ?_
    refine rr rfl (s_iload_n rfl) ?_
    have f88 : a_at ((((((((((H.set 42 (.inl [x1, 0, 0, 0, 0, 0, 0, 0, 0, 0, 0, 0, 0])).set 43 (.inl [x2, 0, 0, 0, 0, 0, 0, 0, 0, 0, 0, 0, 0])).set 44 (.inl [x3, 0, 0, 0, 0, 0, 0, 0, 0, 0, 0, 0, 0])).set 45 (.inl [x4, 0, 0, 0, 0, 0, 0, 0, 0, 0, 0, 0, 0])).set 46 (.inl [x5, 0, 0, 0, 0, 0, 0, 0, 0, 0, 0, 0, 0])).set 47 (.inl [x6, 0, 0, 0, 0, 0, 0, 0, 0, 0, 0, 0, 0])).set 48 (.inl [x7, 0, 0, 0, 0, 0, 0, 0, 0, 0, 0, 0, 0])).set 49 (.inl [(-1), 0, 0, 0, 0, 0, 0, 0, 0, 0, 0, 0, 0])).set 41 (.inr (.inr (9, [.int 4, .int 1, .ref 42, .ref 43, .ref 44, .ref 45, .ref 46, .ref 47, .ref 48, .ref 49, .ref 50, .ref 51, .int 0, .int 0, .int 0, .int 0, .int 0, .int 0, .int 0, .int 0, .ref 52, .int 0, .ref 53, .int 0, .ref 54, .int 0, .ref 55, .ref 56, .ref 57, .ref 58, .int 0, .ref 59, .ref 60])))).set 51 (.inl ((List.replicate 8 (0 : Int32)).set (Int32.toNatClampNeg x3) 7))) 47 = some (.inl [x6, 0, 0, 0, 0, 0, 0, 0, 0, 0, 0, 0, 0]) := ((at_ne (by decide)).trans ((at_ne (by decide)).trans ((at_ne (by decide)).trans ((at_ne (by decide)).trans (at_eq ((at_ne (by decide)).trans ((at_ne (by decide)).trans ((at_ne (by decide)).trans ((at_ne (by decide)).trans ((at_ne (by decide)).trans F47))))))))))
    refine rr rfl (s_iaload (j := 0) rfl f88 rfl) ?_
    refine rr rfl (s_iconst (v := (-1)) (by decide)) ?_
    refine rr rfl (s_icF (ic_neq g7)) ?_
    refine rr rfl (s_aload_n rfl) ?_
    refine rr rfl (s_getf f83 rfl) ?_
    refine rr rfl (s_aload_n rfl) ?_
    refine rr rfl (s_getf f83 rfl) ?_
    refine rr rfl (s_iload_n rfl) ?_
    refine rr rfl (s_iaload (j := 0) rfl f88 rfl) ?_
    refine rr rfl (s_ialdH f86 g14 g10 g11) ?_
    refine rr rfl (s_iconst (v := 1) (by decide)) ?_
    refine rr rfl (s_iadd (v := 8) (by decide)) ?_
    refine rr rfl (s_iload rfl) ?_
    refine rr rfl (s_icF (by decide)) ?_
    refine rr rfl (s_aload_n rfl) ?_
    refine rr rfl (s_getf f83 rfl) ?_
    refine rr rfl (s_aload_n rfl) ?_
    refine rr rfl (s_getf f83 rfl) ?_
    refine rr rfl (s_iload_n rfl) ?_
    refine rr rfl (s_iaload (j := 0) rfl f88 rfl) ?_
    refine rr rfl (s_ialdH f86 g14 g10 g11) ?_
    refine rr rfl (s_iconst (v := 1) (by decide)) ?_
    refine rr rfl (s_iadd (v := 8) (by decide)) ?_
    refine rr rfl s_goto ?_
    refine rr rfl (s_istore rfl) ?_
    refine rr rfl (s_iload rfl) ?_
    refine rr rfl (s_aload_n rfl) ?_
    refine rr rfl (s_getf f83 rfl) ?_
    refine rr rfl (s_aload_n rfl) ?_
    refine rr rfl (s_getf f83 rfl) ?_
    refine rr rfl (s_iload_n rfl) ?_
    have f89 : a_at ((((((((((H.set 42 (.inl [x1, 0, 0, 0, 0, 0, 0, 0, 0, 0, 0, 0, 0])).set 43 (.inl [x2, 0, 0, 0, 0, 0, 0, 0, 0, 0, 0, 0, 0])).set 44 (.inl [x3, 0, 0, 0, 0, 0, 0, 0, 0, 0, 0, 0, 0])).set 45 (.inl [x4, 0, 0, 0, 0, 0, 0, 0, 0, 0, 0, 0, 0])).set 46 (.inl [x5, 0, 0, 0, 0, 0, 0, 0, 0, 0, 0, 0, 0])).set 47 (.inl [x6, 0, 0, 0, 0, 0, 0, 0, 0, 0, 0, 0, 0])).set 48 (.inl [x7, 0, 0, 0, 0, 0, 0, 0, 0, 0, 0, 0, 0])).set 49 (.inl [(-1), 0, 0, 0, 0, 0, 0, 0, 0, 0, 0, 0, 0])).set 41 (.inr (.inr (9, [.int 4, .int 1, .ref 42, .ref 43, .ref 44, .ref 45, .ref 46, .ref 47, .ref 48, .ref 49, .ref 50, .ref 51, .int 0, .int 0, .int 0, .int 0, .int 0, .int 0, .int 0, .int 0, .ref 52, .int 0, .ref 53, .int 0, .ref 54, .int 0, .ref 55, .ref 56, .ref 57, .ref 58, .int 0, .ref 59, .ref 60])))).set 51 (.inl ((List.replicate 8 (0 : Int32)).set (Int32.toNatClampNeg x3) 7))) 44 = some (.inl [x3, 0, 0, 0, 0, 0, 0, 0, 0, 0, 0, 0, 0]) := ((at_ne (by decide)).trans ((at_ne (by decide)).trans ((at_ne (by decide)).trans ((at_ne (by decide)).trans ((at_ne (by decide)).trans ((at_ne (by decide)).trans ((at_ne (by decide)).trans (at_eq ((at_ne (by decide)).trans ((at_ne (by decide)).trans F44))))))))))
    refine rr rfl (s_iaload (j := 0) rfl f89 rfl) ?_
    refine rr rfl (s_ialdH f86 rfl g10 g11) ?_
    refine rr rfl (s_icF (by decide)) ?_
    refine rr rfl (s_aload_n rfl) ?_
    refine rr rfl (s_getf f83 rfl) ?_
    refine rr rfl (s_aload_n rfl) ?_
    refine rr rfl (s_getf f83 rfl) ?_
    refine rr rfl (s_iload_n rfl) ?_
    refine rr rfl (s_iaload (j := 0) rfl f89 rfl) ?_
    refine rr rfl (s_iload rfl) ?_
    refine rr rfl (s_iastH (h' := ((((((((((H.set 42 (.inl [x1, 0, 0, 0, 0, 0, 0, 0, 0, 0, 0, 0, 0])).set 43 (.inl [x2, 0, 0, 0, 0, 0, 0, 0, 0, 0, 0, 0, 0])).set 44 (.inl [x3, 0, 0, 0, 0, 0, 0, 0, 0, 0, 0, 0, 0])).set 45 (.inl [x4, 0, 0, 0, 0, 0, 0, 0, 0, 0, 0, 0, 0])).set 46 (.inl [x5, 0, 0, 0, 0, 0, 0, 0, 0, 0, 0, 0, 0])).set 47 (.inl [x6, 0, 0, 0, 0, 0, 0, 0, 0, 0, 0, 0, 0])).set 48 (.inl [x7, 0, 0, 0, 0, 0, 0, 0, 0, 0, 0, 0, 0])).set 49 (.inl [(-1), 0, 0, 0, 0, 0, 0, 0, 0, 0, 0, 0, 0])).set 41 (.inr (.inr (9, [.int 4, .int 1, .ref 42, .ref 43, .ref 44, .ref 45, .ref 46, .ref 47, .ref 48, .ref 49, .ref 50, .ref 51, .int 0, .int 0, .int 0, .int 0, .int 0, .int 0, .int 0, .int 0, .ref 52, .int 0, .ref 53, .int 0, .ref 54, .int 0, .ref 55, .ref 56, .ref 57, .ref 58, .int 0, .ref 59, .ref 60])))).set 51 (.inl ((List.replicate 8 (0 : Int32)).set (Int32.toNatClampNeg x3) 8)))) (v := 8) f86 rfl g10 g11 (len_of f86) (List.set_set ..)) ?_
    refine rr rfl (s_iconst (v := 1) (by decide)) ?_
    refine rr rfl (s_istore_n rfl) ?_
    refine rr rfl (s_iload_n rfl) ?_
    refine rr rfl (s_ifF (by decide)) ?_
    refine rr rfl (s_iload rfl) ?_
    refine rr rfl (s_bipush (v := 8) (by decide)) ?_
    refine rr rfl (s_icT (by decide)) ?_
    refine rr rfl (s_iconst (v := 0) (by decide)) ?_
    refine rr rfl (s_istore_n rfl) ?_
    refine rr rfl (s_iinc (v := 1) rfl (by decide) rfl) ?_
    refine rr rfl s_goto ?_
    refine rr rfl (s_iload_n rfl) ?_
    refine rr rfl (s_aload_n rfl) ?_
    have f90 : a_at ((((((((((H.set 42 (.inl [x1, 0, 0, 0, 0, 0, 0, 0, 0, 0, 0, 0, 0])).set 43 (.inl [x2, 0, 0, 0, 0, 0, 0, 0, 0, 0, 0, 0, 0])).set 44 (.inl [x3, 0, 0, 0, 0, 0, 0, 0, 0, 0, 0, 0, 0])).set 45 (.inl [x4, 0, 0, 0, 0, 0, 0, 0, 0, 0, 0, 0, 0])).set 46 (.inl [x5, 0, 0, 0, 0, 0, 0, 0, 0, 0, 0, 0, 0])).set 47 (.inl [x6, 0, 0, 0, 0, 0, 0, 0, 0, 0, 0, 0, 0])).set 48 (.inl [x7, 0, 0, 0, 0, 0, 0, 0, 0, 0, 0, 0, 0])).set 49 (.inl [(-1), 0, 0, 0, 0, 0, 0, 0, 0, 0, 0, 0, 0])).set 41 (.inr (.inr (9, [.int 4, .int 1, .ref 42, .ref 43, .ref 44, .ref 45, .ref 46, .ref 47, .ref 48, .ref 49, .ref 50, .ref 51, .int 0, .int 0, .int 0, .int 0, .int 0, .int 0, .int 0, .int 0, .ref 52, .int 0, .ref 53, .int 0, .ref 54, .int 0, .ref 55, .ref 56, .ref 57, .ref 58, .int 0, .ref 59, .ref 60])))).set 51 (.inl ((List.replicate 8 (0 : Int32)).set (Int32.toNatClampNeg x3) 8))) 41 = some (.inr (.inr (9, [.int 4, .int 1, .ref 42, .ref 43, .ref 44, .ref 45, .ref 46, .ref 47, .ref 48, .ref 49, .ref 50, .ref 51, .int 0, .int 0, .int 0, .int 0, .int 0, .int 0, .int 0, .int 0, .ref 52, .int 0, .ref 53, .int 0, .ref 54, .int 0, .ref 55, .ref 56, .ref 57, .ref 58, .int 0, .ref 59, .ref 60]))) := ((at_ne (by decide)).trans f18)
    refine rr rfl (s_getf f90 rfl) ?_
    refine rr rfl (s_icT (by decide)) ?_
    refine rr rfl s_goto ?_
    refine rr rfl (s_iload_n rfl) ?_
    refine rr rfl (s_ifF (by decide)) ?_
    refine rr rfl (s_iload_n rfl) ?_
    refine rr rfl (s_ifT (by decide)) ?_
    refine rr rfl (s_iload_n rfl) ?_
    exact rrt rfl rfl rfl rfl
  refine rrc rfl rfl rfl (do_of g_X9_lays rfl (rok9 f18 rfl rfl) e2) ?_
  refine rr rfl (s_istore rfl) ?_
  refine rr rfl (s_iload rfl) ?_
  refine rr rfl (s_ifT (by decide)) ?_
  refine rr rfl (s_aload_n rfl) ?_
  refine rr rfl s_dup ?_
  have f91 : a_at ((((((((((H.set 42 (.inl [x1, 0, 0, 0, 0, 0, 0, 0, 0, 0, 0, 0, 0])).set 43 (.inl [x2, 0, 0, 0, 0, 0, 0, 0, 0, 0, 0, 0, 0])).set 44 (.inl [x3, 0, 0, 0, 0, 0, 0, 0, 0, 0, 0, 0, 0])).set 45 (.inl [x4, 0, 0, 0, 0, 0, 0, 0, 0, 0, 0, 0, 0])).set 46 (.inl [x5, 0, 0, 0, 0, 0, 0, 0, 0, 0, 0, 0, 0])).set 47 (.inl [x6, 0, 0, 0, 0, 0, 0, 0, 0, 0, 0, 0, 0])).set 48 (.inl [x7, 0, 0, 0, 0, 0, 0, 0, 0, 0, 0, 0, 0])).set 49 (.inl [(-1), 0, 0, 0, 0, 0, 0, 0, 0, 0, 0, 0, 0])).set 41 (.inr (.inr (9, [.int 4, .int 1, .ref 42, .ref 43, .ref 44, .ref 45, .ref 46, .ref 47, .ref 48, .ref 49, .ref 50, .ref 51, .int 0, .int 0, .int 0, .int 0, .int 0, .int 0, .int 0, .int 0, .ref 52, .int 0, .ref 53, .int 0, .ref 54, .int 0, .ref 55, .ref 56, .ref 57, .ref 58, .int 0, .ref 59, .ref 60])))).set 51 (.inl ((List.replicate 8 (0 : Int32)).set (Int32.toNatClampNeg x3) 8))) 41 = some (.inr (.inr (9, [.int 4, .int 1, .ref 42, .ref 43, .ref 44, .ref 45, .ref 46, .ref 47, .ref 48, .ref 49, .ref 50, .ref 51, .int 0, .int 0, .int 0, .int 0, .int 0, .int 0, .int 0, .int 0, .ref 52, .int 0, .ref 53, .int 0, .ref 54, .int 0, .ref 55, .ref 56, .ref 57, .ref 58, .int 0, .ref 59, .ref 60]))) := ((at_ne (by decide)).trans f18)
  refine rr rfl (s_getf f91 rfl) ?_
  refine rr rfl (s_iconst (v := 1) (by decide)) ?_
  refine rr rfl (s_isub (v := 0) (by decide)) ?_
  refine rr rfl (s_putf (h' := (((((((((((H.set 42 (.inl [x1, 0, 0, 0, 0, 0, 0, 0, 0, 0, 0, 0, 0])).set 43 (.inl [x2, 0, 0, 0, 0, 0, 0, 0, 0, 0, 0, 0, 0])).set 44 (.inl [x3, 0, 0, 0, 0, 0, 0, 0, 0, 0, 0, 0, 0])).set 45 (.inl [x4, 0, 0, 0, 0, 0, 0, 0, 0, 0, 0, 0, 0])).set 46 (.inl [x5, 0, 0, 0, 0, 0, 0, 0, 0, 0, 0, 0, 0])).set 47 (.inl [x6, 0, 0, 0, 0, 0, 0, 0, 0, 0, 0, 0, 0])).set 48 (.inl [x7, 0, 0, 0, 0, 0, 0, 0, 0, 0, 0, 0, 0])).set 49 (.inl [(-1), 0, 0, 0, 0, 0, 0, 0, 0, 0, 0, 0, 0])).set 41 (.inr (.inr (9, [.int 4, .int 1, .ref 42, .ref 43, .ref 44, .ref 45, .ref 46, .ref 47, .ref 48, .ref 49, .ref 50, .ref 51, .int 0, .int 0, .int 0, .int 0, .int 0, .int 0, .int 0, .int 0, .ref 52, .int 0, .ref 53, .int 0, .ref 54, .int 0, .ref 55, .ref 56, .ref 57, .ref 58, .int 0, .ref 59, .ref 60])))).set 51 (.inl ((List.replicate 8 (0 : Int32)).set (Int32.toNatClampNeg x3) 8))).set 41 (.inr (.inr (9, [.int 4, .int 0, .ref 42, .ref 43, .ref 44, .ref 45, .ref 46, .ref 47, .ref 48, .ref 49, .ref 50, .ref 51, .int 0, .int 0, .int 0, .int 0, .int 0, .int 0, .int 0, .int 0, .ref 52, .int 0, .ref 53, .int 0, .ref 54, .int 0, .ref 55, .ref 56, .ref 57, .ref 58, .int 0, .ref 59, .ref 60]))))) f91 rfl (Nat.le_of_ble_eq_true rfl) rfl (len_of f91) rfl) ?_
  refine rr rfl (s_aload_n rfl) ?_
  have f92 : a_at (((((((((((H.set 42 (.inl [x1, 0, 0, 0, 0, 0, 0, 0, 0, 0, 0, 0, 0])).set 43 (.inl [x2, 0, 0, 0, 0, 0, 0, 0, 0, 0, 0, 0, 0])).set 44 (.inl [x3, 0, 0, 0, 0, 0, 0, 0, 0, 0, 0, 0, 0])).set 45 (.inl [x4, 0, 0, 0, 0, 0, 0, 0, 0, 0, 0, 0, 0])).set 46 (.inl [x5, 0, 0, 0, 0, 0, 0, 0, 0, 0, 0, 0, 0])).set 47 (.inl [x6, 0, 0, 0, 0, 0, 0, 0, 0, 0, 0, 0, 0])).set 48 (.inl [x7, 0, 0, 0, 0, 0, 0, 0, 0, 0, 0, 0, 0])).set 49 (.inl [(-1), 0, 0, 0, 0, 0, 0, 0, 0, 0, 0, 0, 0])).set 41 (.inr (.inr (9, [.int 4, .int 1, .ref 42, .ref 43, .ref 44, .ref 45, .ref 46, .ref 47, .ref 48, .ref 49, .ref 50, .ref 51, .int 0, .int 0, .int 0, .int 0, .int 0, .int 0, .int 0, .int 0, .ref 52, .int 0, .ref 53, .int 0, .ref 54, .int 0, .ref 55, .ref 56, .ref 57, .ref 58, .int 0, .ref 59, .ref 60])))).set 51 (.inl ((List.replicate 8 (0 : Int32)).set (Int32.toNatClampNeg x3) 8))).set 41 (.inr (.inr (9, [.int 4, .int 0, .ref 42, .ref 43, .ref 44, .ref 45, .ref 46, .ref 47, .ref 48, .ref 49, .ref 50, .ref 51, .int 0, .int 0, .int 0, .int 0, .int 0, .int 0, .int 0, .int 0, .ref 52, .int 0, .ref 53, .int 0, .ref 54, .int 0, .ref 55, .ref 56, .ref 57, .ref 58, .int 0, .ref 59, .ref 60])))) 41 = some (.inr (.inr (9, [.int 4, .int 0, .ref 42, .ref 43, .ref 44, .ref 45, .ref 46, .ref 47, .ref 48, .ref 49, .ref 50, .ref 51, .int 0, .int 0, .int 0, .int 0, .int 0, .int 0, .int 0, .int 0, .ref 52, .int 0, .ref 53, .int 0, .ref 54, .int 0, .ref 55, .ref 56, .ref 57, .ref 58, .int 0, .ref 59, .ref 60]))) := (at_eq f91)
  have e3 : a_m MT [] 100000 10 miX9_lays [.ref 41] (((((((((((H.set 42 (.inl [x1, 0, 0, 0, 0, 0, 0, 0, 0, 0, 0, 0, 0])).set 43 (.inl [x2, 0, 0, 0, 0, 0, 0, 0, 0, 0, 0, 0, 0])).set 44 (.inl [x3, 0, 0, 0, 0, 0, 0, 0, 0, 0, 0, 0, 0])).set 45 (.inl [x4, 0, 0, 0, 0, 0, 0, 0, 0, 0, 0, 0, 0])).set 46 (.inl [x5, 0, 0, 0, 0, 0, 0, 0, 0, 0, 0, 0, 0])).set 47 (.inl [x6, 0, 0, 0, 0, 0, 0, 0, 0, 0, 0, 0, 0])).set 48 (.inl [x7, 0, 0, 0, 0, 0, 0, 0, 0, 0, 0, 0, 0])).set 49 (.inl [(-1), 0, 0, 0, 0, 0, 0, 0, 0, 0, 0, 0, 0])).set 41 (.inr (.inr (9, [.int 4, .int 1, .ref 42, .ref 43, .ref 44, .ref 45, .ref 46, .ref 47, .ref 48, .ref 49, .ref 50, .ref 51, .int 0, .int 0, .int 0, .int 0, .int 0, .int 0, .int 0, .int 0, .ref 52, .int 0, .ref 53, .int 0, .ref 54, .int 0, .ref 55, .ref 56, .ref 57, .ref 58, .int 0, .ref 59, .ref 60])))).set 51 (.inl ((List.replicate 8 (0 : Int32)).set (Int32.toNatClampNeg x3) 8))).set 41 (.inr (.inr (9, [.int 4, .int 0, .ref 42, .ref 43, .ref 44, .ref 45, .ref 46, .ref 47, .ref 48, .ref 49, .ref 50, .ref 51, .int 0, .int 0, .int 0, .int 0, .int 0, .int 0, .int 0, .int 0, .ref 52, .int 0, .ref 53, .int 0, .ref 54, .int 0, .ref 55, .ref 56, .ref 57, .ref 58, .int 0, .ref 59, .ref 60])))) = some (some (.int 1), ((((((((((((H.set 42 (.inl [x1, 0, 0, 0, 0, 0, 0, 0, 0, 0, 0, 0, 0])).set 43 (.inl [x2, 0, 0, 0, 0, 0, 0, 0, 0, 0, 0, 0, 0])).set 44 (.inl [x3, 0, 0, 0, 0, 0, 0, 0, 0, 0, 0, 0, 0])).set 45 (.inl [x4, 0, 0, 0, 0, 0, 0, 0, 0, 0, 0, 0, 0])).set 46 (.inl [x5, 0, 0, 0, 0, 0, 0, 0, 0, 0, 0, 0, 0])).set 47 (.inl [x6, 0, 0, 0, 0, 0, 0, 0, 0, 0, 0, 0, 0])).set 48 (.inl [x7, 0, 0, 0, 0, 0, 0, 0, 0, 0, 0, 0, 0])).set 49 (.inl [(-1), 0, 0, 0, 0, 0, 0, 0, 0, 0, 0, 0, 0])).set 41 (.inr (.inr (9, [.int 4, .int 1, .ref 42, .ref 43, .ref 44, .ref 45, .ref 46, .ref 47, .ref 48, .ref 49, .ref 50, .ref 51, .int 0, .int 0, .int 0, .int 0, .int 0, .int 0, .int 0, .int 0, .ref 52, .int 0, .ref 53, .int 0, .ref 54, .int 0, .ref 55, .ref 56, .ref 57, .ref 58, .int 0, .ref 59, .ref 60])))).set 51 (.inl ((List.replicate 8 (0 : Int32)).set (Int32.toNatClampNeg x3) 8))).set 41 (.inr (.inr (9, [.int 4, .int 0, .ref 42, .ref 43, .ref 44, .ref 45, .ref 46, .ref 47, .ref 48, .ref 49, .ref 50, .ref 51, .int 0, .int 0, .int 0, .int 0, .int 0, .int 0, .int 0, .int 0, .ref 52, .int 0, .ref 53, .int 0, .ref 54, .int 0, .ref 55, .ref 56, .ref 57, .ref 58, .int 0, .ref 59, .ref 60])))).set 51 (.inl (List.replicate 8 0))), 0, 0) := by
    have f93 : a_at (((((((((((H.set 42 (.inl [x1, 0, 0, 0, 0, 0, 0, 0, 0, 0, 0, 0, 0])).set 43 (.inl [x2, 0, 0, 0, 0, 0, 0, 0, 0, 0, 0, 0, 0])).set 44 (.inl [x3, 0, 0, 0, 0, 0, 0, 0, 0, 0, 0, 0, 0])).set 45 (.inl [x4, 0, 0, 0, 0, 0, 0, 0, 0, 0, 0, 0, 0])).set 46 (.inl [x5, 0, 0, 0, 0, 0, 0, 0, 0, 0, 0, 0, 0])).set 47 (.inl [x6, 0, 0, 0, 0, 0, 0, 0, 0, 0, 0, 0, 0])).set 48 (.inl [x7, 0, 0, 0, 0, 0, 0, 0, 0, 0, 0, 0, 0])).set 49 (.inl [(-1), 0, 0, 0, 0, 0, 0, 0, 0, 0, 0, 0, 0])).set 41 (.inr (.inr (9, [.int 4, .int 1, .ref 42, .ref 43, .ref 44, .ref 45, .ref 46, .ref 47, .ref 48, .ref 49, .ref 50, .ref 51, .int 0, .int 0, .int 0, .int 0, .int 0, .int 0, .int 0, .int 0, .ref 52, .int 0, .ref 53, .int 0, .ref 54, .int 0, .ref 55, .ref 56, .ref 57, .ref 58, .int 0, .ref 59, .ref 60])))).set 51 (.inl ((List.replicate 8 (0 : Int32)).set (Int32.toNatClampNeg x3) 8))).set 41 (.inr (.inr (9, [.int 4, .int 0, .ref 42, .ref 43, .ref 44, .ref 45, .ref 46, .ref 47, .ref 48, .ref 49, .ref 50, .ref 51, .int 0, .int 0, .int 0, .int 0, .int 0, .int 0, .int 0, .int 0, .ref 52, .int 0, .ref 53, .int 0, .ref 54, .int 0, .ref 55, .ref 56, .ref 57, .ref 58, .int 0, .ref 59, .ref 60])))) 51 = some (.inl ((List.replicate 8 (0 : Int32)).set (Int32.toNatClampNeg x3) 8)) := ((at_ne (by decide)).trans (at_eq ((at_ne (by decide)).trans ((at_ne (by decide)).trans ((at_ne (by decide)).trans ((at_ne (by decide)).trans ((at_ne (by decide)).trans ((at_ne (by decide)).trans ((at_ne (by decide)).trans ((at_ne (by decide)).trans ((at_ne (by decide)).trans F51)))))))))))
    exact lays0 f92 rfl rfl f93 (by simp) rfl
  refine rrc rfl rfl rfl (do_of g_X9_lays rfl (rok9 f92 rfl rfl) e3) ?_
  refine rr rfl (s_istore rfl) ?_
  refine rr rfl (s_iload rfl) ?_
  refine rr rfl (s_ifT (by decide)) ?_
  refine rr rfl (s_bipush (v := (-3)) (by decide)) ?_
  exact rrt rfl rfl rfl rfl
set_option maxHeartbeats 4000000 in
set_option maxRecDepth 10000 in
theorem rm_Nhhh {x1 x2 x3 x4 x5 x6 x7 : Int32} {H : AH} (F41 : a_at H 41 = some (.inr (.inr (9, [.int 4, .int 0, .ref 42, .ref 43, .ref 44, .ref 45, .ref 46, .ref 47, .ref 48, .ref 49, .ref 50, .ref 51, .int 0, .int 0, .int 0, .int 0, .int 0, .int 0, .int 0, .int 0, .ref 52, .int 0, .ref 53, .int 0, .ref 54, .int 0, .ref 55, .ref 56, .ref 57, .ref 58, .int 0, .ref 59, .ref 60])))) (F42 : a_at H 42 = some (.inl (List.replicate 13 0))) (F43 : a_at H 43 = some (.inl (List.replicate 13 0))) (F44 : a_at H 44 = some (.inl (List.replicate 13 0))) (F45 : a_at H 45 = some (.inl (List.replicate 13 0))) (F46 : a_at H 46 = some (.inl (List.replicate 13 0))) (F47 : a_at H 47 = some (.inl (List.replicate 13 0))) (F48 : a_at H 48 = some (.inl (List.replicate 13 0))) (F49 : a_at H 49 = some (.inl (List.replicate 13 0))) (F51 : a_at H 51 = some (.inl (List.replicate 8 0))) (g1 : x2 = 0) (g2 : ¬ x4 < 0) (g3 : x4 < nI 8) (g4 : ¬ x5 = (-1)) (g5 : ¬ x5 < 0) (g6 : x5 < nI 8) (g7 : ¬ x6 = (-1)) (g8 : ¬ x6 < 0) (g9 : x6 < nI 8) (g10 : ¬ x3 < 0) (g11 : x3 < nI 8) (g12 : x4 = x3) (g13 : x5 = x3) (g14 : x6 = x3) : a_run MT [] (a_m MT [] 100000 10) 11 (some .int) tabX9_rule 90000 95 (alQ x1 x2 x3 x4 x5 x6 x7) [] H 0 0 = some (some (.int (-3)), ((((((((((((H.set 42 (.inl [x1, 0, 0, 0, 0, 0, 0, 0, 0, 0, 0, 0, 0])).set 43 (.inl [x2, 0, 0, 0, 0, 0, 0, 0, 0, 0, 0, 0, 0])).set 44 (.inl [x3, 0, 0, 0, 0, 0, 0, 0, 0, 0, 0, 0, 0])).set 45 (.inl [x4, 0, 0, 0, 0, 0, 0, 0, 0, 0, 0, 0, 0])).set 46 (.inl [x5, 0, 0, 0, 0, 0, 0, 0, 0, 0, 0, 0, 0])).set 47 (.inl [x6, 0, 0, 0, 0, 0, 0, 0, 0, 0, 0, 0, 0])).set 48 (.inl [x7, 0, 0, 0, 0, 0, 0, 0, 0, 0, 0, 0, 0])).set 49 (.inl [(-1), 0, 0, 0, 0, 0, 0, 0, 0, 0, 0, 0, 0])).set 41 (.inr (.inr (9, [.int 4, .int 1, .ref 42, .ref 43, .ref 44, .ref 45, .ref 46, .ref 47, .ref 48, .ref 49, .ref 50, .ref 51, .int 0, .int 0, .int 0, .int 0, .int 0, .int 0, .int 0, .int 0, .ref 52, .int 0, .ref 53, .int 0, .ref 54, .int 0, .ref 55, .ref 56, .ref 57, .ref 58, .int 0, .ref 59, .ref 60])))).set 51 (.inl ((List.replicate 8 (0 : Int32)).set (Int32.toNatClampNeg x3) 8))).set 41 (.inr (.inr (9, [.int 4, .int 0, .ref 42, .ref 43, .ref 44, .ref 45, .ref 46, .ref 47, .ref 48, .ref 49, .ref 50, .ref 51, .int 0, .int 0, .int 0, .int 0, .int 0, .int 0, .int 0, .int 0, .ref 52, .int 0, .ref 53, .int 0, .ref 54, .int 0, .ref 55, .ref 56, .ref 57, .ref 58, .int 0, .ref 59, .ref 60])))).set 51 (.inl (List.replicate 8 0))), 0, 0) := by
  refine rr rfl (s_aload_n rfl) ?_
  refine rr rfl (s_aload_n rfl) ?_
  have f1 : a_at H 41 = some (.inr (.inr (9, [.int 4, .int 0, .ref 42, .ref 43, .ref 44, .ref 45, .ref 46, .ref 47, .ref 48, .ref 49, .ref 50, .ref 51, .int 0, .int 0, .int 0, .int 0, .int 0, .int 0, .int 0, .int 0, .ref 52, .int 0, .ref 53, .int 0, .ref 54, .int 0, .ref 55, .ref 56, .ref 57, .ref 58, .int 0, .ref 59, .ref 60]))) := F41
  refine rr rfl (s_getf f1 rfl) ?_
  refine rr rfl (s_iload_n rfl) ?_
  refine rr rfl (s_iload_n rfl) ?_
  refine rr rfl (s_iload_n rfl) ?_
  refine rr rfl (s_iload rfl) ?_
  refine rr rfl (s_iload rfl) ?_
  refine rr rfl (s_iload rfl) ?_
  refine rr rfl (s_iload rfl) ?_
  have e1 : a_m MT [] 100000 10 miX9_sets [.ref 41, .int 0, .int x1, .int x2, .int x3, .int x4, .int x5, .int x6, .int x7] H = some (none, ((((((((H.set 42 (.inl [x1, 0, 0, 0, 0, 0, 0, 0, 0, 0, 0, 0, 0])).set 43 (.inl [x2, 0, 0, 0, 0, 0, 0, 0, 0, 0, 0, 0, 0])).set 44 (.inl [x3, 0, 0, 0, 0, 0, 0, 0, 0, 0, 0, 0, 0])).set 45 (.inl [x4, 0, 0, 0, 0, 0, 0, 0, 0, 0, 0, 0, 0])).set 46 (.inl [x5, 0, 0, 0, 0, 0, 0, 0, 0, 0, 0, 0, 0])).set 47 (.inl [x6, 0, 0, 0, 0, 0, 0, 0, 0, 0, 0, 0, 0])).set 48 (.inl [x7, 0, 0, 0, 0, 0, 0, 0, 0, 0, 0, 0, 0])).set 49 (.inl [(-1), 0, 0, 0, 0, 0, 0, 0, 0, 0, 0, 0, 0])), 0, 0) := by
    refine me (d := 9) g_X9_sets (Nat.le_of_ble_eq_true rfl) ?_
    refine rr rfl (s_aload_n rfl) ?_
    refine rr rfl (s_getf f1 rfl) ?_
    refine rr rfl (s_iload_n rfl) ?_
    refine rr rfl (s_iload_n rfl) ?_
    have f2 : a_at H 42 = some (.inl (List.replicate 13 0)) := F42
    refine rr rfl (s_iastore (h' := (H.set 42 (.inl [x1, 0, 0, 0, 0, 0, 0, 0, 0, 0, 0, 0, 0]))) (j := 0) (f' := [x1, 0, 0, 0, 0, 0, 0, 0, 0, 0, 0, 0, 0]) rfl f2 (Nat.le_of_ble_eq_true rfl) rfl (len_of f2) rfl) ?_
    refine rr rfl (s_aload_n rfl) ?_
    have f3 : a_at (H.set 42 (.inl [x1, 0, 0, 0, 0, 0, 0, 0, 0, 0, 0, 0, 0])) 41 = some (.inr (.inr (9, [.int 4, .int 0, .ref 42, .ref 43, .ref 44, .ref 45, .ref 46, .ref 47, .ref 48, .ref 49, .ref 50, .ref 51, .int 0, .int 0, .int 0, .int 0, .int 0, .int 0, .int 0, .int 0, .ref 52, .int 0, .ref 53, .int 0, .ref 54, .int 0, .ref 55, .ref 56, .ref 57, .ref 58, .int 0, .ref 59, .ref 60]))) := ((at_ne (by decide)).trans f1)
    refine rr rfl (s_getf f3 rfl) ?_
    refine rr rfl (s_iload_n rfl) ?_
    refine rr rfl (s_iload_n rfl) ?_
    have f4 : a_at (H.set 42 (.inl [x1, 0, 0, 0, 0, 0, 0, 0, 0, 0, 0, 0, 0])) 43 = some (.inl (List.replicate 13 0)) := ((at_ne (by decide)).trans F43)
    refine rr rfl (s_iastore (h' := ((H.set 42 (.inl [x1, 0, 0, 0, 0, 0, 0, 0, 0, 0, 0, 0, 0])).set 43 (.inl [x2, 0, 0, 0, 0, 0, 0, 0, 0, 0, 0, 0, 0]))) (j := 0) (f' := [x2, 0, 0, 0, 0, 0, 0, 0, 0, 0, 0, 0, 0]) rfl f4 (Nat.le_of_ble_eq_true rfl) rfl (len_of f4) rfl) ?_
    refine rr rfl (s_aload_n rfl) ?_
    have f5 : a_at ((H.set 42 (.inl [x1, 0, 0, 0, 0, 0, 0, 0, 0, 0, 0, 0, 0])).set 43 (.inl [x2, 0, 0, 0, 0, 0, 0, 0, 0, 0, 0, 0, 0])) 41 = some (.inr (.inr (9, [.int 4, .int 0, .ref 42, .ref 43, .ref 44, .ref 45, .ref 46, .ref 47, .ref 48, .ref 49, .ref 50, .ref 51, .int 0, .int 0, .int 0, .int 0, .int 0, .int 0, .int 0, .int 0, .ref 52, .int 0, .ref 53, .int 0, .ref 54, .int 0, .ref 55, .ref 56, .ref 57, .ref 58, .int 0, .ref 59, .ref 60]))) := ((at_ne (by decide)).trans f3)
    refine rr rfl (s_getf f5 rfl) ?_
    refine rr rfl (s_iload_n rfl) ?_
    refine rr rfl (s_iload rfl) ?_
    have f6 : a_at ((H.set 42 (.inl [x1, 0, 0, 0, 0, 0, 0, 0, 0, 0, 0, 0, 0])).set 43 (.inl [x2, 0, 0, 0, 0, 0, 0, 0, 0, 0, 0, 0, 0])) 44 = some (.inl (List.replicate 13 0)) := ((at_ne (by decide)).trans ((at_ne (by decide)).trans F44))
    refine rr rfl (s_iastore (h' := (((H.set 42 (.inl [x1, 0, 0, 0, 0, 0, 0, 0, 0, 0, 0, 0, 0])).set 43 (.inl [x2, 0, 0, 0, 0, 0, 0, 0, 0, 0, 0, 0, 0])).set 44 (.inl [x3, 0, 0, 0, 0, 0, 0, 0, 0, 0, 0, 0, 0]))) (j := 0) (f' := [x3, 0, 0, 0, 0, 0, 0, 0, 0, 0, 0, 0, 0]) rfl f6 (Nat.le_of_ble_eq_true rfl) rfl (len_of f6) rfl) ?_
    refine rr rfl (s_aload_n rfl) ?_
    have f7 : a_at (((H.set 42 (.inl [x1, 0, 0, 0, 0, 0, 0, 0, 0, 0, 0, 0, 0])).set 43 (.inl [x2, 0, 0, 0, 0, 0, 0, 0, 0, 0, 0, 0, 0])).set 44 (.inl [x3, 0, 0, 0, 0, 0, 0, 0, 0, 0, 0, 0, 0])) 41 = some (.inr (.inr (9, [.int 4, .int 0, .ref 42, .ref 43, .ref 44, .ref 45, .ref 46, .ref 47, .ref 48, .ref 49, .ref 50, .ref 51, .int 0, .int 0, .int 0, .int 0, .int 0, .int 0, .int 0, .int 0, .ref 52, .int 0, .ref 53, .int 0, .ref 54, .int 0, .ref 55, .ref 56, .ref 57, .ref 58, .int 0, .ref 59, .ref 60]))) := ((at_ne (by decide)).trans f5)
    refine rr rfl (s_getf f7 rfl) ?_
    refine rr rfl (s_iload_n rfl) ?_
    refine rr rfl (s_iload rfl) ?_
    have f8 : a_at (((H.set 42 (.inl [x1, 0, 0, 0, 0, 0, 0, 0, 0, 0, 0, 0, 0])).set 43 (.inl [x2, 0, 0, 0, 0, 0, 0, 0, 0, 0, 0, 0, 0])).set 44 (.inl [x3, 0, 0, 0, 0, 0, 0, 0, 0, 0, 0, 0, 0])) 45 = some (.inl (List.replicate 13 0)) := ((at_ne (by decide)).trans ((at_ne (by decide)).trans ((at_ne (by decide)).trans F45)))
    refine rr rfl (s_iastore (h' := ((((H.set 42 (.inl [x1, 0, 0, 0, 0, 0, 0, 0, 0, 0, 0, 0, 0])).set 43 (.inl [x2, 0, 0, 0, 0, 0, 0, 0, 0, 0, 0, 0, 0])).set 44 (.inl [x3, 0, 0, 0, 0, 0, 0, 0, 0, 0, 0, 0, 0])).set 45 (.inl [x4, 0, 0, 0, 0, 0, 0, 0, 0, 0, 0, 0, 0]))) (j := 0) (f' := [x4, 0, 0, 0, 0, 0, 0, 0, 0, 0, 0, 0, 0]) rfl f8 (Nat.le_of_ble_eq_true rfl) rfl (len_of f8) rfl) ?_
    refine rr rfl (s_aload_n rfl) ?_
    have f9 : a_at ((((H.set 42 (.inl [x1, 0, 0, 0, 0, 0, 0, 0, 0, 0, 0, 0, 0])).set 43 (.inl [x2, 0, 0, 0, 0, 0, 0, 0, 0, 0, 0, 0, 0])).set 44 (.inl [x3, 0, 0, 0, 0, 0, 0, 0, 0, 0, 0, 0, 0])).set 45 (.inl [x4, 0, 0, 0, 0, 0, 0, 0, 0, 0, 0, 0, 0])) 41 = some (.inr (.inr (9, [.int 4, .int 0, .ref 42, .ref 43, .ref 44, .ref 45, .ref 46, .ref 47, .ref 48, .ref 49, .ref 50, .ref 51, .int 0, .int 0, .int 0, .int 0, .int 0, .int 0, .int 0, .int 0, .ref 52, .int 0, .ref 53, .int 0, .ref 54, .int 0, .ref 55, .ref 56, .ref 57, .ref 58, .int 0, .ref 59, .ref 60]))) := ((at_ne (by decide)).trans f7)
    refine rr rfl (s_getf f9 rfl) ?_
    refine rr rfl (s_iload_n rfl) ?_
    refine rr rfl (s_iload rfl) ?_
    have f10 : a_at ((((H.set 42 (.inl [x1, 0, 0, 0, 0, 0, 0, 0, 0, 0, 0, 0, 0])).set 43 (.inl [x2, 0, 0, 0, 0, 0, 0, 0, 0, 0, 0, 0, 0])).set 44 (.inl [x3, 0, 0, 0, 0, 0, 0, 0, 0, 0, 0, 0, 0])).set 45 (.inl [x4, 0, 0, 0, 0, 0, 0, 0, 0, 0, 0, 0, 0])) 46 = some (.inl (List.replicate 13 0)) := ((at_ne (by decide)).trans ((at_ne (by decide)).trans ((at_ne (by decide)).trans ((at_ne (by decide)).trans F46))))
    refine rr rfl (s_iastore (h' := (((((H.set 42 (.inl [x1, 0, 0, 0, 0, 0, 0, 0, 0, 0, 0, 0, 0])).set 43 (.inl [x2, 0, 0, 0, 0, 0, 0, 0, 0, 0, 0, 0, 0])).set 44 (.inl [x3, 0, 0, 0, 0, 0, 0, 0, 0, 0, 0, 0, 0])).set 45 (.inl [x4, 0, 0, 0, 0, 0, 0, 0, 0, 0, 0, 0, 0])).set 46 (.inl [x5, 0, 0, 0, 0, 0, 0, 0, 0, 0, 0, 0, 0]))) (j := 0) (f' := [x5, 0, 0, 0, 0, 0, 0, 0, 0, 0, 0, 0, 0]) rfl f10 (Nat.le_of_ble_eq_true rfl) rfl (len_of f10) rfl) ?_
    refine rr rfl (s_aload_n rfl) ?_
    have f11 : a_at (((((H.set 42 (.inl [x1, 0, 0, 0, 0, 0, 0, 0, 0, 0, 0, 0, 0])).set 43 (.inl [x2, 0, 0, 0, 0, 0, 0, 0, 0, 0, 0, 0, 0])).set 44 (.inl [x3, 0, 0, 0, 0, 0, 0, 0, 0, 0, 0, 0, 0])).set 45 (.inl [x4, 0, 0, 0, 0, 0, 0, 0, 0, 0, 0, 0, 0])).set 46 (.inl [x5, 0, 0, 0, 0, 0, 0, 0, 0, 0, 0, 0, 0])) 41 = some (.inr (.inr (9, [.int 4, .int 0, .ref 42, .ref 43, .ref 44, .ref 45, .ref 46, .ref 47, .ref 48, .ref 49, .ref 50, .ref 51, .int 0, .int 0, .int 0, .int 0, .int 0, .int 0, .int 0, .int 0, .ref 52, .int 0, .ref 53, .int 0, .ref 54, .int 0, .ref 55, .ref 56, .ref 57, .ref 58, .int 0, .ref 59, .ref 60]))) := ((at_ne (by decide)).trans f9)
    refine rr rfl (s_getf f11 rfl) ?_
    refine rr rfl (s_iload_n rfl) ?_
    refine rr rfl (s_iload rfl) ?_
    have f12 : a_at (((((H.set 42 (.inl [x1, 0, 0, 0, 0, 0, 0, 0, 0, 0, 0, 0, 0])).set 43 (.inl [x2, 0, 0, 0, 0, 0, 0, 0, 0, 0, 0, 0, 0])).set 44 (.inl [x3, 0, 0, 0, 0, 0, 0, 0, 0, 0, 0, 0, 0])).set 45 (.inl [x4, 0, 0, 0, 0, 0, 0, 0, 0, 0, 0, 0, 0])).set 46 (.inl [x5, 0, 0, 0, 0, 0, 0, 0, 0, 0, 0, 0, 0])) 47 = some (.inl (List.replicate 13 0)) := ((at_ne (by decide)).trans ((at_ne (by decide)).trans ((at_ne (by decide)).trans ((at_ne (by decide)).trans ((at_ne (by decide)).trans F47)))))
    refine rr rfl (s_iastore (h' := ((((((H.set 42 (.inl [x1, 0, 0, 0, 0, 0, 0, 0, 0, 0, 0, 0, 0])).set 43 (.inl [x2, 0, 0, 0, 0, 0, 0, 0, 0, 0, 0, 0, 0])).set 44 (.inl [x3, 0, 0, 0, 0, 0, 0, 0, 0, 0, 0, 0, 0])).set 45 (.inl [x4, 0, 0, 0, 0, 0, 0, 0, 0, 0, 0, 0, 0])).set 46 (.inl [x5, 0, 0, 0, 0, 0, 0, 0, 0, 0, 0, 0, 0])).set 47 (.inl [x6, 0, 0, 0, 0, 0, 0, 0, 0, 0, 0, 0, 0]))) (j := 0) (f' := [x6, 0, 0, 0, 0, 0, 0, 0, 0, 0, 0, 0, 0]) rfl f12 (Nat.le_of_ble_eq_true rfl) rfl (len_of f12) rfl) ?_
    refine rr rfl (s_aload_n rfl) ?_
    have f13 : a_at ((((((H.set 42 (.inl [x1, 0, 0, 0, 0, 0, 0, 0, 0, 0, 0, 0, 0])).set 43 (.inl [x2, 0, 0, 0, 0, 0, 0, 0, 0, 0, 0, 0, 0])).set 44 (.inl [x3, 0, 0, 0, 0, 0, 0, 0, 0, 0, 0, 0, 0])).set 45 (.inl [x4, 0, 0, 0, 0, 0, 0, 0, 0, 0, 0, 0, 0])).set 46 (.inl [x5, 0, 0, 0, 0, 0, 0, 0, 0, 0, 0, 0, 0])).set 47 (.inl [x6, 0, 0, 0, 0, 0, 0, 0, 0, 0, 0, 0, 0])) 41 = some (.inr (.inr (9, [.int 4, .int 0, .ref 42, .ref 43, .ref 44, .ref 45, .ref 46, .ref 47, .ref 48, .ref 49, .ref 50, .ref 51, .int 0, .int 0, .int 0, .int 0, .int 0, .int 0, .int 0, .int 0, .ref 52, .int 0, .ref 53, .int 0, .ref 54, .int 0, .ref 55, .ref 56, .ref 57, .ref 58, .int 0, .ref 59, .ref 60]))) := ((at_ne (by decide)).trans f11)
    refine rr rfl (s_getf f13 rfl) ?_
    refine rr rfl (s_iload_n rfl) ?_
    refine rr rfl (s_iload rfl) ?_
    have f14 : a_at ((((((H.set 42 (.inl [x1, 0, 0, 0, 0, 0, 0, 0, 0, 0, 0, 0, 0])).set 43 (.inl [x2, 0, 0, 0, 0, 0, 0, 0, 0, 0, 0, 0, 0])).set 44 (.inl [x3, 0, 0, 0, 0, 0, 0, 0, 0, 0, 0, 0, 0])).set 45 (.inl [x4, 0, 0, 0, 0, 0, 0, 0, 0, 0, 0, 0, 0])).set 46 (.inl [x5, 0, 0, 0, 0, 0, 0, 0, 0, 0, 0, 0, 0])).set 47 (.inl [x6, 0, 0, 0, 0, 0, 0, 0, 0, 0, 0, 0, 0])) 48 = some (.inl (List.replicate 13 0)) := ((at_ne (by decide)).trans ((at_ne (by decide)).trans ((at_ne (by decide)).trans ((at_ne (by decide)).trans ((at_ne (by decide)).trans ((at_ne (by decide)).trans F48))))))
    refine rr rfl (s_iastore (h' := (((((((H.set 42 (.inl [x1, 0, 0, 0, 0, 0, 0, 0, 0, 0, 0, 0, 0])).set 43 (.inl [x2, 0, 0, 0, 0, 0, 0, 0, 0, 0, 0, 0, 0])).set 44 (.inl [x3, 0, 0, 0, 0, 0, 0, 0, 0, 0, 0, 0, 0])).set 45 (.inl [x4, 0, 0, 0, 0, 0, 0, 0, 0, 0, 0, 0, 0])).set 46 (.inl [x5, 0, 0, 0, 0, 0, 0, 0, 0, 0, 0, 0, 0])).set 47 (.inl [x6, 0, 0, 0, 0, 0, 0, 0, 0, 0, 0, 0, 0])).set 48 (.inl [x7, 0, 0, 0, 0, 0, 0, 0, 0, 0, 0, 0, 0]))) (j := 0) (f' := [x7, 0, 0, 0, 0, 0, 0, 0, 0, 0, 0, 0, 0]) rfl f14 (Nat.le_of_ble_eq_true rfl) rfl (len_of f14) rfl) ?_
    refine rr rfl (s_aload_n rfl) ?_
    have f15 : a_at (((((((H.set 42 (.inl [x1, 0, 0, 0, 0, 0, 0, 0, 0, 0, 0, 0, 0])).set 43 (.inl [x2, 0, 0, 0, 0, 0, 0, 0, 0, 0, 0, 0, 0])).set 44 (.inl [x3, 0, 0, 0, 0, 0, 0, 0, 0, 0, 0, 0, 0])).set 45 (.inl [x4, 0, 0, 0, 0, 0, 0, 0, 0, 0, 0, 0, 0])).set 46 (.inl [x5, 0, 0, 0, 0, 0, 0, 0, 0, 0, 0, 0, 0])).set 47 (.inl [x6, 0, 0, 0, 0, 0, 0, 0, 0, 0, 0, 0, 0])).set 48 (.inl [x7, 0, 0, 0, 0, 0, 0, 0, 0, 0, 0, 0, 0])) 41 = some (.inr (.inr (9, [.int 4, .int 0, .ref 42, .ref 43, .ref 44, .ref 45, .ref 46, .ref 47, .ref 48, .ref 49, .ref 50, .ref 51, .int 0, .int 0, .int 0, .int 0, .int 0, .int 0, .int 0, .int 0, .ref 52, .int 0, .ref 53, .int 0, .ref 54, .int 0, .ref 55, .ref 56, .ref 57, .ref 58, .int 0, .ref 59, .ref 60]))) := ((at_ne (by decide)).trans f13)
    refine rr rfl (s_getf f15 rfl) ?_
    refine rr rfl (s_iload_n rfl) ?_
    refine rr rfl (s_iconst (v := (-1)) (by decide)) ?_
    have f16 : a_at (((((((H.set 42 (.inl [x1, 0, 0, 0, 0, 0, 0, 0, 0, 0, 0, 0, 0])).set 43 (.inl [x2, 0, 0, 0, 0, 0, 0, 0, 0, 0, 0, 0, 0])).set 44 (.inl [x3, 0, 0, 0, 0, 0, 0, 0, 0, 0, 0, 0, 0])).set 45 (.inl [x4, 0, 0, 0, 0, 0, 0, 0, 0, 0, 0, 0, 0])).set 46 (.inl [x5, 0, 0, 0, 0, 0, 0, 0, 0, 0, 0, 0, 0])).set 47 (.inl [x6, 0, 0, 0, 0, 0, 0, 0, 0, 0, 0, 0, 0])).set 48 (.inl [x7, 0, 0, 0, 0, 0, 0, 0, 0, 0, 0, 0, 0])) 49 = some (.inl (List.replicate 13 0)) := ((at_ne (by decide)).trans ((at_ne (by decide)).trans ((at_ne (by decide)).trans ((at_ne (by decide)).trans ((at_ne (by decide)).trans ((at_ne (by decide)).trans ((at_ne (by decide)).trans F49)))))))
    refine rr rfl (s_iastore (h' := ((((((((H.set 42 (.inl [x1, 0, 0, 0, 0, 0, 0, 0, 0, 0, 0, 0, 0])).set 43 (.inl [x2, 0, 0, 0, 0, 0, 0, 0, 0, 0, 0, 0, 0])).set 44 (.inl [x3, 0, 0, 0, 0, 0, 0, 0, 0, 0, 0, 0, 0])).set 45 (.inl [x4, 0, 0, 0, 0, 0, 0, 0, 0, 0, 0, 0, 0])).set 46 (.inl [x5, 0, 0, 0, 0, 0, 0, 0, 0, 0, 0, 0, 0])).set 47 (.inl [x6, 0, 0, 0, 0, 0, 0, 0, 0, 0, 0, 0, 0])).set 48 (.inl [x7, 0, 0, 0, 0, 0, 0, 0, 0, 0, 0, 0, 0])).set 49 (.inl [(-1), 0, 0, 0, 0, 0, 0, 0, 0, 0, 0, 0, 0]))) (j := 0) (f' := [(-1), 0, 0, 0, 0, 0, 0, 0, 0, 0, 0, 0, 0]) rfl f16 (Nat.le_of_ble_eq_true rfl) rfl (len_of f16) rfl) ?_
    exact rrt rfl rfl rfl rfl
  refine rrc rfl rfl rfl (do_of g_X9_sets rfl (rok9 f1 rfl rfl) e1) ?_
  refine rr rfl (s_aload_n rfl) ?_
  refine rr rfl s_dup ?_
  have f17 : a_at ((((((((H.set 42 (.inl [x1, 0, 0, 0, 0, 0, 0, 0, 0, 0, 0, 0, 0])).set 43 (.inl [x2, 0, 0, 0, 0, 0, 0, 0, 0, 0, 0, 0, 0])).set 44 (.inl [x3, 0, 0, 0, 0, 0, 0, 0, 0, 0, 0, 0, 0])).set 45 (.inl [x4, 0, 0, 0, 0, 0, 0, 0, 0, 0, 0, 0, 0])).set 46 (.inl [x5, 0, 0, 0, 0, 0, 0, 0, 0, 0, 0, 0, 0])).set 47 (.inl [x6, 0, 0, 0, 0, 0, 0, 0, 0, 0, 0, 0, 0])).set 48 (.inl [x7, 0, 0, 0, 0, 0, 0, 0, 0, 0, 0, 0, 0])).set 49 (.inl [(-1), 0, 0, 0, 0, 0, 0, 0, 0, 0, 0, 0, 0])) 41 = some (.inr (.inr (9, [.int 4, .int 0, .ref 42, .ref 43, .ref 44, .ref 45, .ref 46, .ref 47, .ref 48, .ref 49, .ref 50, .ref 51, .int 0, .int 0, .int 0, .int 0, .int 0, .int 0, .int 0, .int 0, .ref 52, .int 0, .ref 53, .int 0, .ref 54, .int 0, .ref 55, .ref 56, .ref 57, .ref 58, .int 0, .ref 59, .ref 60]))) := ((at_ne (by decide)).trans ((at_ne (by decide)).trans ((at_ne (by decide)).trans ((at_ne (by decide)).trans ((at_ne (by decide)).trans ((at_ne (by decide)).trans ((at_ne (by decide)).trans ((at_ne (by decide)).trans f1))))))))
  refine rr rfl (s_getf f17 rfl) ?_
  refine rr rfl (s_iconst (v := 1) (by decide)) ?_
  refine rr rfl (s_iadd (v := 1) (by decide)) ?_
  refine rr rfl (s_putf (h' := (((((((((H.set 42 (.inl [x1, 0, 0, 0, 0, 0, 0, 0, 0, 0, 0, 0, 0])).set 43 (.inl [x2, 0, 0, 0, 0, 0, 0, 0, 0, 0, 0, 0, 0])).set 44 (.inl [x3, 0, 0, 0, 0, 0, 0, 0, 0, 0, 0, 0, 0])).set 45 (.inl [x4, 0, 0, 0, 0, 0, 0, 0, 0, 0, 0, 0, 0])).set 46 (.inl [x5, 0, 0, 0, 0, 0, 0, 0, 0, 0, 0, 0, 0])).set 47 (.inl [x6, 0, 0, 0, 0, 0, 0, 0, 0, 0, 0, 0, 0])).set 48 (.inl [x7, 0, 0, 0, 0, 0, 0, 0, 0, 0, 0, 0, 0])).set 49 (.inl [(-1), 0, 0, 0, 0, 0, 0, 0, 0, 0, 0, 0, 0])).set 41 (.inr (.inr (9, [.int 4, .int 1, .ref 42, .ref 43, .ref 44, .ref 45, .ref 46, .ref 47, .ref 48, .ref 49, .ref 50, .ref 51, .int 0, .int 0, .int 0, .int 0, .int 0, .int 0, .int 0, .int 0, .ref 52, .int 0, .ref 53, .int 0, .ref 54, .int 0, .ref 55, .ref 56, .ref 57, .ref 58, .int 0, .ref 59, .ref 60]))))) f17 rfl (Nat.le_of_ble_eq_true rfl) rfl (len_of f17) rfl) ?_
  refine rr rfl (s_aload_n rfl) ?_
  have f18 : a_at (((((((((H.set 42 (.inl [x1, 0, 0, 0, 0, 0, 0, 0, 0, 0, 0, 0, 0])).set 43 (.inl [x2, 0, 0, 0, 0, 0, 0, 0, 0, 0, 0, 0, 0])).set 44 (.inl [x3, 0, 0, 0, 0, 0, 0, 0, 0, 0, 0, 0, 0])).set 45 (.inl [x4, 0, 0, 0, 0, 0, 0, 0, 0, 0, 0, 0, 0])).set 46 (.inl [x5, 0, 0, 0, 0, 0, 0, 0, 0, 0, 0, 0, 0])).set 47 (.inl [x6, 0, 0, 0, 0, 0, 0, 0, 0, 0, 0, 0, 0])).set 48 (.inl [x7, 0, 0, 0, 0, 0, 0, 0, 0, 0, 0, 0, 0])).set 49 (.inl [(-1), 0, 0, 0, 0, 0, 0, 0, 0, 0, 0, 0, 0])).set 41 (.inr (.inr (9, [.int 4, .int 1, .ref 42, .ref 43, .ref 44, .ref 45, .ref 46, .ref 47, .ref 48, .ref 49, .ref 50, .ref 51, .int 0, .int 0, .int 0, .int 0, .int 0, .int 0, .int 0, .int 0, .ref 52, .int 0, .ref 53, .int 0, .ref 54, .int 0, .ref 55, .ref 56, .ref 57, .ref 58, .int 0, .ref 59, .ref 60])))) 41 = some (.inr (.inr (9, [.int 4, .int 1, .ref 42, .ref 43, .ref 44, .ref 45, .ref 46, .ref 47, .ref 48, .ref 49, .ref 50, .ref 51, .int 0, .int 0, .int 0, .int 0, .int 0, .int 0, .int 0, .int 0, .ref 52, .int 0, .ref 53, .int 0, .ref 54, .int 0, .ref 55, .ref 56, .ref 57, .ref 58, .int 0, .ref 59, .ref 60]))) := (at_eq f17)
  have e2 : a_m MT [] 100000 10 miX9_lays [.ref 41] (((((((((H.set 42 (.inl [x1, 0, 0, 0, 0, 0, 0, 0, 0, 0, 0, 0, 0])).set 43 (.inl [x2, 0, 0, 0, 0, 0, 0, 0, 0, 0, 0, 0, 0])).set 44 (.inl [x3, 0, 0, 0, 0, 0, 0, 0, 0, 0, 0, 0, 0])).set 45 (.inl [x4, 0, 0, 0, 0, 0, 0, 0, 0, 0, 0, 0, 0])).set 46 (.inl [x5, 0, 0, 0, 0, 0, 0, 0, 0, 0, 0, 0, 0])).set 47 (.inl [x6, 0, 0, 0, 0, 0, 0, 0, 0, 0, 0, 0, 0])).set 48 (.inl [x7, 0, 0, 0, 0, 0, 0, 0, 0, 0, 0, 0, 0])).set 49 (.inl [(-1), 0, 0, 0, 0, 0, 0, 0, 0, 0, 0, 0, 0])).set 41 (.inr (.inr (9, [.int 4, .int 1, .ref 42, .ref 43, .ref 44, .ref 45, .ref 46, .ref 47, .ref 48, .ref 49, .ref 50, .ref 51, .int 0, .int 0, .int 0, .int 0, .int 0, .int 0, .int 0, .int 0, .ref 52, .int 0, .ref 53, .int 0, .ref 54, .int 0, .ref 55, .ref 56, .ref 57, .ref 58, .int 0, .ref 59, .ref 60])))) = some (some (.int 0), ((((((((((H.set 42 (.inl [x1, 0, 0, 0, 0, 0, 0, 0, 0, 0, 0, 0, 0])).set 43 (.inl [x2, 0, 0, 0, 0, 0, 0, 0, 0, 0, 0, 0, 0])).set 44 (.inl [x3, 0, 0, 0, 0, 0, 0, 0, 0, 0, 0, 0, 0])).set 45 (.inl [x4, 0, 0, 0, 0, 0, 0, 0, 0, 0, 0, 0, 0])).set 46 (.inl [x5, 0, 0, 0, 0, 0, 0, 0, 0, 0, 0, 0, 0])).set 47 (.inl [x6, 0, 0, 0, 0, 0, 0, 0, 0, 0, 0, 0, 0])).set 48 (.inl [x7, 0, 0, 0, 0, 0, 0, 0, 0, 0, 0, 0, 0])).set 49 (.inl [(-1), 0, 0, 0, 0, 0, 0, 0, 0, 0, 0, 0, 0])).set 41 (.inr (.inr (9, [.int 4, .int 1, .ref 42, .ref 43, .ref 44, .ref 45, .ref 46, .ref 47, .ref 48, .ref 49, .ref 50, .ref 51, .int 0, .int 0, .int 0, .int 0, .int 0, .int 0, .int 0, .int 0, .ref 52, .int 0, .ref 53, .int 0, .ref 54, .int 0, .ref 55, .ref 56, .ref 57, .ref 58, .int 0, .ref 59, .ref 60])))).set 51 (.inl ((List.replicate 8 (0 : Int32)).set (Int32.toNatClampNeg x3) 8))), 0, 0) := by
    refine me (d := 9) g_X9_lays (Nat.le_of_ble_eq_true rfl) ?_
    refine rr rfl (s_iconst (v := 0) (by decide)) ?_
    refine rr rfl (s_istore_n rfl) ?_
    refine rr rfl (s_iload_n rfl) ?_
    refine rr rfl (s_bipush (v := 8) (by decide)) ?_
    refine rr rfl (s_icF (by decide)) ?_
    refine rr rfl (s_aload_n rfl) ?_
    refine rr rfl (s_getf f18 rfl) ?_
    refine rr rfl (s_iload_n rfl) ?_
    refine rr rfl (s_iconst (v := 0) (by decide)) ?_
    have f19 : a_at (((((((((H.set 42 (.inl [x1, 0, 0, 0, 0, 0, 0, 0, 0, 0, 0, 0, 0])).set 43 (.inl [x2, 0, 0, 0, 0, 0, 0, 0, 0, 0, 0, 0, 0])).set 44 (.inl [x3, 0, 0, 0, 0, 0, 0, 0, 0, 0, 0, 0, 0])).set 45 (.inl [x4, 0, 0, 0, 0, 0, 0, 0, 0, 0, 0, 0, 0])).set 46 (.inl [x5, 0, 0, 0, 0, 0, 0, 0, 0, 0, 0, 0, 0])).set 47 (.inl [x6, 0, 0, 0, 0, 0, 0, 0, 0, 0, 0, 0, 0])).set 48 (.inl [x7, 0, 0, 0, 0, 0, 0, 0, 0, 0, 0, 0, 0])).set 49 (.inl [(-1), 0, 0, 0, 0, 0, 0, 0, 0, 0, 0, 0, 0])).set 41 (.inr (.inr (9, [.int 4, .int 1, .ref 42, .ref 43, .ref 44, .ref 45, .ref 46, .ref 47, .ref 48, .ref 49, .ref 50, .ref 51, .int 0, .int 0, .int 0, .int 0, .int 0, .int 0, .int 0, .int 0, .ref 52, .int 0, .ref 53, .int 0, .ref 54, .int 0, .ref 55, .ref 56, .ref 57, .ref 58, .int 0, .ref 59, .ref 60])))) 51 = some (.inl (List.replicate 8 0)) := ((at_ne (by decide)).trans ((at_ne (by decide)).trans ((at_ne (by decide)).trans ((at_ne (by decide)).trans ((at_ne (by decide)).trans ((at_ne (by decide)).trans ((at_ne (by decide)).trans ((at_ne (by decide)).trans ((at_ne (by decide)).trans F51)))))))))
    refine rr rfl (s_iastore (h' := ((((((((((H.set 42 (.inl [x1, 0, 0, 0, 0, 0, 0, 0, 0, 0, 0, 0, 0])).set 43 (.inl [x2, 0, 0, 0, 0, 0, 0, 0, 0, 0, 0, 0, 0])).set 44 (.inl [x3, 0, 0, 0, 0, 0, 0, 0, 0, 0, 0, 0, 0])).set 45 (.inl [x4, 0, 0, 0, 0, 0, 0, 0, 0, 0, 0, 0, 0])).set 46 (.inl [x5, 0, 0, 0, 0, 0, 0, 0, 0, 0, 0, 0, 0])).set 47 (.inl [x6, 0, 0, 0, 0, 0, 0, 0, 0, 0, 0, 0, 0])).set 48 (.inl [x7, 0, 0, 0, 0, 0, 0, 0, 0, 0, 0, 0, 0])).set 49 (.inl [(-1), 0, 0, 0, 0, 0, 0, 0, 0, 0, 0, 0, 0])).set 41 (.inr (.inr (9, [.int 4, .int 1, .ref 42, .ref 43, .ref 44, .ref 45, .ref 46, .ref 47, .ref 48, .ref 49, .ref 50, .ref 51, .int 0, .int 0, .int 0, .int 0, .int 0, .int 0, .int 0, .int 0, .ref 52, .int 0, .ref 53, .int 0, .ref 54, .int 0, .ref 55, .ref 56, .ref 57, .ref 58, .int 0, .ref 59, .ref 60])))).set 51 (.inl (List.replicate 8 0)))) (j := 0) (f' := (List.replicate 8 0)) rfl f19 (Nat.le_of_ble_eq_true rfl) rfl (len_of f19) rfl) ?_
    refine rr rfl (s_iinc (v := 1) rfl (by decide) rfl) ?_
    refine rr rfl s_goto ?_
    refine rr rfl (s_iload_n rfl) ?_
    refine rr rfl (s_bipush (v := 8) (by decide)) ?_
    refine rr rfl (s_icF (by decide)) ?_
    refine rr rfl (s_aload_n rfl) ?_
    have f20 : a_at ((((((((((H.set 42 (.inl [x1, 0, 0, 0, 0, 0, 0, 0, 0, 0, 0, 0, 0])).set 43 (.inl [x2, 0, 0, 0, 0, 0, 0, 0, 0, 0, 0, 0, 0])).set 44 (.inl [x3, 0, 0, 0, 0, 0, 0, 0, 0, 0, 0, 0, 0])).set 45 (.inl [x4, 0, 0, 0, 0, 0, 0, 0, 0, 0, 0, 0, 0])).set 46 (.inl [x5, 0, 0, 0, 0, 0, 0, 0, 0, 0, 0, 0, 0])).set 47 (.inl [x6, 0, 0, 0, 0, 0, 0, 0, 0, 0, 0, 0, 0])).set 48 (.inl [x7, 0, 0, 0, 0, 0, 0, 0, 0, 0, 0, 0, 0])).set 49 (.inl [(-1), 0, 0, 0, 0, 0, 0, 0, 0, 0, 0, 0, 0])).set 41 (.inr (.inr (9, [.int 4, .int 1, .ref 42, .ref 43, .ref 44, .ref 45, .ref 46, .ref 47, .ref 48, .ref 49, .ref 50, .ref 51, .int 0, .int 0, .int 0, .int 0, .int 0, .int 0, .int 0, .int 0, .ref 52, .int 0, .ref 53, .int 0, .ref 54, .int 0, .ref 55, .ref 56, .ref 57, .ref 58, .int 0, .ref 59, .ref 60])))).set 51 (.inl (List.replicate 8 0))) 41 = some (.inr (.inr (9, [.int 4, .int 1, .ref 42, .ref 43, .ref 44, .ref 45, .ref 46, .ref 47, .ref 48, .ref 49, .ref 50, .ref 51, .int 0, .int 0, .int 0, .int 0, .int 0, .int 0, .int 0, .int 0, .ref 52, .int 0, .ref 53, .int 0, .ref 54, .int 0, .ref 55, .ref 56, .ref 57, .ref 58, .int 0, .ref 59, .ref 60]))) := ((at_ne (by decide)).trans f18)
    refine rr rfl (s_getf f20 rfl) ?_
    refine rr rfl (s_iload_n rfl) ?_
    refine rr rfl (s_iconst (v := 0) (by decide)) ?_
    have f21 : a_at ((((((((((H.set 42 (.inl [x1, 0, 0, 0, 0, 0, 0, 0, 0, 0, 0, 0, 0])).set 43 (.inl [x2, 0, 0, 0, 0, 0, 0, 0, 0, 0, 0, 0, 0])).set 44 (.inl [x3, 0, 0, 0, 0, 0, 0, 0, 0, 0, 0, 0, 0])).set 45 (.inl [x4, 0, 0, 0, 0, 0, 0, 0, 0, 0, 0, 0, 0])).set 46 (.inl [x5, 0, 0, 0, 0, 0, 0, 0, 0, 0, 0, 0, 0])).set 47 (.inl [x6, 0, 0, 0, 0, 0, 0, 0, 0, 0, 0, 0, 0])).set 48 (.inl [x7, 0, 0, 0, 0, 0, 0, 0, 0, 0, 0, 0, 0])).set 49 (.inl [(-1), 0, 0, 0, 0, 0, 0, 0, 0, 0, 0, 0, 0])).set 41 (.inr (.inr (9, [.int 4, .int 1, .ref 42, .ref 43, .ref 44, .ref 45, .ref 46, .ref 47, .ref 48, .ref 49, .ref 50, .ref 51, .int 0, .int 0, .int 0, .int 0, .int 0, .int 0, .int 0, .int 0, .ref 52, .int 0, .ref 53, .int 0, .ref 54, .int 0, .ref 55, .ref 56, .ref 57, .ref 58, .int 0, .ref 59, .ref 60])))).set 51 (.inl (List.replicate 8 0))) 51 = some (.inl (List.replicate 8 0)) := (at_eq f19)
    refine rr rfl (s_iastore (h' := ((((((((((H.set 42 (.inl [x1, 0, 0, 0, 0, 0, 0, 0, 0, 0, 0, 0, 0])).set 43 (.inl [x2, 0, 0, 0, 0, 0, 0, 0, 0, 0, 0, 0, 0])).set 44 (.inl [x3, 0, 0, 0, 0, 0, 0, 0, 0, 0, 0, 0, 0])).set 45 (.inl [x4, 0, 0, 0, 0, 0, 0, 0, 0, 0, 0, 0, 0])).set 46 (.inl [x5, 0, 0, 0, 0, 0, 0, 0, 0, 0, 0, 0, 0])).set 47 (.inl [x6, 0, 0, 0, 0, 0, 0, 0, 0, 0, 0, 0, 0])).set 48 (.inl [x7, 0, 0, 0, 0, 0, 0, 0, 0, 0, 0, 0, 0])).set 49 (.inl [(-1), 0, 0, 0, 0, 0, 0, 0, 0, 0, 0, 0, 0])).set 41 (.inr (.inr (9, [.int 4, .int 1, .ref 42, .ref 43, .ref 44, .ref 45, .ref 46, .ref 47, .ref 48, .ref 49, .ref 50, .ref 51, .int 0, .int 0, .int 0, .int 0, .int 0, .int 0, .int 0, .int 0, .ref 52, .int 0, .ref 53, .int 0, .ref 54, .int 0, .ref 55, .ref 56, .ref 57, .ref 58, .int 0, .ref 59, .ref 60])))).set 51 (.inl (List.replicate 8 0)))) (j := 1) (f' := (List.replicate 8 0)) rfl f21 (Nat.le_of_ble_eq_true rfl) rfl (len_of f21) (List.set_set ..)) ?_
    refine rr rfl (s_iinc (v := 2) rfl (by decide) rfl) ?_
    refine rr rfl s_goto ?_
    refine rr rfl (s_iload_n rfl) ?_
    refine rr rfl (s_bipush (v := 8) (by decide)) ?_
    refine rr rfl (s_icF (by decide)) ?_
    refine rr rfl (s_aload_n rfl) ?_
    have f22 : a_at ((((((((((H.set 42 (.inl [x1, 0, 0, 0, 0, 0, 0, 0, 0, 0, 0, 0, 0])).set 43 (.inl [x2, 0, 0, 0, 0, 0, 0, 0, 0, 0, 0, 0, 0])).set 44 (.inl [x3, 0, 0, 0, 0, 0, 0, 0, 0, 0, 0, 0, 0])).set 45 (.inl [x4, 0, 0, 0, 0, 0, 0, 0, 0, 0, 0, 0, 0])).set 46 (.inl [x5, 0, 0, 0, 0, 0, 0, 0, 0, 0, 0, 0, 0])).set 47 (.inl [x6, 0, 0, 0, 0, 0, 0, 0, 0, 0, 0, 0, 0])).set 48 (.inl [x7, 0, 0, 0, 0, 0, 0, 0, 0, 0, 0, 0, 0])).set 49 (.inl [(-1), 0, 0, 0, 0, 0, 0, 0, 0, 0, 0, 0, 0])).set 41 (.inr (.inr (9, [.int 4, .int 1, .ref 42, .ref 43, .ref 44, .ref 45, .ref 46, .ref 47, .ref 48, .ref 49, .ref 50, .ref 51, .int 0, .int 0, .int 0, .int 0, .int 0, .int 0, .int 0, .int 0, .ref 52, .int 0, .ref 53, .int 0, .ref 54, .int 0, .ref 55, .ref 56, .ref 57, .ref 58, .int 0, .ref 59, .ref 60])))).set 51 (.inl (List.replicate 8 0))) 41 = some (.inr (.inr (9, [.int 4, .int 1, .ref 42, .ref 43, .ref 44, .ref 45, .ref 46, .ref 47, .ref 48, .ref 49, .ref 50, .ref 51, .int 0, .int 0, .int 0, .int 0, .int 0, .int 0, .int 0, .int 0, .ref 52, .int 0, .ref 53, .int 0, .ref 54, .int 0, .ref 55, .ref 56, .ref 57, .ref 58, .int 0, .ref 59, .ref 60]))) := ((at_ne (by decide)).trans f18)
    refine rr rfl (s_getf f22 rfl) ?_
    refine rr rfl (s_iload_n rfl) ?_
    refine rr rfl (s_iconst (v := 0) (by decide)) ?_
    have f23 : a_at ((((((((((H.set 42 (.inl [x1, 0, 0, 0, 0, 0, 0, 0, 0, 0, 0, 0, 0])).set 43 (.inl [x2, 0, 0, 0, 0, 0, 0, 0, 0, 0, 0, 0, 0])).set 44 (.inl [x3, 0, 0, 0, 0, 0, 0, 0, 0, 0, 0, 0, 0])).set 45 (.inl [x4, 0, 0, 0, 0, 0, 0, 0, 0, 0, 0, 0, 0])).set 46 (.inl [x5, 0, 0, 0, 0, 0, 0, 0, 0, 0, 0, 0, 0])).set 47 (.inl [x6, 0, 0, 0, 0, 0, 0, 0, 0, 0, 0, 0, 0])).set 48 (.inl [x7, 0, 0, 0, 0, 0, 0, 0, 0, 0, 0, 0, 0])).set 49 (.inl [(-1), 0, 0, 0, 0, 0, 0, 0, 0, 0, 0, 0, 0])).set 41 (.inr (.inr (9, [.int 4, .int 1, .ref 42, .ref 43, .ref 44, .ref 45, .ref 46, .ref 47, .ref 48, .ref 49, .ref 50, .ref 51, .int 0, .int 0, .int 0, .int 0, .int 0, .int 0, .int 0, .int 0, .ref 52, .int 0, .ref 53, .int 0, .ref 54, .int 0, .ref 55, .ref 56, .ref 57, .ref 58, .int 0, .ref 59, .ref 60])))).set 51 (.inl (List.replicate 8 0))) 51 = some (.inl (List.replicate 8 0)) := (at_eq f19)
    refine rr rfl (s_iastore (h' := ((((((((((H.set 42 (.inl [x1, 0, 0, 0, 0, 0, 0, 0, 0, 0, 0, 0, 0])).set 43 (.inl [x2, 0, 0, 0, 0, 0, 0, 0, 0, 0, 0, 0, 0])).set 44 (.inl [x3, 0, 0, 0, 0, 0, 0, 0, 0, 0, 0, 0, 0])).set 45 (.inl [x4, 0, 0, 0, 0, 0, 0, 0, 0, 0, 0, 0, 0])).set 46 (.inl [x5, 0, 0, 0, 0, 0, 0, 0, 0, 0, 0, 0, 0])).set 47 (.inl [x6, 0, 0, 0, 0, 0, 0, 0, 0, 0, 0, 0, 0])).set 48 (.inl [x7, 0, 0, 0, 0, 0, 0, 0, 0, 0, 0, 0, 0])).set 49 (.inl [(-1), 0, 0, 0, 0, 0, 0, 0, 0, 0, 0, 0, 0])).set 41 (.inr (.inr (9, [.int 4, .int 1, .ref 42, .ref 43, .ref 44, .ref 45, .ref 46, .ref 47, .ref 48, .ref 49, .ref 50, .ref 51, .int 0, .int 0, .int 0, .int 0, .int 0, .int 0, .int 0, .int 0, .ref 52, .int 0, .ref 53, .int 0, .ref 54, .int 0, .ref 55, .ref 56, .ref 57, .ref 58, .int 0, .ref 59, .ref 60])))).set 51 (.inl (List.replicate 8 0)))) (j := 2) (f' := (List.replicate 8 0)) rfl f23 (Nat.le_of_ble_eq_true rfl) rfl (len_of f23) (List.set_set ..)) ?_
    refine rr rfl (s_iinc (v := 3) rfl (by decide) rfl) ?_
    refine rr rfl s_goto ?_
    refine rr rfl (s_iload_n rfl) ?_
    refine rr rfl (s_bipush (v := 8) (by decide)) ?_
    refine rr rfl (s_icF (by decide)) ?_
    refine rr rfl (s_aload_n rfl) ?_
    have f24 : a_at ((((((((((H.set 42 (.inl [x1, 0, 0, 0, 0, 0, 0, 0, 0, 0, 0, 0, 0])).set 43 (.inl [x2, 0, 0, 0, 0, 0, 0, 0, 0, 0, 0, 0, 0])).set 44 (.inl [x3, 0, 0, 0, 0, 0, 0, 0, 0, 0, 0, 0, 0])).set 45 (.inl [x4, 0, 0, 0, 0, 0, 0, 0, 0, 0, 0, 0, 0])).set 46 (.inl [x5, 0, 0, 0, 0, 0, 0, 0, 0, 0, 0, 0, 0])).set 47 (.inl [x6, 0, 0, 0, 0, 0, 0, 0, 0, 0, 0, 0, 0])).set 48 (.inl [x7, 0, 0, 0, 0, 0, 0, 0, 0, 0, 0, 0, 0])).set 49 (.inl [(-1), 0, 0, 0, 0, 0, 0, 0, 0, 0, 0, 0, 0])).set 41 (.inr (.inr (9, [.int 4, .int 1, .ref 42, .ref 43, .ref 44, .ref 45, .ref 46, .ref 47, .ref 48, .ref 49, .ref 50, .ref 51, .int 0, .int 0, .int 0, .int 0, .int 0, .int 0, .int 0, .int 0, .ref 52, .int 0, .ref 53, .int 0, .ref 54, .int 0, .ref 55, .ref 56, .ref 57, .ref 58, .int 0, .ref 59, .ref 60])))).set 51 (.inl (List.replicate 8 0))) 41 = some (.inr (.inr (9, [.int 4, .int 1, .ref 42, .ref 43, .ref 44, .ref 45, .ref 46, .ref 47, .ref 48, .ref 49, .ref 50, .ref 51, .int 0, .int 0, .int 0, .int 0, .int 0, .int 0, .int 0, .int 0, .ref 52, .int 0, .ref 53, .int 0, .ref 54, .int 0, .ref 55, .ref 56, .ref 57, .ref 58, .int 0, .ref 59, .ref 60]))) := ((at_ne (by decide)).trans f18)
    refine rr rfl (s_getf f24 rfl) ?_
    refine rr rfl (s_iload_n rfl) ?_
    refine rr rfl (s_iconst (v := 0) (by decide)) ?_
    have f25 : a_at ((((((((((H.set 42 (.inl [x1, 0, 0, 0, 0, 0, 0, 0, 0, 0, 0, 0, 0])).set 43 (.inl [x2, 0, 0, 0, 0, 0, 0, 0, 0, 0, 0, 0, 0])).set 44 (.inl [x3, 0, 0, 0, 0, 0, 0, 0, 0, 0, 0, 0, 0])).set 45 (.inl [x4, 0, 0, 0, 0, 0, 0, 0, 0, 0, 0, 0, 0])).set 46 (.inl [x5, 0, 0, 0, 0, 0, 0, 0, 0, 0, 0, 0, 0])).set 47 (.inl [x6, 0, 0, 0, 0, 0, 0, 0, 0, 0, 0, 0, 0])).set 48 (.inl [x7, 0, 0, 0, 0, 0, 0, 0, 0, 0, 0, 0, 0])).set 49 (.inl [(-1), 0, 0, 0, 0, 0, 0, 0, 0, 0, 0, 0, 0])).set 41 (.inr (.inr (9, [.int 4, .int 1, .ref 42, .ref 43, .ref 44, .ref 45, .ref 46, .ref 47, .ref 48, .ref 49, .ref 50, .ref 51, .int 0, .int 0, .int 0, .int 0, .int 0, .int 0, .int 0, .int 0, .ref 52, .int 0, .ref 53, .int 0, .ref 54, .int 0, .ref 55, .ref 56, .ref 57, .ref 58, .int 0, .ref 59, .ref 60])))).set 51 (.inl (List.replicate 8 0))) 51 = some (.inl (List.replicate 8 0)) := (at_eq f19)
    refine rr rfl (s_iastore (h' := ((((((((((H.set 42 (.inl [x1, 0, 0, 0, 0, 0, 0, 0, 0, 0, 0, 0, 0])).set 43 (.inl [x2, 0, 0, 0, 0, 0, 0, 0, 0, 0, 0, 0, 0])).set 44 (.inl [x3, 0, 0, 0, 0, 0, 0, 0, 0, 0, 0, 0, 0])).set 45 (.inl [x4, 0, 0, 0, 0, 0, 0, 0, 0, 0, 0, 0, 0])).set 46 (.inl [x5, 0, 0, 0, 0, 0, 0, 0, 0, 0, 0, 0, 0])).set 47 (.inl [x6, 0, 0, 0, 0, 0, 0, 0, 0, 0, 0, 0, 0])).set 48 (.inl [x7, 0, 0, 0, 0, 0, 0, 0, 0, 0, 0, 0, 0])).set 49 (.inl [(-1), 0, 0, 0, 0, 0, 0, 0, 0, 0, 0, 0, 0])).set 41 (.inr (.inr (9, [.int 4, .int 1, .ref 42, .ref 43, .ref 44, .ref 45, .ref 46, .ref 47, .ref 48, .ref 49, .ref 50, .ref 51, .int 0, .int 0, .int 0, .int 0, .int 0, .int 0, .int 0, .int 0, .ref 52, .int 0, .ref 53, .int 0, .ref 54, .int 0, .ref 55, .ref 56, .ref 57, .ref 58, .int 0, .ref 59, .ref 60])))).set 51 (.inl (List.replicate 8 0)))) (j := 3) (f' := (List.replicate 8 0)) rfl f25 (Nat.le_of_ble_eq_true rfl) rfl (len_of f25) (List.set_set ..)) ?_
    refine rr rfl (s_iinc (v := 4) rfl (by decide) rfl) ?_
    refine rr rfl s_goto ?_
    refine rr rfl (s_iload_n rfl) ?_
    refine rr rfl (s_bipush (v := 8) (by decide)) ?_
    refine rr rfl (s_icF (by decide)) ?_
    refine rr rfl (s_aload_n rfl) ?_
    have f26 : a_at ((((((((((H.set 42 (.inl [x1, 0, 0, 0, 0, 0, 0, 0, 0, 0, 0, 0, 0])).set 43 (.inl [x2, 0, 0, 0, 0, 0, 0, 0, 0, 0, 0, 0, 0])).set 44 (.inl [x3, 0, 0, 0, 0, 0, 0, 0, 0, 0, 0, 0, 0])).set 45 (.inl [x4, 0, 0, 0, 0, 0, 0, 0, 0, 0, 0, 0, 0])).set 46 (.inl [x5, 0, 0, 0, 0, 0, 0, 0, 0, 0, 0, 0, 0])).set 47 (.inl [x6, 0, 0, 0, 0, 0, 0, 0, 0, 0, 0, 0, 0])).set 48 (.inl [x7, 0, 0, 0, 0, 0, 0, 0, 0, 0, 0, 0, 0])).set 49 (.inl [(-1), 0, 0, 0, 0, 0, 0, 0, 0, 0, 0, 0, 0])).set 41 (.inr (.inr (9, [.int 4, .int 1, .ref 42, .ref 43, .ref 44, .ref 45, .ref 46, .ref 47, .ref 48, .ref 49, .ref 50, .ref 51, .int 0, .int 0, .int 0, .int 0, .int 0, .int 0, .int 0, .int 0, .ref 52, .int 0, .ref 53, .int 0, .ref 54, .int 0, .ref 55, .ref 56, .ref 57, .ref 58, .int 0, .ref 59, .ref 60])))).set 51 (.inl (List.replicate 8 0))) 41 = some (.inr (.inr (9, [.int 4, .int 1, .ref 42, .ref 43, .ref 44, .ref 45, .ref 46, .ref 47, .ref 48, .ref 49, .ref 50, .ref 51, .int 0, .int 0, .int 0, .int 0, .int 0, .int 0, .int 0, .int 0, .ref 52, .int 0, .ref 53, .int 0, .ref 54, .int 0, .ref 55, .ref 56, .ref 57, .ref 58, .int 0, .ref 59, .ref 60]))) := ((at_ne (by decide)).trans f18)
    refine rr rfl (s_getf f26 rfl) ?_
    refine rr rfl (s_iload_n rfl) ?_
    refine rr rfl (s_iconst (v := 0) (by decide)) ?_
    have f27 : a_at ((((((((((H.set 42 (.inl [x1, 0, 0, 0, 0, 0, 0, 0, 0, 0, 0, 0, 0])).set 43 (.inl [x2, 0, 0, 0, 0, 0, 0, 0, 0, 0, 0, 0, 0])).set 44 (.inl [x3, 0, 0, 0, 0, 0, 0, 0, 0, 0, 0, 0, 0])).set 45 (.inl [x4, 0, 0, 0, 0, 0, 0, 0, 0, 0, 0, 0, 0])).set 46 (.inl [x5, 0, 0, 0, 0, 0, 0, 0, 0, 0, 0, 0, 0])).set 47 (.inl [x6, 0, 0, 0, 0, 0, 0, 0, 0, 0, 0, 0, 0])).set 48 (.inl [x7, 0, 0, 0, 0, 0, 0, 0, 0, 0, 0, 0, 0])).set 49 (.inl [(-1), 0, 0, 0, 0, 0, 0, 0, 0, 0, 0, 0, 0])).set 41 (.inr (.inr (9, [.int 4, .int 1, .ref 42, .ref 43, .ref 44, .ref 45, .ref 46, .ref 47, .ref 48, .ref 49, .ref 50, .ref 51, .int 0, .int 0, .int 0, .int 0, .int 0, .int 0, .int 0, .int 0, .ref 52, .int 0, .ref 53, .int 0, .ref 54, .int 0, .ref 55, .ref 56, .ref 57, .ref 58, .int 0, .ref 59, .ref 60])))).set 51 (.inl (List.replicate 8 0))) 51 = some (.inl (List.replicate 8 0)) := (at_eq f19)
    refine rr rfl (s_iastore (h' := ((((((((((H.set 42 (.inl [x1, 0, 0, 0, 0, 0, 0, 0, 0, 0, 0, 0, 0])).set 43 (.inl [x2, 0, 0, 0, 0, 0, 0, 0, 0, 0, 0, 0, 0])).set 44 (.inl [x3, 0, 0, 0, 0, 0, 0, 0, 0, 0, 0, 0, 0])).set 45 (.inl [x4, 0, 0, 0, 0, 0, 0, 0, 0, 0, 0, 0, 0])).set 46 (.inl [x5, 0, 0, 0, 0, 0, 0, 0, 0, 0, 0, 0, 0])).set 47 (.inl [x6, 0, 0, 0, 0, 0, 0, 0, 0, 0, 0, 0, 0])).set 48 (.inl [x7, 0, 0, 0, 0, 0, 0, 0, 0, 0, 0, 0, 0])).set 49 (.inl [(-1), 0, 0, 0, 0, 0, 0, 0, 0, 0, 0, 0, 0])).set 41 (.inr (.inr (9, [.int 4, .int 1, .ref 42, .ref 43, .ref 44, .ref 45, .ref 46, .ref 47, .ref 48, .ref 49, .ref 50, .ref 51, .int 0, .int 0, .int 0, .int 0, .int 0, .int 0, .int 0, .int 0, .ref 52, .int 0, .ref 53, .int 0, .ref 54, .int 0, .ref 55, .ref 56, .ref 57, .ref 58, .int 0, .ref 59, .ref 60])))).set 51 (.inl (List.replicate 8 0)))) (j := 4) (f' := (List.replicate 8 0)) rfl f27 (Nat.le_of_ble_eq_true rfl) rfl (len_of f27) (List.set_set ..)) ?_
    refine rr rfl (s_iinc (v := 5) rfl (by decide) rfl) ?_
    refine rr rfl s_goto ?_
    refine rr rfl (s_iload_n rfl) ?_
    refine rr rfl (s_bipush (v := 8) (by decide)) ?_
    refine rr rfl (s_icF (by decide)) ?_
    refine rr rfl (s_aload_n rfl) ?_
    have f28 : a_at ((((((((((H.set 42 (.inl [x1, 0, 0, 0, 0, 0, 0, 0, 0, 0, 0, 0, 0])).set 43 (.inl [x2, 0, 0, 0, 0, 0, 0, 0, 0, 0, 0, 0, 0])).set 44 (.inl [x3, 0, 0, 0, 0, 0, 0, 0, 0, 0, 0, 0, 0])).set 45 (.inl [x4, 0, 0, 0, 0, 0, 0, 0, 0, 0, 0, 0, 0])).set 46 (.inl [x5, 0, 0, 0, 0, 0, 0, 0, 0, 0, 0, 0, 0])).set 47 (.inl [x6, 0, 0, 0, 0, 0, 0, 0, 0, 0, 0, 0, 0])).set 48 (.inl [x7, 0, 0, 0, 0, 0, 0, 0, 0, 0, 0, 0, 0])).set 49 (.inl [(-1), 0, 0, 0, 0, 0, 0, 0, 0, 0, 0, 0, 0])).set 41 (.inr (.inr (9, [.int 4, .int 1, .ref 42, .ref 43, .ref 44, .ref 45, .ref 46, .ref 47, .ref 48, .ref 49, .ref 50, .ref 51, .int 0, .int 0, .int 0, .int 0, .int 0, .int 0, .int 0, .int 0, .ref 52, .int 0, .ref 53, .int 0, .ref 54, .int 0, .ref 55, .ref 56, .ref 57, .ref 58, .int 0, .ref 59, .ref 60])))).set 51 (.inl (List.replicate 8 0))) 41 = some (.inr (.inr (9, [.int 4, .int 1, .ref 42, .ref 43, .ref 44, .ref 45, .ref 46, .ref 47, .ref 48, .ref 49, .ref 50, .ref 51, .int 0, .int 0, .int 0, .int 0, .int 0, .int 0, .int 0, .int 0, .ref 52, .int 0, .ref 53, .int 0, .ref 54, .int 0, .ref 55, .ref 56, .ref 57, .ref 58, .int 0, .ref 59, .ref 60]))) := ((at_ne (by decide)).trans f18)
    refine rr rfl (s_getf f28 rfl) ?_
    refine rr rfl (s_iload_n rfl) ?_
    refine rr rfl (s_iconst (v := 0) (by decide)) ?_
    have f29 : a_at ((((((((((H.set 42 (.inl [x1, 0, 0, 0, 0, 0, 0, 0, 0, 0, 0, 0, 0])).set 43 (.inl [x2, 0, 0, 0, 0, 0, 0, 0, 0, 0, 0, 0, 0])).set 44 (.inl [x3, 0, 0, 0, 0, 0, 0, 0, 0, 0, 0, 0, 0])).set 45 (.inl [x4, 0, 0, 0, 0, 0, 0, 0, 0, 0, 0, 0, 0])).set 46 (.inl [x5, 0, 0, 0, 0, 0, 0, 0, 0, 0, 0, 0, 0])).set 47 (.inl [x6, 0, 0, 0, 0, 0, 0, 0, 0, 0, 0, 0, 0])).set 48 (.inl [x7, 0, 0, 0, 0, 0, 0, 0, 0, 0, 0, 0, 0])).set 49 (.inl [(-1), 0, 0, 0, 0, 0, 0, 0, 0, 0, 0, 0, 0])).set 41 (.inr (.inr (9, [.int 4, .int 1, .ref 42, .ref 43, .ref 44, .ref 45, .ref 46, .ref 47, .ref 48, .ref 49, .ref 50, .ref 51, .int 0, .int 0, .int 0, .int 0, .int 0, .int 0, .int 0, .int 0, .ref 52, .int 0, .ref 53, .int 0, .ref 54, .int 0, .ref 55, .ref 56, .ref 57, .ref 58, .int 0, .ref 59, .ref 60])))).set 51 (.inl (List.replicate 8 0))) 51 = some (.inl (List.replicate 8 0)) := (at_eq f19)
    refine rr rfl (s_iastore (h' := ((((((((((H.set 42 (.inl [x1, 0, 0, 0, 0, 0, 0, 0, 0, 0, 0, 0, 0])).set 43 (.inl [x2, 0, 0, 0, 0, 0, 0, 0, 0, 0, 0, 0, 0])).set 44 (.inl [x3, 0, 0, 0, 0, 0, 0, 0, 0, 0, 0, 0, 0])).set 45 (.inl [x4, 0, 0, 0, 0, 0, 0, 0, 0, 0, 0, 0, 0])).set 46 (.inl [x5, 0, 0, 0, 0, 0, 0, 0, 0, 0, 0, 0, 0])).set 47 (.inl [x6, 0, 0, 0, 0, 0, 0, 0, 0, 0, 0, 0, 0])).set 48 (.inl [x7, 0, 0, 0, 0, 0, 0, 0, 0, 0, 0, 0, 0])).set 49 (.inl [(-1), 0, 0, 0, 0, 0, 0, 0, 0, 0, 0, 0, 0])).set 41 (.inr (.inr (9, [.int 4, .int 1, .ref 42, .ref 43, .ref 44, .ref 45, .ref 46, .ref 47, .ref 48, .ref 49, .ref 50, .ref 51, .int 0, .int 0, .int 0, .int 0, .int 0, .int 0, .int 0, .int 0, .ref 52, .int 0, .ref 53, .int 0, .ref 54, .int 0, .ref 55, .ref 56, .ref 57, .ref 58, .int 0, .ref 59, .ref 60])))).set 51 (.inl (List.replicate 8 0)))) (j := 5) (f' := (List.replicate 8 0)) rfl f29 (Nat.le_of_ble_eq_true rfl) rfl (len_of f29) (List.set_set ..)) ?_
    refine rr rfl (s_iinc (v := 6) rfl (by decide) rfl) ?_
    refine rr rfl s_goto ?_
    refine rr rfl (s_iload_n rfl) ?_
    refine rr rfl (s_bipush (v := 8) (by decide)) ?_
    refine rr rfl (s_icF (by decide)) ?_
    refine rr rfl (s_aload_n rfl) ?_
    have f30 : a_at ((((((((((H.set 42 (.inl [x1, 0, 0, 0, 0, 0, 0, 0, 0, 0, 0, 0, 0])).set 43 (.inl [x2, 0, 0, 0, 0, 0, 0, 0, 0, 0, 0, 0, 0])).set 44 (.inl [x3, 0, 0, 0, 0, 0, 0, 0, 0, 0, 0, 0, 0])).set 45 (.inl [x4, 0, 0, 0, 0, 0, 0, 0, 0, 0, 0, 0, 0])).set 46 (.inl [x5, 0, 0, 0, 0, 0, 0, 0, 0, 0, 0, 0, 0])).set 47 (.inl [x6, 0, 0, 0, 0, 0, 0, 0, 0, 0, 0, 0, 0])).set 48 (.inl [x7, 0, 0, 0, 0, 0, 0, 0, 0, 0, 0, 0, 0])).set 49 (.inl [(-1), 0, 0, 0, 0, 0, 0, 0, 0, 0, 0, 0, 0])).set 41 (.inr (.inr (9, [.int 4, .int 1, .ref 42, .ref 43, .ref 44, .ref 45, .ref 46, .ref 47, .ref 48, .ref 49, .ref 50, .ref 51, .int 0, .int 0, .int 0, .int 0, .int 0, .int 0, .int 0, .int 0, .ref 52, .int 0, .ref 53, .int 0, .ref 54, .int 0, .ref 55, .ref 56, .ref 57, .ref 58, .int 0, .ref 59, .ref 60])))).set 51 (.inl (List.replicate 8 0))) 41 = some (.inr (.inr (9, [.int 4, .int 1, .ref 42, .ref 43, .ref 44, .ref 45, .ref 46, .ref 47, .ref 48, .ref 49, .ref 50, .ref 51, .int 0, .int 0, .int 0, .int 0, .int 0, .int 0, .int 0, .int 0, .ref 52, .int 0, .ref 53, .int 0, .ref 54, .int 0, .ref 55, .ref 56, .ref 57, .ref 58, .int 0, .ref 59, .ref 60]))) := ((at_ne (by decide)).trans f18)
    refine rr rfl (s_getf f30 rfl) ?_
    refine rr rfl (s_iload_n rfl) ?_
    refine rr rfl (s_iconst (v := 0) (by decide)) ?_
    have f31 : a_at ((((((((((H.set 42 (.inl [x1, 0, 0, 0, 0, 0, 0, 0, 0, 0, 0, 0, 0])).set 43 (.inl [x2, 0, 0, 0, 0, 0, 0, 0, 0, 0, 0, 0, 0])).set 44 (.inl [x3, 0, 0, 0, 0, 0, 0, 0, 0, 0, 0, 0, 0])).set 45 (.inl [x4, 0, 0, 0, 0, 0, 0, 0, 0, 0, 0, 0, 0])).set 46 (.inl [x5, 0, 0, 0, 0, 0, 0, 0, 0, 0, 0, 0, 0])).set 47 (.inl [x6, 0, 0, 0, 0, 0, 0, 0, 0, 0, 0, 0, 0])).set 48 (.inl [x7, 0, 0, 0, 0, 0, 0, 0, 0, 0, 0, 0, 0])).set 49 (.inl [(-1), 0, 0, 0, 0, 0, 0, 0, 0, 0, 0, 0, 0])).set 41 (.inr (.inr (9, [.int 4, .int 1, .ref 42, .ref 43, .ref 44, .ref 45, .ref 46, .ref 47, .ref 48, .ref 49, .ref 50, .ref 51, .int 0, .int 0, .int 0, .int 0, .int 0, .int 0, .int 0, .int 0, .ref 52, .int 0, .ref 53, .int 0, .ref 54, .int 0, .ref 55, .ref 56, .ref 57, .ref 58, .int 0, .ref 59, .ref 60])))).set 51 (.inl (List.replicate 8 0))) 51 = some (.inl (List.replicate 8 0)) := (at_eq f19)
    refine rr rfl (s_iastore (h' := ((((((((((H.set 42 (.inl [x1, 0, 0, 0, 0, 0, 0, 0, 0, 0, 0, 0, 0])).set 43 (.inl [x2, 0, 0, 0, 0, 0, 0, 0, 0, 0, 0, 0, 0])).set 44 (.inl [x3, 0, 0, 0, 0, 0, 0, 0, 0, 0, 0, 0, 0])).set 45 (.inl [x4, 0, 0, 0, 0, 0, 0, 0, 0, 0, 0, 0, 0])).set 46 (.inl [x5, 0, 0, 0, 0, 0, 0, 0, 0, 0, 0, 0, 0])).set 47 (.inl [x6, 0, 0, 0, 0, 0, 0, 0, 0, 0, 0, 0, 0])).set 48 (.inl [x7, 0, 0, 0, 0, 0, 0, 0, 0, 0, 0, 0, 0])).set 49 (.inl [(-1), 0, 0, 0, 0, 0, 0, 0, 0, 0, 0, 0, 0])).set 41 (.inr (.inr (9, [.int 4, .int 1, .ref 42, .ref 43, .ref 44, .ref 45, .ref 46, .ref 47, .ref 48, .ref 49, .ref 50, .ref 51, .int 0, .int 0, .int 0, .int 0, .int 0, .int 0, .int 0, .int 0, .ref 52, .int 0, .ref 53, .int 0, .ref 54, .int 0, .ref 55, .ref 56, .ref 57, .ref 58, .int 0, .ref 59, .ref 60])))).set 51 (.inl (List.replicate 8 0)))) (j := 6) (f' := (List.replicate 8 0)) rfl f31 (Nat.le_of_ble_eq_true rfl) rfl (len_of f31) (List.set_set ..)) ?_
    refine rr rfl (s_iinc (v := 7) rfl (by decide) rfl) ?_
    refine rr rfl s_goto ?_
    refine rr rfl (s_iload_n rfl) ?_
    refine rr rfl (s_bipush (v := 8) (by decide)) ?_
    refine rr rfl (s_icF (by decide)) ?_
    refine rr rfl (s_aload_n rfl) ?_
    have f32 : a_at ((((((((((H.set 42 (.inl [x1, 0, 0, 0, 0, 0, 0, 0, 0, 0, 0, 0, 0])).set 43 (.inl [x2, 0, 0, 0, 0, 0, 0, 0, 0, 0, 0, 0, 0])).set 44 (.inl [x3, 0, 0, 0, 0, 0, 0, 0, 0, 0, 0, 0, 0])).set 45 (.inl [x4, 0, 0, 0, 0, 0, 0, 0, 0, 0, 0, 0, 0])).set 46 (.inl [x5, 0, 0, 0, 0, 0, 0, 0, 0, 0, 0, 0, 0])).set 47 (.inl [x6, 0, 0, 0, 0, 0, 0, 0, 0, 0, 0, 0, 0])).set 48 (.inl [x7, 0, 0, 0, 0, 0, 0, 0, 0, 0, 0, 0, 0])).set 49 (.inl [(-1), 0, 0, 0, 0, 0, 0, 0, 0, 0, 0, 0, 0])).set 41 (.inr (.inr (9, [.int 4, .int 1, .ref 42, .ref 43, .ref 44, .ref 45, .ref 46, .ref 47, .ref 48, .ref 49, .ref 50, .ref 51, .int 0, .int 0, .int 0, .int 0, .int 0, .int 0, .int 0, .int 0, .ref 52, .int 0, .ref 53, .int 0, .ref 54, .int 0, .ref 55, .ref 56, .ref 57, .ref 58, .int 0, .ref 59, .ref 60])))).set 51 (.inl (List.replicate 8 0))) 41 = some (.inr (.inr (9, [.int 4, .int 1, .ref 42, .ref 43, .ref 44, .ref 45, .ref 46, .ref 47, .ref 48, .ref 49, .ref 50, .ref 51, .int 0, .int 0, .int 0, .int 0, .int 0, .int 0, .int 0, .int 0, .ref 52, .int 0, .ref 53, .int 0, .ref 54, .int 0, .ref 55, .ref 56, .ref 57, .ref 58, .int 0, .ref 59, .ref 60]))) := ((at_ne (by decide)).trans f18)
    refine rr rfl (s_getf f32 rfl) ?_
    refine rr rfl (s_iload_n rfl) ?_
    refine rr rfl (s_iconst (v := 0) (by decide)) ?_
    have f33 : a_at ((((((((((H.set 42 (.inl [x1, 0, 0, 0, 0, 0, 0, 0, 0, 0, 0, 0, 0])).set 43 (.inl [x2, 0, 0, 0, 0, 0, 0, 0, 0, 0, 0, 0, 0])).set 44 (.inl [x3, 0, 0, 0, 0, 0, 0, 0, 0, 0, 0, 0, 0])).set 45 (.inl [x4, 0, 0, 0, 0, 0, 0, 0, 0, 0, 0, 0, 0])).set 46 (.inl [x5, 0, 0, 0, 0, 0, 0, 0, 0, 0, 0, 0, 0])).set 47 (.inl [x6, 0, 0, 0, 0, 0, 0, 0, 0, 0, 0, 0, 0])).set 48 (.inl [x7, 0, 0, 0, 0, 0, 0, 0, 0, 0, 0, 0, 0])).set 49 (.inl [(-1), 0, 0, 0, 0, 0, 0, 0, 0, 0, 0, 0, 0])).set 41 (.inr (.inr (9, [.int 4, .int 1, .ref 42, .ref 43, .ref 44, .ref 45, .ref 46, .ref 47, .ref 48, .ref 49, .ref 50, .ref 51, .int 0, .int 0, .int 0, .int 0, .int 0, .int 0, .int 0, .int 0, .ref 52, .int 0, .ref 53, .int 0, .ref 54, .int 0, .ref 55, .ref 56, .ref 57, .ref 58, .int 0, .ref 59, .ref 60])))).set 51 (.inl (List.replicate 8 0))) 51 = some (.inl (List.replicate 8 0)) := (at_eq f19)
    refine rr rfl (s_iastore (h' := ((((((((((H.set 42 (.inl [x1, 0, 0, 0, 0, 0, 0, 0, 0, 0, 0, 0, 0])).set 43 (.inl [x2, 0, 0, 0, 0, 0, 0, 0, 0, 0, 0, 0, 0])).set 44 (.inl [x3, 0, 0, 0, 0, 0, 0, 0, 0, 0, 0, 0, 0])).set 45 (.inl [x4, 0, 0, 0, 0, 0, 0, 0, 0, 0, 0, 0, 0])).set 46 (.inl [x5, 0, 0, 0, 0, 0, 0, 0, 0, 0, 0, 0, 0])).set 47 (.inl [x6, 0, 0, 0, 0, 0, 0, 0, 0, 0, 0, 0, 0])).set 48 (.inl [x7, 0, 0, 0, 0, 0, 0, 0, 0, 0, 0, 0, 0])).set 49 (.inl [(-1), 0, 0, 0, 0, 0, 0, 0, 0, 0, 0, 0, 0])).set 41 (.inr (.inr (9, [.int 4, .int 1, .ref 42, .ref 43, .ref 44, .ref 45, .ref 46, .ref 47, .ref 48, .ref 49, .ref 50, .ref 51, .int 0, .int 0, .int 0, .int 0, .int 0, .int 0, .int 0, .int 0, .ref 52, .int 0, .ref 53, .int 0, .ref 54, .int 0, .ref 55, .ref 56, .ref 57, .ref 58, .int 0, .ref 59, .ref 60])))).set 51 (.inl (List.replicate 8 0)))) (j := 7) (f' := (List.replicate 8 0)) rfl f33 (Nat.le_of_ble_eq_true rfl) rfl (len_of f33) (List.set_set ..)) ?_
    refine rr rfl (s_iinc (v := 8) rfl (by decide) rfl) ?_
    refine rr rfl s_goto ?_
    refine rr rfl (s_iload_n rfl) ?_
    refine rr rfl (s_bipush (v := 8) (by decide)) ?_
    refine rr rfl (s_icT (by decide)) ?_
    refine rr rfl (s_iconst (v := 1) (by decide)) ?_
    refine rr rfl (s_istore_n rfl) ?_
    refine rr rfl (s_iconst (v := 1) (by decide)) ?_
    refine rr rfl (s_istore_n rfl) ?_
    refine rr rfl (s_iload_n rfl) ?_
    refine rr rfl (s_ifF (by decide)) ?_
    refine rr rfl (s_iload_n rfl) ?_
    refine rr rfl (s_ifF (by decide)) ?_
    refine rr rfl (s_iconst (v := 0) (by decide)) ?_
    refine rr rfl (s_istore_n rfl) ?_
    refine rr rfl (s_iconst (v := 0) (by decide)) ?_
    refine rr rfl (s_istore_n rfl) ?_
    refine rr rfl (s_iload_n rfl) ?_
    refine rr rfl (s_aload_n rfl) ?_
    have f34 : a_at ((((((((((H.set 42 (.inl [x1, 0, 0, 0, 0, 0, 0, 0, 0, 0, 0, 0, 0])).set 43 (.inl [x2, 0, 0, 0, 0, 0, 0, 0, 0, 0, 0, 0, 0])).set 44 (.inl [x3, 0, 0, 0, 0, 0, 0, 0, 0, 0, 0, 0, 0])).set 45 (.inl [x4, 0, 0, 0, 0, 0, 0, 0, 0, 0, 0, 0, 0])).set 46 (.inl [x5, 0, 0, 0, 0, 0, 0, 0, 0, 0, 0, 0, 0])).set 47 (.inl [x6, 0, 0, 0, 0, 0, 0, 0, 0, 0, 0, 0, 0])).set 48 (.inl [x7, 0, 0, 0, 0, 0, 0, 0, 0, 0, 0, 0, 0])).set 49 (.inl [(-1), 0, 0, 0, 0, 0, 0, 0, 0, 0, 0, 0, 0])).set 41 (.inr (.inr (9, [.int 4, .int 1, .ref 42, .ref 43, .ref 44, .ref 45, .ref 46, .ref 47, .ref 48, .ref 49, .ref 50, .ref 51, .int 0, .int 0, .int 0, .int 0, .int 0, .int 0, .int 0, .int 0, .ref 52, .int 0, .ref 53, .int 0, .ref 54, .int 0, .ref 55, .ref 56, .ref 57, .ref 58, .int 0, .ref 59, .ref 60])))).set 51 (.inl (List.replicate 8 0))) 41 = some (.inr (.inr (9, [.int 4, .int 1, .ref 42, .ref 43, .ref 44, .ref 45, .ref 46, .ref 47, .ref 48, .ref 49, .ref 50, .ref 51, .int 0, .int 0, .int 0, .int 0, .int 0, .int 0, .int 0, .int 0, .ref 52, .int 0, .ref 53, .int 0, .ref 54, .int 0, .ref 55, .ref 56, .ref 57, .ref 58, .int 0, .ref 59, .ref 60]))) := ((at_ne (by decide)).trans f18)
    refine rr rfl (s_getf f34 rfl) ?_
    refine rr rfl (s_icF (by decide)) ?_
    refine rr rfl (s_iconst (v := 0) (by decide)) ?_
    refine rr rfl (s_istore rfl) ?_
    refine rr rfl (s_aload_n rfl) ?_
    refine rr rfl (s_getf f34 rfl) ?_
    refine rr rfl (s_iload_n rfl) ?_
    have f35 : a_at ((((((((((H.set 42 (.inl [x1, 0, 0, 0, 0, 0, 0, 0, 0, 0, 0, 0, 0])).set 43 (.inl [x2, 0, 0, 0, 0, 0, 0, 0, 0, 0, 0, 0, 0])).set 44 (.inl [x3, 0, 0, 0, 0, 0, 0, 0, 0, 0, 0, 0, 0])).set 45 (.inl [x4, 0, 0, 0, 0, 0, 0, 0, 0, 0, 0, 0, 0])).set 46 (.inl [x5, 0, 0, 0, 0, 0, 0, 0, 0, 0, 0, 0, 0])).set 47 (.inl [x6, 0, 0, 0, 0, 0, 0, 0, 0, 0, 0, 0, 0])).set 48 (.inl [x7, 0, 0, 0, 0, 0, 0, 0, 0, 0, 0, 0, 0])).set 49 (.inl [(-1), 0, 0, 0, 0, 0, 0, 0, 0, 0, 0, 0, 0])).set 41 (.inr (.inr (9, [.int 4, .int 1, .ref 42, .ref 43, .ref 44, .ref 45, .ref 46, .ref 47, .ref 48, .ref 49, .ref 50, .ref 51, .int 0, .int 0, .int 0, .int 0, .int 0, .int 0, .int 0, .int 0, .ref 52, .int 0, .ref 53, .int 0, .ref 54, .int 0, .ref 55, .ref 56, .ref 57, .ref 58, .int 0, .ref 59, .ref 60])))).set 51 (.inl (List.replicate 8 0))) 43 = some (.inl [x2, 0, 0, 0, 0, 0, 0, 0, 0, 0, 0, 0, 0]) := ((at_ne (by decide)).trans ((at_ne (by decide)).trans ((at_ne (by decide)).trans ((at_ne (by decide)).trans ((at_ne (by decide)).trans ((at_ne (by decide)).trans ((at_ne (by decide)).trans ((at_ne (by decide)).trans (at_eq ((at_ne (by decide)).trans F43))))))))))
    refine rr rfl (s_iaload (j := 0) rfl f35 rfl) ?_
    refine rr rfl (s_ifF (ic_nne g1)) ?_
    refine rr rfl (s_aload_n rfl) ?_
    refine rr rfl (s_getf f34 rfl) ?_
    refine rr rfl (s_aload_n rfl) ?_
    refine rr rfl (s_getf f34 rfl) ?_
    refine rr rfl (s_iload_n rfl) ?_
    have f36 : a_at ((((((((((H.set 42 (.inl [x1, 0, 0, 0, 0, 0, 0, 0, 0, 0, 0, 0, 0])).set 43 (.inl [x2, 0, 0, 0, 0, 0, 0, 0, 0, 0, 0, 0, 0])).set 44 (.inl [x3, 0, 0, 0, 0, 0, 0, 0, 0, 0, 0, 0, 0])).set 45 (.inl [x4, 0, 0, 0, 0, 0, 0, 0, 0, 0, 0, 0, 0])).set 46 (.inl [x5, 0, 0, 0, 0, 0, 0, 0, 0, 0, 0, 0, 0])).set 47 (.inl [x6, 0, 0, 0, 0, 0, 0, 0, 0, 0, 0, 0, 0])).set 48 (.inl [x7, 0, 0, 0, 0, 0, 0, 0, 0, 0, 0, 0, 0])).set 49 (.inl [(-1), 0, 0, 0, 0, 0, 0, 0, 0, 0, 0, 0, 0])).set 41 (.inr (.inr (9, [.int 4, .int 1, .ref 42, .ref 43, .ref 44, .ref 45, .ref 46, .ref 47, .ref 48, .ref 49, .ref 50, .ref 51, .int 0, .int 0, .int 0, .int 0, .int 0, .int 0, .int 0, .int 0, .ref 52, .int 0, .ref 53, .int 0, .ref 54, .int 0, .ref 55, .ref 56, .ref 57, .ref 58, .int 0, .ref 59, .ref 60])))).set 51 (.inl (List.replicate 8 0))) 45 = some (.inl [x4, 0, 0, 0, 0, 0, 0, 0, 0, 0, 0, 0, 0]) := ((at_ne (by decide)).trans ((at_ne (by decide)).trans ((at_ne (by decide)).trans ((at_ne (by decide)).trans ((at_ne (by decide)).trans ((at_ne (by decide)).trans (at_eq ((at_ne (by decide)).trans ((at_ne (by decide)).trans ((at_ne (by decide)).trans F45))))))))))
    refine rr rfl (s_iaload (j := 0) rfl f36 rfl) ?_
    have f37 : a_at ((((((((((H.set 42 (.inl [x1, 0, 0, 0, 0, 0, 0, 0, 0, 0, 0, 0, 0])).set 43 (.inl [x2, 0, 0, 0, 0, 0, 0, 0, 0, 0, 0, 0, 0])).set 44 (.inl [x3, 0, 0, 0, 0, 0, 0, 0, 0, 0, 0, 0, 0])).set 45 (.inl [x4, 0, 0, 0, 0, 0, 0, 0, 0, 0, 0, 0, 0])).set 46 (.inl [x5, 0, 0, 0, 0, 0, 0, 0, 0, 0, 0, 0, 0])).set 47 (.inl [x6, 0, 0, 0, 0, 0, 0, 0, 0, 0, 0, 0, 0])).set 48 (.inl [x7, 0, 0, 0, 0, 0, 0, 0, 0, 0, 0, 0, 0])).set 49 (.inl [(-1), 0, 0, 0, 0, 0, 0, 0, 0, 0, 0, 0, 0])).set 41 (.inr (.inr (9, [.int 4, .int 1, .ref 42, .ref 43, .ref 44, .ref 45, .ref 46, .ref 47, .ref 48, .ref 49, .ref 50, .ref 51, .int 0, .int 0, .int 0, .int 0, .int 0, .int 0, .int 0, .int 0, .ref 52, .int 0, .ref 53, .int 0, .ref 54, .int 0, .ref 55, .ref 56, .ref 57, .ref 58, .int 0, .ref 59, .ref 60])))).set 51 (.inl (List.replicate 8 0))) 51 = some (.inl (List.replicate 8 0)) := (at_eq f19)
    refine rr rfl (s_ialdR (n := 8) (x := 0) f37 g2 g3) ?_
    refine rr rfl (s_istore rfl) ?_
    refine rr rfl (s_aload_n rfl) ?_
    refine rr rfl (s_getf f34 rfl) ?_
    refine rr rfl (s_iload_n rfl) ?_
    have f38 : a_at ((((((((((H.set 42 (.inl [x1, 0, 0, 0, 0, 0, 0, 0, 0, 0, 0, 0, 0])).set 43 (.inl [x2, 0, 0, 0, 0, 0, 0, 0, 0, 0, 0, 0, 0])).set 44 (.inl [x3, 0, 0, 0, 0, 0, 0, 0, 0, 0, 0, 0, 0])).set 45 (.inl [x4, 0, 0, 0, 0, 0, 0, 0, 0, 0, 0, 0, 0])).set 46 (.inl [x5, 0, 0, 0, 0, 0, 0, 0, 0, 0, 0, 0, 0])).set 47 (.inl [x6, 0, 0, 0, 0, 0, 0, 0, 0, 0, 0, 0, 0])).set 48 (.inl [x7, 0, 0, 0, 0, 0, 0, 0, 0, 0, 0, 0, 0])).set 49 (.inl [(-1), 0, 0, 0, 0, 0, 0, 0, 0, 0, 0, 0, 0])).set 41 (.inr (.inr (9, [.int 4, .int 1, .ref 42, .ref 43, .ref 44, .ref 45, .ref 46, .ref 47, .ref 48, .ref 49, .ref 50, .ref 51, .int 0, .int 0, .int 0, .int 0, .int 0, .int 0, .int 0, .int 0, .ref 52, .int 0, .ref 53, .int 0, .ref 54, .int 0, .ref 55, .ref 56, .ref 57, .ref 58, .int 0, .ref 59, .ref 60])))).set 51 (.inl (List.replicate 8 0))) 46 = some (.inl [x5, 0, 0, 0, 0, 0, 0, 0, 0, 0, 0, 0, 0]) := ((at_ne (by decide)).trans ((at_ne (by decide)).trans ((at_ne (by decide)).trans ((at_ne (by decide)).trans ((at_ne (by decide)).trans (at_eq ((at_ne (by decide)).trans ((at_ne (by decide)).trans ((at_ne (by decide)).trans ((at_ne (by decide)).trans F46))))))))))
    refine rr rfl (s_iaload (j := 0) rfl f38 rfl) ?_
    refine rr rfl (s_iconst (v := (-1)) (by decide)) ?_
    refine rr rfl (s_icF (ic_neq g4)) ?_
    refine rr rfl (s_aload_n rfl) ?_
    refine rr rfl (s_getf f34 rfl) ?_
    refine rr rfl (s_aload_n rfl) ?_
    refine rr rfl (s_getf f34 rfl) ?_
    refine rr rfl (s_iload_n rfl) ?_
    refine rr rfl (s_iaload (j := 0) rfl f38 rfl) ?_
    refine rr rfl (s_ialdR (n := 8) (x := 0) f37 g5 g6) ?_
    refine rr rfl (s_iload rfl) ?_
    refine rr rfl (s_icT (by decide)) ?_
    refine rr rfl (s_iload rfl) ?_
    refine rr rfl (s_istore rfl) ?_
    refine rr rfl (s_aload_n rfl) ?_
    refine rr rfl (s_getf f34 rfl) ?_
    refine rr rfl (s_iload_n rfl) ?_
    have f39 : a_at ((((((((((H.set 42 (.inl [x1, 0, 0, 0, 0, 0, 0, 0, 0, 0, 0, 0, 0])).set 43 (.inl [x2, 0, 0, 0, 0, 0, 0, 0, 0, 0, 0, 0, 0])).set 44 (.inl [x3, 0, 0, 0, 0, 0, 0, 0, 0, 0, 0, 0, 0])).set 45 (.inl [x4, 0, 0, 0, 0, 0, 0, 0, 0, 0, 0, 0, 0])).set 46 (.inl [x5, 0, 0, 0, 0, 0, 0, 0, 0, 0, 0, 0, 0])).set 47 (.inl [x6, 0, 0, 0, 0, 0, 0, 0, 0, 0, 0, 0, 0])).set 48 (.inl [x7, 0, 0, 0, 0, 0, 0, 0, 0, 0, 0, 0, 0])).set 49 (.inl [(-1), 0, 0, 0, 0, 0, 0, 0, 0, 0, 0, 0, 0])).set 41 (.inr (.inr (9, [.int 4, .int 1, .ref 42, .ref 43, .ref 44, .ref 45, .ref 46, .ref 47, .ref 48, .ref 49, .ref 50, .ref 51, .int 0, .int 0, .int 0, .int 0, .int 0, .int 0, .int 0, .int 0, .ref 52, .int 0, .ref 53, .int 0, .ref 54, .int 0, .ref 55, .ref 56, .ref 57, .ref 58, .int 0, .ref 59, .ref 60])))).set 51 (.inl (List.replicate 8 0))) 47 = some (.inl [x6, 0, 0, 0, 0, 0, 0, 0, 0, 0, 0, 0, 0]) := ((at_ne (by decide)).trans ((at_ne (by decide)).trans ((at_ne (by decide)).trans ((at_ne (by decide)).trans (at_eq ((at_ne (by decide)).trans ((at_ne (by decide)).trans ((at_ne (by decide)).trans ((at_ne (by decide)).trans ((at_ne (by decide)).trans F47))))))))))
    refine rr rfl (s_iaload (j := 0) rfl f39 rfl) ?_
    refine rr rfl (s_iconst (v := (-1)) (by decide)) ?_
    refine rr rfl (s_icF (ic_neq g7)) ?_
    refine rr rfl (s_aload_n rfl) ?_
    refine rr rfl (s_getf f34 rfl) ?_
    refine rr rfl (s_aload_n rfl) ?_
    refine rr rfl (s_getf f34 rfl) ?_
    refine rr rfl (s_iload_n rfl) ?_
    refine rr rfl (s_iaload (j := 0) rfl f39 rfl) ?_
    refine rr rfl (s_ialdR (n := 8) (x := 0) f37 g8 g9) ?_
    refine rr rfl (s_iconst (v := 1) (by decide)) ?_
    refine rr rfl (s_iadd (v := 1) (by decide)) ?_
    refine rr rfl (s_iload rfl) ?_
    refine rr rfl (s_icF (by decide)) ?_
    refine rr rfl (s_aload_n rfl) ?_
    refine rr rfl (s_getf f34 rfl) ?_
    refine rr rfl (s_aload_n rfl) ?_
    refine rr rfl (s_getf f34 rfl) ?_
    refine rr rfl (s_iload_n rfl) ?_
    refine rr rfl (s_iaload (j := 0) rfl f39 rfl) ?_
    refine rr rfl (s_ialdR (n := 8) (x := 0) f37 g8 g9) ?_
    refine rr rfl (s_iconst (v := 1) (by decide)) ?_
    refine rr rfl (s_iadd (v := 1) (by decide)) ?_
    refine rr rfl s_goto ?_
    refine rr rfl (s_istore rfl) ?_
    refine rr rfl (s_iload rfl) ?_
    refine rr rfl (s_aload_n rfl) ?_
    refine rr rfl (s_getf f34 rfl) ?_
    refine rr rfl (s_aload_n rfl) ?_
    refine rr rfl (s_getf f34 rfl) ?_
    refine rr rfl (s_iload_n rfl) ?_
    have f40 : a_at ((((((((((H.set 42 (.inl [x1, 0, 0, 0, 0, 0, 0, 0, 0, 0, 0, 0, 0])).set 43 (.inl [x2, 0, 0, 0, 0, 0, 0, 0, 0, 0, 0, 0, 0])).set 44 (.inl [x3, 0, 0, 0, 0, 0, 0, 0, 0, 0, 0, 0, 0])).set 45 (.inl [x4, 0, 0, 0, 0, 0, 0, 0, 0, 0, 0, 0, 0])).set 46 (.inl [x5, 0, 0, 0, 0, 0, 0, 0, 0, 0, 0, 0, 0])).set 47 (.inl [x6, 0, 0, 0, 0, 0, 0, 0, 0, 0, 0, 0, 0])).set 48 (.inl [x7, 0, 0, 0, 0, 0, 0, 0, 0, 0, 0, 0, 0])).set 49 (.inl [(-1), 0, 0, 0, 0, 0, 0, 0, 0, 0, 0, 0, 0])).set 41 (.inr (.inr (9, [.int 4, .int 1, .ref 42, .ref 43, .ref 44, .ref 45, .ref 46, .ref 47, .ref 48, .ref 49, .ref 50, .ref 51, .int 0, .int 0, .int 0, .int 0, .int 0, .int 0, .int 0, .int 0, .ref 52, .int 0, .ref 53, .int 0, .ref 54, .int 0, .ref 55, .ref 56, .ref 57, .ref 58, .int 0, .ref 59, .ref 60])))).set 51 (.inl (List.replicate 8 0))) 44 = some (.inl [x3, 0, 0, 0, 0, 0, 0, 0, 0, 0, 0, 0, 0]) := ((at_ne (by decide)).trans ((at_ne (by decide)).trans ((at_ne (by decide)).trans ((at_ne (by decide)).trans ((at_ne (by decide)).trans ((at_ne (by decide)).trans ((at_ne (by decide)).trans (at_eq ((at_ne (by decide)).trans ((at_ne (by decide)).trans F44))))))))))
    refine rr rfl (s_iaload (j := 0) rfl f40 rfl) ?_
    refine rr rfl (s_ialdR (n := 8) (x := 0) f37 g10 g11) ?_
    refine rr rfl (s_icF (by decide)) ?_
    refine rr rfl (s_aload_n rfl) ?_
    refine rr rfl (s_getf f34 rfl) ?_
    refine rr rfl (s_aload_n rfl) ?_
    refine rr rfl (s_getf f34 rfl) ?_
    refine rr rfl (s_iload_n rfl) ?_
    refine rr rfl (s_iaload (j := 0) rfl f40 rfl) ?_
    refine rr rfl (s_iload rfl) ?_
    refine rr rfl (s_iastR (h' := ((((((((((H.set 42 (.inl [x1, 0, 0, 0, 0, 0, 0, 0, 0, 0, 0, 0, 0])).set 43 (.inl [x2, 0, 0, 0, 0, 0, 0, 0, 0, 0, 0, 0, 0])).set 44 (.inl [x3, 0, 0, 0, 0, 0, 0, 0, 0, 0, 0, 0, 0])).set 45 (.inl [x4, 0, 0, 0, 0, 0, 0, 0, 0, 0, 0, 0, 0])).set 46 (.inl [x5, 0, 0, 0, 0, 0, 0, 0, 0, 0, 0, 0, 0])).set 47 (.inl [x6, 0, 0, 0, 0, 0, 0, 0, 0, 0, 0, 0, 0])).set 48 (.inl [x7, 0, 0, 0, 0, 0, 0, 0, 0, 0, 0, 0, 0])).set 49 (.inl [(-1), 0, 0, 0, 0, 0, 0, 0, 0, 0, 0, 0, 0])).set 41 (.inr (.inr (9, [.int 4, .int 1, .ref 42, .ref 43, .ref 44, .ref 45, .ref 46, .ref 47, .ref 48, .ref 49, .ref 50, .ref 51, .int 0, .int 0, .int 0, .int 0, .int 0, .int 0, .int 0, .int 0, .ref 52, .int 0, .ref 53, .int 0, .ref 54, .int 0, .ref 55, .ref 56, .ref 57, .ref 58, .int 0, .ref 59, .ref 60])))).set 51 (.inl ((List.replicate 8 (0 : Int32)).set (Int32.toNatClampNeg x3) 1)))) (n := 8) f37 g10 g11 (len_of f37) (List.set_set ..)) ?_
    refine rr rfl (s_iconst (v := 1) (by decide)) ?_
    refine rr rfl (s_istore_n rfl) ?_
    refine rr rfl (s_iload_n rfl) ?_
    refine rr rfl (s_ifF (by decide)) ?_
    refine rr rfl (s_iload rfl) ?_
    refine rr rfl (s_bipush (v := 8) (by decide)) ?_
    refine rr rfl (s_icF (by decide)) ?_
    refine rr rfl (s_iconst (v := 1) (by decide)) ?_
    refine rr rfl s_goto ?_
    refine rr rfl (s_istore_n rfl) ?_
    refine rr rfl (s_iinc (v := 1) rfl (by decide) rfl) ?_
    refine rr rfl s_goto ?_
    refine rr rfl (s_iload_n rfl) ?_
    refine rr rfl (s_aload_n rfl) ?_
    have f41 : a_at ((((((((((H.set 42 (.inl [x1, 0, 0, 0, 0, 0, 0, 0, 0, 0, 0, 0, 0])).set 43 (.inl [x2, 0, 0, 0, 0, 0, 0, 0, 0, 0, 0, 0, 0])).set 44 (.inl [x3, 0, 0, 0, 0, 0, 0, 0, 0, 0, 0, 0, 0])).set 45 (.inl [x4, 0, 0, 0, 0, 0, 0, 0, 0, 0, 0, 0, 0])).set 46 (.inl [x5, 0, 0, 0, 0, 0, 0, 0, 0, 0, 0, 0, 0])).set 47 (.inl [x6, 0, 0, 0, 0, 0, 0, 0, 0, 0, 0, 0, 0])).set 48 (.inl [x7, 0, 0, 0, 0, 0, 0, 0, 0, 0, 0, 0, 0])).set 49 (.inl [(-1), 0, 0, 0, 0, 0, 0, 0, 0, 0, 0, 0, 0])).set 41 (.inr (.inr (9, [.int 4, .int 1, .ref 42, .ref 43, .ref 44, .ref 45, .ref 46, .ref 47, .ref 48, .ref 49, .ref 50, .ref 51, .int 0, .int 0, .int 0, .int 0, .int 0, .int 0, .int 0, .int 0, .ref 52, .int 0, .ref 53, .int 0, .ref 54, .int 0, .ref 55, .ref 56, .ref 57, .ref 58, .int 0, .ref 59, .ref 60])))).set 51 (.inl ((List.replicate 8 (0 : Int32)).set (Int32.toNatClampNeg x3) 1))) 41 = some (.inr (.inr (9, [.int 4, .int 1, .ref 42, .ref 43, .ref 44, .ref 45, .ref 46, .ref 47, .ref 48, .ref 49, .ref 50, .ref 51, .int 0, .int 0, .int 0, .int 0, .int 0, .int 0, .int 0, .int 0, .ref 52, .int 0, .ref 53, .int 0, .ref 54, .int 0, .ref 55, .ref 56, .ref 57, .ref 58, .int 0, .ref 59, .ref 60]))) := ((at_ne (by decide)).trans f18)
    refine rr rfl (s_getf f41 rfl) ?_
    refine rr rfl (s_icT (by decide)) ?_
    refine rr rfl s_goto ?_
    refine rr rfl (s_iload_n rfl) ?_
    refine rr rfl (s_ifF (by decide)) ?_
    refine rr rfl (s_iload_n rfl) ?_
    refine rr rfl (s_ifF (by decide)) ?_
    refine rr rfl (s_iconst (v := 0) (by decide)) ?_
    refine rr rfl (s_istore_n rfl) ?_
    refine rr rfl (s_iconst (v := 0) (by decide)) ?_
    refine rr rfl (s_istore_n rfl) ?_
    refine rr rfl (s_iload_n rfl) ?_
    refine rr rfl (s_aload_n rfl) ?_
    refine rr rfl (s_getf f41 rfl) ?_
    refine rr rfl (s_icF (by decide)) ?_
    refine rr rfl (s_iconst (v := 0) (by decide)) ?_
    refine rr rfl (s_istore rfl) ?_
    refine rr rfl (s_aload_n rfl) ?_
    refine rr rfl (s_getf f41 rfl) ?_
    refine rr rfl (s_iload_n rfl) ?_
    have f42 : a_at ((((((((((H.set 42 (.inl [x1, 0, 0, 0, 0, 0, 0, 0, 0, 0, 0, 0, 0])).set 43 (.inl [x2, 0, 0, 0, 0, 0, 0, 0, 0, 0, 0, 0, 0])).set 44 (.inl [x3, 0, 0, 0, 0, 0, 0, 0, 0, 0, 0, 0, 0])).set 45 (.inl [x4, 0, 0, 0, 0, 0, 0, 0, 0, 0, 0, 0, 0])).set 46 (.inl [x5, 0, 0, 0, 0, 0, 0, 0, 0, 0, 0, 0, 0])).set 47 (.inl [x6, 0, 0, 0, 0, 0, 0, 0, 0, 0, 0, 0, 0])).set 48 (.inl [x7, 0, 0, 0, 0, 0, 0, 0, 0, 0, 0, 0, 0])).set 49 (.inl [(-1), 0, 0, 0, 0, 0, 0, 0, 0, 0, 0, 0, 0])).set 41 (.inr (.inr (9, [.int 4, .int 1, .ref 42, .ref 43, .ref 44, .ref 45, .ref 46, .ref 47, .ref 48, .ref 49, .ref 50, .ref 51, .int 0, .int 0, .int 0, .int 0, .int 0, .int 0, .int 0, .int 0, .ref 52, .int 0, .ref 53, .int 0, .ref 54, .int 0, .ref 55, .ref 56, .ref 57, .ref 58, .int 0, .ref 59, .ref 60])))).set 51 (.inl ((List.replicate 8 (0 : Int32)).set (Int32.toNatClampNeg x3) 1))) 43 = some (.inl [x2, 0, 0, 0, 0, 0, 0, 0, 0, 0, 0, 0, 0]) := ((at_ne (by decide)).trans ((at_ne (by decide)).trans ((at_ne (by decide)).trans ((at_ne (by decide)).trans ((at_ne (by decide)).trans ((at_ne (by decide)).trans ((at_ne (by decide)).trans ((at_ne (by decide)).trans (at_eq ((at_ne (by decide)).trans F43))))))))))
    refine rr rfl (s_iaload (j := 0) rfl f42 rfl) ?_
    refine rr rfl (s_ifF (ic_nne g1)) ?_
    refine rr rfl (s_aload_n rfl) ?_
    refine rr rfl (s_getf f41 rfl) ?_
    refine rr rfl (s_aload_n rfl) ?_
    refine rr rfl (s_getf f41 rfl) ?_
    refine rr rfl (s_iload_n rfl) ?_
    have f43 : a_at ((((((((((H.set 42 (.inl [x1, 0, 0, 0, 0, 0, 0, 0, 0, 0, 0, 0, 0])).set 43 (.inl [x2, 0, 0, 0, 0, 0, 0, 0, 0, 0, 0, 0, 0])).set 44 (.inl [x3, 0, 0, 0, 0, 0, 0, 0, 0, 0, 0, 0, 0])).set 45 (.inl [x4, 0, 0, 0, 0, 0, 0, 0, 0, 0, 0, 0, 0])).set 46 (.inl [x5, 0, 0, 0, 0, 0, 0, 0, 0, 0, 0, 0, 0])).set 47 (.inl [x6, 0, 0, 0, 0, 0, 0, 0, 0, 0, 0, 0, 0])).set 48 (.inl [x7, 0, 0, 0, 0, 0, 0, 0, 0, 0, 0, 0, 0])).set 49 (.inl [(-1), 0, 0, 0, 0, 0, 0, 0, 0, 0, 0, 0, 0])).set 41 (.inr (.inr (9, [.int 4, .int 1, .ref 42, .ref 43, .ref 44, .ref 45, .ref 46, .ref 47, .ref 48, .ref 49, .ref 50, .ref 51, .int 0, .int 0, .int 0, .int 0, .int 0, .int 0, .int 0, .int 0, .ref 52, .int 0, .ref 53, .int 0, .ref 54, .int 0, .ref 55, .ref 56, .ref 57, .ref 58, .int 0, .ref 59, .ref 60])))).set 51 (.inl ((List.replicate 8 (0 : Int32)).set (Int32.toNatClampNeg x3) 1))) 45 = some (.inl [x4, 0, 0, 0, 0, 0, 0, 0, 0, 0, 0, 0, 0]) := ((at_ne (by decide)).trans ((at_ne (by decide)).trans ((at_ne (by decide)).trans ((at_ne (by decide)).trans ((at_ne (by decide)).trans ((at_ne (by decide)).trans (at_eq ((at_ne (by decide)).trans ((at_ne (by decide)).trans ((at_ne (by decide)).trans F45))))))))))
    refine rr rfl (s_iaload (j := 0) rfl f43 rfl) ?_
    have f44 : a_at ((((((((((H.set 42 (.inl [x1, 0, 0, 0, 0, 0, 0, 0, 0, 0, 0, 0, 0])).set 43 (.inl [x2, 0, 0, 0, 0, 0, 0, 0, 0, 0, 0, 0, 0])).set 44 (.inl [x3, 0, 0, 0, 0, 0, 0, 0, 0, 0, 0, 0, 0])).set 45 (.inl [x4, 0, 0, 0, 0, 0, 0, 0, 0, 0, 0, 0, 0])).set 46 (.inl [x5, 0, 0, 0, 0, 0, 0, 0, 0, 0, 0, 0, 0])).set 47 (.inl [x6, 0, 0, 0, 0, 0, 0, 0, 0, 0, 0, 0, 0])).set 48 (.inl [x7, 0, 0, 0, 0, 0, 0, 0, 0, 0, 0, 0, 0])).set 49 (.inl [(-1), 0, 0, 0, 0, 0, 0, 0, 0, 0, 0, 0, 0])).set 41 (.inr (.inr (9, [.int 4, .int 1, .ref 42, .ref 43, .ref 44, .ref 45, .ref 46, .ref 47, .ref 48, .ref 49, .ref 50, .ref 51, .int 0, .int 0, .int 0, .int 0, .int 0, .int 0, .int 0, .int 0, .ref 52, .int 0, .ref 53, .int 0, .ref 54, .int 0, .ref 55, .ref 56, .ref 57, .ref 58, .int 0, .ref 59, .ref 60])))).set 51 (.inl ((List.replicate 8 (0 : Int32)).set (Int32.toNatClampNeg x3) 1))) 51 = some (.inl ((List.replicate 8 (0 : Int32)).set (Int32.toNatClampNeg x3) 1)) := (at_eq f19)
    refine rr rfl (s_ialdH f44 g12 g10 g11) ?_
    refine rr rfl (s_istore rfl) ?_
    refine rr rfl (s_aload_n rfl) ?_
    refine rr rfl (s_getf f41 rfl) ?_
    refine rr rfl (s_iload_n rfl) ?_
    have f45 : a_at ((((((((((H.set 42 (.inl [x1, 0, 0, 0, 0, 0, 0, 0, 0, 0, 0, 0, 0])).set 43 (.inl [x2, 0, 0, 0, 0, 0, 0, 0, 0, 0, 0, 0, 0])).set 44 (.inl [x3, 0, 0, 0, 0, 0, 0, 0, 0, 0, 0, 0, 0])).set 45 (.inl [x4, 0, 0, 0, 0, 0, 0, 0, 0, 0, 0, 0, 0])).set 46 (.inl [x5, 0, 0, 0, 0, 0, 0, 0, 0, 0, 0, 0, 0])).set 47 (.inl [x6, 0, 0, 0, 0, 0, 0, 0, 0, 0, 0, 0, 0])).set 48 (.inl [x7, 0, 0, 0, 0, 0, 0, 0, 0, 0, 0, 0, 0])).set 49 (.inl [(-1), 0, 0, 0, 0, 0, 0, 0, 0, 0, 0, 0, 0])).set 41 (.inr (.inr (9, [.int 4, .int 1, .ref 42, .ref 43, .ref 44, .ref 45, .ref 46, .ref 47, .ref 48, .ref 49, .ref 50, .ref 51, .int 0, .int 0, .int 0, .int 0, .int 0, .int 0, .int 0, .int 0, .ref 52, .int 0, .ref 53, .int 0, .ref 54, .int 0, .ref 55, .ref 56, .ref 57, .ref 58, .int 0, .ref 59, .ref 60])))).set 51 (.inl ((List.replicate 8 (0 : Int32)).set (Int32.toNatClampNeg x3) 1))) 46 = some (.inl [x5, 0, 0, 0, 0, 0, 0, 0, 0, 0, 0, 0, 0]) := ((at_ne (by decide)).trans ((at_ne (by decide)).trans ((at_ne (by decide)).trans ((at_ne (by decide)).trans ((at_ne (by decide)).trans (at_eq ((at_ne (by decide)).trans ((at_ne (by decide)).trans ((at_ne (by decide)).trans ((at_ne (by decide)).trans F46))))))))))
    refine rr rfl (s_iaload (j := 0) rfl f45 rfl) ?_
    refine rr rfl (s_iconst (v := (-1)) (by decide)) ?_
    refine rr rfl (s_icF (ic_neq g4)) ?_
    refine rr rfl (s_aload_n rfl) ?_
    refine rr rfl (s_getf f41 rfl) ?_
    refine rr rfl (s_aload_n rfl) ?_
    refine rr rfl (s_getf f41 rfl) ?_
    refine rr rfl (s_iload_n rfl) ?_
    refine rr rfl (s_iaload (j := 0) rfl f45 rfl) ?_
    refine rr rfl (s_ialdH f44 g13 g10 g11) ?_
    refine rr rfl (s_iload rfl) ?_
    refine rr rfl (s_icT (by decide)) ?_
    refine rr rfl (s_iload rfl) ?_
    refine rr rfl (s_istore rfl) ?_
    refine rr rfl (s_aload_n rfl) ?_
    refine rr rfl (s_getf f41 rfl) ?_
    refine rr rfl (s_iload_n rfl) ?_
    have f46 : a_at ((((((((((H.set 42 (.inl [x1, 0, 0, 0, 0, 0, 0, 0, 0, 0, 0, 0, 0])).set 43 (.inl [x2, 0, 0, 0, 0, 0, 0, 0, 0, 0, 0, 0, 0])).set 44 (.inl [x3, 0, 0, 0, 0, 0, 0, 0, 0, 0, 0, 0, 0])).set 45 (.inl [x4, 0, 0, 0, 0, 0, 0, 0, 0, 0, 0, 0, 0])).set 46 (.inl [x5, 0, 0, 0, 0, 0, 0, 0, 0, 0, 0, 0, 0])).set 47 (.inl [x6, 0, 0, 0, 0, 0, 0, 0, 0, 0, 0, 0, 0])).set 48 (.inl [x7, 0, 0, 0, 0, 0, 0, 0, 0, 0, 0, 0, 0])).set 49 (.inl [(-1), 0, 0, 0, 0, 0, 0, 0, 0, 0, 0, 0, 0])).set 41 (.inr (.inr (9, [.int 4, .int 1, .ref 42, .ref 43, .ref 44, .ref 45, .ref 46, .ref 47, .ref 48, .ref 49, .ref 50, .ref 51, .int 0, .int 0, .int 0, .int 0, .int 0, .int 0, .int 0, .int 0, .ref 52, .int 0, .ref 53, .int 0, .ref 54, .int 0, .ref 55, .ref 56, .ref 57, .ref 58, .int 0, .ref 59, .ref 60])))).set 51 (.inl ((List.replicate 8 (0 : Int32)).set (Int32.toNatClampNeg x3) 1))) 47 = some (.inl [x6, 0, 0, 0, 0, 0, 0, 0, 0, 0, 0, 0, 0]) := ((at_ne (by decide)).trans ((at_ne (by decide)).trans ((at_ne (by decide)).trans ((at_ne (by decide)).trans (at_eq ((at_ne (by decide)).trans ((at_ne (by decide)).trans ((at_ne (by decide)).trans ((at_ne (by decide)).trans ((at_ne (by decide)).trans F47))))))))))
    refine rr rfl (s_iaload (j := 0) rfl f46 rfl) ?_
    refine rr rfl (s_iconst (v := (-1)) (by decide)) ?_
    refine rr rfl (s_icF (ic_neq g7)) ?_
    refine rr rfl (s_aload_n rfl) ?_
    refine rr rfl (s_getf f41 rfl) ?_
    refine rr rfl (s_aload_n rfl) ?_
    refine rr rfl (s_getf f41 rfl) ?_
    refine rr rfl (s_iload_n rfl) ?_
    refine rr rfl (s_iaload (j := 0) rfl f46 rfl) ?_
    refine rr rfl (s_ialdH f44 g14 g10 g11) ?_
    refine rr rfl (s_iconst (v := 1) (by decide)) ?_
    refine rr rfl (s_iadd (v := 2) (by decide)) ?_
    refine rr rfl (s_iload rfl) ?_
    refine rr rfl (s_icF (by decide)) ?_
    refine rr rfl (s_aload_n rfl) ?_
    refine rr rfl (s_getf f41 rfl) ?_
    refine rr rfl (s_aload_n rfl) ?_
    refine rr rfl (s_getf f41 rfl) ?_
    refine rr rfl (s_iload_n rfl) ?_
    refine rr rfl (s_iaload (j := 0) rfl f46 rfl) ?_
    refine rr rfl (s_ialdH f44 g14 g10 g11) ?_
    refine rr rfl (s_iconst (v := 1) (by decide)) ?_
    refine rr rfl (s_iadd (v := 2) (by decide)) ?_
    refine rr rfl s_goto ?_
    refine rr rfl (s_istore rfl) ?_
    refine rr rfl (s_iload rfl) ?_
    refine rr rfl (s_aload_n rfl) ?_
    refine rr rfl (s_getf f41 rfl) ?_
    refine rr rfl (s_aload_n rfl) ?_
    refine rr rfl (s_getf f41 rfl) ?_
    refine rr rfl (s_iload_n rfl) ?_
    have f47 : a_at ((((((((((H.set 42 (.inl [x1, 0, 0, 0, 0, 0, 0, 0, 0, 0, 0, 0, 0])).set 43 (.inl [x2, 0, 0, 0, 0, 0, 0, 0, 0, 0, 0, 0, 0])).set 44 (.inl [x3, 0, 0, 0, 0, 0, 0, 0, 0, 0, 0, 0, 0])).set 45 (.inl [x4, 0, 0, 0, 0, 0, 0, 0, 0, 0, 0, 0, 0])).set 46 (.inl [x5, 0, 0, 0, 0, 0, 0, 0, 0, 0, 0, 0, 0])).set 47 (.inl [x6, 0, 0, 0, 0, 0, 0, 0, 0, 0, 0, 0, 0])).set 48 (.inl [x7, 0, 0, 0, 0, 0, 0, 0, 0, 0, 0, 0, 0])).set 49 (.inl [(-1), 0, 0, 0, 0, 0, 0, 0, 0, 0, 0, 0, 0])).set 41 (.inr (.inr (9, [.int 4, .int 1, .ref 42, .ref 43, .ref 44, .ref 45, .ref 46, .ref 47, .ref 48, .ref 49, .ref 50, .ref 51, .int 0, .int 0, .int 0, .int 0, .int 0, .int 0, .int 0, .int 0, .ref 52, .int 0, .ref 53, .int 0, .ref 54, .int 0, .ref 55, .ref 56, .ref 57, .ref 58, .int 0, .ref 59, .ref 60])))).set 51 (.inl ((List.replicate 8 (0 : Int32)).set (Int32.toNatClampNeg x3) 1))) 44 = some (.inl [x3, 0, 0, 0, 0, 0, 0, 0, 0, 0, 0, 0, 0]) := ((at_ne (by decide)).trans ((at_ne (by decide)).trans ((at_ne (by decide)).trans ((at_ne (by decide)).trans ((at_ne (by decide)).trans ((at_ne (by decide)).trans ((at_ne (by decide)).trans (at_eq ((at_ne (by decide)).trans ((at_ne (by decide)).trans F44))))))))))
    refine rr rfl (s_iaload (j := 0) rfl f47 rfl) ?_
    refine rr rfl (s_ialdH f44 rfl g10 g11) ?_
    refine rr rfl (s_icF (by decide)) ?_
    refine rr rfl (s_aload_n rfl) ?_
    refine rr rfl (s_getf f41 rfl) ?_
    refine rr rfl (s_aload_n rfl) ?_
    refine rr rfl (s_getf f41 rfl) ?_
    refine rr rfl (s_iload_n rfl) ?_
    refine rr rfl (s_iaload (j := 0) rfl f47 rfl) ?_
    refine rr rfl (s_iload rfl) ?_
    refine rr rfl (s_iastH (h' := ((((((((((H.set 42 (.inl [x1, 0, 0, 0, 0, 0, 0, 0, 0, 0, 0, 0, 0])).set 43 (.inl [x2, 0, 0, 0, 0, 0, 0, 0, 0, 0, 0, 0, 0])).set 44 (.inl [x3, 0, 0, 0, 0, 0, 0, 0, 0, 0, 0, 0, 0])).set 45 (.inl [x4, 0, 0, 0, 0, 0, 0, 0, 0, 0, 0, 0, 0])).set 46 (.inl [x5, 0, 0, 0, 0, 0, 0, 0, 0, 0, 0, 0, 0])).set 47 (.inl [x6, 0, 0, 0, 0, 0, 0, 0, 0, 0, 0, 0, 0])).set 48 (.inl [x7, 0, 0, 0, 0, 0, 0, 0, 0, 0, 0, 0, 0])).set 49 (.inl [(-1), 0, 0, 0, 0, 0, 0, 0, 0, 0, 0, 0, 0])).set 41 (.inr (.inr (9, [.int 4, .int 1, .ref 42, .ref 43, .ref 44, .ref 45, .ref 46, .ref 47, .ref 48, .ref 49, .ref 50, .ref 51, .int 0, .int 0, .int 0, .int 0, .int 0, .int 0, .int 0, .int 0, .ref 52, .int 0, .ref 53, .int 0, .ref 54, .int 0, .ref 55, .ref 56, .ref 57, .ref 58, .int 0, .ref 59, .ref 60])))).set 51 (.inl ((List.replicate 8 (0 : Int32)).set (Int32.toNatClampNeg x3) 2)))) (v := 2) f44 rfl g10 g11 (len_of f44) (List.set_set ..)) ?_
    refine rr rfl (s_iconst (v := 1) (by decide)) ?_
    refine rr rfl (s_istore_n rfl) ?_
    refine rr rfl (s_iload_n rfl) ?_
    refine rr rfl (s_ifF (by decide)) ?_
    refine rr rfl (s_iload rfl) ?_
    refine rr rfl (s_bipush (v := 8) (by decide)) ?_
    refine rr rfl (s_icF (by decide)) ?_
    refine rr rfl (s_iconst (v := 1) (by decide)) ?_
    refine rr rfl s_goto ?_
    refine rr rfl (s_istore_n rfl) ?_
    refine rr rfl (s_iinc (v := 1) rfl (by decide) rfl) ?_
    refine rr rfl s_goto ?_
    refine rr rfl (s_iload_n rfl) ?_
    refine rr rfl (s_aload_n rfl) ?_
    have f48 : a_at ((((((((((H.set 42 (.inl [x1, 0, 0, 0, 0, 0, 0, 0, 0, 0, 0, 0, 0])).set 43 (.inl [x2, 0, 0, 0, 0, 0, 0, 0, 0, 0, 0, 0, 0])).set 44 (.inl [x3, 0, 0, 0, 0, 0, 0, 0, 0, 0, 0, 0, 0])).set 45 (.inl [x4, 0, 0, 0, 0, 0, 0, 0, 0, 0, 0, 0, 0])).set 46 (.inl [x5, 0, 0, 0, 0, 0, 0, 0, 0, 0, 0, 0, 0])).set 47 (.inl [x6, 0, 0, 0, 0, 0, 0, 0, 0, 0, 0, 0, 0])).set 48 (.inl [x7, 0, 0, 0, 0, 0, 0, 0, 0, 0, 0, 0, 0])).set 49 (.inl [(-1), 0, 0, 0, 0, 0, 0, 0, 0, 0, 0, 0, 0])).set 41 (.inr (.inr (9, [.int 4, .int 1, .ref 42, .ref 43, .ref 44, .ref 45, .ref 46, .ref 47, .ref 48, .ref 49, .ref 50, .ref 51, .int 0, .int 0, .int 0, .int 0, .int 0, .int 0, .int 0, .int 0, .ref 52, .int 0, .ref 53, .int 0, .ref 54, .int 0, .ref 55, .ref 56, .ref 57, .ref 58, .int 0, .ref 59, .ref 60])))).set 51 (.inl ((List.replicate 8 (0 : Int32)).set (Int32.toNatClampNeg x3) 2))) 41 = some (.inr (.inr (9, [.int 4, .int 1, .ref 42, .ref 43, .ref 44, .ref 45, .ref 46, .ref 47, .ref 48, .ref 49, .ref 50, .ref 51, .int 0, .int 0, .int 0, .int 0, .int 0, .int 0, .int 0, .int 0, .ref 52, .int 0, .ref 53, .int 0, .ref 54, .int 0, .ref 55, .ref 56, .ref 57, .ref 58, .int 0, .ref 59, .ref 60]))) := ((at_ne (by decide)).trans f18)
    refine rr rfl (s_getf f48 rfl) ?_
    refine rr rfl (s_icT (by decide)) ?_
    refine rr rfl s_goto ?_
    refine rr rfl (s_iload_n rfl) ?_
    refine rr rfl (s_ifF (by decide)) ?_
    refine rr rfl (s_iload_n rfl) ?_
    refine rr rfl (s_ifF (by decide)) ?_
    refine rr rfl (s_iconst (v := 0) (by decide)) ?_
    refine rr rfl (s_istore_n rfl) ?_
    refine rr rfl (s_iconst (v := 0) (by decide)) ?_
    refine rr rfl (s_istore_n rfl) ?_
    refine rr rfl (s_iload_n rfl) ?_
    refine rr rfl (s_aload_n rfl) ?_
    refine rr rfl (s_getf f48 rfl) ?_
    refine rr rfl (s_icF (by decide)) ?_
    refine rr rfl (s_iconst (v := 0) (by decide)) ?_
    refine rr rfl (s_istore rfl) ?_
    refine rr rfl (s_aload_n rfl) ?_
    refine rr rfl (s_getf f48 rfl) ?_
    refine rr rfl (s_iload_n rfl) ?_
    have f49 : a_at ((((((((((H.set 42 (.inl [x1, 0, 0, 0, 0, 0, 0, 0, 0, 0, 0, 0, 0])).set 43 (.inl [x2, 0, 0, 0, 0, 0, 0, 0, 0, 0, 0, 0, 0])).set 44 (.inl [x3, 0, 0, 0, 0, 0, 0, 0, 0, 0, 0, 0, 0])).set 45 (.inl [x4, 0, 0, 0, 0, 0, 0, 0, 0, 0, 0, 0, 0])).set 46 (.inl [x5, 0, 0, 0, 0, 0, 0, 0, 0, 0, 0, 0, 0])).set 47 (.inl [x6, 0, 0, 0, 0, 0, 0, 0, 0, 0, 0, 0, 0])).set 48 (.inl [x7, 0, 0, 0, 0, 0, 0, 0, 0, 0, 0, 0, 0])).set 49 (.inl [(-1), 0, 0, 0, 0, 0, 0, 0, 0, 0, 0, 0, 0])).set 41 (.inr (.inr (9, [.int 4, .int 1, .ref 42, .ref 43, .ref 44, .ref 45, .ref 46, .ref 47, .ref 48, .ref 49, .ref 50, .ref 51, .int 0, .int 0, .int 0, .int 0, .int 0, .int 0, .int 0, .int 0, .ref 52, .int 0, .ref 53, .int 0, .ref 54, .int 0, .ref 55, .ref 56, .ref 57, .ref 58, .int 0, .ref 59, .ref 60])))).set 51 (.inl ((List.replicate 8 (0 : Int32)).set (Int32.toNatClampNeg x3) 2))) 43 = some (.inl [x2, 0, 0, 0, 0, 0, 0, 0, 0, 0, 0, 0, 0]) := ((at_ne (by decide)).trans ((at_ne (by decide)).trans ((at_ne (by decide)).trans ((at_ne (by decide)).trans ((at_ne (by decide)).trans ((at_ne (by decide)).trans ((at_ne (by decide)).trans ((at_ne (by decide)).trans (at_eq ((at_ne (by decide)).trans F43))))))))))
    refine rr rfl (s_iaload (j := 0) rfl f49 rfl) ?_
    refine rr rfl (s_ifF (ic_nne g1)) ?_
    refine rr rfl (s_aload_n rfl) ?_
    refine rr rfl (s_getf f48 rfl) ?_
    refine rr rfl (s_aload_n rfl) ?_
    refine rr rfl (s_getf f48 rfl) ?_
    refine rr rfl (s_iload_n rfl) ?_
    have f50 : a_at ((((((((((H.set 42 (.inl [x1, 0, 0, 0, 0, 0, 0, 0, 0, 0, 0, 0, 0])).set 43 (.inl [x2, 0, 0, 0, 0, 0, 0, 0, 0, 0, 0, 0, 0])).set 44 (.inl [x3, 0, 0, 0, 0, 0, 0, 0, 0, 0, 0, 0, 0])).set 45 (.inl [x4, 0, 0, 0, 0, 0, 0, 0, 0, 0, 0, 0, 0])).set 46 (.inl [x5, 0, 0, 0, 0, 0, 0, 0, 0, 0, 0, 0, 0])).set 47 (.inl [x6, 0, 0, 0, 0, 0, 0, 0, 0, 0, 0, 0, 0])).set 48 (.inl [x7, 0, 0, 0, 0, 0, 0, 0, 0, 0, 0, 0, 0])).set 49 (.inl [(-1), 0, 0, 0, 0, 0, 0, 0, 0, 0, 0, 0, 0])).set 41 (.inr (.inr (9, [.int 4, .int 1, .ref 42, .ref 43, .ref 44, .ref 45, .ref 46, .ref 47, .ref 48, .ref 49, .ref 50, .ref 51, .int 0, .int 0, .int 0, .int 0, .int 0, .int 0, .int 0, .int 0, .ref 52, .int 0, .ref 53, .int 0, .ref 54, .int 0, .ref 55, .ref 56, .ref 57, .ref 58, .int 0, .ref 59, .ref 60])))).set 51 (.inl ((List.replicate 8 (0 : Int32)).set (Int32.toNatClampNeg x3) 2))) 45 = some (.inl [x4, 0, 0, 0, 0, 0, 0, 0, 0, 0, 0, 0, 0]) := ((at_ne (by decide)).trans ((at_ne (by decide)).trans ((at_ne (by decide)).trans ((at_ne (by decide)).trans ((at_ne (by decide)).trans ((at_ne (by decide)).trans (at_eq ((at_ne (by decide)).trans ((at_ne (by decide)).trans ((at_ne (by decide)).trans F45))))))))))
    refine rr rfl (s_iaload (j := 0) rfl f50 rfl) ?_
    have f51 : a_at ((((((((((H.set 42 (.inl [x1, 0, 0, 0, 0, 0, 0, 0, 0, 0, 0, 0, 0])).set 43 (.inl [x2, 0, 0, 0, 0, 0, 0, 0, 0, 0, 0, 0, 0])).set 44 (.inl [x3, 0, 0, 0, 0, 0, 0, 0, 0, 0, 0, 0, 0])).set 45 (.inl [x4, 0, 0, 0, 0, 0, 0, 0, 0, 0, 0, 0, 0])).set 46 (.inl [x5, 0, 0, 0, 0, 0, 0, 0, 0, 0, 0, 0, 0])).set 47 (.inl [x6, 0, 0, 0, 0, 0, 0, 0, 0, 0, 0, 0, 0])).set 48 (.inl [x7, 0, 0, 0, 0, 0, 0, 0, 0, 0, 0, 0, 0])).set 49 (.inl [(-1), 0, 0, 0, 0, 0, 0, 0, 0, 0, 0, 0, 0])).set 41 (.inr (.inr (9, [.int 4, .int 1, .ref 42, .ref 43, .ref 44, .ref 45, .ref 46, .ref 47, .ref 48, .ref 49, .ref 50, .ref 51, .int 0, .int 0, .int 0, .int 0, .int 0, .int 0, .int 0, .int 0, .ref 52, .int 0, .ref 53, .int 0, .ref 54, .int 0, .ref 55, .ref 56, .ref 57, .ref 58, .int 0, .ref 59, .ref 60])))).set 51 (.inl ((List.replicate 8 (0 : Int32)).set (Int32.toNatClampNeg x3) 2))) 51 = some (.inl ((List.replicate 8 (0 : Int32)).set (Int32.toNatClampNeg x3) 2)) := (at_eq f19)
    refine rr rfl (s_ialdH f51 g12 g10 g11) ?_
    refine rr rfl (s_istore rfl) ?_
    refine rr rfl (s_aload_n rfl) ?_
    refine rr rfl (s_getf f48 rfl) ?_
    refine rr rfl (s_iload_n rfl) ?_
    have f52 : a_at ((((((((((H.set 42 (.inl [x1, 0, 0, 0, 0, 0, 0, 0, 0, 0, 0, 0, 0])).set 43 (.inl [x2, 0, 0, 0, 0, 0, 0, 0, 0, 0, 0, 0, 0])).set 44 (.inl [x3, 0, 0, 0, 0, 0, 0, 0, 0, 0, 0, 0, 0])).set 45 (.inl [x4, 0, 0, 0, 0, 0, 0, 0, 0, 0, 0, 0, 0])).set 46 (.inl [x5, 0, 0, 0, 0, 0, 0, 0, 0, 0, 0, 0, 0])).set 47 (.inl [x6, 0, 0, 0, 0, 0, 0, 0, 0, 0, 0, 0, 0])).set 48 (.inl [x7, 0, 0, 0, 0, 0, 0, 0, 0, 0, 0, 0, 0])).set 49 (.inl [(-1), 0, 0, 0, 0, 0, 0, 0, 0, 0, 0, 0, 0])).set 41 (.inr (.inr (9, [.int 4, .int 1, .ref 42, .ref 43, .ref 44, .ref 45, .ref 46, .ref 47, .ref 48, .ref 49, .ref 50, .ref 51, .int 0, .int 0, .int 0, .int 0, .int 0, .int 0, .int 0, .int 0, .ref 52, .int 0, .ref 53, .int 0, .ref 54, .int 0, .ref 55, .ref 56, .ref 57, .ref 58, .int 0, .ref 59, .ref 60])))).set 51 (.inl ((List.replicate 8 (0 : Int32)).set (Int32.toNatClampNeg x3) 2))) 46 = some (.inl [x5, 0, 0, 0, 0, 0, 0, 0, 0, 0, 0, 0, 0]) := ((at_ne (by decide)).trans ((at_ne (by decide)).trans ((at_ne (by decide)).trans ((at_ne (by decide)).trans ((at_ne (by decide)).trans (at_eq ((at_ne (by decide)).trans ((at_ne (by decide)).trans ((at_ne (by decide)).trans ((at_ne (by decide)).trans F46))))))))))
    refine rr rfl (s_iaload (j := 0) rfl f52 rfl) ?_
    refine rr rfl (s_iconst (v := (-1)) (by decide)) ?_
    refine rr rfl (s_icF (ic_neq g4)) ?_
    refine rr rfl (s_aload_n rfl) ?_
    refine rr rfl (s_getf f48 rfl) ?_
    refine rr rfl (s_aload_n rfl) ?_
    refine rr rfl (s_getf f48 rfl) ?_
    refine rr rfl (s_iload_n rfl) ?_
    refine rr rfl (s_iaload (j := 0) rfl f52 rfl) ?_
    refine rr rfl (s_ialdH f51 g13 g10 g11) ?_
    refine rr rfl (s_iload rfl) ?_
    refine rr rfl (s_icT (by decide)) ?_
    refine rr rfl (s_iload rfl) ?_
    refine rr rfl (s_istore rfl) ?_
    refine rr rfl (s_aload_n rfl) ?_
    refine rr rfl (s_getf f48 rfl) ?_
    refine rr rfl (s_iload_n rfl) ?_
    have f53 : a_at ((((((((((H.set 42 (.inl [x1, 0, 0, 0, 0, 0, 0, 0, 0, 0, 0, 0, 0])).set 43 (.inl [x2, 0, 0, 0, 0, 0, 0, 0, 0, 0, 0, 0, 0])).set 44 (.inl [x3, 0, 0, 0, 0, 0, 0, 0, 0, 0, 0, 0, 0])).set 45 (.inl [x4, 0, 0, 0, 0, 0, 0, 0, 0, 0, 0, 0, 0])).set 46 (.inl [x5, 0, 0, 0, 0, 0, 0, 0, 0, 0, 0, 0, 0])).set 47 (.inl [x6, 0, 0, 0, 0, 0, 0, 0, 0, 0, 0, 0, 0])).set 48 (.inl [x7, 0, 0, 0, 0, 0, 0, 0, 0, 0, 0, 0, 0])).set 49 (.inl [(-1), 0, 0, 0, 0, 0, 0, 0, 0, 0, 0, 0, 0])).set 41 (.inr (.inr (9, [.int 4, .int 1, .ref 42, .ref 43, .ref 44, .ref 45, .ref 46, .ref 47, .ref 48, .ref 49, .ref 50, .ref 51, .int 0, .int 0, .int 0, .int 0, .int 0, .int 0, .int 0, .int 0, .ref 52, .int 0, .ref 53, .int 0, .ref 54, .int 0, .ref 55, .ref 56, .ref 57, .ref 58, .int 0, .ref 59, .ref 60])))).set 51 (.inl ((List.replicate 8 (0 : Int32)).set (Int32.toNatClampNeg x3) 2))) 47 = some (.inl [x6, 0, 0, 0, 0, 0, 0, 0, 0, 0, 0, 0, 0]) := ((at_ne (by decide)).trans ((at_ne (by decide)).trans ((at_ne (by decide)).trans ((at_ne (by decide)).trans (at_eq ((at_ne (by decide)).trans ((at_ne (by decide)).trans ((at_ne (by decide)).trans ((at_ne (by decide)).trans ((at_ne (by decide)).trans F47))))))))))
    refine rr rfl (s_iaload (j := 0) rfl f53 rfl) ?_
    refine rr rfl (s_iconst (v := (-1)) (by decide)) ?_
    refine rr rfl (s_icF (ic_neq g7)) ?_
    refine rr rfl (s_aload_n rfl) ?_
    refine rr rfl (s_getf f48 rfl) ?_
    refine rr rfl (s_aload_n rfl) ?_
    refine rr rfl (s_getf f48 rfl) ?_
    refine rr rfl (s_iload_n rfl) ?_
    refine rr rfl (s_iaload (j := 0) rfl f53 rfl) ?_
    refine rr rfl (s_ialdH f51 g14 g10 g11) ?_
    refine rr rfl (s_iconst (v := 1) (by decide)) ?_
    refine rr rfl (s_iadd (v := 3) (by decide)) ?_
    refine rr rfl (s_iload rfl) ?_
    refine rr rfl (s_icF (by decide)) ?_
    refine rr rfl (s_aload_n rfl) ?_
    refine rr rfl (s_getf f48 rfl) ?_
    refine rr rfl (s_aload_n rfl) ?_
    refine rr rfl (s_getf f48 rfl) ?_
    refine rr rfl (s_iload_n rfl) ?_
    refine rr rfl (s_iaload (j := 0) rfl f53 rfl) ?_
    refine rr rfl (s_ialdH f51 g14 g10 g11) ?_
    refine rr rfl (s_iconst (v := 1) (by decide)) ?_
    refine rr rfl (s_iadd (v := 3) (by decide)) ?_
    refine rr rfl s_goto ?_
    refine rr rfl (s_istore rfl) ?_
    refine rr rfl (s_iload rfl) ?_
    refine rr rfl (s_aload_n rfl) ?_
    refine rr rfl (s_getf f48 rfl) ?_
    refine rr rfl (s_aload_n rfl) ?_
    refine rr rfl (s_getf f48 rfl) ?_
    refine rr rfl (s_iload_n rfl) ?_
    have f54 : a_at ((((((((((H.set 42 (.inl [x1, 0, 0, 0, 0, 0, 0, 0, 0, 0, 0, 0, 0])).set 43 (.inl [x2, 0, 0, 0, 0, 0, 0, 0, 0, 0, 0, 0, 0])).set 44 (.inl [x3, 0, 0, 0, 0, 0, 0, 0, 0, 0, 0, 0, 0])).set 45 (.inl [x4, 0, 0, 0, 0, 0, 0, 0, 0, 0, 0, 0, 0])).set 46 (.inl [x5, 0, 0, 0, 0, 0, 0, 0, 0, 0, 0, 0, 0])).set 47 (.inl [x6, 0, 0, 0, 0, 0, 0, 0, 0, 0, 0, 0, 0])).set 48 (.inl [x7, 0, 0, 0, 0, 0, 0, 0, 0, 0, 0, 0, 0])).set 49 (.inl [(-1), 0, 0, 0, 0, 0, 0, 0, 0, 0, 0, 0, 0])).set 41 (.inr (.inr (9, [.int 4, .int 1, .ref 42, .ref 43, .ref 44, .ref 45, .ref 46, .ref 47, .ref 48, .ref 49, .ref 50, .ref 51, .int 0, .int 0, .int 0, .int 0, .int 0, .int 0, .int 0, .int 0, .ref 52, .int 0, .ref 53, .int 0, .ref 54, .int 0, .ref 55, .ref 56, .ref 57, .ref 58, .int 0, .ref 59, .ref 60])))).set 51 (.inl ((List.replicate 8 (0 : Int32)).set (Int32.toNatClampNeg x3) 2))) 44 = some (.inl [x3, 0, 0, 0, 0, 0, 0, 0, 0, 0, 0, 0, 0]) := ((at_ne (by decide)).trans ((at_ne (by decide)).trans ((at_ne (by decide)).trans ((at_ne (by decide)).trans ((at_ne (by decide)).trans ((at_ne (by decide)).trans ((at_ne (by decide)).trans (at_eq ((at_ne (by decide)).trans ((at_ne (by decide)).trans F44))))))))))
    refine rr rfl (s_iaload (j := 0) rfl f54 rfl) ?_
    refine rr rfl (s_ialdH f51 rfl g10 g11) ?_
    refine rr rfl (s_icF (by decide)) ?_
    refine rr rfl (s_aload_n rfl) ?_
    refine rr rfl (s_getf f48 rfl) ?_
    refine rr rfl (s_aload_n rfl) ?_
    refine rr rfl (s_getf f48 rfl) ?_
    refine rr rfl (s_iload_n rfl) ?_
    refine rr rfl (s_iaload (j := 0) rfl f54 rfl) ?_
    refine rr rfl (s_iload rfl) ?_
    refine rr rfl (s_iastH (h' := ((((((((((H.set 42 (.inl [x1, 0, 0, 0, 0, 0, 0, 0, 0, 0, 0, 0, 0])).set 43 (.inl [x2, 0, 0, 0, 0, 0, 0, 0, 0, 0, 0, 0, 0])).set 44 (.inl [x3, 0, 0, 0, 0, 0, 0, 0, 0, 0, 0, 0, 0])).set 45 (.inl [x4, 0, 0, 0, 0, 0, 0, 0, 0, 0, 0, 0, 0])).set 46 (.inl [x5, 0, 0, 0, 0, 0, 0, 0, 0, 0, 0, 0, 0])).set 47 (.inl [x6, 0, 0, 0, 0, 0, 0, 0, 0, 0, 0, 0, 0])).set 48 (.inl [x7, 0, 0, 0, 0, 0, 0, 0, 0, 0, 0, 0, 0])).set 49 (.inl [(-1), 0, 0, 0, 0, 0, 0, 0, 0, 0, 0, 0, 0])).set 41 (.inr (.inr (9, [.int 4, .int 1, .ref 42, .ref 43, .ref 44, .ref 45, .ref 46, .ref 47, .ref 48, .ref 49, .ref 50, .ref 51, .int 0, .int 0, .int 0, .int 0, .int 0, .int 0, .int 0, .int 0, .ref 52, .int 0, .ref 53, .int 0, .ref 54, .int 0, .ref 55, .ref 56, .ref 57, .ref 58, .int 0, .ref 59, .ref 60])))).set 51 (.inl ((List.replicate 8 (0 : Int32)).set (Int32.toNatClampNeg x3) 3)))) (v := 3) f51 rfl g10 g11 (len_of f51) (List.set_set ..)) ?_
    refine rr rfl (s_iconst (v := 1) (by decide)) ?_
    refine rr rfl (s_istore_n rfl) ?_
    refine rr rfl (s_iload_n rfl) ?_
    refine rr rfl (s_ifF (by decide)) ?_
    refine rr rfl (s_iload rfl) ?_
    refine rr rfl (s_bipush (v := 8) (by decide)) ?_
    refine rr rfl (s_icF (by decide)) ?_
    refine rr rfl (s_iconst (v := 1) (by decide)) ?_
    refine rr rfl s_goto ?_
    refine rr rfl (s_istore_n rfl) ?_
    refine rr rfl (s_iinc (v := 1) rfl (by decide) rfl) ?_
    refine rr rfl s_goto ?_
    refine rr rfl (s_iload_n rfl) ?_
    refine rr rfl (s_aload_n rfl) ?_
    have f55 : a_at ((((((((((H.set 42 (.inl [x1, 0, 0, 0, 0, 0, 0, 0, 0, 0, 0, 0, 0])).set 43 (.inl [x2, 0, 0, 0, 0, 0, 0, 0, 0, 0, 0, 0, 0])).set 44 (.inl [x3, 0, 0, 0, 0, 0, 0, 0, 0, 0, 0, 0, 0])).set 45 (.inl [x4, 0, 0, 0, 0, 0, 0, 0, 0, 0, 0, 0, 0])).set 46 (.inl [x5, 0, 0, 0, 0, 0, 0, 0, 0, 0, 0, 0, 0])).set 47 (.inl [x6, 0, 0, 0, 0, 0, 0, 0, 0, 0, 0, 0, 0])).set 48 (.inl [x7, 0, 0, 0, 0, 0, 0, 0, 0, 0, 0, 0, 0])).set 49 (.inl [(-1), 0, 0, 0, 0, 0, 0, 0, 0, 0, 0, 0, 0])).set 41 (.inr (.inr (9, [.int 4, .int 1, .ref 42, .ref 43, .ref 44, .ref 45, .ref 46, .ref 47, .ref 48, .ref 49, .ref 50, .ref 51, .int 0, .int 0, .int 0, .int 0, .int 0, .int 0, .int 0, .int 0, .ref 52, .int 0, .ref 53, .int 0, .ref 54, .int 0, .ref 55, .ref 56, .ref 57, .ref 58, .int 0, .ref 59, .ref 60])))).set 51 (.inl ((List.replicate 8 (0 : Int32)).set (Int32.toNatClampNeg x3) 3))) 41 = some (.inr (.inr (9, [.int 4, .int 1, .ref 42, .ref 43, .ref 44, .ref 45, .ref 46, .ref 47, .ref 48, .ref 49, .ref 50, .ref 51, .int 0, .int 0, .int 0, .int 0, .int 0, .int 0, .int 0, .int 0, .ref 52, .int 0, .ref 53, .int 0, .ref 54, .int 0, .ref 55, .ref 56, .ref 57, .ref 58, .int 0, .ref 59, .ref 60]))) := ((at_ne (by decide)).trans f18)
    refine rr rfl (s_getf f55 rfl) ?_
    refine rr rfl (s_icT (by decide)) ?_
    refine rr rfl s_goto ?_
    refine rr rfl (s_iload_n rfl) ?_
    refine rr rfl (s_ifF (by decide)) ?_
    refine rr rfl (s_iload_n rfl) ?_
    refine rr rfl (s_ifF (by decide)) ?_
    refine rr rfl (s_iconst (v := 0) (by decide)) ?_
    refine rr rfl (s_istore_n rfl) ?_
    refine rr rfl (s_iconst (v := 0) (by decide)) ?_
    refine rr rfl (s_istore_n rfl) ?_
    refine rr rfl (s_iload_n rfl) ?_
    refine rr rfl (s_aload_n rfl) ?_
    refine rr rfl (s_getf f55 rfl) ?_
    refine rr rfl (s_icF (by decide)) ?_
    refine rr rfl (s_iconst (v := 0) (by decide)) ?_
    refine rr rfl (s_istore rfl) ?_
    refine rr rfl (s_aload_n rfl) ?_
    refine rr rfl (s_getf f55 rfl) ?_
    refine rr rfl (s_iload_n rfl) ?_
    have f56 : a_at ((((((((((H.set 42 (.inl [x1, 0, 0, 0, 0, 0, 0, 0, 0, 0, 0, 0, 0])).set 43 (.inl [x2, 0, 0, 0, 0, 0, 0, 0, 0, 0, 0, 0, 0])).set 44 (.inl [x3, 0, 0, 0, 0, 0, 0, 0, 0, 0, 0, 0, 0])).set 45 (.inl [x4, 0, 0, 0, 0, 0, 0, 0, 0, 0, 0, 0, 0])).set 46 (.inl [x5, 0, 0, 0, 0, 0, 0, 0, 0, 0, 0, 0, 0])).set 47 (.inl [x6, 0, 0, 0, 0, 0, 0, 0, 0, 0, 0, 0, 0])).set 48 (.inl [x7, 0, 0, 0, 0, 0, 0, 0, 0, 0, 0, 0, 0])).set 49 (.inl [(-1), 0, 0, 0, 0, 0, 0, 0, 0, 0, 0, 0, 0])).set 41 (.inr (.inr (9, [.int 4, .int 1, .ref 42, .ref 43, .ref 44, .ref 45, .ref 46, .ref 47, .ref 48, .ref 49, .ref 50, .ref 51, .int 0, .int 0, .int 0, .int 0, .int 0, .int 0, .int 0, .int 0, .ref 52, .int 0, .ref 53, .int 0, .ref 54, .int 0, .ref 55, .ref 56, .ref 57, .ref 58, .int 0, .ref 59, .ref 60])))).set 51 (.inl ((List.replicate 8 (0 : Int32)).set (Int32.toNatClampNeg x3) 3))) 43 = some (.inl [x2, 0, 0, 0, 0, 0, 0, 0, 0, 0, 0, 0, 0]) := ((at_ne (by decide)).trans ((at_ne (by decide)).trans ((at_ne (by decide)).trans ((at_ne (by decide)).trans ((at_ne (by decide)).trans ((at_ne (by decide)).trans ((at_ne (by decide)).trans ((at_ne (by decide)).trans (at_eq ((at_ne (by decide)).trans F43))))))))))
    refine rr rfl (s_iaload (j := 0) rfl f56 rfl) ?_
    refine rr rfl (s_ifF (ic_nne g1)) ?_
    refine rr rfl (s_aload_n rfl) ?_
    refine rr rfl (s_getf f55 rfl) ?_
    refine rr rfl (s_aload_n rfl) ?_
    refine rr rfl (s_getf f55 rfl) ?_
    refine rr rfl (s_iload_n rfl) ?_
    have f57 : a_at ((((((((((H.set 42 (.inl [x1, 0, 0, 0, 0, 0, 0, 0, 0, 0, 0, 0, 0])).set 43 (.inl [x2, 0, 0, 0, 0, 0, 0, 0, 0, 0, 0, 0, 0])).set 44 (.inl [x3, 0, 0, 0, 0, 0, 0, 0, 0, 0, 0, 0, 0])).set 45 (.inl [x4, 0, 0, 0, 0, 0, 0, 0, 0, 0, 0, 0, 0])).set 46 (.inl [x5, 0, 0, 0, 0, 0, 0, 0, 0, 0, 0, 0, 0])).set 47 (.inl [x6, 0, 0, 0, 0, 0, 0, 0, 0, 0, 0, 0, 0])).set 48 (.inl [x7, 0, 0, 0, 0, 0, 0, 0, 0, 0, 0, 0, 0])).set 49 (.inl [(-1), 0, 0, 0, 0, 0, 0, 0, 0, 0, 0, 0, 0])).set 41 (.inr (.inr (9, [.int 4, .int 1, .ref 42, .ref 43, .ref 44, .ref 45, .ref 46, .ref 47, .ref 48, .ref 49, .ref 50, .ref 51, .int 0, .int 0, .int 0, .int 0, .int 0, .int 0, .int 0, .int 0, .ref 52, .int 0, .ref 53, .int 0, .ref 54, .int 0, .ref 55, .ref 56, .ref 57, .ref 58, .int 0, .ref 59, .ref 60])))).set 51 (.inl ((List.replicate 8 (0 : Int32)).set (Int32.toNatClampNeg x3) 3))) 45 = some (.inl [x4, 0, 0, 0, 0, 0, 0, 0, 0, 0, 0, 0, 0]) := ((at_ne (by decide)).trans ((at_ne (by decide)).trans ((at_ne (by decide)).trans ((at_ne (by decide)).trans ((at_ne (by decide)).trans ((at_ne (by decide)).trans (at_eq ((at_ne (by decide)).trans ((at_ne (by decide)).trans ((at_ne (by decide)).trans F45))))))))))
    refine rr rfl (s_iaload (j := 0) rfl f57 rfl) ?_
    have f58 : a_at ((((((((((H.set 42 (.inl [x1, 0, 0, 0, 0, 0, 0, 0, 0, 0, 0, 0, 0])).set 43 (.inl [x2, 0, 0, 0, 0, 0, 0, 0, 0, 0, 0, 0, 0])).set 44 (.inl [x3, 0, 0, 0, 0, 0, 0, 0, 0, 0, 0, 0, 0])).set 45 (.inl [x4, 0, 0, 0, 0, 0, 0, 0, 0, 0, 0, 0, 0])).set 46 (.inl [x5, 0, 0, 0, 0, 0, 0, 0, 0, 0, 0, 0, 0])).set 47 (.inl [x6, 0, 0, 0, 0, 0, 0, 0, 0, 0, 0, 0, 0])).set 48 (.inl [x7, 0, 0, 0, 0, 0, 0, 0, 0, 0, 0, 0, 0])).set 49 (.inl [(-1), 0, 0, 0, 0, 0, 0, 0, 0, 0, 0, 0, 0])).set 41 (.inr (.inr (9, [.int 4, .int 1, .ref 42, .ref 43, .ref 44, .ref 45, .ref 46, .ref 47, .ref 48, .ref 49, .ref 50, .ref 51, .int 0, .int 0, .int 0, .int 0, .int 0, .int 0, .int 0, .int 0, .ref 52, .int 0, .ref 53, .int 0, .ref 54, .int 0, .ref 55, .ref 56, .ref 57, .ref 58, .int 0, .ref 59, .ref 60])))).set 51 (.inl ((List.replicate 8 (0 : Int32)).set (Int32.toNatClampNeg x3) 3))) 51 = some (.inl ((List.replicate 8 (0 : Int32)).set (Int32.toNatClampNeg x3) 3)) := (at_eq f19)
    refine rr rfl (s_ialdH f58 g12 g10 g11) ?_
    refine rr rfl (s_istore rfl) ?_
    refine rr rfl (s_aload_n rfl) ?_
    refine rr rfl (s_getf f55 rfl) ?_
    refine rr rfl (s_iload_n rfl) ?_
    have f59 : a_at ((((((((((H.set 42 (.inl [x1, 0, 0, 0, 0, 0, 0, 0, 0, 0, 0, 0, 0])).set 43 (.inl [x2, 0, 0, 0, 0, 0, 0, 0, 0, 0, 0, 0, 0])).set 44 (.inl [x3, 0, 0, 0, 0, 0, 0, 0, 0, 0, 0, 0, 0])).set 45 (.inl [x4, 0, 0, 0, 0, 0, 0, 0, 0, 0, 0, 0, 0])).set 46 (.inl [x5, 0, 0, 0, 0, 0, 0, 0, 0, 0, 0, 0, 0])).set 47 (.inl [x6, 0, 0, 0, 0, 0, 0, 0, 0, 0, 0, 0, 0])).set 48 (.inl [x7, 0, 0, 0, 0, 0, 0, 0, 0, 0, 0, 0, 0])).set 49 (.inl [(-1), 0, 0, 0, 0, 0, 0, 0, 0, 0, 0, 0, 0])).set 41 (.inr (.inr (9, [.int 4, .int 1, .ref 42, .ref 43, .ref 44, .ref 45, .ref 46, .ref 47, .ref 48, .ref 49, .ref 50, .ref 51, .int 0, .int 0, .int 0, .int 0, .int 0, .int 0, .int 0, .int 0, .ref 52, .int 0, .ref 53, .int 0, .ref 54, .int 0, .ref 55, .ref 56, .ref 57, .ref 58, .int 0, .ref 59, .ref 60])))).set 51 (.inl ((List.replicate 8 (0 : Int32)).set (Int32.toNatClampNeg x3) 3))) 46 = some (.inl [x5, 0, 0, 0, 0, 0, 0, 0, 0, 0, 0, 0, 0]) := ((at_ne (by decide)).trans ((at_ne (by decide)).trans ((at_ne (by decide)).trans ((at_ne (by decide)).trans ((at_ne (by decide)).trans (at_eq ((at_ne (by decide)).trans ((at_ne (by decide)).trans ((at_ne (by decide)).trans ((at_ne (by decide)).trans F46))))))))))
    refine rr rfl (s_iaload (j := 0) rfl f59 rfl) ?_
    refine rr rfl (s_iconst (v := (-1)) (by decide)) ?_
    refine rr rfl (s_icF (ic_neq g4)) ?_
    refine rr rfl (s_aload_n rfl) ?_
    refine rr rfl (s_getf f55 rfl) ?_
    refine rr rfl (s_aload_n rfl) ?_
    refine rr rfl (s_getf f55 rfl) ?_
    refine rr rfl (s_iload_n rfl) ?_
    refine rr rfl (s_iaload (j := 0) rfl f59 rfl) ?_
    refine rr rfl (s_ialdH f58 g13 g10 g11) ?_
    refine rr rfl (s_iload rfl) ?_
    refine rr rfl (s_icT (by decide)) ?_
    refine rr rfl (s_iload rfl) ?_
    refine rr rfl (s_istore rfl) ?_
    refine rr rfl (s_aload_n rfl) ?_
    refine rr rfl (s_getf f55 rfl) ?_
    refine rr rfl (s_iload_n rfl) ?_
    have f60 : a_at ((((((((((H.set 42 (.inl [x1, 0, 0, 0, 0, 0, 0, 0, 0, 0, 0, 0, 0])).set 43 (.inl [x2, 0, 0, 0, 0, 0, 0, 0, 0, 0, 0, 0, 0])).set 44 (.inl [x3, 0, 0, 0, 0, 0, 0, 0, 0, 0, 0, 0, 0])).set 45 (.inl [x4, 0, 0, 0, 0, 0, 0, 0, 0, 0, 0, 0, 0])).set 46 (.inl [x5, 0, 0, 0, 0, 0, 0, 0, 0, 0, 0, 0, 0])).set 47 (.inl [x6, 0, 0, 0, 0, 0, 0, 0, 0, 0, 0, 0, 0])).set 48 (.inl [x7, 0, 0, 0, 0, 0, 0, 0, 0, 0, 0, 0, 0])).set 49 (.inl [(-1), 0, 0, 0, 0, 0, 0, 0, 0, 0, 0, 0, 0])).set 41 (.inr (.inr (9, [.int 4, .int 1, .ref 42, .ref 43, .ref 44, .ref 45, .ref 46, .ref 47, .ref 48, .ref 49, .ref 50, .ref 51, .int 0, .int 0, .int 0, .int 0, .int 0, .int 0, .int 0, .int 0, .ref 52, .int 0, .ref 53, .int 0, .ref 54, .int 0, .ref 55, .ref 56, .ref 57, .ref 58, .int 0, .ref 59, .ref 60])))).set 51 (.inl ((List.replicate 8 (0 : Int32)).set (Int32.toNatClampNeg x3) 3))) 47 = some (.inl [x6, 0, 0, 0, 0, 0, 0, 0, 0, 0, 0, 0, 0]) := ((at_ne (by decide)).trans ((at_ne (by decide)).trans ((at_ne (by decide)).trans ((at_ne (by decide)).trans (at_eq ((at_ne (by decide)).trans ((at_ne (by decide)).trans ((at_ne (by decide)).trans ((at_ne (by decide)).trans ((at_ne (by decide)).trans F47))))))))))
    refine rr rfl (s_iaload (j := 0) rfl f60 rfl) ?_
    refine rr rfl (s_iconst (v := (-1)) (by decide)) ?_
    refine rr rfl (s_icF (ic_neq g7)) ?_
    refine rr rfl (s_aload_n rfl) ?_
    refine rr rfl (s_getf f55 rfl) ?_
    refine rr rfl (s_aload_n rfl) ?_
    refine rr rfl (s_getf f55 rfl) ?_
    refine rr rfl (s_iload_n rfl) ?_
    refine rr rfl (s_iaload (j := 0) rfl f60 rfl) ?_
    refine rr rfl (s_ialdH f58 g14 g10 g11) ?_
    refine rr rfl (s_iconst (v := 1) (by decide)) ?_
    refine rr rfl (s_iadd (v := 4) (by decide)) ?_
    refine rr rfl (s_iload rfl) ?_
    refine rr rfl (s_icF (by decide)) ?_
    refine rr rfl (s_aload_n rfl) ?_
    refine rr rfl (s_getf f55 rfl) ?_
    refine rr rfl (s_aload_n rfl) ?_
    refine rr rfl (s_getf f55 rfl) ?_
    refine rr rfl (s_iload_n rfl) ?_
    refine rr rfl (s_iaload (j := 0) rfl f60 rfl) ?_
    refine rr rfl (s_ialdH f58 g14 g10 g11) ?_
    refine rr rfl (s_iconst (v := 1) (by decide)) ?_
    refine rr rfl (s_iadd (v := 4) (by decide)) ?_
    refine rr rfl s_goto ?_
    refine rr rfl (s_istore rfl) ?_
    refine rr rfl (s_iload rfl) ?_
    refine rr rfl (s_aload_n rfl) ?_
    refine rr rfl (s_getf f55 rfl) ?_
    refine rr rfl (s_aload_n rfl) ?_
    refine rr rfl (s_getf f55 rfl) ?_
    refine rr rfl (s_iload_n rfl) ?_
    have f61 : a_at ((((((((((H.set 42 (.inl [x1, 0, 0, 0, 0, 0, 0, 0, 0, 0, 0, 0, 0])).set 43 (.inl [x2, 0, 0, 0, 0, 0, 0, 0, 0, 0, 0, 0, 0])).set 44 (.inl [x3, 0, 0, 0, 0, 0, 0, 0, 0, 0, 0, 0, 0])).set 45 (.inl [x4, 0, 0, 0, 0, 0, 0, 0, 0, 0, 0, 0, 0])).set 46 (.inl [x5, 0, 0, 0, 0, 0, 0, 0, 0, 0, 0, 0, 0])).set 47 (.inl [x6, 0, 0, 0, 0, 0, 0, 0, 0, 0, 0, 0, 0])).set 48 (.inl [x7, 0, 0, 0, 0, 0, 0, 0, 0, 0, 0, 0, 0])).set 49 (.inl [(-1), 0, 0, 0, 0, 0, 0, 0, 0, 0, 0, 0, 0])).set 41 (.inr (.inr (9, [.int 4, .int 1, .ref 42, .ref 43, .ref 44, .ref 45, .ref 46, .ref 47, .ref 48, .ref 49, .ref 50, .ref 51, .int 0, .int 0, .int 0, .int 0, .int 0, .int 0, .int 0, .int 0, .ref 52, .int 0, .ref 53, .int 0, .ref 54, .int 0, .ref 55, .ref 56, .ref 57, .ref 58, .int 0, .ref 59, .ref 60])))).set 51 (.inl ((List.replicate 8 (0 : Int32)).set (Int32.toNatClampNeg x3) 3))) 44 = some (.inl [x3, 0, 0, 0, 0, 0, 0, 0, 0, 0, 0, 0, 0]) := ((at_ne (by decide)).trans ((at_ne (by decide)).trans ((at_ne (by decide)).trans ((at_ne (by decide)).trans ((at_ne (by decide)).trans ((at_ne (by decide)).trans ((at_ne (by decide)).trans (at_eq ((at_ne (by decide)).trans ((at_ne (by decide)).trans F44))))))))))
    refine rr rfl (s_iaload (j := 0) rfl f61 rfl) ?_
    refine rr rfl (s_ialdH f58 rfl g10 g11) ?_
    refine rr rfl (s_icF (by decide)) ?_
    refine rr rfl (s_aload_n rfl) ?_
    refine rr rfl (s_getf f55 rfl) ?_
    refine rr rfl (s_aload_n rfl) ?_
    refine rr rfl (s_getf f55 rfl) ?_
    refine rr rfl (s_iload_n rfl) ?_
    refine rr rfl (s_iaload (j := 0) rfl f61 rfl) ?_
    refine rr rfl (s_iload rfl) ?_
    refine rr rfl (s_iastH (h' := ((((((((((H.set 42 (.inl [x1, 0, 0, 0, 0, 0, 0, 0, 0, 0, 0, 0, 0])).set 43 (.inl [x2, 0, 0, 0, 0, 0, 0, 0, 0, 0, 0, 0, 0])).set 44 (.inl [x3, 0, 0, 0, 0, 0, 0, 0, 0, 0, 0, 0, 0])).set 45 (.inl [x4, 0, 0, 0, 0, 0, 0, 0, 0, 0, 0, 0, 0])).set 46 (.inl [x5, 0, 0, 0, 0, 0, 0, 0, 0, 0, 0, 0, 0])).set 47 (.inl [x6, 0, 0, 0, 0, 0, 0, 0, 0, 0, 0, 0, 0])).set 48 (.inl [x7, 0, 0, 0, 0, 0, 0, 0, 0, 0, 0, 0, 0])).set 49 (.inl [(-1), 0, 0, 0, 0, 0, 0, 0, 0, 0, 0, 0, 0])).set 41 (.inr (.inr (9, [.int 4, .int 1, .ref 42, .ref 43, .ref 44, .ref 45, .ref 46, .ref 47, .ref 48, .ref 49, .ref 50, .ref 51, .int 0, .int 0, .int 0, .int 0, .int 0, .int 0, .int 0, .int 0, .ref 52, .int 0, .ref 53, .int 0, .ref 54, .int 0, .ref 55, .ref 56, .ref 57, .ref 58, .int 0, .ref 59, .ref 60])))).set 51 (.inl ((List.replicate 8 (0 : Int32)).set (Int32.toNatClampNeg x3) 4)))) (v := 4) f58 rfl g10 g11 (len_of f58) (List.set_set ..)) ?_
    refine rr rfl (s_iconst (v := 1) (by decide)) ?_
    refine rr rfl (s_istore_n rfl) ?_
    refine rr rfl (s_iload_n rfl) ?_
    refine rr rfl (s_ifF (by decide)) ?_
    refine rr rfl (s_iload rfl) ?_
    refine rr rfl (s_bipush (v := 8) (by decide)) ?_
    refine rr rfl (s_icF (by decide)) ?_
    refine rr rfl (s_iconst (v := 1) (by decide)) ?_
    refine rr rfl s_goto ?_
    refine rr rfl (s_istore_n rfl) ?_
    refine rr rfl (s_iinc (v := 1) rfl (by decide) rfl) ?_
    refine rr rfl s_goto ?_
    refine rr rfl (s_iload_n rfl) ?_
    refine rr rfl (s_aload_n rfl) ?_
    have f62 : a_at ((((((((((H.set 42 (.inl [x1, 0, 0, 0, 0, 0, 0, 0, 0, 0, 0, 0, 0])).set 43 (.inl [x2, 0, 0, 0, 0, 0, 0, 0, 0, 0, 0, 0, 0])).set 44 (.inl [x3, 0, 0, 0, 0, 0, 0, 0, 0, 0, 0, 0, 0])).set 45 (.inl [x4, 0, 0, 0, 0, 0, 0, 0, 0, 0, 0, 0, 0])).set 46 (.inl [x5, 0, 0, 0, 0, 0, 0, 0, 0, 0, 0, 0, 0])).set 47 (.inl [x6, 0, 0, 0, 0, 0, 0, 0, 0, 0, 0, 0, 0])).set 48 (.inl [x7, 0, 0, 0, 0, 0, 0, 0, 0, 0, 0, 0, 0])).set 49 (.inl [(-1), 0, 0, 0, 0, 0, 0, 0, 0, 0, 0, 0, 0])).set 41 (.inr (.inr (9, [.int 4, .int 1, .ref 42, .ref 43, .ref 44, .ref 45, .ref 46, .ref 47, .ref 48, .ref 49, .ref 50, .ref 51, .int 0, .int 0, .int 0, .int 0, .int 0, .int 0, .int 0, .int 0, .ref 52, .int 0, .ref 53, .int 0, .ref 54, .int 0, .ref 55, .ref 56, .ref 57, .ref 58, .int 0, .ref 59, .ref 60])))).set 51 (.inl ((List.replicate 8 (0 : Int32)).set (Int32.toNatClampNeg x3) 4))) 41 = some (.inr (.inr (9, [.int 4, .int 1, .ref 42, .ref 43, .ref 44, .ref 45, .ref 46, .ref 47, .ref 48, .ref 49, .ref 50, .ref 51, .int 0, .int 0, .int 0, .int 0, .int 0, .int 0, .int 0, .int 0, .ref 52, .int 0, .ref 53, .int 0, .ref 54, .int 0, .ref 55, .ref 56, .ref 57, .ref 58, .int 0, .ref 59, .ref 60]))) := ((at_ne (by decide)).trans f18)
    refine rr rfl (s_getf f62 rfl) ?_
    refine rr rfl (s_icT (by decide)) ?_
    refine rr rfl s_goto ?_
    refine rr rfl (s_iload_n rfl) ?_
    refine rr rfl (s_ifF (by decide)) ?_
    refine rr rfl (s_iload_n rfl) ?_
    refine rr rfl (s_ifF (by decide)) ?_
    refine rr rfl (s_iconst (v := 0) (by decide)) ?_
    refine rr rfl (s_istore_n rfl) ?_
    refine rr rfl (s_iconst (v := 0) (by decide)) ?_
    refine rr rfl (s_istore_n rfl) ?_
    refine rr rfl (s_iload_n rfl) ?_
    refine rr rfl (s_aload_n rfl) ?_
    refine rr rfl (s_getf f62 rfl) ?_
    refine rr rfl (s_icF (by decide)) ?_
    refine rr rfl (s_iconst (v := 0) (by decide)) ?_
    refine rr rfl (s_istore rfl) ?_
    refine rr rfl (s_aload_n rfl) ?_
    refine rr rfl (s_getf f62 rfl) ?_
    refine rr rfl (s_iload_n rfl) ?_
    have f63 : a_at ((((((((((H.set 42 (.inl [x1, 0, 0, 0, 0, 0, 0, 0, 0, 0, 0, 0, 0])).set 43 (.inl [x2, 0, 0, 0, 0, 0, 0, 0, 0, 0, 0, 0, 0])).set 44 (.inl [x3, 0, 0, 0, 0, 0, 0, 0, 0, 0, 0, 0, 0])).set 45 (.inl [x4, 0, 0, 0, 0, 0, 0, 0, 0, 0, 0, 0, 0])).set 46 (.inl [x5, 0, 0, 0, 0, 0, 0, 0, 0, 0, 0, 0, 0])).set 47 (.inl [x6, 0, 0, 0, 0, 0, 0, 0, 0, 0, 0, 0, 0])).set 48 (.inl [x7, 0, 0, 0, 0, 0, 0, 0, 0, 0, 0, 0, 0])).set 49 (.inl [(-1), 0, 0, 0, 0, 0, 0, 0, 0, 0, 0, 0, 0])).set 41 (.inr (.inr (9, [.int 4, .int 1, .ref 42, .ref 43, .ref 44, .ref 45, .ref 46, .ref 47, .ref 48, .ref 49, .ref 50, .ref 51, .int 0, .int 0, .int 0, .int 0, .int 0, .int 0, .int 0, .int 0, .ref 52, .int 0, .ref 53, .int 0, .ref 54, .int 0, .ref 55, .ref 56, .ref 57, .ref 58, .int 0, .ref 59, .ref 60])))).set 51 (.inl ((List.replicate 8 (0 : Int32)).set (Int32.toNatClampNeg x3) 4))) 43 = some (.inl [x2, 0, 0, 0, 0, 0, 0, 0, 0, 0, 0, 0, 0]) := ((at_ne (by decide)).trans ((at_ne (by decide)).trans ((at_ne (by decide)).trans ((at_ne (by decide)).trans ((at_ne (by decide)).trans ((at_ne (by decide)).trans ((at_ne (by decide)).trans ((at_ne (by decide)).trans (at_eq ((at_ne (by decide)).trans F43))))))))))
    refine rr rfl (s_iaload (j := 0) rfl f63 rfl) ?_
    refine rr rfl (s_ifF (ic_nne g1)) ?_
    refine rr rfl (s_aload_n rfl) ?_
    refine rr rfl (s_getf f62 rfl) ?_
    refine rr rfl (s_aload_n rfl) ?_
    refine rr rfl (s_getf f62 rfl) ?_
    refine rr rfl (s_iload_n rfl) ?_
    have f64 : a_at ((((((((((H.set 42 (.inl [x1, 0, 0, 0, 0, 0, 0, 0, 0, 0, 0, 0, 0])).set 43 (.inl [x2, 0, 0, 0, 0, 0, 0, 0, 0, 0, 0, 0, 0])).set 44 (.inl [x3, 0, 0, 0, 0, 0, 0, 0, 0, 0, 0, 0, 0])).set 45 (.inl [x4, 0, 0, 0, 0, 0, 0, 0, 0, 0, 0, 0, 0])).set 46 (.inl [x5, 0, 0, 0, 0, 0, 0, 0, 0, 0, 0, 0, 0])).set 47 (.inl [x6, 0, 0, 0, 0, 0, 0, 0, 0, 0, 0, 0, 0])).set 48 (.inl [x7, 0, 0, 0, 0, 0, 0, 0, 0, 0, 0, 0, 0])).set 49 (.inl [(-1), 0, 0, 0, 0, 0, 0, 0, 0, 0, 0, 0, 0])).set 41 (.inr (.inr (9, [.int 4, .int 1, .ref 42, .ref 43, .ref 44, .ref 45, .ref 46, .ref 47, .ref 48, .ref 49, .ref 50, .ref 51, .int 0, .int 0, .int 0, .int 0, .int 0, .int 0, .int 0, .int 0, .ref 52, .int 0, .ref 53, .int 0, .ref 54, .int 0, .ref 55, .ref 56, .ref 57, .ref 58, .int 0, .ref 59, .ref 60])))).set 51 (.inl ((List.replicate 8 (0 : Int32)).set (Int32.toNatClampNeg x3) 4))) 45 = some (.inl [x4, 0, 0, 0, 0, 0, 0, 0, 0, 0, 0, 0, 0]) := ((at_ne (by decide)).trans ((at_ne (by decide)).trans ((at_ne (by decide)).trans ((at_ne (by decide)).trans ((at_ne (by decide)).trans ((at_ne (by decide)).trans (at_eq ((at_ne (by decide)).trans ((at_ne (by decide)).trans ((at_ne (by decide)).trans F45))))))))))
    refine rr rfl (s_iaload (j := 0) rfl f64 rfl) ?_
    have f65 : a_at ((((((((((H.set 42 (.inl [x1, 0, 0, 0, 0, 0, 0, 0, 0, 0, 0, 0, 0])).set 43 (.inl [x2, 0, 0, 0, 0, 0, 0, 0, 0, 0, 0, 0, 0])).set 44 (.inl [x3, 0, 0, 0, 0, 0, 0, 0, 0, 0, 0, 0, 0])).set 45 (.inl [x4, 0, 0, 0, 0, 0, 0, 0, 0, 0, 0, 0, 0])).set 46 (.inl [x5, 0, 0, 0, 0, 0, 0, 0, 0, 0, 0, 0, 0])).set 47 (.inl [x6, 0, 0, 0, 0, 0, 0, 0, 0, 0, 0, 0, 0])).set 48 (.inl [x7, 0, 0, 0, 0, 0, 0, 0, 0, 0, 0, 0, 0])).set 49 (.inl [(-1), 0, 0, 0, 0, 0, 0, 0, 0, 0, 0, 0, 0])).set 41 (.inr (.inr (9, [.int 4, .int 1, .ref 42, .ref 43, .ref 44, .ref 45, .ref 46, .ref 47, .ref 48, .ref 49, .ref 50, .ref 51, .int 0, .int 0, .int 0, .int 0, .int 0, .int 0, .int 0, .int 0, .ref 52, .int 0, .ref 53, .int 0, .ref 54, .int 0, .ref 55, .ref 56, .ref 57, .ref 58, .int 0, .ref 59, .ref 60])))).set 51 (.inl ((List.replicate 8 (0 : Int32)).set (Int32.toNatClampNeg x3) 4))) 51 = some (.inl ((List.replicate 8 (0 : Int32)).set (Int32.toNatClampNeg x3) 4)) := (at_eq f19)
    refine rr rfl (s_ialdH f65 g12 g10 g11) ?_
    refine rr rfl (s_istore rfl) ?_
    refine rr rfl (s_aload_n rfl) ?_
    refine rr rfl (s_getf f62 rfl) ?_
    refine rr rfl (s_iload_n rfl) ?_
    have f66 : a_at ((((((((((H.set 42 (.inl [x1, 0, 0, 0, 0, 0, 0, 0, 0, 0, 0, 0, 0])).set 43 (.inl [x2, 0, 0, 0, 0, 0, 0, 0, 0, 0, 0, 0, 0])).set 44 (.inl [x3, 0, 0, 0, 0, 0, 0, 0, 0, 0, 0, 0, 0])).set 45 (.inl [x4, 0, 0, 0, 0, 0, 0, 0, 0, 0, 0, 0, 0])).set 46 (.inl [x5, 0, 0, 0, 0, 0, 0, 0, 0, 0, 0, 0, 0])).set 47 (.inl [x6, 0, 0, 0, 0, 0, 0, 0, 0, 0, 0, 0, 0])).set 48 (.inl [x7, 0, 0, 0, 0, 0, 0, 0, 0, 0, 0, 0, 0])).set 49 (.inl [(-1), 0, 0, 0, 0, 0, 0, 0, 0, 0, 0, 0, 0])).set 41 (.inr (.inr (9, [.int 4, .int 1, .ref 42, .ref 43, .ref 44, .ref 45, .ref 46, .ref 47, .ref 48, .ref 49, .ref 50, .ref 51, .int 0, .int 0, .int 0, .int 0, .int 0, .int 0, .int 0, .int 0, .ref 52, .int 0, .ref 53, .int 0, .ref 54, .int 0, .ref 55, .ref 56, .ref 57, .ref 58, .int 0, .ref 59, .ref 60])))).set 51 (.inl ((List.replicate 8 (0 : Int32)).set (Int32.toNatClampNeg x3) 4))) 46 = some (.inl [x5, 0, 0, 0, 0, 0, 0, 0, 0, 0, 0, 0, 0]) := ((at_ne (by decide)).trans ((at_ne (by decide)).trans ((at_ne (by decide)).trans ((at_ne (by decide)).trans ((at_ne (by decide)).trans (at_eq ((at_ne (by decide)).trans ((at_ne (by decide)).trans ((at_ne (by decide)).trans ((at_ne (by decide)).trans F46))))))))))
    refine rr rfl (s_iaload (j := 0) rfl f66 rfl) ?_
    refine rr rfl (s_iconst (v := (-1)) (by decide)) ?_
    refine rr rfl (s_icF (ic_neq g4)) ?_
    refine rr rfl (s_aload_n rfl) ?_
    refine rr rfl (s_getf f62 rfl) ?_
    refine rr rfl (s_aload_n rfl) ?_
    refine rr rfl (s_getf f62 rfl) ?_
    refine rr rfl (s_iload_n rfl) ?_
    refine rr rfl (s_iaload (j := 0) rfl f66 rfl) ?_
    refine rr rfl (s_ialdH f65 g13 g10 g11) ?_
    refine rr rfl (s_iload rfl) ?_
    refine rr rfl (s_icT (by decide)) ?_
    refine rr rfl (s_iload rfl) ?_
    refine rr rfl (s_istore rfl) ?_
    refine rr rfl (s_aload_n rfl) ?_
    refine rr rfl (s_getf f62 rfl) ?_
    refine rr rfl (s_iload_n rfl) ?_
    have f67 : a_at ((((((((((H.set 42 (.inl [x1, 0, 0, 0, 0, 0, 0, 0, 0, 0, 0, 0, 0])).set 43 (.inl [x2, 0, 0, 0, 0, 0, 0, 0, 0, 0, 0, 0, 0])).set 44 (.inl [x3, 0, 0, 0, 0, 0, 0, 0, 0, 0, 0, 0, 0])).set 45 (.inl [x4, 0, 0, 0, 0, 0, 0, 0, 0, 0, 0, 0, 0])).set 46 (.inl [x5, 0, 0, 0, 0, 0, 0, 0, 0, 0, 0, 0, 0])).set 47 (.inl [x6, 0, 0, 0, 0, 0, 0, 0, 0, 0, 0, 0, 0])).set 48 (.inl [x7, 0, 0, 0, 0, 0, 0, 0, 0, 0, 0, 0, 0])).set 49 (.inl [(-1), 0, 0, 0, 0, 0, 0, 0, 0, 0, 0, 0, 0])).set 41 (.inr (.inr (9, [.int 4, .int 1, .ref 42, .ref 43, .ref 44, .ref 45, .ref 46, .ref 47, .ref 48, .ref 49, .ref 50, .ref 51, .int 0, .int 0, .int 0, .int 0, .int 0, .int 0, .int 0, .int 0, .ref 52, .int 0, .ref 53, .int 0, .ref 54, .int 0, .ref 55, .ref 56, .ref 57, .ref 58, .int 0, .ref 59, .ref 60])))).set 51 (.inl ((List.replicate 8 (0 : Int32)).set (Int32.toNatClampNeg x3) 4))) 47 = some (.inl [x6, 0, 0, 0, 0, 0, 0, 0, 0, 0, 0, 0, 0]) := ((at_ne (by decide)).trans ((at_ne (by decide)).trans ((at_ne (by decide)).trans ((at_ne (by decide)).trans (at_eq ((at_ne (by decide)).trans ((at_ne (by decide)).trans ((at_ne (by decide)).trans ((at_ne (by decide)).trans ((at_ne (by decide)).trans F47))))))))))
    refine rr rfl (s_iaload (j := 0) rfl f67 rfl) ?_
    refine rr rfl (s_iconst (v := (-1)) (by decide)) ?_
    refine rr rfl (s_icF (ic_neq g7)) ?_
    refine rr rfl (s_aload_n rfl) ?_
    refine rr rfl (s_getf f62 rfl) ?_
    refine rr rfl (s_aload_n rfl) ?_
    refine rr rfl (s_getf f62 rfl) ?_
    refine rr rfl (s_iload_n rfl) ?_
    refine rr rfl (s_iaload (j := 0) rfl f67 rfl) ?_
    refine rr rfl (s_ialdH f65 g14 g10 g11) ?_
    refine rr rfl (s_iconst (v := 1) (by decide)) ?_
    refine rr rfl (s_iadd (v := 5) (by decide)) ?_
    refine rr rfl (s_iload rfl) ?_
    refine rr rfl (s_icF (by decide)) ?_
    refine rr rfl (s_aload_n rfl) ?_
    refine rr rfl (s_getf f62 rfl) ?_
    refine rr rfl (s_aload_n rfl) ?_
    refine rr rfl (s_getf f62 rfl) ?_
    refine rr rfl (s_iload_n rfl) ?_
    refine rr rfl (s_iaload (j := 0) rfl f67 rfl) ?_
    refine rr rfl (s_ialdH f65 g14 g10 g11) ?_
    refine rr rfl (s_iconst (v := 1) (by decide)) ?_
    refine rr rfl (s_iadd (v := 5) (by decide)) ?_
    refine rr rfl s_goto ?_
    refine rr rfl (s_istore rfl) ?_
    refine rr rfl (s_iload rfl) ?_
    refine rr rfl (s_aload_n rfl) ?_
    refine rr rfl (s_getf f62 rfl) ?_
    refine rr rfl (s_aload_n rfl) ?_
    refine rr rfl (s_getf f62 rfl) ?_
    refine rr rfl (s_iload_n rfl) ?_
    have f68 : a_at ((((((((((H.set 42 (.inl [x1, 0, 0, 0, 0, 0, 0, 0, 0, 0, 0, 0, 0])).set 43 (.inl [x2, 0, 0, 0, 0, 0, 0, 0, 0, 0, 0, 0, 0])).set 44 (.inl [x3, 0, 0, 0, 0, 0, 0, 0, 0, 0, 0, 0, 0])).set 45 (.inl [x4, 0, 0, 0, 0, 0, 0, 0, 0, 0, 0, 0, 0])).set 46 (.inl [x5, 0, 0, 0, 0, 0, 0, 0, 0, 0, 0, 0, 0])).set 47 (.inl [x6, 0, 0, 0, 0, 0, 0, 0, 0, 0, 0, 0, 0])).set 48 (.inl [x7, 0, 0, 0, 0, 0, 0, 0, 0, 0, 0, 0, 0])).set 49 (.inl [(-1), 0, 0, 0, 0, 0, 0, 0, 0, 0, 0, 0, 0])).set 41 (.inr (.inr (9, [.int 4, .int 1, .ref 42, .ref 43, .ref 44, .ref 45, .ref 46, .ref 47, .ref 48, .ref 49, .ref 50, .ref 51, .int 0, .int 0, .int 0, .int 0, .int 0, .int 0, .int 0, .int 0, .ref 52, .int 0, .ref 53, .int 0, .ref 54, .int 0, .ref 55, .ref 56, .ref 57, .ref 58, .int 0, .ref 59, .ref 60])))).set 51 (.inl ((List.replicate 8 (0 : Int32)).set (Int32.toNatClampNeg x3) 4))) 44 = some (.inl [x3, 0, 0, 0, 0, 0, 0, 0, 0, 0, 0, 0, 0]) := ((at_ne (by decide)).trans ((at_ne (by decide)).trans ((at_ne (by decide)).trans ((at_ne (by decide)).trans ((at_ne (by decide)).trans ((at_ne (by decide)).trans ((at_ne (by decide)).trans (at_eq ((at_ne (by decide)).trans ((at_ne (by decide)).trans F44))))))))))
    refine rr rfl (s_iaload (j := 0) rfl f68 rfl) ?_
    refine rr rfl (s_ialdH f65 rfl g10 g11) ?_
    refine rr rfl (s_icF (by decide)) ?_
    refine rr rfl (s_aload_n rfl) ?_
    refine rr rfl (s_getf f62 rfl) ?_
    refine rr rfl (s_aload_n rfl) ?_
    refine rr rfl (s_getf f62 rfl) ?_
    refine rr rfl (s_iload_n rfl) ?_
    refine rr rfl (s_iaload (j := 0) rfl f68 rfl) ?_
    refine rr rfl (s_iload rfl) ?_
    refine rr rfl (s_iastH (h' := ((((((((((H.set 42 (.inl [x1, 0, 0, 0, 0, 0, 0, 0, 0, 0, 0, 0, 0])).set 43 (.inl [x2, 0, 0, 0, 0, 0, 0, 0, 0, 0, 0, 0, 0])).set 44 (.inl [x3, 0, 0, 0, 0, 0, 0, 0, 0, 0, 0, 0, 0])).set 45 (.inl [x4, 0, 0, 0, 0, 0, 0, 0, 0, 0, 0, 0, 0])).set 46 (.inl [x5, 0, 0, 0, 0, 0, 0, 0, 0, 0, 0, 0, 0])).set 47 (.inl [x6, 0, 0, 0, 0, 0, 0, 0, 0, 0, 0, 0, 0])).set 48 (.inl [x7, 0, 0, 0, 0, 0, 0, 0, 0, 0, 0, 0, 0])).set 49 (.inl [(-1), 0, 0, 0, 0, 0, 0, 0, 0, 0, 0, 0, 0])).set 41 (.inr (.inr (9, [.int 4, .int 1, .ref 42, .ref 43, .ref 44, .ref 45, .ref 46, .ref 47, .ref 48, .ref 49, .ref 50, .ref 51, .int 0, .int 0, .int 0, .int 0, .int 0, .int 0, .int 0, .int 0, .ref 52, .int 0, .ref 53, .int 0, .ref 54, .int 0, .ref 55, .ref 56, .ref 57, .ref 58, .int 0, .ref 59, .ref 60])))).set 51 (.inl ((List.replicate 8 (0 : Int32)).set (Int32.toNatClampNeg x3) 5)))) (v := 5) f65 rfl g10 g11 (len_of f65) (List.set_set ..)) ?_
    refine rr rfl (s_iconst (v := 1) (by decide)) ?_
    refine rr rfl (s_istore_n rfl) ?_
    refine rr rfl (s_iload_n rfl) ?_
    refine rr rfl (s_ifF (by decide)) ?_
    refine rr rfl (s_iload rfl) ?_
    refine rr rfl (s_bipush (v := 8) (by decide)) ?_
    refine rr rfl (s_icF (by decide)) ?_
    refine rr rfl (s_iconst (v := 1) (by decide)) ?_
    refine rr rfl s_goto ?_
    refine rr rfl (s_istore_n rfl) ?_
    refine rr rfl (s_iinc (v := 1) rfl (by decide) rfl) ?_
    refine rr rfl s_goto ?_
    refine rr rfl (s_iload_n rfl) ?_
    refine rr rfl (s_aload_n rfl) ?_
    have f69 : a_at ((((((((((H.set 42 (.inl [x1, 0, 0, 0, 0, 0, 0, 0, 0, 0, 0, 0, 0])).set 43 (.inl [x2, 0, 0, 0, 0, 0, 0, 0, 0, 0, 0, 0, 0])).set 44 (.inl [x3, 0, 0, 0, 0, 0, 0, 0, 0, 0, 0, 0, 0])).set 45 (.inl [x4, 0, 0, 0, 0, 0, 0, 0, 0, 0, 0, 0, 0])).set 46 (.inl [x5, 0, 0, 0, 0, 0, 0, 0, 0, 0, 0, 0, 0])).set 47 (.inl [x6, 0, 0, 0, 0, 0, 0, 0, 0, 0, 0, 0, 0])).set 48 (.inl [x7, 0, 0, 0, 0, 0, 0, 0, 0, 0, 0, 0, 0])).set 49 (.inl [(-1), 0, 0, 0, 0, 0, 0, 0, 0, 0, 0, 0, 0])).set 41 (.inr (.inr (9, [.int 4, .int 1, .ref 42, .ref 43, .ref 44, .ref 45, .ref 46, .ref 47, .ref 48, .ref 49, .ref 50, .ref 51, .int 0, .int 0, .int 0, .int 0, .int 0, .int 0, .int 0, .int 0, .ref 52, .int 0, .ref 53, .int 0, .ref 54, .int 0, .ref 55, .ref 56, .ref 57, .ref 58, .int 0, .ref 59, .ref 60])))).set 51 (.inl ((List.replicate 8 (0 : Int32)).set (Int32.toNatClampNeg x3) 5))) 41 = some (.inr (.inr (9, [.int 4, .int 1, .ref 42, .ref 43, .ref 44, .ref 45, .ref 46, .ref 47, .ref 48, .ref 49, .ref 50, .ref 51, .int 0, .int 0, .int 0, .int 0, .int 0, .int 0, .int 0, .int 0, .ref 52, .int 0, .ref 53, .int 0, .ref 54, .int 0, .ref 55, .ref 56, .ref 57, .ref 58, .int 0, .ref 59, .ref 60]))) := ((at_ne (by decide)).trans f18)
    refine rr rfl (s_getf f69 rfl) ?_
    refine rr rfl (s_icT (by decide)) ?_
    refine rr rfl s_goto ?_
    refine rr rfl (s_iload_n rfl) ?_
    refine rr rfl (s_ifF (by decide)) ?_
    refine rr rfl (s_iload_n rfl) ?_
    refine rr rfl (s_ifF (by decide)) ?_
    refine rr rfl (s_iconst (v := 0) (by decide)) ?_
    refine rr rfl (s_istore_n rfl) ?_
    refine rr rfl (s_iconst (v := 0) (by decide)) ?_
    refine rr rfl (s_istore_n rfl) ?_
    refine rr rfl (s_iload_n rfl) ?_
    refine rr rfl (s_aload_n rfl) ?_
    refine rr rfl (s_getf f69 rfl) ?_
    refine rr rfl (s_icF (by decide)) ?_
    refine rr rfl (s_iconst (v := 0) (by decide)) ?_
    refine rr rfl (s_istore rfl) ?_
    refine rr rfl (s_aload_n rfl) ?_
    refine rr rfl (s_getf f69 rfl) ?_
    refine rr rfl (s_iload_n rfl) ?_
    have f70 : a_at ((((((((((H.set 42 (.inl [x1, 0, 0, 0, 0, 0, 0, 0, 0, 0, 0, 0, 0])).set 43 (.inl [x2, 0, 0, 0, 0, 0, 0, 0, 0, 0, 0, 0, 0])).set 44 (.inl [x3, 0, 0, 0, 0, 0, 0, 0, 0, 0, 0, 0, 0])).set 45 (.inl [x4, 0, 0, 0, 0, 0, 0, 0, 0, 0, 0, 0, 0])).set 46 (.inl [x5, 0, 0, 0, 0, 0, 0, 0, 0, 0, 0, 0, 0])).set 47 (.inl [x6, 0, 0, 0, 0, 0, 0, 0, 0, 0, 0, 0, 0])).set 48 (.inl [x7, 0, 0, 0, 0, 0, 0, 0, 0, 0, 0, 0, 0])).set 49 (.inl [(-1), 0, 0, 0, 0, 0, 0, 0, 0, 0, 0, 0, 0])).set 41 (.inr (.inr (9, [.int 4, .int 1, .ref 42, .ref 43, .ref 44, .ref 45, .ref 46, .ref 47, .ref 48, .ref 49, .ref 50, .ref 51, .int 0, .int 0, .int 0, .int 0, .int 0, .int 0, .int 0, .int 0, .ref 52, .int 0, .ref 53, .int 0, .ref 54, .int 0, .ref 55, .ref 56, .ref 57, .ref 58, .int 0, .ref 59, .ref 60])))).set 51 (.inl ((List.replicate 8 (0 : Int32)).set (Int32.toNatClampNeg x3) 5))) 43 = some (.inl [x2, 0, 0, 0, 0, 0, 0, 0, 0, 0, 0, 0, 0]) := ((at_ne (by decide)).trans ((at_ne (by decide)).trans ((at_ne (by decide)).trans ((at_ne (by decide)).trans ((at_ne (by decide)).trans ((at_ne (by decide)).trans ((at_ne (by decide)).trans ((at_ne (by decide)).trans (at_eq ((at_ne (by decide)).trans F43))))))))))
    refine rr rfl (s_iaload (j := 0) rfl f70 rfl) ?_
    refine rr rfl (s_ifF (ic_nne g1)) ?_
    refine rr rfl (s_aload_n rfl) ?_
    refine rr rfl (s_getf f69 rfl) ?_
    refine rr rfl (s_aload_n rfl) ?_
    refine rr rfl (s_getf f69 rfl) ?_
    refine rr rfl (s_iload_n rfl) ?_
    have f71 : a_at ((((((((((H.set 42 (.inl [x1, 0, 0, 0, 0, 0, 0, 0, 0, 0, 0, 0, 0])).set 43 (.inl [x2, 0, 0, 0, 0, 0, 0, 0, 0, 0, 0, 0, 0])).set 44 (.inl [x3, 0, 0, 0, 0, 0, 0, 0, 0, 0, 0, 0, 0])).set 45 (.inl [x4, 0, 0, 0, 0, 0, 0, 0, 0, 0, 0, 0, 0])).set 46 (.inl [x5, 0, 0, 0, 0, 0, 0, 0, 0, 0, 0, 0, 0])).set 47 (.inl [x6, 0, 0, 0, 0, 0, 0, 0, 0, 0, 0, 0, 0])).set 48 (.inl [x7, 0, 0, 0, 0, 0, 0, 0, 0, 0, 0, 0, 0])).set 49 (.inl [(-1), 0, 0, 0, 0, 0, 0, 0, 0, 0, 0, 0, 0])).set 41 (.inr (.inr (9, [.int 4, .int 1, .ref 42, .ref 43, .ref 44, .ref 45, .ref 46, .ref 47, .ref 48, .ref 49, .ref 50, .ref 51, .int 0, .int 0, .int 0, .int 0, .int 0, .int 0, .int 0, .int 0, .ref 52, .int 0, .ref 53, .int 0, .ref 54, .int 0, .ref 55, .ref 56, .ref 57, .ref 58, .int 0, .ref 59, .ref 60])))).set 51 (.inl ((List.replicate 8 (0 : Int32)).set (Int32.toNatClampNeg x3) 5))) 45 = some (.inl [x4, 0, 0, 0, 0, 0, 0, 0, 0, 0, 0, 0, 0]) := ((at_ne (by decide)).trans ((at_ne (by decide)).trans ((at_ne (by decide)).trans ((at_ne (by decide)).trans ((at_ne (by decide)).trans ((at_ne (by decide)).trans (at_eq ((at_ne (by decide)).trans ((at_ne (by decide)).trans ((at_ne (by decide)).trans F45))))))))))
    refine rr rfl (s_iaload (j := 0) rfl f71 rfl) ?_
    have f72 : a_at ((((((((((H.set 42 (.inl [x1, 0, 0, 0, 0, 0, 0, 0, 0, 0, 0, 0, 0])).set 43 (.inl [x2, 0, 0, 0, 0, 0, 0, 0, 0, 0, 0, 0, 0])).set 44 (.inl [x3, 0, 0, 0, 0, 0, 0, 0, 0, 0, 0, 0, 0])).set 45 (.inl [x4, 0, 0, 0, 0, 0, 0, 0, 0, 0, 0, 0, 0])).set 46 (.inl [x5, 0, 0, 0, 0, 0, 0, 0, 0, 0, 0, 0, 0])).set 47 (.inl [x6, 0, 0, 0, 0, 0, 0, 0, 0, 0, 0, 0, 0])).set 48 (.inl [x7, 0, 0, 0, 0, 0, 0, 0, 0, 0, 0, 0, 0])).set 49 (.inl [(-1), 0, 0, 0, 0, 0, 0, 0, 0, 0, 0, 0, 0])).set 41 (.inr (.inr (9, [.int 4, .int 1, .ref 42, .ref 43, .ref 44, .ref 45, .ref 46, .ref 47, .ref 48, .ref 49, .ref 50, .ref 51, .int 0, .int 0, .int 0, .int 0, .int 0, .int 0, .int 0, .int 0, .ref 52, .int 0, .ref 53, .int 0, .ref 54, .int 0, .ref 55, .ref 56, .ref 57, .ref 58, .int 0, .ref 59, .ref 60])))).set 51 (.inl ((List.replicate 8 (0 : Int32)).set (Int32.toNatClampNeg x3) 5))) 51 = some (.inl ((List.replicate 8 (0 : Int32)).set (Int32.toNatClampNeg x3) 5)) := (at_eq f19)
    refine rr rfl (s_ialdH f72 g12 g10 g11) ?_
    refine rr rfl (s_istore rfl) ?_
    refine rr rfl (s_aload_n rfl) ?_
    refine rr rfl (s_getf f69 rfl) ?_
    refine rr rfl (s_iload_n rfl) ?_
    have f73 : a_at ((((((((((H.set 42 (.inl [x1, 0, 0, 0, 0, 0, 0, 0, 0, 0, 0, 0, 0])).set 43 (.inl [x2, 0, 0, 0, 0, 0, 0, 0, 0, 0, 0, 0, 0])).set 44 (.inl [x3, 0, 0, 0, 0, 0, 0, 0, 0, 0, 0, 0, 0])).set 45 (.inl [x4, 0, 0, 0, 0, 0, 0, 0, 0, 0, 0, 0, 0])).set 46 (.inl [x5, 0, 0, 0, 0, 0, 0, 0, 0, 0, 0, 0, 0])).set 47 (.inl [x6, 0, 0, 0, 0, 0, 0, 0, 0, 0, 0, 0, 0])).set 48 (.inl [x7, 0, 0, 0, 0, 0, 0, 0, 0, 0, 0, 0, 0])).set 49 (.inl [(-1), 0, 0, 0, 0, 0, 0, 0, 0, 0, 0, 0, 0])).set 41 (.inr (.inr (9, [.int 4, .int 1, .ref 42, .ref 43, .ref 44, .ref 45, .ref 46, .ref 47, .ref 48, .ref 49, .ref 50, .ref 51, .int 0, .int 0, .int 0, .int 0, .int 0, .int 0, .int 0, .int 0, .ref 52, .int 0, .ref 53, .int 0, .ref 54, .int 0, .ref 55, .ref 56, .ref 57, .ref 58, .int 0, .ref 59, .ref 60])))).set 51 (.inl ((List.replicate 8 (0 : Int32)).set (Int32.toNatClampNeg x3) 5))) 46 = some (.inl [x5, 0, 0, 0, 0, 0, 0, 0, 0, 0, 0, 0, 0]) := ((at_ne (by decide)).trans ((at_ne (by decide)).trans ((at_ne (by decide)).trans ((at_ne (by decide)).trans ((at_ne (by decide)).trans (at_eq ((at_ne (by decide)).trans ((at_ne (by decide)).trans ((at_ne (by decide)).trans ((at_ne (by decide)).trans F46))))))))))
    refine rr rfl (s_iaload (j := 0) rfl f73 rfl) ?_
    refine rr rfl (s_iconst (v := (-1)) (by decide)) ?_
    refine rr rfl (s_icF (ic_neq g4)) ?_
    refine rr rfl (s_aload_n rfl) ?_
    refine rr rfl (s_getf f69 rfl) ?_
    refine rr rfl (s_aload_n rfl) ?_
    refine rr rfl (s_getf f69 rfl) ?_
    refine rr rfl (s_iload_n rfl) ?_
    refine rr rfl (s_iaload (j := 0) rfl f73 rfl) ?_
    refine rr rfl (s_ialdH f72 g13 g10 g11) ?_
    refine rr rfl (s_iload rfl) ?_
    refine rr rfl (s_icT (by decide)) ?_
    refine rr rfl (s_iload rfl) ?_
    refine rr rfl (s_istore rfl) ?_
    refine rr rfl (s_aload_n rfl) ?_
    refine rr rfl (s_getf f69 rfl) ?_
    refine rr rfl (s_iload_n rfl) ?_
    have f74 : a_at ((((((((((H.set 42 (.inl [x1, 0, 0, 0, 0, 0, 0, 0, 0, 0, 0, 0, 0])).set 43 (.inl [x2, 0, 0, 0, 0, 0, 0, 0, 0, 0, 0, 0, 0])).set 44 (.inl [x3, 0, 0, 0, 0, 0, 0, 0, 0, 0, 0, 0, 0])).set 45 (.inl [x4, 0, 0, 0, 0, 0, 0, 0, 0, 0, 0, 0, 0])).set 46 (.inl [x5, 0, 0, 0, 0, 0, 0, 0, 0, 0, 0, 0, 0])).set 47 (.inl [x6, 0, 0, 0, 0, 0, 0, 0, 0, 0, 0, 0, 0])).set 48 (.inl [x7, 0, 0, 0, 0, 0, 0, 0, 0, 0, 0, 0, 0])).set 49 (.inl [(-1), 0, 0, 0, 0, 0, 0, 0, 0, 0, 0, 0, 0])).set 41 (.inr (.inr (9, [.int 4, .int 1, .ref 42, .ref 43, .ref 44, .ref 45, .ref 46, .ref 47, .ref 48, .ref 49, .ref 50, .ref 51, .int 0, .int 0, .int 0, .int 0, .int 0, .int 0, .int 0, .int 0, .ref 52, .int 0, .ref 53, .int 0, .ref 54, .int 0, .ref 55, .ref 56, .ref 57, .ref 58, .int 0, .ref 59, .ref 60])))).set 51 (.inl ((List.replicate 8 (0 : Int32)).set (Int32.toNatClampNeg x3) 5))) 47 = some (.inl [x6, 0, 0, 0, 0, 0, 0, 0, 0, 0, 0, 0, 0]) := ((at_ne (by decide)).trans ((at_ne (by decide)).trans ((at_ne (by decide)).trans ((at_ne (by decide)).trans (at_eq ((at_ne (by decide)).trans ((at_ne (by decide)).trans ((at_ne (by decide)).trans ((at_ne (by decide)).trans ((at_ne (by decide)).trans F47))))))))))
    refine rr rfl (s_iaload (j := 0) rfl f74 rfl) ?_
    refine rr rfl (s_iconst (v := (-1)) (by decide)) ?_
    refine rr rfl (s_icF (ic_neq g7)) ?_
    refine rr rfl (s_aload_n rfl) ?_
    refine rr rfl (s_getf f69 rfl) ?_
    refine rr rfl (s_aload_n rfl) ?_
    refine rr rfl (s_getf f69 rfl) ?_
    refine rr rfl (s_iload_n rfl) ?_
    refine rr rfl (s_iaload (j := 0) rfl f74 rfl) ?_
    refine rr rfl (s_ialdH f72 g14 g10 g11) ?_
    refine rr rfl (s_iconst (v := 1) (by decide)) ?_
    refine rr rfl (s_iadd (v := 6) (by decide)) ?_
    refine rr rfl (s_iload rfl) ?_
    refine rr rfl (s_icF (by decide)) ?_
    refine rr rfl (s_aload_n rfl) ?_
    refine rr rfl (s_getf f69 rfl) ?_
    refine rr rfl (s_aload_n rfl) ?_
    refine rr rfl (s_getf f69 rfl) ?_
    refine rr rfl (s_iload_n rfl) ?_
    refine rr rfl (s_iaload (j := 0) rfl f74 rfl) ?_
    refine rr rfl (s_ialdH f72 g14 g10 g11) ?_
    refine rr rfl (s_iconst (v := 1) (by decide)) ?_
    refine rr rfl (s_iadd (v := 6) (by decide)) ?_
    refine rr rfl s_goto ?_
    refine rr rfl (s_istore rfl) ?_
    refine rr rfl (s_iload rfl) ?_
    refine rr rfl (s_aload_n rfl) ?_
    refine rr rfl (s_getf f69 rfl) ?_
    refine rr rfl (s_aload_n rfl) ?_
    refine rr rfl (s_getf f69 rfl) ?_
    refine rr rfl (s_iload_n rfl) ?_
    have f75 : a_at ((((((((((H.set 42 (.inl [x1, 0, 0, 0, 0, 0, 0, 0, 0, 0, 0, 0, 0])).set 43 (.inl [x2, 0, 0, 0, 0, 0, 0, 0, 0, 0, 0, 0, 0])).set 44 (.inl [x3, 0, 0, 0, 0, 0, 0, 0, 0, 0, 0, 0, 0])).set 45 (.inl [x4, 0, 0, 0, 0, 0, 0, 0, 0, 0, 0, 0, 0])).set 46 (.inl [x5, 0, 0, 0, 0, 0, 0, 0, 0, 0, 0, 0, 0])).set 47 (.inl [x6, 0, 0, 0, 0, 0, 0, 0, 0, 0, 0, 0, 0])).set 48 (.inl [x7, 0, 0, 0, 0, 0, 0, 0, 0, 0, 0, 0, 0])).set 49 (.inl [(-1), 0, 0, 0, 0, 0, 0, 0, 0, 0, 0, 0, 0])).set 41 (.inr (.inr (9, [.int 4, .int 1, .ref 42, .ref 43, .ref 44, .ref 45, .ref 46, .ref 47, .ref 48, .ref 49, .ref 50, .ref 51, .int 0, .int 0, .int 0, .int 0, .int 0, .int 0, .int 0, .int 0, .ref 52, .int 0, .ref 53, .int 0, .ref 54, .int 0, .ref 55, .ref 56, .ref 57, .ref 58, .int 0, .ref 59, .ref 60])))).set 51 (.inl ((List.replicate 8 (0 : Int32)).set (Int32.toNatClampNeg x3) 5))) 44 = some (.inl [x3, 0, 0, 0, 0, 0, 0, 0, 0, 0, 0, 0, 0]) := ((at_ne (by decide)).trans ((at_ne (by decide)).trans ((at_ne (by decide)).trans ((at_ne (by decide)).trans ((at_ne (by decide)).trans ((at_ne (by decide)).trans ((at_ne (by decide)).trans (at_eq ((at_ne (by decide)).trans ((at_ne (by decide)).trans F44))))))))))
    refine rr rfl (s_iaload (j := 0) rfl f75 rfl) ?_
    refine rr rfl (s_ialdH f72 rfl g10 g11) ?_
    refine rr rfl (s_icF (by decide)) ?_
    refine rr rfl (s_aload_n rfl) ?_
    refine rr rfl (s_getf f69 rfl) ?_
    refine rr rfl (s_aload_n rfl) ?_
    refine rr rfl (s_getf f69 rfl) ?_
    refine rr rfl (s_iload_n rfl) ?_
    refine rr rfl (s_iaload (j := 0) rfl f75 rfl) ?_
    refine rr rfl (s_iload rfl) ?_
    refine rr rfl (s_iastH (h' := ((((((((((H.set 42 (.inl [x1, 0, 0, 0, 0, 0, 0, 0, 0, 0, 0, 0, 0])).set 43 (.inl [x2, 0, 0, 0, 0, 0, 0, 0, 0, 0, 0, 0, 0])).set 44 (.inl [x3, 0, 0, 0, 0, 0, 0, 0, 0, 0, 0, 0, 0])).set 45 (.inl [x4, 0, 0, 0, 0, 0, 0, 0, 0, 0, 0, 0, 0])).set 46 (.inl [x5, 0, 0, 0, 0, 0, 0, 0, 0, 0, 0, 0, 0])).set 47 (.inl [x6, 0, 0, 0, 0, 0, 0, 0, 0, 0, 0, 0, 0])).set 48 (.inl [x7, 0, 0, 0, 0, 0, 0, 0, 0, 0, 0, 0, 0])).set 49 (.inl [(-1), 0, 0, 0, 0, 0, 0, 0, 0, 0, 0, 0, 0])).set 41 (.inr (.inr (9, [.int 4, .int 1, .ref 42, .ref 43, .ref 44, .ref 45, .ref 46, .ref 47, .ref 48, .ref 49, .ref 50, .ref 51, .int 0, .int 0, .int 0, .int 0, .int 0, .int 0, .int 0, .int 0, .ref 52, .int 0, .ref 53, .int 0, .ref 54, .int 0, .ref 55, .ref 56, .ref 57, .ref 58, .int 0, .ref 59, .ref 60])))).set 51 (.inl ((List.replicate 8 (0 : Int32)).set (Int32.toNatClampNeg x3) 6)))) (v := 6) f72 rfl g10 g11 (len_of f72) (List.set_set ..)) ?_
    refine rr rfl (s_iconst (v := 1) (by decide)) ?_
    refine rr rfl (s_istore_n rfl) ?_
    refine rr rfl (s_iload_n rfl) ?_
    refine rr rfl (s_ifF (by decide)) ?_
    refine rr rfl (s_iload rfl) ?_
    refine rr rfl (s_bipush (v := 8) (by decide)) ?_
    refine rr rfl (s_icF (by decide)) ?_
    refine rr rfl (s_iconst (v := 1) (by decide)) ?_
    refine rr rfl s_goto ?_
    refine rr rfl (s_istore_n rfl) ?_
    refine rr rfl (s_iinc (v := 1) rfl (by decide) rfl) ?_
    refine rr rfl s_goto ?_
    refine rr rfl (s_iload_n rfl) ?_
    refine rr rfl (s_aload_n rfl) ?_
    have f76 : a_at ((((((((((H.set 42 (.inl [x1, 0, 0, 0, 0, 0, 0, 0, 0, 0, 0, 0, 0])).set 43 (.inl [x2, 0, 0, 0, 0, 0, 0, 0, 0, 0, 0, 0, 0])).set 44 (.inl [x3, 0, 0, 0, 0, 0, 0, 0, 0, 0, 0, 0, 0])).set 45 (.inl [x4, 0, 0, 0, 0, 0, 0, 0, 0, 0, 0, 0, 0])).set 46 (.inl [x5, 0, 0, 0, 0, 0, 0, 0, 0, 0, 0, 0, 0])).set 47 (.inl [x6, 0, 0, 0, 0, 0, 0, 0, 0, 0, 0, 0, 0])).set 48 (.inl [x7, 0, 0, 0, 0, 0, 0, 0, 0, 0, 0, 0, 0])).set 49 (.inl [(-1), 0, 0, 0, 0, 0, 0, 0, 0, 0, 0, 0, 0])).set 41 (.inr (.inr (9, [.int 4, .int 1, .ref 42, .ref 43, .ref 44, .ref 45, .ref 46, .ref 47, .ref 48, .ref 49, .ref 50, .ref 51, .int 0, .int 0, .int 0, .int 0, .int 0, .int 0, .int 0, .int 0, .ref 52, .int 0, .ref 53, .int 0, .ref 54, .int 0, .ref 55, .ref 56, .ref 57, .ref 58, .int 0, .ref 59, .ref 60])))).set 51 (.inl ((List.replicate 8 (0 : Int32)).set (Int32.toNatClampNeg x3) 6))) 41 = some (.inr (.inr (9, [.int 4, .int 1, .ref 42, .ref 43, .ref 44, .ref 45, .ref 46, .ref 47, .ref 48, .ref 49, .ref 50, .ref 51, .int 0, .int 0, .int 0, .int 0, .int 0, .int 0, .int 0, .int 0, .ref 52, .int 0, .ref 53, .int 0, .ref 54, .int 0, .ref 55, .ref 56, .ref 57, .ref 58, .int 0, .ref 59, .ref 60]))) := ((at_ne (by decide)).trans f18)
    refine rr rfl (s_getf f76 rfl) ?_
    refine rr rfl (s_icT (by decide)) ?_
    refine rr rfl s_goto ?_
    refine rr rfl (s_iload_n rfl) ?_
    refine rr rfl (s_ifF (by decide)) ?_
    refine rr rfl (s_iload_n rfl) ?_
    refine rr rfl (s_ifF (by decide)) ?_
    refine rr rfl (s_iconst (v := 0) (by decide)) ?_
    refine rr rfl (s_istore_n rfl) ?_
    refine rr rfl (s_iconst (v := 0) (by decide)) ?_
    refine rr rfl (s_istore_n rfl) ?_
    refine rr rfl (s_iload_n rfl) ?_
    refine rr rfl (s_aload_n rfl) ?_
    refine rr rfl (s_getf f76 rfl) ?_
    refine rr rfl (s_icF (by decide)) ?_
    refine rr rfl (s_iconst (v := 0) (by decide)) ?_
    refine rr rfl (s_istore rfl) ?_
    refine rr rfl (s_aload_n rfl) ?_
    refine rr rfl (s_getf f76 rfl) ?_
    refine rr rfl (s_iload_n rfl) ?_
    have f77 : a_at ((((((((((H.set 42 (.inl [x1, 0, 0, 0, 0, 0, 0, 0, 0, 0, 0, 0, 0])).set 43 (.inl [x2, 0, 0, 0, 0, 0, 0, 0, 0, 0, 0, 0, 0])).set 44 (.inl [x3, 0, 0, 0, 0, 0, 0, 0, 0, 0, 0, 0, 0])).set 45 (.inl [x4, 0, 0, 0, 0, 0, 0, 0, 0, 0, 0, 0, 0])).set 46 (.inl [x5, 0, 0, 0, 0, 0, 0, 0, 0, 0, 0, 0, 0])).set 47 (.inl [x6, 0, 0, 0, 0, 0, 0, 0, 0, 0, 0, 0, 0])).set 48 (.inl [x7, 0, 0, 0, 0, 0, 0, 0, 0, 0, 0, 0, 0])).set 49 (.inl [(-1), 0, 0, 0, 0, 0, 0, 0, 0, 0, 0, 0, 0])).set 41 (.inr (.inr (9, [.int 4, .int 1, .ref 42, .ref 43, .ref 44, .ref 45, .ref 46, .ref 47, .ref 48, .ref 49, .ref 50, .ref 51, .int 0, .int 0, .int 0, .int 0, .int 0, .int 0, .int 0, .int 0, .ref 52, .int 0, .ref 53, .int 0, .ref 54, .int 0, .ref 55, .ref 56, .ref 57, .ref 58, .int 0, .ref 59, .ref 60])))).set 51 (.inl ((List.replicate 8 (0 : Int32)).set (Int32.toNatClampNeg x3) 6))) 43 = some (.inl [x2, 0, 0, 0, 0, 0, 0, 0, 0, 0, 0, 0, 0]) := ((at_ne (by decide)).trans ((at_ne (by decide)).trans ((at_ne (by decide)).trans ((at_ne (by decide)).trans ((at_ne (by decide)).trans ((at_ne (by decide)).trans ((at_ne (by decide)).trans ((at_ne (by decide)).trans (at_eq ((at_ne (by decide)).trans F43))))))))))
    refine rr rfl (s_iaload (j := 0) rfl f77 rfl) ?_
    refine rr rfl (s_ifF (ic_nne g1)) ?_
    refine rr rfl (s_aload_n rfl) ?_
    refine rr rfl (s_getf f76 rfl) ?_
    refine rr rfl (s_aload_n rfl) ?_
    refine rr rfl (s_getf f76 rfl) ?_
    refine rr rfl (s_iload_n rfl) ?_
    have f78 : a_at ((((((((((H.set 42 (.inl [x1, 0, 0, 0, 0, 0, 0, 0, 0, 0, 0, 0, 0])).set 43 (.inl [x2, 0, 0, 0, 0, 0, 0, 0, 0, 0, 0, 0, 0])).set 44 (.inl [x3, 0, 0, 0, 0, 0, 0, 0, 0, 0, 0, 0, 0])).set 45 (.inl [x4, 0, 0, 0, 0, 0, 0, 0, 0, 0, 0, 0, 0])).set 46 (.inl [x5, 0, 0, 0, 0, 0, 0, 0, 0, 0, 0, 0, 0])).set 47 (.inl [x6, 0, 0, 0, 0, 0, 0, 0, 0, 0, 0, 0, 0])).set 48 (.inl [x7, 0, 0, 0, 0, 0, 0, 0, 0, 0, 0, 0, 0])).set 49 (.inl [(-1), 0, 0, 0, 0, 0, 0, 0, 0, 0, 0, 0, 0])).set 41 (.inr (.inr (9, [.int 4, .int 1, .ref 42, .ref 43, .ref 44, .ref 45, .ref 46, .ref 47, .ref 48, .ref 49, .ref 50, .ref 51, .int 0, .int 0, .int 0, .int 0, .int 0, .int 0, .int 0, .int 0, .ref 52, .int 0, .ref 53, .int 0, .ref 54, .int 0, .ref 55, .ref 56, .ref 57, .ref 58, .int 0, .ref 59, .ref 60])))).set 51 (.inl ((List.replicate 8 (0 : Int32)).set (Int32.toNatClampNeg x3) 6))) 45 = some (.inl [x4, 0, 0, 0, 0, 0, 0, 0, 0, 0, 0, 0, 0]) := ((at_ne (by decide)).trans ((at_ne (by decide)).trans ((at_ne (by decide)).trans ((at_ne (by decide)).trans ((at_ne (by decide)).trans ((at_ne (by decide)).trans (at_eq ((at_ne (by decide)).trans ((at_ne (by decide)).trans ((at_ne (by decide)).trans F45))))))))))
    refine rr rfl (s_iaload (j := 0) rfl f78 rfl) ?_
    have f79 : a_at ((((((((((H.set 42 (.inl [x1, 0, 0, 0, 0, 0, 0, 0, 0, 0, 0, 0, 0])).set 43 (.inl [x2, 0, 0, 0, 0, 0, 0, 0, 0, 0, 0, 0, 0])).set 44 (.inl [x3, 0, 0, 0, 0, 0, 0, 0, 0, 0, 0, 0, 0])).set 45 (.inl [x4, 0, 0, 0, 0, 0, 0, 0, 0, 0, 0, 0, 0])).set 46 (.inl [x5, 0, 0, 0, 0, 0, 0, 0, 0, 0, 0, 0, 0])).set 47 (.inl [x6, 0, 0, 0, 0, 0, 0, 0, 0, 0, 0, 0, 0])).set 48 (.inl [x7, 0, 0, 0, 0, 0, 0, 0, 0, 0, 0, 0, 0])).set 49 (.inl [(-1), 0, 0, 0, 0, 0, 0, 0, 0, 0, 0, 0, 0])).set 41 (.inr (.inr (9, [.int 4, .int 1, .ref 42, .ref 43, .ref 44, .ref 45, .ref 46, .ref 47, .ref 48, .ref 49, .ref 50, .ref 51, .int 0, .int 0, .int 0, .int 0, .int 0, .int 0, .int 0, .int 0, .ref 52, .int 0, .ref 53, .int 0, .ref 54, .int 0, .ref 55, .ref 56, .ref 57, .ref 58, .int 0, .ref 59, .ref 60])))).set 51 (.inl ((List.replicate 8 (0 : Int32)).set (Int32.toNatClampNeg x3) 6))) 51 = some (.inl ((List.replicate 8 (0 : Int32)).set (Int32.toNatClampNeg x3) 6)) := (at_eq f19)
    refine rr rfl (s_ialdH f79 g12 g10 g11) ?_
    refine rr rfl (s_istore rfl) ?_
    refine rr rfl (s_aload_n rfl) ?_
    refine rr rfl (s_getf f76 rfl) ?_
    refine rr rfl (s_iload_n rfl) ?_
    have f80 : a_at ((((((((((H.set 42 (.inl [x1, 0, 0, 0, 0, 0, 0, 0, 0, 0, 0, 0, 0])).set 43 (.inl [x2, 0, 0, 0, 0, 0, 0, 0, 0, 0, 0, 0, 0])).set 44 (.inl [x3, 0, 0, 0, 0, 0, 0, 0, 0, 0, 0, 0, 0])).set 45 (.inl [x4, 0, 0, 0, 0, 0, 0, 0, 0, 0, 0, 0, 0])).set 46 (.inl [x5, 0, 0, 0, 0, 0, 0, 0, 0, 0, 0, 0, 0])).set 47 (.inl [x6, 0, 0, 0, 0, 0, 0, 0, 0, 0, 0, 0, 0])).set 48 (.inl [x7, 0, 0, 0, 0, 0, 0, 0, 0, 0, 0, 0, 0])).set 49 (.inl [(-1), 0, 0, 0, 0, 0, 0, 0, 0, 0, 0, 0, 0])).set 41 (.inr (.inr (9, [.int 4, .int 1, .ref 42, .ref 43, .ref 44, .ref 45, .ref 46, .ref 47, .ref 48, .ref 49, .ref 50, .ref 51, .int 0, .int 0, .int 0, .int 0, .int 0, .int 0, .int 0, .int 0, .ref 52, .int 0, .ref 53, .int 0, .ref 54, .int 0, .ref 55, .ref 56, .ref 57, .ref 58, .int 0, .ref 59, .ref 60])))).set 51 (.inl ((List.replicate 8 (0 : Int32)).set (Int32.toNatClampNeg x3) 6))) 46 = some (.inl [x5, 0, 0, 0, 0, 0, 0, 0, 0, 0, 0, 0, 0]) := ((at_ne (by decide)).trans ((at_ne (by decide)).trans ((at_ne (by decide)).trans ((at_ne (by decide)).trans ((at_ne (by decide)).trans (at_eq ((at_ne (by decide)).trans ((at_ne (by decide)).trans ((at_ne (by decide)).trans ((at_ne (by decide)).trans F46))))))))))
    refine rr rfl (s_iaload (j := 0) rfl f80 rfl) ?_
    refine rr rfl (s_iconst (v := (-1)) (by decide)) ?_
    refine rr rfl (s_icF (ic_neq g4)) ?_
    refine rr rfl (s_aload_n rfl) ?_
    refine rr rfl (s_getf f76 rfl) ?_
    refine rr rfl (s_aload_n rfl) ?_
    refine rr rfl (s_getf f76 rfl) ?_
    refine rr rfl (s_iload_n rfl) ?_
    refine rr rfl (s_iaload (j := 0) rfl f80 rfl) ?_
    refine rr rfl (s_ialdH f79 g13 g10 g11) ?_
    refine rr rfl (s_iload rfl) ?_
    refine rr rfl (s_icT (by decide)) ?_
    refine rr rfl (s_iload rfl) ?_
    refine rr rfl (s_istore rfl) ?_
    refine rr rfl (s_aload_n rfl) ?_
    refine rr rfl (s_getf f76 rfl) ?_
    refine rr rfl (s_iload_n rfl) ?_
    have f81 : a_at ((((((((((H.set 42 (.inl [x1, 0, 0, 0, 0, 0, 0, 0, 0, 0, 0, 0, 0])).set 43 (.inl [x2, 0, 0, 0, 0, 0, 0, 0, 0, 0, 0, 0, 0])).set 44 (.inl [x3, 0, 0, 0, 0, 0, 0, 0, 0, 0, 0, 0, 0])).set 45 (.inl [x4, 0, 0, 0, 0, 0, 0, 0, 0, 0, 0, 0, 0])).set 46 (.inl [x5, 0, 0, 0, 0, 0, 0, 0, 0, 0, 0, 0, 0])).set 47 (.inl [x6, 0, 0, 0, 0, 0, 0, 0, 0, 0, 0, 0, 0])).set 48 (.inl [x7, 0, 0, 0, 0, 0, 0, 0, 0, 0, 0, 0, 0])).set 49 (.inl [(-1), 0, 0, 0, 0, 0, 0, 0, 0, 0, 0, 0, 0])).set 41 (.inr (.inr (9, [.int 4, .int 1, .ref 42, .ref 43, .ref 44, .ref 45, .ref 46, .ref 47, .ref 48, .ref 49, .ref 50, .ref 51, .int 0, .int 0, .int 0, .int 0, .int 0, .int 0, .int 0, .int 0, .ref 52, .int 0, .ref 53, .int 0, .ref 54, .int 0, .ref 55, .ref 56, .ref 57, .ref 58, .int 0, .ref 59, .ref 60])))).set 51 (.inl ((List.replicate 8 (0 : Int32)).set (Int32.toNatClampNeg x3) 6))) 47 = some (.inl [x6, 0, 0, 0, 0, 0, 0, 0, 0, 0, 0, 0, 0]) := ((at_ne (by decide)).trans ((at_ne (by decide)).trans ((at_ne (by decide)).trans ((at_ne (by decide)).trans (at_eq ((at_ne (by decide)).trans ((at_ne (by decide)).trans ((at_ne (by decide)).trans ((at_ne (by decide)).trans ((at_ne (by decide)).trans F47))))))))))
    refine rr rfl (s_iaload (j := 0) rfl f81 rfl) ?_
    refine rr rfl (s_iconst (v := (-1)) (by decide)) ?_
    refine rr rfl (s_icF (ic_neq g7)) ?_
    refine rr rfl (s_aload_n rfl) ?_
    refine rr rfl (s_getf f76 rfl) ?_
    refine rr rfl (s_aload_n rfl) ?_
    refine rr rfl (s_getf f76 rfl) ?_
    refine rr rfl (s_iload_n rfl) ?_
    refine rr rfl (s_iaload (j := 0) rfl f81 rfl) ?_
    refine rr rfl (s_ialdH f79 g14 g10 g11) ?_
    refine rr rfl (s_iconst (v := 1) (by decide)) ?_
    refine rr rfl (s_iadd (v := 7) (by decide)) ?_
    refine rr rfl (s_iload rfl) ?_
    refine rr rfl (s_icF (by decide)) ?_
    refine rr rfl (s_aload_n rfl) ?_
    refine rr rfl (s_getf f76 rfl) ?_
    refine rr rfl (s_aload_n rfl) ?_
    refine rr rfl (s_getf f76 rfl) ?_
    refine rr rfl (s_iload_n rfl) ?_
    refine rr rfl (s_iaload (j := 0) rfl f81 rfl) ?_
    refine rr rfl (s_ialdH f79 g14 g10 g11) ?_
    refine rr rfl (s_iconst (v := 1) (by decide)) ?_
    refine rr rfl (s_iadd (v := 7) (by decide)) ?_
    refine rr rfl s_goto ?_
    refine rr rfl (s_istore rfl) ?_
    refine rr rfl (s_iload rfl) ?_
    refine rr rfl (s_aload_n rfl) ?_
    refine rr rfl (s_getf f76 rfl) ?_
    refine rr rfl (s_aload_n rfl) ?_
    refine rr rfl (s_getf f76 rfl) ?_
    refine rr rfl (s_iload_n rfl) ?_
    have f82 : a_at ((((((((((H.set 42 (.inl [x1, 0, 0, 0, 0, 0, 0, 0, 0, 0, 0, 0, 0])).set 43 (.inl [x2, 0, 0, 0, 0, 0, 0, 0, 0, 0, 0, 0, 0])).set 44 (.inl [x3, 0, 0, 0, 0, 0, 0, 0, 0, 0, 0, 0, 0])).set 45 (.inl [x4, 0, 0, 0, 0, 0, 0, 0, 0, 0, 0, 0, 0])).set 46 (.inl [x5, 0, 0, 0, 0, 0, 0, 0, 0, 0, 0, 0, 0])).set 47 (.inl [x6, 0, 0, 0, 0, 0, 0, 0, 0, 0, 0, 0, 0])).set 48 (.inl [x7, 0, 0, 0, 0, 0, 0, 0, 0, 0, 0, 0, 0])).set 49 (.inl [(-1), 0, 0, 0, 0, 0, 0, 0, 0, 0, 0, 0, 0])).set 41 (.inr (.inr (9, [.int 4, .int 1, .ref 42, .ref 43, .ref 44, .ref 45, .ref 46, .ref 47, .ref 48, .ref 49, .ref 50, .ref 51, .int 0, .int 0, .int 0, .int 0, .int 0, .int 0, .int 0, .int 0, .ref 52, .int 0, .ref 53, .int 0, .ref 54, .int 0, .ref 55, .ref 56, .ref 57, .ref 58, .int 0, .ref 59, .ref 60])))).set 51 (.inl ((List.replicate 8 (0 : Int32)).set (Int32.toNatClampNeg x3) 6))) 44 = some (.inl [x3, 0, 0, 0, 0, 0, 0, 0, 0, 0, 0, 0, 0]) := ((at_ne (by decide)).trans ((at_ne (by decide)).trans ((at_ne (by decide)).trans ((at_ne (by decide)).trans ((at_ne (by decide)).trans ((at_ne (by decide)).trans ((at_ne (by decide)).trans (at_eq ((at_ne (by decide)).trans ((at_ne (by decide)).trans F44))))))))))
    refine rr rfl (s_iaload (j := 0) rfl f82 rfl) ?_
    refine rr rfl (s_ialdH f79 rfl g10 g11) ?_
    refine rr rfl (s_icF (by decide)) ?_
    refine rr rfl (s_aload_n rfl) ?_
    refine rr rfl (s_getf f76 rfl) ?_
    refine rr rfl (s_aload_n rfl) ?_
    refine rr rfl (s_getf f76 rfl) ?_
    refine rr rfl (s_iload_n rfl) ?_
    refine rr rfl (s_iaload (j := 0) rfl f82 rfl) ?_
    refine rr rfl (s_iload rfl) ?_
    refine rr rfl (s_iastH (h' := ((((((((((H.set 42 (.inl [x1, 0, 0, 0, 0, 0, 0, 0, 0, 0, 0, 0, 0])).set 43 (.inl [x2, 0, 0, 0, 0, 0, 0, 0, 0, 0, 0, 0, 0])).set 44 (.inl [x3, 0, 0, 0, 0, 0, 0, 0, 0, 0, 0, 0, 0])).set 45 (.inl [x4, 0, 0, 0, 0, 0, 0, 0, 0, 0, 0, 0, 0])).set 46 (.inl [x5, 0, 0, 0, 0, 0, 0, 0, 0, 0, 0, 0, 0])).set 47 (.inl [x6, 0, 0, 0, 0, 0, 0, 0, 0, 0, 0, 0, 0])).set 48 (.inl [x7, 0, 0, 0, 0, 0, 0, 0, 0, 0, 0, 0, 0])).set 49 (.inl [(-1), 0, 0, 0, 0, 0, 0, 0, 0, 0, 0, 0, 0])).set 41 (.inr (.inr (9, [.int 4, .int 1, .ref 42, .ref 43, .ref 44, .ref 45, .ref 46, .ref 47, .ref 48, .ref 49, .ref 50, .ref 51, .int 0, .int 0, .int 0, .int 0, .int 0, .int 0, .int 0, .int 0, .ref 52, .int 0, .ref 53, .int 0, .ref 54, .int 0, .ref 55, .ref 56, .ref 57, .ref 58, .int 0, .ref 59, .ref 60])))).set 51 (.inl ((List.replicate 8 (0 : Int32)).set (Int32.toNatClampNeg x3) 7)))) (v := 7) f79 rfl g10 g11 (len_of f79) (List.set_set ..)) ?_
    refine rr rfl (s_iconst (v := 1) (by decide)) ?_
    refine rr rfl (s_istore_n rfl) ?_
    refine rr rfl (s_iload_n rfl) ?_
    refine rr rfl (s_ifF (by decide)) ?_
    refine rr rfl (s_iload rfl) ?_
    refine rr rfl (s_bipush (v := 8) (by decide)) ?_
    refine rr rfl (s_icF (by decide)) ?_
    refine rr rfl (s_iconst (v := 1) (by decide)) ?_
    refine rr rfl s_goto ?_
    refine rr rfl (s_istore_n rfl) ?_
    refine rr rfl (s_iinc (v := 1) rfl (by decide) rfl) ?_
    refine rr rfl s_goto ?_
    refine rr rfl (s_iload_n rfl) ?_
    refine rr rfl (s_aload_n rfl) ?_
    have f83 : a_at ((((((((((H.set 42 (.inl [x1, 0, 0, 0, 0, 0, 0, 0, 0, 0, 0, 0, 0])).set 43 (.inl [x2, 0, 0, 0, 0, 0, 0, 0, 0, 0, 0, 0, 0])).set 44 (.inl [x3, 0, 0, 0, 0, 0, 0, 0, 0, 0, 0, 0, 0])).set 45 (.inl [x4, 0, 0, 0, 0, 0, 0, 0, 0, 0, 0, 0, 0])).set 46 (.inl [x5, 0, 0, 0, 0, 0, 0, 0, 0, 0, 0, 0, 0])).set 47 (.inl [x6, 0, 0, 0, 0, 0, 0, 0, 0, 0, 0, 0, 0])).set 48 (.inl [x7, 0, 0, 0, 0, 0, 0, 0, 0, 0, 0, 0, 0])).set 49 (.inl [(-1), 0, 0, 0, 0, 0, 0, 0, 0, 0, 0, 0, 0])).set 41 (.inr (.inr (9, [.int 4, .int 1, .ref 42, .ref 43, .ref 44, .ref 45, .ref 46, .ref 47, .ref 48, .ref 49, .ref 50, .ref 51, .int 0, .int 0, .int 0, .int 0, .int 0, .int 0, .int 0, .int 0, .ref 52, .int 0, .ref 53, .int 0, .ref 54, .int 0, .ref 55, .ref 56, .ref 57, .ref 58, .int 0, .ref 59, .ref 60])))).set 51 (.inl ((List.replicate 8 (0 : Int32)).set (Int32.toNatClampNeg x3) 7))) 41 = some (.inr (.inr (9, [.int 4, .int 1, .ref 42, .ref 43, .ref 44, .ref 45, .ref 46, .ref 47, .ref 48, .ref 49, .ref 50, .ref 51, .int 0, .int 0, .int 0, .int 0, .int 0, .int 0, .int 0, .int 0, .ref 52, .int 0, .ref 53, .int 0, .ref 54, .int 0, .ref 55, .ref 56, .ref 57, .ref 58, .int 0, .ref 59, .ref 60]))) := ((at_ne (by decide)).trans f18)
    refine rr rfl (s_getf f83 rfl) ?_
    refine rr rfl (s_icT (by decide)) ?_
    refine rr rfl s_goto ?_
    refine rr rfl (s_iload_n rfl) ?_
    refine rr rfl (s_ifF (by decide)) ?_
    refine rr rfl (s_iload_n rfl) ?_
    refine rr rfl (s_ifF (by decide)) ?_
    refine rr rfl (s_iconst (v := 0) (by decide)) ?_
    refine rr rfl (s_istore_n rfl) ?_
    refine rr rfl (s_iconst (v := 0) (by decide)) ?_
    refine rr rfl (s_istore_n rfl) ?_
    refine rr rfl (s_iload_n rfl) ?_
    refine rr rfl (s_aload_n rfl) ?_
    refine rr rfl (s_getf f83 rfl) ?_
    refine rr rfl (s_icF (by decide)) ?_
    refine rr rfl (s_iconst (v := 0) (by decide)) ?_
    refine rr rfl (s_istore rfl) ?_
    refine rr rfl (s_aload_n rfl) ?_
    refine rr rfl (s_getf f83 rfl) ?_
    refine rr rfl (s_iload_n rfl) ?_
    have f84 : a_at ((((((((((H.set 42 (.inl [x1, 0, 0, 0, 0, 0, 0, 0, 0, 0, 0, 0, 0])).set 43 (.inl [x2, 0, 0, 0, 0, 0, 0, 0, 0, 0, 0, 0, 0])).set 44 (.inl [x3, 0, 0, 0, 0, 0, 0, 0, 0, 0, 0, 0, 0])).set 45 (.inl [x4, 0, 0, 0, 0, 0, 0, 0, 0, 0, 0, 0, 0])).set 46 (.inl [x5, 0, 0, 0, 0, 0, 0, 0, 0, 0, 0, 0, 0])).set 47 (.inl [x6, 0, 0, 0, 0, 0, 0, 0, 0, 0, 0, 0, 0])).set 48 (.inl [x7, 0, 0, 0, 0, 0, 0, 0, 0, 0, 0, 0, 0])).set 49 (.inl [(-1), 0, 0, 0, 0, 0, 0, 0, 0, 0, 0, 0, 0])).set 41 (.inr (.inr (9, [.int 4, .int 1, .ref 42, .ref 43, .ref 44, .ref 45, .ref 46, .ref 47, .ref 48, .ref 49, .ref 50, .ref 51, .int 0, .int 0, .int 0, .int 0, .int 0, .int 0, .int 0, .int 0, .ref 52, .int 0, .ref 53, .int 0, .ref 54, .int 0, .ref 55, .ref 56, .ref 57, .ref 58, .int 0, .ref 59, .ref 60])))).set 51 (.inl ((List.replicate 8 (0 : Int32)).set (Int32.toNatClampNeg x3) 7))) 43 = some (.inl [x2, 0, 0, 0, 0, 0, 0, 0, 0, 0, 0, 0, 0]) := ((at_ne (by decide)).trans ((at_ne (by decide)).trans ((at_ne (by decide)).trans ((at_ne (by decide)).trans ((at_ne (by decide)).trans ((at_ne (by decide)).trans ((at_ne (by decide)).trans ((at_ne (by decide)).trans (at_eq ((at_ne (by decide)).trans F43))))))))))
    refine rr rfl (s_iaload (j := 0) rfl f84 rfl) ?_
    refine rr rfl (s_ifF (ic_nne g1)) ?_
    refine rr rfl (s_aload_n rfl) ?_
    refine rr rfl (s_getf f83 rfl) ?_
    refine rr rfl (s_aload_n rfl) ?_
    refine rr rfl (s_getf f83 rfl) ?_
    refine rr rfl (s_iload_n rfl) ?_
    have f85 : a_at ((((((((((H.set 42 (.inl [x1, 0, 0, 0, 0, 0, 0, 0, 0, 0, 0, 0, 0])).set 43 (.inl [x2, 0, 0, 0, 0, 0, 0, 0, 0, 0, 0, 0, 0])).set 44 (.inl [x3, 0, 0, 0, 0, 0, 0, 0, 0, 0, 0, 0, 0])).set 45 (.inl [x4, 0, 0, 0, 0, 0, 0, 0, 0, 0, 0, 0, 0])).set 46 (.inl [x5, 0, 0, 0, 0, 0, 0, 0, 0, 0, 0, 0, 0])).set 47 (.inl [x6, 0, 0, 0, 0, 0, 0, 0, 0, 0, 0, 0, 0])).set 48 (.inl [x7, 0, 0, 0, 0, 0, 0, 0, 0, 0, 0, 0, 0])).set 49 (.inl [(-1), 0, 0, 0, 0, 0, 0, 0, 0, 0, 0, 0, 0])).set 41 (.inr (.inr (9, [.int 4, .int 1, .ref 42, .ref 43, .ref 44, .ref 45, .ref 46, .ref 47, .ref 48, .ref 49, .ref 50, .ref 51, .int 0, .int 0, .int 0, .int 0, .int 0, .int 0, .int 0, .int 0, .ref 52, .int 0, .ref 53, .int 0, .ref 54, .int 0, .ref 55, .ref 56, .ref 57, .ref 58, .int 0, .ref 59, .ref 60])))).set 51 (.inl ((List.replicate 8 (0 : Int32)).set (Int32.toNatClampNeg x3) 7))) 45 = some (.inl [x4, 0, 0, 0, 0, 0, 0, 0, 0, 0, 0, 0, 0]) := ((at_ne (by decide)).trans ((at_ne (by decide)).trans ((at_ne (by decide)).trans ((at_ne (by decide)).trans ((at_ne (by decide)).trans ((at_ne (by decide)).trans (at_eq ((at_ne (by decide)).trans ((at_ne (by decide)).trans ((at_ne (by decide)).trans F45))))))))))
    refine rr rfl (s_iaload (j := 0) rfl f85 rfl) ?_
    have f86 : a_at ((((((((((H.set 42 (.inl [x1, 0, 0, 0, 0, 0, 0, 0, 0, 0, 0, 0, 0])).set 43 (.inl [x2, 0, 0, 0, 0, 0, 0, 0, 0, 0, 0, 0, 0])).set 44 (.inl [x3, 0, 0, 0, 0, 0, 0, 0, 0, 0, 0, 0, 0])).set 45 (.inl [x4, 0, 0, 0, 0, 0, 0, 0, 0, 0, 0, 0, 0])).set 46 (.inl [x5, 0, 0, 0, 0, 0, 0, 0, 0, 0, 0, 0, 0])).set 47 (.inl [x6, 0, 0, 0, 0, 0, 0, 0, 0, 0, 0, 0, 0])).set 48 (.inl [x7, 0, 0, 0, 0, 0, 0, 0, 0, 0, 0, 0, 0])).set 49 (.inl [(-1), 0, 0, 0, 0, 0, 0, 0, 0, 0, 0, 0, 0])).set 41 (.inr (.inr (9, [.int 4, .int 1, .ref 42, .ref 43, .ref 44, .ref 45, .ref 46, .ref 47, .ref 48, .ref 49, .ref 50, .ref 51, .int 0, .int 0, .int 0, .int 0, .int 0, .int 0, .int 0, .int 0, .ref 52, .int 0, .ref 53, .int 0, .ref 54, .int 0, .ref 55, .ref 56, .ref 57, .ref 58, .int 0, .ref 59, .ref 60])))).set 51 (.inl ((List.replicate 8 (0 : Int32)).set (Int32.toNatClampNeg x3) 7))) 51 = some (.inl ((List.replicate 8 (0 : Int32)).set (Int32.toNatClampNeg x3) 7)) := (at_eq f19)
    refine rr rfl (s_ialdH f86 g12 g10 g11) ?_
    refine rr rfl (s_istore rfl) ?_
    refine rr rfl (s_aload_n rfl) ?_
    refine rr rfl (s_getf f83 rfl) ?_
    refine rr rfl (s_iload_n rfl) ?_
    have f87 : a_at ((((((((((H.set 42 (.inl [x1, 0, 0, 0, 0, 0, 0, 0, 0, 0, 0, 0, 0])).set 43 (.inl [x2, 0, 0, 0, 0, 0, 0, 0, 0, 0, 0, 0, 0])).set 44 (.inl [x3, 0, 0, 0, 0, 0, 0, 0, 0, 0, 0, 0, 0])).set 45 (.inl [x4, 0, 0, 0, 0, 0, 0, 0, 0, 0, 0, 0, 0])).set 46 (.inl [x5, 0, 0, 0, 0, 0, 0, 0, 0, 0, 0, 0, 0])).set 47 (.inl [x6, 0, 0, 0, 0, 0, 0, 0, 0, 0, 0, 0, 0])).set 48 (.inl [x7, 0, 0, 0, 0, 0, 0, 0, 0, 0, 0, 0, 0])).set 49 (.inl [(-1), 0, 0, 0, 0, 0, 0, 0, 0, 0, 0, 0, 0])).set 41 (.inr (.inr (9, [.int 4, .int 1, .ref 42, .ref 43, .ref 44, .ref 45, .ref 46, .ref 47, .ref 48, .ref 49, .ref 50, .ref 51, .int 0, .int 0, .int 0, .int 0, .int 0, .int 0, .int 0, .int 0, .ref 52, .int 0, .ref 53, .int 0, .ref 54, .int 0, .ref 55, .ref 56, .ref 57, .ref 58, .int 0, .ref 59, .ref 60])))).set 51 (.inl ((List.replicate 8 (0 : Int32)).set (Int32.toNatClampNeg x3) 7))) 46 = some (.inl [x5, 0, 0, 0, 0, 0, 0, 0, 0, 0, 0, 0, 0]) := ((at_ne (by decide)).trans ((at_ne (by decide)).trans ((at_ne (by decide)).trans ((at_ne (by decide)).trans ((at_ne (by decide)).trans (at_eq ((at_ne (by decide)).trans ((at_ne (by decide)).trans ((at_ne (by decide)).trans ((at_ne (by decide)).trans F46))))))))))
    refine rr rfl (s_iaload (j := 0) rfl f87 rfl) ?_
    refine rr rfl (s_iconst (v := (-1)) (by decide)) ?_
    refine rr rfl (s_icF (ic_neq g4)) ?_
    refine rr rfl (s_aload_n rfl) ?_
    refine rr rfl (s_getf f83 rfl) ?_
    refine rr rfl (s_aload_n rfl) ?_
    refine rr rfl (s_getf f83 rfl) ?_
    refine rr rfl (s_iload_n rfl) ?_
    refine rr rfl (s_iaload (j := 0) rfl f87 rfl) ?_
    refine rr rfl (s_ialdH f86 g13 g10 g11) ?_
    refine rr rfl (s_iload rfl) ?_
    refine rr rfl (s_icT (by decide)) ?_
    refine rr rfl (s_iload rfl) ?_
    refine rr rfl (s_istore rfl) ?_
    refine rr rfl (s_aload_n rfl) ?_
    refine rr rfl (s_getf f83 rfl) ?_
    refine rr rfl (s_iload_n rfl) ?_
    have f88 : a_at ((((((((((H.set 42 (.inl [x1, 0, 0, 0, 0, 0, 0, 0, 0, 0, 0, 0, 0])).set 43 (.inl [x2, 0, 0, 0, 0, 0, 0, 0, 0, 0, 0, 0, 0])).set 44 (.inl [x3, 0, 0, 0, 0, 0, 0, 0, 0, 0, 0, 0, 0])).set 45 (.inl [x4, 0, 0, 0, 0, 0, 0, 0, 0, 0, 0, 0, 0])).set 46 (.inl [x5, 0, 0, 0, 0, 0, 0, 0, 0, 0, 0, 0, 0])).set 47 (.inl [x6, 0, 0, 0, 0, 0, 0, 0, 0, 0, 0, 0, 0])).set 48 (.inl [x7, 0, 0, 0, 0, 0, 0, 0, 0, 0, 0, 0, 0])).set 49 (.inl [(-1), 0, 0, 0, 0, 0, 0, 0, 0, 0, 0, 0, 0])).set 41 (.inr (.inr (9, [.int 4, .int 1, .ref 42, .ref 43, .ref 44, .ref 45, .ref 46, .ref 47, .ref 48, .ref 49, .ref 50, .ref 51, .int 0, .int 0, .int 0, .int 0, .int 0, .int 0, .int 0, .int 0, .ref 52, .int 0, .ref 53, .int 0, .ref 54, .int 0, .ref 55, .ref 56, .ref 57, .ref 58, .int 0, .ref 59, .ref 60])))).set 51 (.inl ((List.replicate 8 (0 : Int32)).set (Int32.toNatClampNeg x3) 7))) 47 = some (.inl [x6, 0, 0, 0, 0, 0, 0, 0, 0, 0, 0, 0, 0]) := ((at_ne (by decide)).trans ((at_ne (by decide)).trans ((at_ne (by decide)).trans ((at_ne (by decide)).trans (at_eq ((at_ne (by decide)).trans ((at_ne (by decide)).trans ((at_ne (by decide)).trans ((at_ne (by decide)).trans ((at_ne (by decide)).trans F47))))))))))
    refine rr rfl (s_iaload (j := 0) rfl f88 rfl) ?_
    refine rr rfl (s_iconst (v := (-1)) (by decide)) ?_
    refine rr rfl (s_icF (ic_neq g7)) ?_
    refine rr rfl (s_aload_n rfl) ?_
    refine rr rfl (s_getf f83 rfl) ?_
    refine rr rfl (s_aload_n rfl) ?_
    refine rr rfl (s_getf f83 rfl) ?_
    refine rr rfl (s_iload_n rfl) ?_
    refine rr rfl (s_iaload (j := 0) rfl f88 rfl) ?_
    refine rr rfl (s_ialdH f86 g14 g10 g11) ?_
    refine rr rfl (s_iconst (v := 1) (by decide)) ?_
    refine rr rfl (s_iadd (v := 8) (by decide)) ?_
    refine rr rfl (s_iload rfl) ?_
    refine rr rfl (s_icF (by decide)) ?_
    refine rr rfl (s_aload_n rfl) ?_
    refine rr rfl (s_getf f83 rfl) ?_
    refine rr rfl (s_aload_n rfl) ?_
    refine rr rfl (s_getf f83 rfl) ?_
    refine rr rfl (s_iload_n rfl) ?_
    refine rr rfl (s_iaload (j := 0) rfl f88 rfl) ?_
    refine rr rfl (s_ialdH f86 g14 g10 g11) ?_
    refine rr rfl (s_iconst (v := 1) (by decide)) ?_
    refine rr rfl (s_iadd (v := 8) (by decide)) ?_
    refine rr rfl s_goto ?_
    refine rr rfl (s_istore rfl) ?_
    refine rr rfl (s_iload rfl) ?_
    refine rr rfl (s_aload_n rfl) ?_
    refine rr rfl (s_getf f83 rfl) ?_
    refine rr rfl (s_aload_n rfl) ?_
    refine rr rfl (s_getf f83 rfl) ?_
    refine rr rfl (s_iload_n rfl) ?_
    have f89 : a_at ((((((((((H.set 42 (.inl [x1, 0, 0, 0, 0, 0, 0, 0, 0, 0, 0, 0, 0])).set 43 (.inl [x2, 0, 0, 0, 0, 0, 0, 0, 0, 0, 0, 0, 0])).set 44 (.inl [x3, 0, 0, 0, 0, 0, 0, 0, 0, 0, 0, 0, 0])).set 45 (.inl [x4, 0, 0, 0, 0, 0, 0, 0, 0, 0, 0, 0, 0])).set 46 (.inl [x5, 0, 0, 0, 0, 0, 0, 0, 0, 0, 0, 0, 0])).set 47 (.inl [x6, 0, 0, 0, 0, 0, 0, 0, 0, 0, 0, 0, 0])).set 48 (.inl [x7, 0, 0, 0, 0, 0, 0, 0, 0, 0, 0, 0, 0])).set 49 (.inl [(-1), 0, 0, 0, 0, 0, 0, 0, 0, 0, 0, 0, 0])).set 41 (.inr (.inr (9, [.int 4, .int 1, .ref 42, .ref 43, .ref 44, .ref 45, .ref 46, .ref 47, .ref 48, .ref 49, .ref 50, .ref 51, .int 0, .int 0, .int 0, .int 0, .int 0, .int 0, .int 0, .int 0, .ref 52, .int 0, .ref 53, .int 0, .ref 54, .int 0, .ref 55, .ref 56, .ref 57, .ref 58, .int 0, .ref 59, .ref 60])))).set 51 (.inl ((List.replicate 8 (0 : Int32)).set (Int32.toNatClampNeg x3) 7))) 44 = some (.inl [x3, 0, 0, 0, 0, 0, 0, 0, 0, 0, 0, 0, 0]) := ((at_ne (by decide)).trans ((at_ne (by decide)).trans ((at_ne (by decide)).trans ((at_ne (by decide)).trans ((at_ne (by decide)).trans ((at_ne (by decide)).trans ((at_ne (by decide)).trans (at_eq ((at_ne (by decide)).trans ((at_ne (by decide)).trans F44))))))))))
    refine rr rfl (s_iaload (j := 0) rfl f89 rfl) ?_
    refine rr rfl (s_ialdH f86 rfl g10 g11) ?_
    refine rr rfl (s_icF (by decide)) ?_
    refine rr rfl (s_aload_n rfl) ?_
    refine rr rfl (s_getf f83 rfl) ?_
    refine rr rfl (s_aload_n rfl) ?_
    refine rr rfl (s_getf f83 rfl) ?_
    refine rr rfl (s_iload_n rfl) ?_
    refine rr rfl (s_iaload (j := 0) rfl f89 rfl) ?_
    refine rr rfl (s_iload rfl) ?_
    refine rr rfl (s_iastH (h' := ((((((((((H.set 42 (.inl [x1, 0, 0, 0, 0, 0, 0, 0, 0, 0, 0, 0, 0])).set 43 (.inl [x2, 0, 0, 0, 0, 0, 0, 0, 0, 0, 0, 0, 0])).set 44 (.inl [x3, 0, 0, 0, 0, 0, 0, 0, 0, 0, 0, 0, 0])).set 45 (.inl [x4, 0, 0, 0, 0, 0, 0, 0, 0, 0, 0, 0, 0])).set 46 (.inl [x5, 0, 0, 0, 0, 0, 0, 0, 0, 0, 0, 0, 0])).set 47 (.inl [x6, 0, 0, 0, 0, 0, 0, 0, 0, 0, 0, 0, 0])).set 48 (.inl [x7, 0, 0, 0, 0, 0, 0, 0, 0, 0, 0, 0, 0])).set 49 (.inl [(-1), 0, 0, 0, 0, 0, 0, 0, 0, 0, 0, 0, 0])).set 41 (.inr (.inr (9, [.int 4, .int 1, .ref 42, .ref 43, .ref 44, .ref 45, .ref 46, .ref 47, .ref 48, .ref 49, .ref 50, .ref 51, .int 0, .int 0, .int 0, .int 0, .int 0, .int 0, .int 0, .int 0, .ref 52, .int 0, .ref 53, .int 0, .ref 54, .int 0, .ref 55, .ref 56, .ref 57, .ref 58, .int 0, .ref 59, .ref 60])))).set 51 (.inl ((List.replicate 8 (0 : Int32)).set (Int32.toNatClampNeg x3) 8)))) (v := 8) f86 rfl g10 g11 (len_of f86) (List.set_set ..)) ?_
    refine rr rfl (s_iconst (v := 1) (by decide)) ?_
    refine rr rfl (s_istore_n rfl) ?_
    refine rr rfl (s_iload_n rfl) ?_
    refine rr rfl (s_ifF (by decide)) ?_
    refine rr rfl (s_iload rfl) ?_
    refine rr rfl (s_bipush (v := 8) (by decide)) ?_
    refine rr rfl (s_icT (by decide)) ?_
    refine rr rfl (s_iconst (v := 0) (by decide)) ?_
    refine rr rfl (s_istore_n rfl) ?_
    refine rr rfl (s_iinc (v := 1) rfl (by decide) rfl) ?_
    refine rr rfl s_goto ?_
    refine rr rfl (s_iload_n rfl) ?_
    refine rr rfl (s_aload_n rfl) ?_
    have f90 : a_at ((((((((((H.set 42 (.inl [x1, 0, 0, 0, 0, 0, 0, 0, 0, 0, 0, 0, 0])).set 43 (.inl [x2, 0, 0, 0, 0, 0, 0, 0, 0, 0, 0, 0, 0])).set 44 (.inl [x3, 0, 0, 0, 0, 0, 0, 0, 0, 0, 0, 0, 0])).set 45 (.inl [x4, 0, 0, 0, 0, 0, 0, 0, 0, 0, 0, 0, 0])).set 46 (.inl [x5, 0, 0, 0, 0, 0, 0, 0, 0, 0, 0, 0, 0])).set 47 (.inl [x6, 0, 0, 0, 0, 0, 0, 0, 0, 0, 0, 0, 0])).set 48 (.inl [x7, 0, 0, 0, 0, 0, 0, 0, 0, 0, 0, 0, 0])).set 49 (.inl [(-1), 0, 0, 0, 0, 0, 0, 0, 0, 0, 0, 0, 0])).set 41 (.inr (.inr (9, [.int 4, .int 1, .ref 42, .ref 43, .ref 44, .ref 45, .ref 46, .ref 47, .ref 48, .ref 49, .ref 50, .ref 51, .int 0, .int 0, .int 0, .int 0, .int 0, .int 0, .int 0, .int 0, .ref 52, .int 0, .ref 53, .int 0, .ref 54, .int 0, .ref 55, .ref 56, .ref 57, .ref 58, .int 0, .ref 59, .ref 60])))).set 51 (.inl ((List.replicate 8 (0 : Int32)).set (Int32.toNatClampNeg x3) 8))) 41 = some (.inr (.inr (9, [.int 4, .int 1, .ref 42, .ref 43, .ref 44, .ref 45, .ref 46, .ref 47, .ref 48, .ref 49, .ref 50, .ref 51, .int 0, .int 0, .int 0, .int 0, .int 0, .int 0, .int 0, .int 0, .ref 52, .int 0, .ref 53, .int 0, .ref 54, .int 0, .ref 55, .ref 56, .ref 57, .ref 58, .int 0, .ref 59, .ref 60]))) := ((at_ne (by decide)).trans f18)
    refine rr rfl (s_getf f90 rfl) ?_
    refine rr rfl (s_icT (by decide)) ?_
    refine rr rfl s_goto ?_
    refine rr rfl (s_iload_n rfl) ?_
    refine rr rfl (s_ifF (by decide)) ?_
    refine rr rfl (s_iload_n rfl) ?_
    refine rr rfl (s_ifT (by decide)) ?_
    refine rr rfl (s_iload_n rfl) ?_
    exact rrt rfl rfl rfl rfl
  refine rrc rfl rfl rfl (do_of g_X9_lays rfl (rok9 f18 rfl rfl) e2) ?_
  refine rr rfl (s_istore rfl) ?_
  refine rr rfl (s_iload rfl) ?_
  refine rr rfl (s_ifT (by decide)) ?_
  refine rr rfl (s_aload_n rfl) ?_
  refine rr rfl s_dup ?_
  have f91 : a_at ((((((((((H.set 42 (.inl [x1, 0, 0, 0, 0, 0, 0, 0, 0, 0, 0, 0, 0])).set 43 (.inl [x2, 0, 0, 0, 0, 0, 0, 0, 0, 0, 0, 0, 0])).set 44 (.inl [x3, 0, 0, 0, 0, 0, 0, 0, 0, 0, 0, 0, 0])).set 45 (.inl [x4, 0, 0, 0, 0, 0, 0, 0, 0, 0, 0, 0, 0])).set 46 (.inl [x5, 0, 0, 0, 0, 0, 0, 0, 0, 0, 0, 0, 0])).set 47 (.inl [x6, 0, 0, 0, 0, 0, 0, 0, 0, 0, 0, 0, 0])).set 48 (.inl [x7, 0, 0, 0, 0, 0, 0, 0, 0, 0, 0, 0, 0])).set 49 (.inl [(-1), 0, 0, 0, 0, 0, 0, 0, 0, 0, 0, 0, 0])).set 41 (.inr (.inr (9, [.int 4, .int 1, .ref 42, .ref 43, .ref 44, .ref 45, .ref 46, .ref 47, .ref 48, .ref 49, .ref 50, .ref 51, .int 0, .int 0, .int 0, .int 0, .int 0, .int 0, .int 0, .int 0, .ref 52, .int 0, .ref 53, .int 0, .ref 54, .int 0, .ref 55, .ref 56, .ref 57, .ref 58, .int 0, .ref 59, .ref 60])))).set 51 (.inl ((List.replicate 8 (0 : Int32)).set (Int32.toNatClampNeg x3) 8))) 41 = some (.inr (.inr (9, [.int 4, .int 1, .ref 42, .ref 43, .ref 44, .ref 45, .ref 46, .ref 47, .ref 48, .ref 49, .ref 50, .ref 51, .int 0, .int 0, .int 0, .int 0, .int 0, .int 0, .int 0, .int 0, .ref 52, .int 0, .ref 53, .int 0, .ref 54, .int 0, .ref 55, .ref 56, .ref 57, .ref 58, .int 0, .ref 59, .ref 60]))) := ((at_ne (by decide)).trans f18)
  refine rr rfl (s_getf f91 rfl) ?_
  refine rr rfl (s_iconst (v := 1) (by decide)) ?_
  refine rr rfl (s_isub (v := 0) (by decide)) ?_
  refine rr rfl (s_putf (h' := (((((((((((H.set 42 (.inl [x1, 0, 0, 0, 0, 0, 0, 0, 0, 0, 0, 0, 0])).set 43 (.inl [x2, 0, 0, 0, 0, 0, 0, 0, 0, 0, 0, 0, 0])).set 44 (.inl [x3, 0, 0, 0, 0, 0, 0, 0, 0, 0, 0, 0, 0])).set 45 (.inl [x4, 0, 0, 0, 0, 0, 0, 0, 0, 0, 0, 0, 0])).set 46 (.inl [x5, 0, 0, 0, 0, 0, 0, 0, 0, 0, 0, 0, 0])).set 47 (.inl [x6, 0, 0, 0, 0, 0, 0, 0, 0, 0, 0, 0, 0])).set 48 (.inl [x7, 0, 0, 0, 0, 0, 0, 0, 0, 0, 0, 0, 0])).set 49 (.inl [(-1), 0, 0, 0, 0, 0, 0, 0, 0, 0, 0, 0, 0])).set 41 (.inr (.inr (9, [.int 4, .int 1, .ref 42, .ref 43, .ref 44, .ref 45, .ref 46, .ref 47, .ref 48, .ref 49, .ref 50, .ref 51, .int 0, .int 0, .int 0, .int 0, .int 0, .int 0, .int 0, .int 0, .ref 52, .int 0, .ref 53, .int 0, .ref 54, .int 0, .ref 55, .ref 56, .ref 57, .ref 58, .int 0, .ref 59, .ref 60])))).set 51 (.inl ((List.replicate 8 (0 : Int32)).set (Int32.toNatClampNeg x3) 8))).set 41 (.inr (.inr (9, [.int 4, .int 0, .ref 42, .ref 43, .ref 44, .ref 45, .ref 46, .ref 47, .ref 48, .ref 49, .ref 50, .ref 51, .int 0, .int 0, .int 0, .int 0, .int 0, .int 0, .int 0, .int 0, .ref 52, .int 0, .ref 53, .int 0, .ref 54, .int 0, .ref 55, .ref 56, .ref 57, .ref 58, .int 0, .ref 59, .ref 60]))))) f91 rfl (Nat.le_of_ble_eq_true rfl) rfl (len_of f91) rfl) ?_
  refine rr rfl (s_aload_n rfl) ?_
  have f92 : a_at (((((((((((H.set 42 (.inl [x1, 0, 0, 0, 0, 0, 0, 0, 0, 0, 0, 0, 0])).set 43 (.inl [x2, 0, 0, 0, 0, 0, 0, 0, 0, 0, 0, 0, 0])).set 44 (.inl [x3, 0, 0, 0, 0, 0, 0, 0, 0, 0, 0, 0, 0])).set 45 (.inl [x4, 0, 0, 0, 0, 0, 0, 0, 0, 0, 0, 0, 0])).set 46 (.inl [x5, 0, 0, 0, 0, 0, 0, 0, 0, 0, 0, 0, 0])).set 47 (.inl [x6, 0, 0, 0, 0, 0, 0, 0, 0, 0, 0, 0, 0])).set 48 (.inl [x7, 0, 0, 0, 0, 0, 0, 0, 0, 0, 0, 0, 0])).set 49 (.inl [(-1), 0, 0, 0, 0, 0, 0, 0, 0, 0, 0, 0, 0])).set 41 (.inr (.inr (9, [.int 4, .int 1, .ref 42, .ref 43, .ref 44, .ref 45, .ref 46, .ref 47, .ref 48, .ref 49, .ref 50, .ref 51, .int 0, .int 0, .int 0, .int 0, .int 0, .int 0, .int 0, .int 0, .ref 52, .int 0, .ref 53, .int 0, .ref 54, .int 0, .ref 55, .ref 56, .ref 57, .ref 58, .int 0, .ref 59, .ref 60])))).set 51 (.inl ((List.replicate 8 (0 : Int32)).set (Int32.toNatClampNeg x3) 8))).set 41 (.inr (.inr (9, [.int 4, .int 0, .ref 42, .ref 43, .ref 44, .ref 45, .ref 46, .ref 47, .ref 48, .ref 49, .ref 50, .ref 51, .int 0, .int 0, .int 0, .int 0, .int 0, .int 0, .int 0, .int 0, .ref 52, .int 0, .ref 53, .int 0, .ref 54, .int 0, .ref 55, .ref 56, .ref 57, .ref 58, .int 0, .ref 59, .ref 60])))) 41 = some (.inr (.inr (9, [.int 4, .int 0, .ref 42, .ref 43, .ref 44, .ref 45, .ref 46, .ref 47, .ref 48, .ref 49, .ref 50, .ref 51, .int 0, .int 0, .int 0, .int 0, .int 0, .int 0, .int 0, .int 0, .ref 52, .int 0, .ref 53, .int 0, .ref 54, .int 0, .ref 55, .ref 56, .ref 57, .ref 58, .int 0, .ref 59, .ref 60]))) := (at_eq f91)
  have e3 : a_m MT [] 100000 10 miX9_lays [.ref 41] (((((((((((H.set 42 (.inl [x1, 0, 0, 0, 0, 0, 0, 0, 0, 0, 0, 0, 0])).set 43 (.inl [x2, 0, 0, 0, 0, 0, 0, 0, 0, 0, 0, 0, 0])).set 44 (.inl [x3, 0, 0, 0, 0, 0, 0, 0, 0, 0, 0, 0, 0])).set 45 (.inl [x4, 0, 0, 0, 0, 0, 0, 0, 0, 0, 0, 0, 0])).set 46 (.inl [x5, 0, 0, 0, 0, 0, 0, 0, 0, 0, 0, 0, 0])).set 47 (.inl [x6, 0, 0, 0, 0, 0, 0, 0, 0, 0, 0, 0, 0])).set 48 (.inl [x7, 0, 0, 0, 0, 0, 0, 0, 0, 0, 0, 0, 0])).set 49 (.inl [(-1), 0, 0, 0, 0, 0, 0, 0, 0, 0, 0, 0, 0])).set 41 (.inr (.inr (9, [.int 4, .int 1, .ref 42, .ref 43, .ref 44, .ref 45, .ref 46, .ref 47, .ref 48, .ref 49, .ref 50, .ref 51, .int 0, .int 0, .int 0, .int 0, .int 0, .int 0, .int 0, .int 0, .ref 52, .int 0, .ref 53, .int 0, .ref 54, .int 0, .ref 55, .ref 56, .ref 57, .ref 58, .int 0, .ref 59, .ref 60])))).set 51 (.inl ((List.replicate 8 (0 : Int32)).set (Int32.toNatClampNeg x3) 8))).set 41 (.inr (.inr (9, [.int 4, .int 0, .ref 42, .ref 43, .ref 44, .ref 45, .ref 46, .ref 47, .ref 48, .ref 49, .ref 50, .ref 51, .int 0, .int 0, .int 0, .int 0, .int 0, .int 0, .int 0, .int 0, .ref 52, .int 0, .ref 53, .int 0, .ref 54, .int 0, .ref 55, .ref 56, .ref 57, .ref 58, .int 0, .ref 59, .ref 60])))) = some (some (.int 1), ((((((((((((H.set 42 (.inl [x1, 0, 0, 0, 0, 0, 0, 0, 0, 0, 0, 0, 0])).set 43 (.inl [x2, 0, 0, 0, 0, 0, 0, 0, 0, 0, 0, 0, 0])).set 44 (.inl [x3, 0, 0, 0, 0, 0, 0, 0, 0, 0, 0, 0, 0])).set 45 (.inl [x4, 0, 0, 0, 0, 0, 0, 0, 0, 0, 0, 0, 0])).set 46 (.inl [x5, 0, 0, 0, 0, 0, 0, 0, 0, 0, 0, 0, 0])).set 47 (.inl [x6, 0, 0, 0, 0, 0, 0, 0, 0, 0, 0, 0, 0])).set 48 (.inl [x7, 0, 0, 0, 0, 0, 0, 0, 0, 0, 0, 0, 0])).set 49 (.inl [(-1), 0, 0, 0, 0, 0, 0, 0, 0, 0, 0, 0, 0])).set 41 (.inr (.inr (9, [.int 4, .int 1, .ref 42, .ref 43, .ref 44, .ref 45, .ref 46, .ref 47, .ref 48, .ref 49, .ref 50, .ref 51, .int 0, .int 0, .int 0, .int 0, .int 0, .int 0, .int 0, .int 0, .ref 52, .int 0, .ref 53, .int 0, .ref 54, .int 0, .ref 55, .ref 56, .ref 57, .ref 58, .int 0, .ref 59, .ref 60])))).set 51 (.inl ((List.replicate 8 (0 : Int32)).set (Int32.toNatClampNeg x3) 8))).set 41 (.inr (.inr (9, [.int 4, .int 0, .ref 42, .ref 43, .ref 44, .ref 45, .ref 46, .ref 47, .ref 48, .ref 49, .ref 50, .ref 51, .int 0, .int 0, .int 0, .int 0, .int 0, .int 0, .int 0, .int 0, .ref 52, .int 0, .ref 53, .int 0, .ref 54, .int 0, .ref 55, .ref 56, .ref 57, .ref 58, .int 0, .ref 59, .ref 60])))).set 51 (.inl (List.replicate 8 0))), 0, 0) := by
    have f93 : a_at (((((((((((H.set 42 (.inl [x1, 0, 0, 0, 0, 0, 0, 0, 0, 0, 0, 0, 0])).set 43 (.inl [x2, 0, 0, 0, 0, 0, 0, 0, 0, 0, 0, 0, 0])).set 44 (.inl [x3, 0, 0, 0, 0, 0, 0, 0, 0, 0, 0, 0, 0])).set 45 (.inl [x4, 0, 0, 0, 0, 0, 0, 0, 0, 0, 0, 0, 0])).set 46 (.inl [x5, 0, 0, 0, 0, 0, 0, 0, 0, 0, 0, 0, 0])).set 47 (.inl [x6, 0, 0, 0, 0, 0, 0, 0, 0, 0, 0, 0, 0])).set 48 (.inl [x7, 0, 0, 0, 0, 0, 0, 0, 0, 0, 0, 0, 0])).set 49 (.inl [(-1), 0, 0, 0, 0, 0, 0, 0, 0, 0, 0, 0, 0])).set 41 (.inr (.inr (9, [.int 4, .int 1, .ref 42, .ref 43, .ref 44, .ref 45, .ref 46, .ref 47, .ref 48, .ref 49, .ref 50, .ref 51, .int 0, .int 0, .int 0, .int 0, .int 0, .int 0, .int 0, .int 0, .ref 52, .int 0, .ref 53, .int 0, .ref 54, .int 0, .ref 55, .ref 56, .ref 57, .ref 58, .int 0, .ref 59, .ref 60])))).set 51 (.inl ((List.replicate 8 (0 : Int32)).set (Int32.toNatClampNeg x3) 8))).set 41 (.inr (.inr (9, [.int 4, .int 0, .ref 42, .ref 43, .ref 44, .ref 45, .ref 46, .ref 47, .ref 48, .ref 49, .ref 50, .ref 51, .int 0, .int 0, .int 0, .int 0, .int 0, .int 0, .int 0, .int 0, .ref 52, .int 0, .ref 53, .int 0, .ref 54, .int 0, .ref 55, .ref 56, .ref 57, .ref 58, .int 0, .ref 59, .ref 60])))) 51 = some (.inl ((List.replicate 8 (0 : Int32)).set (Int32.toNatClampNeg x3) 8)) := ((at_ne (by decide)).trans (at_eq ((at_ne (by decide)).trans ((at_ne (by decide)).trans ((at_ne (by decide)).trans ((at_ne (by decide)).trans ((at_ne (by decide)).trans ((at_ne (by decide)).trans ((at_ne (by decide)).trans ((at_ne (by decide)).trans ((at_ne (by decide)).trans F51)))))))))))
    exact lays0 f92 rfl rfl f93 (by simp) rfl
  refine rrc rfl rfl rfl (do_of g_X9_lays rfl (rok9 f92 rfl rfl) e3) ?_
  refine rr rfl (s_istore rfl) ?_
  refine rr rfl (s_iload rfl) ?_
  refine rr rfl (s_ifT (by decide)) ?_
  refine rr rfl (s_bipush (v := (-3)) (by decide)) ?_
  exact rrt rfl rfl rfl rfl
