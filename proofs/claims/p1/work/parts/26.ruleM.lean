abbrev alQ (x1 x2 x3 x4 x5 x6 x7 : Int32) : AL := [(8, .int 1), (0, .ref 41), (1, .int x1), (2, .int x2), (3, .int x3), (4, .int x4), (5, .int x5), (6, .int x6), (7, .int x7)]
theorem g_X9_lays : a_at MT miX9_lays = some amX9_lays := rfl
theorem g_X9_sets : a_at MT miX9_sets = some amX9_sets := rfl
theorem at_ne {h : AH} {q k : Nat} {c : AC} (hk : q ≠ k) : a_at (h.set q c) k = a_at h k := by rw [a_at_eq, a_at_eq, List.getElem?_set_ne hk]
theorem at_eq {h : AH} {q : Nat} {c x : AC} (hx : a_at h q = some x) : a_at (h.set q c) q = some c := by rw [a_at_eq] at hx ⊢; exact List.getElem?_set_self (lt_of hx)
theorem lays0 {h h' : AH} {fs : List Value} {f : List Int32} (hm : a_at h 41 = some (.inr (.inr (9, fs)))) (h1 : a_at fs 1 = some (.int 0)) (h11 : a_at fs 11 = some (.ref 51)) (hf : a_at h 51 = some (.inl f)) (hl : f.length = 8) (hh' : h.set 51 (.inl (List.replicate 8 0)) = h') : a_m MT [] 100000 10 miX9_lays [.ref 41] h = some (some (.int 1), h', 0, 0) := by
  have hq : 51 < h.length := by rw [a_at_eq] at hf; exact lt_of hf
  obtain ⟨f0, f1, f2, f3, f4, f5, f6, f7, rfl⟩ : ∃ f0 f1 f2 f3 f4 f5 f6 f7 : Int32, f = [f0, f1, f2, f3, f4, f5, f6, f7] := by
    match f, hl with
    | [f0, f1, f2, f3, f4, f5, f6, f7], _ => exact ⟨f0, f1, f2, f3, f4, f5, f6, f7, rfl⟩
  refine me (d := 9) g_X9_lays (Nat.le_of_ble_eq_true rfl) ?_
  refine rr rfl (s_iconst (v := 0) (by decide)) ?_
  refine rr rfl (s_istore_n rfl) ?_
  refine rr rfl (s_iload_n rfl) ?_
  refine rr rfl (s_bipush (v := 8) (by decide)) ?_
  refine rr rfl (s_icF (by decide)) ?_
  refine rr rfl (s_aload_n rfl) ?_
  refine rr rfl (s_getf hm h11) ?_
  refine rr rfl (s_iload_n rfl) ?_
  refine rr rfl (s_iconst (v := 0) (by decide)) ?_
  refine rr rfl (s_iastore (j := 0) (f' := [0, f1, f2, f3, f4, f5, f6, f7]) (h' := h.set 51 (.inl [0, f1, f2, f3, f4, f5, f6, f7])) rfl hf (Nat.le_of_ble_eq_true rfl) rfl hq rfl) ?_
  refine rr rfl (s_iinc (v := 1) rfl (by decide) rfl) ?_
  refine rr rfl s_goto ?_
  refine rr rfl (s_iload_n rfl) ?_
  refine rr rfl (s_bipush (v := 8) (by decide)) ?_
  refine rr rfl (s_icF (by decide)) ?_
  refine rr rfl (s_aload_n rfl) ?_
  refine rr rfl (s_getf ((at_ne (by decide)).trans hm) h11) ?_
  refine rr rfl (s_iload_n rfl) ?_
  refine rr rfl (s_iconst (v := 0) (by decide)) ?_
  refine rr rfl (s_iastore (j := 1) (f' := [0, 0, f2, f3, f4, f5, f6, f7]) (h' := h.set 51 (.inl [0, 0, f2, f3, f4, f5, f6, f7])) rfl (at_eq hf) (Nat.le_of_ble_eq_true rfl) rfl (by rw [List.length_set]; exact hq) (List.set_set ..)) ?_
  refine rr rfl (s_iinc (v := 2) rfl (by decide) rfl) ?_
  refine rr rfl s_goto ?_
  refine rr rfl (s_iload_n rfl) ?_
  refine rr rfl (s_bipush (v := 8) (by decide)) ?_
  refine rr rfl (s_icF (by decide)) ?_
  refine rr rfl (s_aload_n rfl) ?_
  refine rr rfl (s_getf ((at_ne (by decide)).trans hm) h11) ?_
  refine rr rfl (s_iload_n rfl) ?_
  refine rr rfl (s_iconst (v := 0) (by decide)) ?_
  refine rr rfl (s_iastore (j := 2) (f' := [0, 0, 0, f3, f4, f5, f6, f7]) (h' := h.set 51 (.inl [0, 0, 0, f3, f4, f5, f6, f7])) rfl (at_eq hf) (Nat.le_of_ble_eq_true rfl) rfl (by rw [List.length_set]; exact hq) (List.set_set ..)) ?_
  refine rr rfl (s_iinc (v := 3) rfl (by decide) rfl) ?_
  refine rr rfl s_goto ?_
  refine rr rfl (s_iload_n rfl) ?_
  refine rr rfl (s_bipush (v := 8) (by decide)) ?_
  refine rr rfl (s_icF (by decide)) ?_
  refine rr rfl (s_aload_n rfl) ?_
  refine rr rfl (s_getf ((at_ne (by decide)).trans hm) h11) ?_
  refine rr rfl (s_iload_n rfl) ?_
  refine rr rfl (s_iconst (v := 0) (by decide)) ?_
  refine rr rfl (s_iastore (j := 3) (f' := [0, 0, 0, 0, f4, f5, f6, f7]) (h' := h.set 51 (.inl [0, 0, 0, 0, f4, f5, f6, f7])) rfl (at_eq hf) (Nat.le_of_ble_eq_true rfl) rfl (by rw [List.length_set]; exact hq) (List.set_set ..)) ?_
  refine rr rfl (s_iinc (v := 4) rfl (by decide) rfl) ?_
  refine rr rfl s_goto ?_
  refine rr rfl (s_iload_n rfl) ?_
  refine rr rfl (s_bipush (v := 8) (by decide)) ?_
  refine rr rfl (s_icF (by decide)) ?_
  refine rr rfl (s_aload_n rfl) ?_
  refine rr rfl (s_getf ((at_ne (by decide)).trans hm) h11) ?_
  refine rr rfl (s_iload_n rfl) ?_
  refine rr rfl (s_iconst (v := 0) (by decide)) ?_
  refine rr rfl (s_iastore (j := 4) (f' := [0, 0, 0, 0, 0, f5, f6, f7]) (h' := h.set 51 (.inl [0, 0, 0, 0, 0, f5, f6, f7])) rfl (at_eq hf) (Nat.le_of_ble_eq_true rfl) rfl (by rw [List.length_set]; exact hq) (List.set_set ..)) ?_
  refine rr rfl (s_iinc (v := 5) rfl (by decide) rfl) ?_
  refine rr rfl s_goto ?_
  refine rr rfl (s_iload_n rfl) ?_
  refine rr rfl (s_bipush (v := 8) (by decide)) ?_
  refine rr rfl (s_icF (by decide)) ?_
  refine rr rfl (s_aload_n rfl) ?_
  refine rr rfl (s_getf ((at_ne (by decide)).trans hm) h11) ?_
  refine rr rfl (s_iload_n rfl) ?_
  refine rr rfl (s_iconst (v := 0) (by decide)) ?_
  refine rr rfl (s_iastore (j := 5) (f' := [0, 0, 0, 0, 0, 0, f6, f7]) (h' := h.set 51 (.inl [0, 0, 0, 0, 0, 0, f6, f7])) rfl (at_eq hf) (Nat.le_of_ble_eq_true rfl) rfl (by rw [List.length_set]; exact hq) (List.set_set ..)) ?_
  refine rr rfl (s_iinc (v := 6) rfl (by decide) rfl) ?_
  refine rr rfl s_goto ?_
  refine rr rfl (s_iload_n rfl) ?_
  refine rr rfl (s_bipush (v := 8) (by decide)) ?_
  refine rr rfl (s_icF (by decide)) ?_
  refine rr rfl (s_aload_n rfl) ?_
  refine rr rfl (s_getf ((at_ne (by decide)).trans hm) h11) ?_
  refine rr rfl (s_iload_n rfl) ?_
  refine rr rfl (s_iconst (v := 0) (by decide)) ?_
  refine rr rfl (s_iastore (j := 6) (f' := [0, 0, 0, 0, 0, 0, 0, f7]) (h' := h.set 51 (.inl [0, 0, 0, 0, 0, 0, 0, f7])) rfl (at_eq hf) (Nat.le_of_ble_eq_true rfl) rfl (by rw [List.length_set]; exact hq) (List.set_set ..)) ?_
  refine rr rfl (s_iinc (v := 7) rfl (by decide) rfl) ?_
  refine rr rfl s_goto ?_
  refine rr rfl (s_iload_n rfl) ?_
  refine rr rfl (s_bipush (v := 8) (by decide)) ?_
  refine rr rfl (s_icF (by decide)) ?_
  refine rr rfl (s_aload_n rfl) ?_
  refine rr rfl (s_getf ((at_ne (by decide)).trans hm) h11) ?_
  refine rr rfl (s_iload_n rfl) ?_
  refine rr rfl (s_iconst (v := 0) (by decide)) ?_
  refine rr rfl (s_iastore (j := 7) (f' := [0, 0, 0, 0, 0, 0, 0, 0]) (h' := h.set 51 (.inl [0, 0, 0, 0, 0, 0, 0, 0])) rfl (at_eq hf) (Nat.le_of_ble_eq_true rfl) rfl (by rw [List.length_set]; exact hq) (List.set_set ..)) ?_
  refine rr rfl (s_iinc (v := 8) rfl (by decide) rfl) ?_
  refine rr rfl s_goto ?_
  refine rr rfl (s_iload_n rfl) ?_
  refine rr rfl (s_bipush (v := 8) (by decide)) ?_
  refine rr rfl (s_icT (by decide)) ?_
  refine rr rfl (s_iconst (v := 1) (by decide)) ?_
  refine rr rfl (s_istore_n rfl) ?_
  refine rr rfl (s_iconst (v := 1) (by decide)) ?_
  refine rr rfl (s_istore_n rfl) ?_
  refine rr rfl (s_iload_n rfl) ?_
  refine rr rfl (s_ifF (by decide)) ?_
  refine rr rfl (s_iload_n rfl) ?_
  refine rr rfl (s_ifF (by decide)) ?_
  refine rr rfl (s_iconst (v := 0) (by decide)) ?_
  refine rr rfl (s_istore_n rfl) ?_
  refine rr rfl (s_iconst (v := 0) (by decide)) ?_
  refine rr rfl (s_istore_n rfl) ?_
  refine rr rfl (s_iload_n rfl) ?_
  refine rr rfl (s_aload_n rfl) ?_
  refine rr rfl (s_getf ((at_ne (by decide)).trans hm) h1) ?_
  refine rr rfl (s_icT (by decide)) ?_
  refine rr rfl s_goto ?_
  refine rr rfl (s_iload_n rfl) ?_
  refine rr rfl (s_ifT (by decide)) ?_
  refine rr rfl (s_iload_n rfl) ?_
  subst hh'
  exact rrt rfl rfl rfl rfl
set_option maxHeartbeats 4000000 in
set_option maxRecDepth 10000 in
theorem rm_Kmm {x1 x2 x3 x4 x5 x6 x7 : Int32} (g1 : ¬ x2 = 0) (g2 : ¬ x3 < 0) (g3 : x3 < nI 8) : a_run MT [] (a_m MT [] 100000 10) 11 (some .int) tabX9_rule 90000 95 (alQ x1 x2 x3 x4 x5 x6 x7) [] (((hF.set 3 (.inr (.inr (0, [.int 1, .ref 62, .int 1])))).set 6 (.inr (.inr (6, [.ref 2, .ref 7, .ref 8, .ref 9, .int 1])))) ++ [.inr (.inr (2, [.int x1, .int x2, .int x3, .int x4, .int x4, .int x6, .int x7, .int ((1 <<< (x4 &&& 31) : Int32) ||| (1 <<< (x4 &&& 31) : Int32)), .int 0, .int (-1)])), .inr (.inl [some 61, none, none, none, none, none, none, none, none, none])]) 0 0 = some (some (.int 0), ((((((((((((hF.set 3 (.inr (.inr (0, [.int 1, .ref 62, .int 1])))).set 6 (.inr (.inr (6, [.ref 2, .ref 7, .ref 8, .ref 9, .int 1])))).set 41 (.inr (.inr (9, [.int 4, .int 1, .ref 42, .ref 43, .ref 44, .ref 45, .ref 46, .ref 47, .ref 48, .ref 49, .ref 50, .ref 51, .int 0, .int 0, .int 0, .int 0, .int 0, .int 0, .int 0, .int 0, .ref 52, .int 0, .ref 53, .int 0, .ref 54, .int 0, .ref 55, .ref 56, .ref 57, .ref 58, .int 0, .ref 59, .ref 60])))).set 42 (.inl [x1, 0, 0, 0, 0, 0, 0, 0, 0, 0, 0, 0, 0])).set 43 (.inl [x2, 0, 0, 0, 0, 0, 0, 0, 0, 0, 0, 0, 0])).set 44 (.inl [x3, 0, 0, 0, 0, 0, 0, 0, 0, 0, 0, 0, 0])).set 45 (.inl [x4, 0, 0, 0, 0, 0, 0, 0, 0, 0, 0, 0, 0])).set 46 (.inl [x5, 0, 0, 0, 0, 0, 0, 0, 0, 0, 0, 0, 0])).set 47 (.inl [x6, 0, 0, 0, 0, 0, 0, 0, 0, 0, 0, 0, 0])).set 48 (.inl [x7, 0, 0, 0, 0, 0, 0, 0, 0, 0, 0, 0, 0])).set 49 (.inl [(-1), 0, 0, 0, 0, 0, 0, 0, 0, 0, 0, 0, 0])) ++ [.inr (.inr (2, [.int x1, .int x2, .int x3, .int x4, .int x4, .int x6, .int x7, .int ((1 <<< (x4 &&& 31) : Int32) ||| (1 <<< (x4 &&& 31) : Int32)), .int 0, .int (-1)])), .inr (.inl [some 61, none, none, none, none, none, none, none, none, none])]), 0, 0) := by
  refine rr rfl (s_aload_n rfl) ?_
  refine rr rfl (s_aload_n rfl) ?_
  refine rr rfl (s_getf rfl rfl) ?_
  refine rr rfl (s_iload_n rfl) ?_
  refine rr rfl (s_iload_n rfl) ?_
  refine rr rfl (s_iload_n rfl) ?_
  refine rr rfl (s_iload rfl) ?_
  refine rr rfl (s_iload rfl) ?_
  refine rr rfl (s_iload rfl) ?_
  refine rr rfl (s_iload rfl) ?_
  have e1 : a_m MT [] 100000 10 miX9_sets [.ref 41, .int 0, .int x1, .int x2, .int x3, .int x4, .int x5, .int x6, .int x7] (((hF.set 3 (.inr (.inr (0, [.int 1, .ref 62, .int 1])))).set 6 (.inr (.inr (6, [.ref 2, .ref 7, .ref 8, .ref 9, .int 1])))) ++ [.inr (.inr (2, [.int x1, .int x2, .int x3, .int x4, .int x4, .int x6, .int x7, .int ((1 <<< (x4 &&& 31) : Int32) ||| (1 <<< (x4 &&& 31) : Int32)), .int 0, .int (-1)])), .inr (.inl [some 61, none, none, none, none, none, none, none, none, none])]) = some (none, (((((((((((hF.set 3 (.inr (.inr (0, [.int 1, .ref 62, .int 1])))).set 6 (.inr (.inr (6, [.ref 2, .ref 7, .ref 8, .ref 9, .int 1])))).set 42 (.inl [x1, 0, 0, 0, 0, 0, 0, 0, 0, 0, 0, 0, 0])).set 43 (.inl [x2, 0, 0, 0, 0, 0, 0, 0, 0, 0, 0, 0, 0])).set 44 (.inl [x3, 0, 0, 0, 0, 0, 0, 0, 0, 0, 0, 0, 0])).set 45 (.inl [x4, 0, 0, 0, 0, 0, 0, 0, 0, 0, 0, 0, 0])).set 46 (.inl [x5, 0, 0, 0, 0, 0, 0, 0, 0, 0, 0, 0, 0])).set 47 (.inl [x6, 0, 0, 0, 0, 0, 0, 0, 0, 0, 0, 0, 0])).set 48 (.inl [x7, 0, 0, 0, 0, 0, 0, 0, 0, 0, 0, 0, 0])).set 49 (.inl [(-1), 0, 0, 0, 0, 0, 0, 0, 0, 0, 0, 0, 0])) ++ [.inr (.inr (2, [.int x1, .int x2, .int x3, .int x4, .int x4, .int x6, .int x7, .int ((1 <<< (x4 &&& 31) : Int32) ||| (1 <<< (x4 &&& 31) : Int32)), .int 0, .int (-1)])), .inr (.inl [some 61, none, none, none, none, none, none, none, none, none])]), 0, 0) := by
    refine me (d := 9) g_X9_sets (Nat.le_of_ble_eq_true rfl) ?_
    refine rr rfl (s_aload_n rfl) ?_
    refine rr rfl (s_getf rfl rfl) ?_
    refine rr rfl (s_iload_n rfl) ?_
    refine rr rfl (s_iload_n rfl) ?_
    refine rr rfl (s_iastore (j := 0) (f' := [x1, 0, 0, 0, 0, 0, 0, 0, 0, 0, 0, 0, 0]) rfl rfl (Nat.le_of_ble_eq_true rfl) rfl (Nat.le_of_ble_eq_true rfl) rfl (h' := ((((hF.set 3 (.inr (.inr (0, [.int 1, .ref 62, .int 1])))).set 6 (.inr (.inr (6, [.ref 2, .ref 7, .ref 8, .ref 9, .int 1])))).set 42 (.inl [x1, 0, 0, 0, 0, 0, 0, 0, 0, 0, 0, 0, 0])) ++ [.inr (.inr (2, [.int x1, .int x2, .int x3, .int x4, .int x4, .int x6, .int x7, .int ((1 <<< (x4 &&& 31) : Int32) ||| (1 <<< (x4 &&& 31) : Int32)), .int 0, .int (-1)])), .inr (.inl [some 61, none, none, none, none, none, none, none, none, none])]))) ?_
    refine rr rfl (s_aload_n rfl) ?_
    refine rr rfl (s_getf rfl rfl) ?_
    refine rr rfl (s_iload_n rfl) ?_
    refine rr rfl (s_iload_n rfl) ?_
    refine rr rfl (s_iastore (j := 0) (f' := [x2, 0, 0, 0, 0, 0, 0, 0, 0, 0, 0, 0, 0]) rfl rfl (Nat.le_of_ble_eq_true rfl) rfl (Nat.le_of_ble_eq_true rfl) rfl (h' := (((((hF.set 3 (.inr (.inr (0, [.int 1, .ref 62, .int 1])))).set 6 (.inr (.inr (6, [.ref 2, .ref 7, .ref 8, .ref 9, .int 1])))).set 42 (.inl [x1, 0, 0, 0, 0, 0, 0, 0, 0, 0, 0, 0, 0])).set 43 (.inl [x2, 0, 0, 0, 0, 0, 0, 0, 0, 0, 0, 0, 0])) ++ [.inr (.inr (2, [.int x1, .int x2, .int x3, .int x4, .int x4, .int x6, .int x7, .int ((1 <<< (x4 &&& 31) : Int32) ||| (1 <<< (x4 &&& 31) : Int32)), .int 0, .int (-1)])), .inr (.inl [some 61, none, none, none, none, none, none, none, none, none])]))) ?_
    refine rr rfl (s_aload_n rfl) ?_
    refine rr rfl (s_getf rfl rfl) ?_
    refine rr rfl (s_iload_n rfl) ?_
    refine rr rfl (s_iload rfl) ?_
    refine rr rfl (s_iastore (j := 0) (f' := [x3, 0, 0, 0, 0, 0, 0, 0, 0, 0, 0, 0, 0]) rfl rfl (Nat.le_of_ble_eq_true rfl) rfl (Nat.le_of_ble_eq_true rfl) rfl (h' := ((((((hF.set 3 (.inr (.inr (0, [.int 1, .ref 62, .int 1])))).set 6 (.inr (.inr (6, [.ref 2, .ref 7, .ref 8, .ref 9, .int 1])))).set 42 (.inl [x1, 0, 0, 0, 0, 0, 0, 0, 0, 0, 0, 0, 0])).set 43 (.inl [x2, 0, 0, 0, 0, 0, 0, 0, 0, 0, 0, 0, 0])).set 44 (.inl [x3, 0, 0, 0, 0, 0, 0, 0, 0, 0, 0, 0, 0])) ++ [.inr (.inr (2, [.int x1, .int x2, .int x3, .int x4, .int x4, .int x6, .int x7, .int ((1 <<< (x4 &&& 31) : Int32) ||| (1 <<< (x4 &&& 31) : Int32)), .int 0, .int (-1)])), .inr (.inl [some 61, none, none, none, none, none, none, none, none, none])]))) ?_
    refine rr rfl (s_aload_n rfl) ?_
    refine rr rfl (s_getf rfl rfl) ?_
    refine rr rfl (s_iload_n rfl) ?_
    refine rr rfl (s_iload rfl) ?_
    refine rr rfl (s_iastore (j := 0) (f' := [x4, 0, 0, 0, 0, 0, 0, 0, 0, 0, 0, 0, 0]) rfl rfl (Nat.le_of_ble_eq_true rfl) rfl (Nat.le_of_ble_eq_true rfl) rfl (h' := (((((((hF.set 3 (.inr (.inr (0, [.int 1, .ref 62, .int 1])))).set 6 (.inr (.inr (6, [.ref 2, .ref 7, .ref 8, .ref 9, .int 1])))).set 42 (.inl [x1, 0, 0, 0, 0, 0, 0, 0, 0, 0, 0, 0, 0])).set 43 (.inl [x2, 0, 0, 0, 0, 0, 0, 0, 0, 0, 0, 0, 0])).set 44 (.inl [x3, 0, 0, 0, 0, 0, 0, 0, 0, 0, 0, 0, 0])).set 45 (.inl [x4, 0, 0, 0, 0, 0, 0, 0, 0, 0, 0, 0, 0])) ++ [.inr (.inr (2, [.int x1, .int x2, .int x3, .int x4, .int x4, .int x6, .int x7, .int ((1 <<< (x4 &&& 31) : Int32) ||| (1 <<< (x4 &&& 31) : Int32)), .int 0, .int (-1)])), .inr (.inl [some 61, none, none, none, none, none, none, none, none, none])]))) ?_
    refine rr rfl (s_aload_n rfl) ?_
    refine rr rfl (s_getf rfl rfl) ?_
    refine rr rfl (s_iload_n rfl) ?_
    refine rr rfl (s_iload rfl) ?_
    refine rr rfl (s_iastore (j := 0) (f' := [x5, 0, 0, 0, 0, 0, 0, 0, 0, 0, 0, 0, 0]) rfl rfl (Nat.le_of_ble_eq_true rfl) rfl (Nat.le_of_ble_eq_true rfl) rfl (h' := ((((((((hF.set 3 (.inr (.inr (0, [.int 1, .ref 62, .int 1])))).set 6 (.inr (.inr (6, [.ref 2, .ref 7, .ref 8, .ref 9, .int 1])))).set 42 (.inl [x1, 0, 0, 0, 0, 0, 0, 0, 0, 0, 0, 0, 0])).set 43 (.inl [x2, 0, 0, 0, 0, 0, 0, 0, 0, 0, 0, 0, 0])).set 44 (.inl [x3, 0, 0, 0, 0, 0, 0, 0, 0, 0, 0, 0, 0])).set 45 (.inl [x4, 0, 0, 0, 0, 0, 0, 0, 0, 0, 0, 0, 0])).set 46 (.inl [x5, 0, 0, 0, 0, 0, 0, 0, 0, 0, 0, 0, 0])) ++ [.inr (.inr (2, [.int x1, .int x2, .int x3, .int x4, .int x4, .int x6, .int x7, .int ((1 <<< (x4 &&& 31) : Int32) ||| (1 <<< (x4 &&& 31) : Int32)), .int 0, .int (-1)])), .inr (.inl [some 61, none, none, none, none, none, none, none, none, none])]))) ?_
    refine rr rfl (s_aload_n rfl) ?_
    refine rr rfl (s_getf rfl rfl) ?_
    refine rr rfl (s_iload_n rfl) ?_
    refine rr rfl (s_iload rfl) ?_
    refine rr rfl (s_iastore (j := 0) (f' := [x6, 0, 0, 0, 0, 0, 0, 0, 0, 0, 0, 0, 0]) rfl rfl (Nat.le_of_ble_eq_true rfl) rfl (Nat.le_of_ble_eq_true rfl) rfl (h' := (((((((((hF.set 3 (.inr (.inr (0, [.int 1, .ref 62, .int 1])))).set 6 (.inr (.inr (6, [.ref 2, .ref 7, .ref 8, .ref 9, .int 1])))).set 42 (.inl [x1, 0, 0, 0, 0, 0, 0, 0, 0, 0, 0, 0, 0])).set 43 (.inl [x2, 0, 0, 0, 0, 0, 0, 0, 0, 0, 0, 0, 0])).set 44 (.inl [x3, 0, 0, 0, 0, 0, 0, 0, 0, 0, 0, 0, 0])).set 45 (.inl [x4, 0, 0, 0, 0, 0, 0, 0, 0, 0, 0, 0, 0])).set 46 (.inl [x5, 0, 0, 0, 0, 0, 0, 0, 0, 0, 0, 0, 0])).set 47 (.inl [x6, 0, 0, 0, 0, 0, 0, 0, 0, 0, 0, 0, 0])) ++ [.inr (.inr (2, [.int x1, .int x2, .int x3, .int x4, .int x4, .int x6, .int x7, .int ((1 <<< (x4 &&& 31) : Int32) ||| (1 <<< (x4 &&& 31) : Int32)), .int 0, .int (-1)])), .inr (.inl [some 61, none, none, none, none, none, none, none, none, none])]))) ?_
    refine rr rfl (s_aload_n rfl) ?_
    refine rr rfl (s_getf rfl rfl) ?_
    refine rr rfl (s_iload_n rfl) ?_
    refine rr rfl (s_iload rfl) ?_
    refine rr rfl (s_iastore (j := 0) (f' := [x7, 0, 0, 0, 0, 0, 0, 0, 0, 0, 0, 0, 0]) rfl rfl (Nat.le_of_ble_eq_true rfl) rfl (Nat.le_of_ble_eq_true rfl) rfl (h' := ((((((((((hF.set 3 (.inr (.inr (0, [.int 1, .ref 62, .int 1])))).set 6 (.inr (.inr (6, [.ref 2, .ref 7, .ref 8, .ref 9, .int 1])))).set 42 (.inl [x1, 0, 0, 0, 0, 0, 0, 0, 0, 0, 0, 0, 0])).set 43 (.inl [x2, 0, 0, 0, 0, 0, 0, 0, 0, 0, 0, 0, 0])).set 44 (.inl [x3, 0, 0, 0, 0, 0, 0, 0, 0, 0, 0, 0, 0])).set 45 (.inl [x4, 0, 0, 0, 0, 0, 0, 0, 0, 0, 0, 0, 0])).set 46 (.inl [x5, 0, 0, 0, 0, 0, 0, 0, 0, 0, 0, 0, 0])).set 47 (.inl [x6, 0, 0, 0, 0, 0, 0, 0, 0, 0, 0, 0, 0])).set 48 (.inl [x7, 0, 0, 0, 0, 0, 0, 0, 0, 0, 0, 0, 0])) ++ [.inr (.inr (2, [.int x1, .int x2, .int x3, .int x4, .int x4, .int x6, .int x7, .int ((1 <<< (x4 &&& 31) : Int32) ||| (1 <<< (x4 &&& 31) : Int32)), .int 0, .int (-1)])), .inr (.inl [some 61, none, none, none, none, none, none, none, none, none])]))) ?_
    refine rr rfl (s_aload_n rfl) ?_
    refine rr rfl (s_getf rfl rfl) ?_
    refine rr rfl (s_iload_n rfl) ?_
    refine rr rfl (s_iconst (v := (-1)) (by decide)) ?_
    refine rr rfl (s_iastore (j := 0) (f' := [(-1), 0, 0, 0, 0, 0, 0, 0, 0, 0, 0, 0, 0]) rfl rfl (Nat.le_of_ble_eq_true rfl) rfl (Nat.le_of_ble_eq_true rfl) rfl (h' := (((((((((((hF.set 3 (.inr (.inr (0, [.int 1, .ref 62, .int 1])))).set 6 (.inr (.inr (6, [.ref 2, .ref 7, .ref 8, .ref 9, .int 1])))).set 42 (.inl [x1, 0, 0, 0, 0, 0, 0, 0, 0, 0, 0, 0, 0])).set 43 (.inl [x2, 0, 0, 0, 0, 0, 0, 0, 0, 0, 0, 0, 0])).set 44 (.inl [x3, 0, 0, 0, 0, 0, 0, 0, 0, 0, 0, 0, 0])).set 45 (.inl [x4, 0, 0, 0, 0, 0, 0, 0, 0, 0, 0, 0, 0])).set 46 (.inl [x5, 0, 0, 0, 0, 0, 0, 0, 0, 0, 0, 0, 0])).set 47 (.inl [x6, 0, 0, 0, 0, 0, 0, 0, 0, 0, 0, 0, 0])).set 48 (.inl [x7, 0, 0, 0, 0, 0, 0, 0, 0, 0, 0, 0, 0])).set 49 (.inl [(-1), 0, 0, 0, 0, 0, 0, 0, 0, 0, 0, 0, 0])) ++ [.inr (.inr (2, [.int x1, .int x2, .int x3, .int x4, .int x4, .int x6, .int x7, .int ((1 <<< (x4 &&& 31) : Int32) ||| (1 <<< (x4 &&& 31) : Int32)), .int 0, .int (-1)])), .inr (.inl [some 61, none, none, none, none, none, none, none, none, none])]))) ?_
    exact rrt rfl rfl rfl rfl
  refine rrc rfl rfl rfl (do_of g_X9_sets rfl rfl e1) ?_
  refine rr rfl (s_aload_n rfl) ?_
  refine rr rfl rfl ?_
  refine rr rfl (s_getf rfl rfl) ?_
  refine rr rfl (s_iconst (v := 1) (by decide)) ?_
  refine rr rfl (s_iadd (v := 1) (by decide)) ?_
  refine rr rfl (s_putf rfl rfl (Nat.le_of_ble_eq_true rfl) rfl (Nat.le_of_ble_eq_true rfl) rfl (h' := ((((((((((((hF.set 3 (.inr (.inr (0, [.int 1, .ref 62, .int 1])))).set 6 (.inr (.inr (6, [.ref 2, .ref 7, .ref 8, .ref 9, .int 1])))).set 41 (.inr (.inr (9, [.int 4, .int 1, .ref 42, .ref 43, .ref 44, .ref 45, .ref 46, .ref 47, .ref 48, .ref 49, .ref 50, .ref 51, .int 0, .int 0, .int 0, .int 0, .int 0, .int 0, .int 0, .int 0, .ref 52, .int 0, .ref 53, .int 0, .ref 54, .int 0, .ref 55, .ref 56, .ref 57, .ref 58, .int 0, .ref 59, .ref 60])))).set 42 (.inl [x1, 0, 0, 0, 0, 0, 0, 0, 0, 0, 0, 0, 0])).set 43 (.inl [x2, 0, 0, 0, 0, 0, 0, 0, 0, 0, 0, 0, 0])).set 44 (.inl [x3, 0, 0, 0, 0, 0, 0, 0, 0, 0, 0, 0, 0])).set 45 (.inl [x4, 0, 0, 0, 0, 0, 0, 0, 0, 0, 0, 0, 0])).set 46 (.inl [x5, 0, 0, 0, 0, 0, 0, 0, 0, 0, 0, 0, 0])).set 47 (.inl [x6, 0, 0, 0, 0, 0, 0, 0, 0, 0, 0, 0, 0])).set 48 (.inl [x7, 0, 0, 0, 0, 0, 0, 0, 0, 0, 0, 0, 0])).set 49 (.inl [(-1), 0, 0, 0, 0, 0, 0, 0, 0, 0, 0, 0, 0])) ++ [.inr (.inr (2, [.int x1, .int x2, .int x3, .int x4, .int x4, .int x6, .int x7, .int ((1 <<< (x4 &&& 31) : Int32) ||| (1 <<< (x4 &&& 31) : Int32)), .int 0, .int (-1)])), .inr (.inl [some 61, none, none, none, none, none, none, none, none, none])]))) ?_
  refine rr rfl (s_aload_n rfl) ?_
  have e2 : a_m MT [] 100000 10 miX9_lays [.ref 41] ((((((((((((hF.set 3 (.inr (.inr (0, [.int 1, .ref 62, .int 1])))).set 6 (.inr (.inr (6, [.ref 2, .ref 7, .ref 8, .ref 9, .int 1])))).set 41 (.inr (.inr (9, [.int 4, .int 1, .ref 42, .ref 43, .ref 44, .ref 45, .ref 46, .ref 47, .ref 48, .ref 49, .ref 50, .ref 51, .int 0, .int 0, .int 0, .int 0, .int 0, .int 0, .int 0, .int 0, .ref 52, .int 0, .ref 53, .int 0, .ref 54, .int 0, .ref 55, .ref 56, .ref 57, .ref 58, .int 0, .ref 59, .ref 60])))).set 42 (.inl [x1, 0, 0, 0, 0, 0, 0, 0, 0, 0, 0, 0, 0])).set 43 (.inl [x2, 0, 0, 0, 0, 0, 0, 0, 0, 0, 0, 0, 0])).set 44 (.inl [x3, 0, 0, 0, 0, 0, 0, 0, 0, 0, 0, 0, 0])).set 45 (.inl [x4, 0, 0, 0, 0, 0, 0, 0, 0, 0, 0, 0, 0])).set 46 (.inl [x5, 0, 0, 0, 0, 0, 0, 0, 0, 0, 0, 0, 0])).set 47 (.inl [x6, 0, 0, 0, 0, 0, 0, 0, 0, 0, 0, 0, 0])).set 48 (.inl [x7, 0, 0, 0, 0, 0, 0, 0, 0, 0, 0, 0, 0])).set 49 (.inl [(-1), 0, 0, 0, 0, 0, 0, 0, 0, 0, 0, 0, 0])) ++ [.inr (.inr (2, [.int x1, .int x2, .int x3, .int x4, .int x4, .int x6, .int x7, .int ((1 <<< (x4 &&& 31) : Int32) ||| (1 <<< (x4 &&& 31) : Int32)), .int 0, .int (-1)])), .inr (.inl [some 61, none, none, none, none, none, none, none, none, none])]) = some ((some (.int 1)), ((((((((((((hF.set 3 (.inr (.inr (0, [.int 1, .ref 62, .int 1])))).set 6 (.inr (.inr (6, [.ref 2, .ref 7, .ref 8, .ref 9, .int 1])))).set 41 (.inr (.inr (9, [.int 4, .int 1, .ref 42, .ref 43, .ref 44, .ref 45, .ref 46, .ref 47, .ref 48, .ref 49, .ref 50, .ref 51, .int 0, .int 0, .int 0, .int 0, .int 0, .int 0, .int 0, .int 0, .ref 52, .int 0, .ref 53, .int 0, .ref 54, .int 0, .ref 55, .ref 56, .ref 57, .ref 58, .int 0, .ref 59, .ref 60])))).set 42 (.inl [x1, 0, 0, 0, 0, 0, 0, 0, 0, 0, 0, 0, 0])).set 43 (.inl [x2, 0, 0, 0, 0, 0, 0, 0, 0, 0, 0, 0, 0])).set 44 (.inl [x3, 0, 0, 0, 0, 0, 0, 0, 0, 0, 0, 0, 0])).set 45 (.inl [x4, 0, 0, 0, 0, 0, 0, 0, 0, 0, 0, 0, 0])).set 46 (.inl [x5, 0, 0, 0, 0, 0, 0, 0, 0, 0, 0, 0, 0])).set 47 (.inl [x6, 0, 0, 0, 0, 0, 0, 0, 0, 0, 0, 0, 0])).set 48 (.inl [x7, 0, 0, 0, 0, 0, 0, 0, 0, 0, 0, 0, 0])).set 49 (.inl [(-1), 0, 0, 0, 0, 0, 0, 0, 0, 0, 0, 0, 0])) ++ [.inr (.inr (2, [.int x1, .int x2, .int x3, .int x4, .int x4, .int x6, .int x7, .int ((1 <<< (x4 &&& 31) : Int32) ||| (1 <<< (x4 &&& 31) : Int32)), .int 0, .int (-1)])), .inr (.inl [some 61, none, none, none, none, none, none, none, none, none])]), 0, 0) := by
    refine me (d := 9) g_X9_lays (Nat.le_of_ble_eq_true rfl) ?_
    refine rr rfl (s_iconst (v := 0) (by decide)) ?_
    refine rr rfl (s_istore_n rfl) ?_
    refine rr rfl (s_iload_n rfl) ?_
    refine rr rfl (s_bipush (v := 8) (by decide)) ?_
    refine rr rfl (s_icF (by decide)) ?_
    refine rr rfl (s_aload_n rfl) ?_
    refine rr rfl (s_getf rfl rfl) ?_
    refine rr rfl (s_iload_n rfl) ?_
    refine rr rfl (s_iconst (v := 0) (by decide)) ?_
    refine rr rfl (s_iastore (j := 0) (f' := (List.replicate 8 0)) rfl rfl (Nat.le_of_ble_eq_true rfl) rfl (Nat.le_of_ble_eq_true rfl) rfl (h' := ((((((((((((hF.set 3 (.inr (.inr (0, [.int 1, .ref 62, .int 1])))).set 6 (.inr (.inr (6, [.ref 2, .ref 7, .ref 8, .ref 9, .int 1])))).set 41 (.inr (.inr (9, [.int 4, .int 1, .ref 42, .ref 43, .ref 44, .ref 45, .ref 46, .ref 47, .ref 48, .ref 49, .ref 50, .ref 51, .int 0, .int 0, .int 0, .int 0, .int 0, .int 0, .int 0, .int 0, .ref 52, .int 0, .ref 53, .int 0, .ref 54, .int 0, .ref 55, .ref 56, .ref 57, .ref 58, .int 0, .ref 59, .ref 60])))).set 42 (.inl [x1, 0, 0, 0, 0, 0, 0, 0, 0, 0, 0, 0, 0])).set 43 (.inl [x2, 0, 0, 0, 0, 0, 0, 0, 0, 0, 0, 0, 0])).set 44 (.inl [x3, 0, 0, 0, 0, 0, 0, 0, 0, 0, 0, 0, 0])).set 45 (.inl [x4, 0, 0, 0, 0, 0, 0, 0, 0, 0, 0, 0, 0])).set 46 (.inl [x5, 0, 0, 0, 0, 0, 0, 0, 0, 0, 0, 0, 0])).set 47 (.inl [x6, 0, 0, 0, 0, 0, 0, 0, 0, 0, 0, 0, 0])).set 48 (.inl [x7, 0, 0, 0, 0, 0, 0, 0, 0, 0, 0, 0, 0])).set 49 (.inl [(-1), 0, 0, 0, 0, 0, 0, 0, 0, 0, 0, 0, 0])) ++ [.inr (.inr (2, [.int x1, .int x2, .int x3, .int x4, .int x4, .int x6, .int x7, .int ((1 <<< (x4 &&& 31) : Int32) ||| (1 <<< (x4 &&& 31) : Int32)), .int 0, .int (-1)])), .inr (.inl [some 61, none, none, none, none, none, none, none, none, none])]))) ?_
    refine rr rfl (s_iinc (v := 1) rfl (by decide) rfl) ?_
    refine rr rfl s_goto ?_
    refine rr rfl (s_iload_n rfl) ?_
    refine rr rfl (s_bipush (v := 8) (by decide)) ?_
    refine rr rfl (s_icF (by decide)) ?_
    refine rr rfl (s_aload_n rfl) ?_
    refine rr rfl (s_getf rfl rfl) ?_
    refine rr rfl (s_iload_n rfl) ?_
    refine rr rfl (s_iconst (v := 0) (by decide)) ?_
    refine rr rfl (s_iastore (j := 1) (f' := (List.replicate 8 0)) rfl rfl (Nat.le_of_ble_eq_true rfl) rfl (Nat.le_of_ble_eq_true rfl) rfl (h' := ((((((((((((hF.set 3 (.inr (.inr (0, [.int 1, .ref 62, .int 1])))).set 6 (.inr (.inr (6, [.ref 2, .ref 7, .ref 8, .ref 9, .int 1])))).set 41 (.inr (.inr (9, [.int 4, .int 1, .ref 42, .ref 43, .ref 44, .ref 45, .ref 46, .ref 47, .ref 48, .ref 49, .ref 50, .ref 51, .int 0, .int 0, .int 0, .int 0, .int 0, .int 0, .int 0, .int 0, .ref 52, .int 0, .ref 53, .int 0, .ref 54, .int 0, .ref 55, .ref 56, .ref 57, .ref 58, .int 0, .ref 59, .ref 60])))).set 42 (.inl [x1, 0, 0, 0, 0, 0, 0, 0, 0, 0, 0, 0, 0])).set 43 (.inl [x2, 0, 0, 0, 0, 0, 0, 0, 0, 0, 0, 0, 0])).set 44 (.inl [x3, 0, 0, 0, 0, 0, 0, 0, 0, 0, 0, 0, 0])).set 45 (.inl [x4, 0, 0, 0, 0, 0, 0, 0, 0, 0, 0, 0, 0])).set 46 (.inl [x5, 0, 0, 0, 0, 0, 0, 0, 0, 0, 0, 0, 0])).set 47 (.inl [x6, 0, 0, 0, 0, 0, 0, 0, 0, 0, 0, 0, 0])).set 48 (.inl [x7, 0, 0, 0, 0, 0, 0, 0, 0, 0, 0, 0, 0])).set 49 (.inl [(-1), 0, 0, 0, 0, 0, 0, 0, 0, 0, 0, 0, 0])) ++ [.inr (.inr (2, [.int x1, .int x2, .int x3, .int x4, .int x4, .int x6, .int x7, .int ((1 <<< (x4 &&& 31) : Int32) ||| (1 <<< (x4 &&& 31) : Int32)), .int 0, .int (-1)])), .inr (.inl [some 61, none, none, none, none, none, none, none, none, none])]))) ?_
    refine rr rfl (s_iinc (v := 2) rfl (by decide) rfl) ?_
    refine rr rfl s_goto ?_
    refine rr rfl (s_iload_n rfl) ?_
    refine rr rfl (s_bipush (v := 8) (by decide)) ?_
    refine rr rfl (s_icF (by decide)) ?_
    refine rr rfl (s_aload_n rfl) ?_
    refine rr rfl (s_getf rfl rfl) ?_
    refine rr rfl (s_iload_n rfl) ?_
    refine rr rfl (s_iconst (v := 0) (by decide)) ?_
    refine rr rfl (s_iastore (j := 2) (f' := (List.replicate 8 0)) rfl rfl (Nat.le_of_ble_eq_true rfl) rfl (Nat.le_of_ble_eq_true rfl) rfl (h' := ((((((((((((hF.set 3 (.inr (.inr (0, [.int 1, .ref 62, .int 1])))).set 6 (.inr (.inr (6, [.ref 2, .ref 7, .ref 8, .ref 9, .int 1])))).set 41 (.inr (.inr (9, [.int 4, .int 1, .ref 42, .ref 43, .ref 44, .ref 45, .ref 46, .ref 47, .ref 48, .ref 49, .ref 50, .ref 51, .int 0, .int 0, .int 0, .int 0, .int 0, .int 0, .int 0, .int 0, .ref 52, .int 0, .ref 53, .int 0, .ref 54, .int 0, .ref 55, .ref 56, .ref 57, .ref 58, .int 0, .ref 59, .ref 60])))).set 42 (.inl [x1, 0, 0, 0, 0, 0, 0, 0, 0, 0, 0, 0, 0])).set 43 (.inl [x2, 0, 0, 0, 0, 0, 0, 0, 0, 0, 0, 0, 0])).set 44 (.inl [x3, 0, 0, 0, 0, 0, 0, 0, 0, 0, 0, 0, 0])).set 45 (.inl [x4, 0, 0, 0, 0, 0, 0, 0, 0, 0, 0, 0, 0])).set 46 (.inl [x5, 0, 0, 0, 0, 0, 0, 0, 0, 0, 0, 0, 0])).set 47 (.inl [x6, 0, 0, 0, 0, 0, 0, 0, 0, 0, 0, 0, 0])).set 48 (.inl [x7, 0, 0, 0, 0, 0, 0, 0, 0, 0, 0, 0, 0])).set 49 (.inl [(-1), 0, 0, 0, 0, 0, 0, 0, 0, 0, 0, 0, 0])) ++ [.inr (.inr (2, [.int x1, .int x2, .int x3, .int x4, .int x4, .int x6, .int x7, .int ((1 <<< (x4 &&& 31) : Int32) ||| (1 <<< (x4 &&& 31) : Int32)), .int 0, .int (-1)])), .inr (.inl [some 61, none, none, none, none, none, none, none, none, none])]))) ?_
    refine rr rfl (s_iinc (v := 3) rfl (by decide) rfl) ?_
    refine rr rfl s_goto ?_
    refine rr rfl (s_iload_n rfl) ?_
    refine rr rfl (s_bipush (v := 8) (by decide)) ?_
    refine rr rfl (s_icF (by decide)) ?_
    refine rr rfl (s_aload_n rfl) ?_
    refine rr rfl (s_getf rfl rfl) ?_
    refine rr rfl (s_iload_n rfl) ?_
    refine rr rfl (s_iconst (v := 0) (by decide)) ?_
    refine rr rfl (s_iastore (j := 3) (f' := (List.replicate 8 0)) rfl rfl (Nat.le_of_ble_eq_true rfl) rfl (Nat.le_of_ble_eq_true rfl) rfl (h' := ((((((((((((hF.set 3 (.inr (.inr (0, [.int 1, .ref 62, .int 1])))).set 6 (.inr (.inr (6, [.ref 2, .ref 7, .ref 8, .ref 9, .int 1])))).set 41 (.inr (.inr (9, [.int 4, .int 1, .ref 42, .ref 43, .ref 44, .ref 45, .ref 46, .ref 47, .ref 48, .ref 49, .ref 50, .ref 51, .int 0, .int 0, .int 0, .int 0, .int 0, .int 0, .int 0, .int 0, .ref 52, .int 0, .ref 53, .int 0, .ref 54, .int 0, .ref 55, .ref 56, .ref 57, .ref 58, .int 0, .ref 59, .ref 60])))).set 42 (.inl [x1, 0, 0, 0, 0, 0, 0, 0, 0, 0, 0, 0, 0])).set 43 (.inl [x2, 0, 0, 0, 0, 0, 0, 0, 0, 0, 0, 0, 0])).set 44 (.inl [x3, 0, 0, 0, 0, 0, 0, 0, 0, 0, 0, 0, 0])).set 45 (.inl [x4, 0, 0, 0, 0, 0, 0, 0, 0, 0, 0, 0, 0])).set 46 (.inl [x5, 0, 0, 0, 0, 0, 0, 0, 0, 0, 0, 0, 0])).set 47 (.inl [x6, 0, 0, 0, 0, 0, 0, 0, 0, 0, 0, 0, 0])).set 48 (.inl [x7, 0, 0, 0, 0, 0, 0, 0, 0, 0, 0, 0, 0])).set 49 (.inl [(-1), 0, 0, 0, 0, 0, 0, 0, 0, 0, 0, 0, 0])) ++ [.inr (.inr (2, [.int x1, .int x2, .int x3, .int x4, .int x4, .int x6, .int x7, .int ((1 <<< (x4 &&& 31) : Int32) ||| (1 <<< (x4 &&& 31) : Int32)), .int 0, .int (-1)])), .inr (.inl [some 61, none, none, none, none, none, none, none, none, none])]))) ?_
    refine rr rfl (s_iinc (v := 4) rfl (by decide) rfl) ?_
    refine rr rfl s_goto ?_
    refine rr rfl (s_iload_n rfl) ?_
    refine rr rfl (s_bipush (v := 8) (by decide)) ?_
    refine rr rfl (s_icF (by decide)) ?_
    refine rr rfl (s_aload_n rfl) ?_
    refine rr rfl (s_getf rfl rfl) ?_
    refine rr rfl (s_iload_n rfl) ?_
    refine rr rfl (s_iconst (v := 0) (by decide)) ?_
    refine rr rfl (s_iastore (j := 4) (f' := (List.replicate 8 0)) rfl rfl (Nat.le_of_ble_eq_true rfl) rfl (Nat.le_of_ble_eq_true rfl) rfl (h' := ((((((((((((hF.set 3 (.inr (.inr (0, [.int 1, .ref 62, .int 1])))).set 6 (.inr (.inr (6, [.ref 2, .ref 7, .ref 8, .ref 9, .int 1])))).set 41 (.inr (.inr (9, [.int 4, .int 1, .ref 42, .ref 43, .ref 44, .ref 45, .ref 46, .ref 47, .ref 48, .ref 49, .ref 50, .ref 51, .int 0, .int 0, .int 0, .int 0, .int 0, .int 0, .int 0, .int 0, .ref 52, .int 0, .ref 53, .int 0, .ref 54, .int 0, .ref 55, .ref 56, .ref 57, .ref 58, .int 0, .ref 59, .ref 60])))).set 42 (.inl [x1, 0, 0, 0, 0, 0, 0, 0, 0, 0, 0, 0, 0])).set 43 (.inl [x2, 0, 0, 0, 0, 0, 0, 0, 0, 0, 0, 0, 0])).set 44 (.inl [x3, 0, 0, 0, 0, 0, 0, 0, 0, 0, 0, 0, 0])).set 45 (.inl [x4, 0, 0, 0, 0, 0, 0, 0, 0, 0, 0, 0, 0])).set 46 (.inl [x5, 0, 0, 0, 0, 0, 0, 0, 0, 0, 0, 0, 0])).set 47 (.inl [x6, 0, 0, 0, 0, 0, 0, 0, 0, 0, 0, 0, 0])).set 48 (.inl [x7, 0, 0, 0, 0, 0, 0, 0, 0, 0, 0, 0, 0])).set 49 (.inl [(-1), 0, 0, 0, 0, 0, 0, 0, 0, 0, 0, 0, 0])) ++ [.inr (.inr (2, [.int x1, .int x2, .int x3, .int x4, .int x4, .int x6, .int x7, .int ((1 <<< (x4 &&& 31) : Int32) ||| (1 <<< (x4 &&& 31) : Int32)), .int 0, .int (-1)])), .inr (.inl [some 61, none, none, none, none, none, none, none, none, none])]))) ?_
    refine rr rfl (s_iinc (v := 5) rfl (by decide) rfl) ?_
    refine rr rfl s_goto ?_
    refine rr rfl (s_iload_n rfl) ?_
    refine rr rfl (s_bipush (v := 8) (by decide)) ?_
    refine rr rfl (s_icF (by decide)) ?_
    refine rr rfl (s_aload_n rfl) ?_
    refine rr rfl (s_getf rfl rfl) ?_
    refine rr rfl (s_iload_n rfl) ?_
    refine rr rfl (s_iconst (v := 0) (by decide)) ?_
    refine rr rfl (s_iastore (j := 5) (f' := (List.replicate 8 0)) rfl rfl (Nat.le_of_ble_eq_true rfl) rfl (Nat.le_of_ble_eq_true rfl) rfl (h' := ((((((((((((hF.set 3 (.inr (.inr (0, [.int 1, .ref 62, .int 1])))).set 6 (.inr (.inr (6, [.ref 2, .ref 7, .ref 8, .ref 9, .int 1])))).set 41 (.inr (.inr (9, [.int 4, .int 1, .ref 42, .ref 43, .ref 44, .ref 45, .ref 46, .ref 47, .ref 48, .ref 49, .ref 50, .ref 51, .int 0, .int 0, .int 0, .int 0, .int 0, .int 0, .int 0, .int 0, .ref 52, .int 0, .ref 53, .int 0, .ref 54, .int 0, .ref 55, .ref 56, .ref 57, .ref 58, .int 0, .ref 59, .ref 60])))).set 42 (.inl [x1, 0, 0, 0, 0, 0, 0, 0, 0, 0, 0, 0, 0])).set 43 (.inl [x2, 0, 0, 0, 0, 0, 0, 0, 0, 0, 0, 0, 0])).set 44 (.inl [x3, 0, 0, 0, 0, 0, 0, 0, 0, 0, 0, 0, 0])).set 45 (.inl [x4, 0, 0, 0, 0, 0, 0, 0, 0, 0, 0, 0, 0])).set 46 (.inl [x5, 0, 0, 0, 0, 0, 0, 0, 0, 0, 0, 0, 0])).set 47 (.inl [x6, 0, 0, 0, 0, 0, 0, 0, 0, 0, 0, 0, 0])).set 48 (.inl [x7, 0, 0, 0, 0, 0, 0, 0, 0, 0, 0, 0, 0])).set 49 (.inl [(-1), 0, 0, 0, 0, 0, 0, 0, 0, 0, 0, 0, 0])) ++ [.inr (.inr (2, [.int x1, .int x2, .int x3, .int x4, .int x4, .int x6, .int x7, .int ((1 <<< (x4 &&& 31) : Int32) ||| (1 <<< (x4 &&& 31) : Int32)), .int 0, .int (-1)])), .inr (.inl [some 61, none, none, none, none, none, none, none, none, none])]))) ?_
    refine rr rfl (s_iinc (v := 6) rfl (by decide) rfl) ?_
    refine rr rfl s_goto ?_
    refine rr rfl (s_iload_n rfl) ?_
    refine rr rfl (s_bipush (v := 8) (by decide)) ?_
    refine rr rfl (s_icF (by decide)) ?_
    refine rr rfl (s_aload_n rfl) ?_
    refine rr rfl (s_getf rfl rfl) ?_
    refine rr rfl (s_iload_n rfl) ?_
    refine rr rfl (s_iconst (v := 0) (by decide)) ?_
    refine rr rfl (s_iastore (j := 6) (f' := (List.replicate 8 0)) rfl rfl (Nat.le_of_ble_eq_true rfl) rfl (Nat.le_of_ble_eq_true rfl) rfl (h' := ((((((((((((hF.set 3 (.inr (.inr (0, [.int 1, .ref 62, .int 1])))).set 6 (.inr (.inr (6, [.ref 2, .ref 7, .ref 8, .ref 9, .int 1])))).set 41 (.inr (.inr (9, [.int 4, .int 1, .ref 42, .ref 43, .ref 44, .ref 45, .ref 46, .ref 47, .ref 48, .ref 49, .ref 50, .ref 51, .int 0, .int 0, .int 0, .int 0, .int 0, .int 0, .int 0, .int 0, .ref 52, .int 0, .ref 53, .int 0, .ref 54, .int 0, .ref 55, .ref 56, .ref 57, .ref 58, .int 0, .ref 59, .ref 60])))).set 42 (.inl [x1, 0, 0, 0, 0, 0, 0, 0, 0, 0, 0, 0, 0])).set 43 (.inl [x2, 0, 0, 0, 0, 0, 0, 0, 0, 0, 0, 0, 0])).set 44 (.inl [x3, 0, 0, 0, 0, 0, 0, 0, 0, 0, 0, 0, 0])).set 45 (.inl [x4, 0, 0, 0, 0, 0, 0, 0, 0, 0, 0, 0, 0])).set 46 (.inl [x5, 0, 0, 0, 0, 0, 0, 0, 0, 0, 0, 0, 0])).set 47 (.inl [x6, 0, 0, 0, 0, 0, 0, 0, 0, 0, 0, 0, 0])).set 48 (.inl [x7, 0, 0, 0, 0, 0, 0, 0, 0, 0, 0, 0, 0])).set 49 (.inl [(-1), 0, 0, 0, 0, 0, 0, 0, 0, 0, 0, 0, 0])) ++ [.inr (.inr (2, [.int x1, .int x2, .int x3, .int x4, .int x4, .int x6, .int x7, .int ((1 <<< (x4 &&& 31) : Int32) ||| (1 <<< (x4 &&& 31) : Int32)), .int 0, .int (-1)])), .inr (.inl [some 61, none, none, none, none, none, none, none, none, none])]))) ?_
    refine rr rfl (s_iinc (v := 7) rfl (by decide) rfl) ?_
    refine rr rfl s_goto ?_
    refine rr rfl (s_iload_n rfl) ?_
    refine rr rfl (s_bipush (v := 8) (by decide)) ?_
    refine rr rfl (s_icF (by decide)) ?_
    refine rr rfl (s_aload_n rfl) ?_
    refine rr rfl (s_getf rfl rfl) ?_
    refine rr rfl (s_iload_n rfl) ?_
    refine rr rfl (s_iconst (v := 0) (by decide)) ?_
    refine rr rfl (s_iastore (j := 7) (f' := (List.replicate 8 0)) rfl rfl (Nat.le_of_ble_eq_true rfl) rfl (Nat.le_of_ble_eq_true rfl) rfl (h' := ((((((((((((hF.set 3 (.inr (.inr (0, [.int 1, .ref 62, .int 1])))).set 6 (.inr (.inr (6, [.ref 2, .ref 7, .ref 8, .ref 9, .int 1])))).set 41 (.inr (.inr (9, [.int 4, .int 1, .ref 42, .ref 43, .ref 44, .ref 45, .ref 46, .ref 47, .ref 48, .ref 49, .ref 50, .ref 51, .int 0, .int 0, .int 0, .int 0, .int 0, .int 0, .int 0, .int 0, .ref 52, .int 0, .ref 53, .int 0, .ref 54, .int 0, .ref 55, .ref 56, .ref 57, .ref 58, .int 0, .ref 59, .ref 60])))).set 42 (.inl [x1, 0, 0, 0, 0, 0, 0, 0, 0, 0, 0, 0, 0])).set 43 (.inl [x2, 0, 0, 0, 0, 0, 0, 0, 0, 0, 0, 0, 0])).set 44 (.inl [x3, 0, 0, 0, 0, 0, 0, 0, 0, 0, 0, 0, 0])).set 45 (.inl [x4, 0, 0, 0, 0, 0, 0, 0, 0, 0, 0, 0, 0])).set 46 (.inl [x5, 0, 0, 0, 0, 0, 0, 0, 0, 0, 0, 0, 0])).set 47 (.inl [x6, 0, 0, 0, 0, 0, 0, 0, 0, 0, 0, 0, 0])).set 48 (.inl [x7, 0, 0, 0, 0, 0, 0, 0, 0, 0, 0, 0, 0])).set 49 (.inl [(-1), 0, 0, 0, 0, 0, 0, 0, 0, 0, 0, 0, 0])) ++ [.inr (.inr (2, [.int x1, .int x2, .int x3, .int x4, .int x4, .int x6, .int x7, .int ((1 <<< (x4 &&& 31) : Int32) ||| (1 <<< (x4 &&& 31) : Int32)), .int 0, .int (-1)])), .inr (.inl [some 61, none, none, none, none, none, none, none, none, none])]))) ?_
    refine rr rfl (s_iinc (v := 8) rfl (by decide) rfl) ?_
    refine rr rfl s_goto ?_
    refine rr rfl (s_iload_n rfl) ?_
    refine rr rfl (s_bipush (v := 8) (by decide)) ?_
    refine rr rfl (s_icT (by decide)) ?_
    refine rr rfl (s_iconst (v := 1) (by decide)) ?_
    refine rr rfl (s_istore_n rfl) ?_
    refine rr rfl (s_iconst (v := 1) (by decide)) ?_
    refine rr rfl (s_istore_n rfl) ?_
    refine rr rfl (s_iload_n rfl) ?_
    refine rr rfl (s_ifF (by decide)) ?_
    refine rr rfl (s_iload_n rfl) ?_
    refine rr rfl (s_ifF (by decide)) ?_
    refine rr rfl (s_iconst (v := 0) (by decide)) ?_
    refine rr rfl (s_istore_n rfl) ?_
    refine rr rfl (s_iconst (v := 0) (by decide)) ?_
    refine rr rfl (s_istore_n rfl) ?_
    refine rr rfl (s_iload_n rfl) ?_
    refine rr rfl (s_aload_n rfl) ?_
    refine rr rfl (s_getf rfl rfl) ?_
    refine rr rfl (s_icF (by decide)) ?_
    refine rr rfl (s_iconst (v := 0) (by decide)) ?_
    refine rr rfl (s_istore rfl) ?_
    refine rr rfl (s_aload_n rfl) ?_
    refine rr rfl (s_getf rfl rfl) ?_
    refine rr rfl (s_iload_n rfl) ?_
    refine rr rfl (s_iaload (j := 0) rfl rfl rfl) ?_
    refine rr rfl (s_ifT (ic_ne g1)) ?_
    refine rr rfl (s_iload rfl) ?_
    refine rr rfl (s_aload_n rfl) ?_
    refine rr rfl (s_getf rfl rfl) ?_
    refine rr rfl (s_aload_n rfl) ?_
    refine rr rfl (s_getf rfl rfl) ?_
    refine rr rfl (s_iload_n rfl) ?_
    refine rr rfl (s_iaload (j := 0) rfl rfl rfl) ?_
    refine rr rfl (s_ialdR (n := 8) (x := 0) rfl g2 g3) ?_
    refine rr rfl (s_icT (by decide)) ?_
    refine rr rfl (s_iinc (v := 1) rfl (by decide) rfl) ?_
    refine rr rfl s_goto ?_
    refine rr rfl (s_iload_n rfl) ?_
    refine rr rfl (s_aload_n rfl) ?_
    refine rr rfl (s_getf rfl rfl) ?_
    refine rr rfl (s_icT (by decide)) ?_
    refine rr rfl s_goto ?_
    refine rr rfl (s_iload_n rfl) ?_
    refine rr rfl (s_ifT (by decide)) ?_
    refine rr rfl (s_iload_n rfl) ?_
    exact rrt rfl rfl rfl rfl
  refine rrc rfl rfl rfl (do_of g_X9_lays rfl rfl e2) ?_
  refine rr rfl (s_istore rfl) ?_
  refine rr rfl (s_iload rfl) ?_
  refine rr rfl (s_ifF (by decide)) ?_
  refine rr rfl (s_aload_n rfl) ?_
  refine rr rfl (s_getf rfl rfl) ?_
  refine rr rfl (s_bipush (v := 12) (by decide)) ?_
  refine rr rfl (s_icT (by decide)) ?_
  refine rr rfl (s_aload_n rfl) ?_
  refine rr rfl (s_getf rfl rfl) ?_
  refine rr rfl (s_iconst (v := 1) (by decide)) ?_
  refine rr rfl (s_isub (v := 0) (by decide)) ?_
  exact rrt rfl rfl rfl rfl
set_option maxHeartbeats 4000000 in
set_option maxRecDepth 10000 in
theorem rm_Kmi {x1 x2 x3 x4 x5 x6 x7 : Int32} (g1 : ¬ x2 = 0) (g2 : ¬ x3 < 0) (g3 : x3 < nI 8) : a_run MT [] (a_m MT [] 100000 10) 11 (some .int) tabX9_rule 90000 95 (alQ x1 x2 x3 x4 x5 x6 x7) [] (((hF.set 3 (.inr (.inr (0, [.int 1, .ref 62, .int 1])))).set 6 (.inr (.inr (6, [.ref 2, .ref 7, .ref 8, .ref 9, .int 1])))) ++ [.inr (.inr (2, [.int x1, .int x2, .int x3, .int x4, .int x4, .int x6, .int x7, .int ((1 <<< (x4 &&& 31) : Int32) ||| (1 <<< (x4 &&& 31) : Int32)), .int (1 <<< (x6 &&& 31) : Int32), .int (-1)])), .inr (.inl [some 61, none, none, none, none, none, none, none, none, none])]) 0 0 = some (some (.int 0), ((((((((((((hF.set 3 (.inr (.inr (0, [.int 1, .ref 62, .int 1])))).set 6 (.inr (.inr (6, [.ref 2, .ref 7, .ref 8, .ref 9, .int 1])))).set 41 (.inr (.inr (9, [.int 4, .int 1, .ref 42, .ref 43, .ref 44, .ref 45, .ref 46, .ref 47, .ref 48, .ref 49, .ref 50, .ref 51, .int 0, .int 0, .int 0, .int 0, .int 0, .int 0, .int 0, .int 0, .ref 52, .int 0, .ref 53, .int 0, .ref 54, .int 0, .ref 55, .ref 56, .ref 57, .ref 58, .int 0, .ref 59, .ref 60])))).set 42 (.inl [x1, 0, 0, 0, 0, 0, 0, 0, 0, 0, 0, 0, 0])).set 43 (.inl [x2, 0, 0, 0, 0, 0, 0, 0, 0, 0, 0, 0, 0])).set 44 (.inl [x3, 0, 0, 0, 0, 0, 0, 0, 0, 0, 0, 0, 0])).set 45 (.inl [x4, 0, 0, 0, 0, 0, 0, 0, 0, 0, 0, 0, 0])).set 46 (.inl [x5, 0, 0, 0, 0, 0, 0, 0, 0, 0, 0, 0, 0])).set 47 (.inl [x6, 0, 0, 0, 0, 0, 0, 0, 0, 0, 0, 0, 0])).set 48 (.inl [x7, 0, 0, 0, 0, 0, 0, 0, 0, 0, 0, 0, 0])).set 49 (.inl [(-1), 0, 0, 0, 0, 0, 0, 0, 0, 0, 0, 0, 0])) ++ [.inr (.inr (2, [.int x1, .int x2, .int x3, .int x4, .int x4, .int x6, .int x7, .int ((1 <<< (x4 &&& 31) : Int32) ||| (1 <<< (x4 &&& 31) : Int32)), .int (1 <<< (x6 &&& 31) : Int32), .int (-1)])), .inr (.inl [some 61, none, none, none, none, none, none, none, none, none])]), 0, 0) := by
  refine rr rfl (s_aload_n rfl) ?_
  refine rr rfl (s_aload_n rfl) ?_
  refine rr rfl (s_getf rfl rfl) ?_
  refine rr rfl (s_iload_n rfl) ?_
  refine rr rfl (s_iload_n rfl) ?_
  refine rr rfl (s_iload_n rfl) ?_
  refine rr rfl (s_iload rfl) ?_
  refine rr rfl (s_iload rfl) ?_
  refine rr rfl (s_iload rfl) ?_
  refine rr rfl (s_iload rfl) ?_
  have e1 : a_m MT [] 100000 10 miX9_sets [.ref 41, .int 0, .int x1, .int x2, .int x3, .int x4, .int x5, .int x6, .int x7] (((hF.set 3 (.inr (.inr (0, [.int 1, .ref 62, .int 1])))).set 6 (.inr (.inr (6, [.ref 2, .ref 7, .ref 8, .ref 9, .int 1])))) ++ [.inr (.inr (2, [.int x1, .int x2, .int x3, .int x4, .int x4, .int x6, .int x7, .int ((1 <<< (x4 &&& 31) : Int32) ||| (1 <<< (x4 &&& 31) : Int32)), .int (1 <<< (x6 &&& 31) : Int32), .int (-1)])), .inr (.inl [some 61, none, none, none, none, none, none, none, none, none])]) = some (none, (((((((((((hF.set 3 (.inr (.inr (0, [.int 1, .ref 62, .int 1])))).set 6 (.inr (.inr (6, [.ref 2, .ref 7, .ref 8, .ref 9, .int 1])))).set 42 (.inl [x1, 0, 0, 0, 0, 0, 0, 0, 0, 0, 0, 0, 0])).set 43 (.inl [x2, 0, 0, 0, 0, 0, 0, 0, 0, 0, 0, 0, 0])).set 44 (.inl [x3, 0, 0, 0, 0, 0, 0, 0, 0, 0, 0, 0, 0])).set 45 (.inl [x4, 0, 0, 0, 0, 0, 0, 0, 0, 0, 0, 0, 0])).set 46 (.inl [x5, 0, 0, 0, 0, 0, 0, 0, 0, 0, 0, 0, 0])).set 47 (.inl [x6, 0, 0, 0, 0, 0, 0, 0, 0, 0, 0, 0, 0])).set 48 (.inl [x7, 0, 0, 0, 0, 0, 0, 0, 0, 0, 0, 0, 0])).set 49 (.inl [(-1), 0, 0, 0, 0, 0, 0, 0, 0, 0, 0, 0, 0])) ++ [.inr (.inr (2, [.int x1, .int x2, .int x3, .int x4, .int x4, .int x6, .int x7, .int ((1 <<< (x4 &&& 31) : Int32) ||| (1 <<< (x4 &&& 31) : Int32)), .int (1 <<< (x6 &&& 31) : Int32), .int (-1)])), .inr (.inl [some 61, none, none, none, none, none, none, none, none, none])]), 0, 0) := by
    refine me (d := 9) g_X9_sets (Nat.le_of_ble_eq_true rfl) ?_
    refine rr rfl (s_aload_n rfl) ?_
    refine rr rfl (s_getf rfl rfl) ?_
    refine rr rfl (s_iload_n rfl) ?_
    refine rr rfl (s_iload_n rfl) ?_
    refine rr rfl (s_iastore (j := 0) (f' := [x1, 0, 0, 0, 0, 0, 0, 0, 0, 0, 0, 0, 0]) rfl rfl (Nat.le_of_ble_eq_true rfl) rfl (Nat.le_of_ble_eq_true rfl) rfl (h' := ((((hF.set 3 (.inr (.inr (0, [.int 1, .ref 62, .int 1])))).set 6 (.inr (.inr (6, [.ref 2, .ref 7, .ref 8, .ref 9, .int 1])))).set 42 (.inl [x1, 0, 0, 0, 0, 0, 0, 0, 0, 0, 0, 0, 0])) ++ [.inr (.inr (2, [.int x1, .int x2, .int x3, .int x4, .int x4, .int x6, .int x7, .int ((1 <<< (x4 &&& 31) : Int32) ||| (1 <<< (x4 &&& 31) : Int32)), .int (1 <<< (x6 &&& 31) : Int32), .int (-1)])), .inr (.inl [some 61, none, none, none, none, none, none, none, none, none])]))) ?_
    refine rr rfl (s_aload_n rfl) ?_
    refine rr rfl (s_getf rfl rfl) ?_
    refine rr rfl (s_iload_n rfl) ?_
    refine rr rfl (s_iload_n rfl) ?_
    refine rr rfl (s_iastore (j := 0) (f' := [x2, 0, 0, 0, 0, 0, 0, 0, 0, 0, 0, 0, 0]) rfl rfl (Nat.le_of_ble_eq_true rfl) rfl (Nat.le_of_ble_eq_true rfl) rfl (h' := (((((hF.set 3 (.inr (.inr (0, [.int 1, .ref 62, .int 1])))).set 6 (.inr (.inr (6, [.ref 2, .ref 7, .ref 8, .ref 9, .int 1])))).set 42 (.inl [x1, 0, 0, 0, 0, 0, 0, 0, 0, 0, 0, 0, 0])).set 43 (.inl [x2, 0, 0, 0, 0, 0, 0, 0, 0, 0, 0, 0, 0])) ++ [.inr (.inr (2, [.int x1, .int x2, .int x3, .int x4, .int x4, .int x6, .int x7, .int ((1 <<< (x4 &&& 31) : Int32) ||| (1 <<< (x4 &&& 31) : Int32)), .int (1 <<< (x6 &&& 31) : Int32), .int (-1)])), .inr (.inl [some 61, none, none, none, none, none, none, none, none, none])]))) ?_
    refine rr rfl (s_aload_n rfl) ?_
    refine rr rfl (s_getf rfl rfl) ?_
    refine rr rfl (s_iload_n rfl) ?_
    refine rr rfl (s_iload rfl) ?_
    refine rr rfl (s_iastore (j := 0) (f' := [x3, 0, 0, 0, 0, 0, 0, 0, 0, 0, 0, 0, 0]) rfl rfl (Nat.le_of_ble_eq_true rfl) rfl (Nat.le_of_ble_eq_true rfl) rfl (h' := ((((((hF.set 3 (.inr (.inr (0, [.int 1, .ref 62, .int 1])))).set 6 (.inr (.inr (6, [.ref 2, .ref 7, .ref 8, .ref 9, .int 1])))).set 42 (.inl [x1, 0, 0, 0, 0, 0, 0, 0, 0, 0, 0, 0, 0])).set 43 (.inl [x2, 0, 0, 0, 0, 0, 0, 0, 0, 0, 0, 0, 0])).set 44 (.inl [x3, 0, 0, 0, 0, 0, 0, 0, 0, 0, 0, 0, 0])) ++ [.inr (.inr (2, [.int x1, .int x2, .int x3, .int x4, .int x4, .int x6, .int x7, .int ((1 <<< (x4 &&& 31) : Int32) ||| (1 <<< (x4 &&& 31) : Int32)), .int (1 <<< (x6 &&& 31) : Int32), .int (-1)])), .inr (.inl [some 61, none, none, none, none, none, none, none, none, none])]))) ?_
    refine rr rfl (s_aload_n rfl) ?_
    refine rr rfl (s_getf rfl rfl) ?_
    refine rr rfl (s_iload_n rfl) ?_
    refine rr rfl (s_iload rfl) ?_
    refine rr rfl (s_iastore (j := 0) (f' := [x4, 0, 0, 0, 0, 0, 0, 0, 0, 0, 0, 0, 0]) rfl rfl (Nat.le_of_ble_eq_true rfl) rfl (Nat.le_of_ble_eq_true rfl) rfl (h' := (((((((hF.set 3 (.inr (.inr (0, [.int 1, .ref 62, .int 1])))).set 6 (.inr (.inr (6, [.ref 2, .ref 7, .ref 8, .ref 9, .int 1])))).set 42 (.inl [x1, 0, 0, 0, 0, 0, 0, 0, 0, 0, 0, 0, 0])).set 43 (.inl [x2, 0, 0, 0, 0, 0, 0, 0, 0, 0, 0, 0, 0])).set 44 (.inl [x3, 0, 0, 0, 0, 0, 0, 0, 0, 0, 0, 0, 0])).set 45 (.inl [x4, 0, 0, 0, 0, 0, 0, 0, 0, 0, 0, 0, 0])) ++ [.inr (.inr (2, [.int x1, .int x2, .int x3, .int x4, .int x4, .int x6, .int x7, .int ((1 <<< (x4 &&& 31) : Int32) ||| (1 <<< (x4 &&& 31) : Int32)), .int (1 <<< (x6 &&& 31) : Int32), .int (-1)])), .inr (.inl [some 61, none, none, none, none, none, none, none, none, none])]))) ?_
    refine rr rfl (s_aload_n rfl) ?_
    refine rr rfl (s_getf rfl rfl) ?_
    refine rr rfl (s_iload_n rfl) ?_
    refine rr rfl (s_iload rfl) ?_
    refine rr rfl (s_iastore (j := 0) (f' := [x5, 0, 0, 0, 0, 0, 0, 0, 0, 0, 0, 0, 0]) rfl rfl (Nat.le_of_ble_eq_true rfl) rfl (Nat.le_of_ble_eq_true rfl) rfl (h' := ((((((((hF.set 3 (.inr (.inr (0, [.int 1, .ref 62, .int 1])))).set 6 (.inr (.inr (6, [.ref 2, .ref 7, .ref 8, .ref 9, .int 1])))).set 42 (.inl [x1, 0, 0, 0, 0, 0, 0, 0, 0, 0, 0, 0, 0])).set 43 (.inl [x2, 0, 0, 0, 0, 0, 0, 0, 0, 0, 0, 0, 0])).set 44 (.inl [x3, 0, 0, 0, 0, 0, 0, 0, 0, 0, 0, 0, 0])).set 45 (.inl [x4, 0, 0, 0, 0, 0, 0, 0, 0, 0, 0, 0, 0])).set 46 (.inl [x5, 0, 0, 0, 0, 0, 0, 0, 0, 0, 0, 0, 0])) ++ [.inr (.inr (2, [.int x1, .int x2, .int x3, .int x4, .int x4, .int x6, .int x7, .int ((1 <<< (x4 &&& 31) : Int32) ||| (1 <<< (x4 &&& 31) : Int32)), .int (1 <<< (x6 &&& 31) : Int32), .int (-1)])), .inr (.inl [some 61, none, none, none, none, none, none, none, none, none])]))) ?_
    refine rr rfl (s_aload_n rfl) ?_
    refine rr rfl (s_getf rfl rfl) ?_
    refine rr rfl (s_iload_n rfl) ?_
    refine rr rfl (s_iload rfl) ?_
    refine rr rfl (s_iastore (j := 0) (f' := [x6, 0, 0, 0, 0, 0, 0, 0, 0, 0, 0, 0, 0]) rfl rfl (Nat.le_of_ble_eq_true rfl) rfl (Nat.le_of_ble_eq_true rfl) rfl (h' := (((((((((hF.set 3 (.inr (.inr (0, [.int 1, .ref 62, .int 1])))).set 6 (.inr (.inr (6, [.ref 2, .ref 7, .ref 8, .ref 9, .int 1])))).set 42 (.inl [x1, 0, 0, 0, 0, 0, 0, 0, 0, 0, 0, 0, 0])).set 43 (.inl [x2, 0, 0, 0, 0, 0, 0, 0, 0, 0, 0, 0, 0])).set 44 (.inl [x3, 0, 0, 0, 0, 0, 0, 0, 0, 0, 0, 0, 0])).set 45 (.inl [x4, 0, 0, 0, 0, 0, 0, 0, 0, 0, 0, 0, 0])).set 46 (.inl [x5, 0, 0, 0, 0, 0, 0, 0, 0, 0, 0, 0, 0])).set 47 (.inl [x6, 0, 0, 0, 0, 0, 0, 0, 0, 0, 0, 0, 0])) ++ [.inr (.inr (2, [.int x1, .int x2, .int x3, .int x4, .int x4, .int x6, .int x7, .int ((1 <<< (x4 &&& 31) : Int32) ||| (1 <<< (x4 &&& 31) : Int32)), .int (1 <<< (x6 &&& 31) : Int32), .int (-1)])), .inr (.inl [some 61, none, none, none, none, none, none, none, none, none])]))) ?_
    refine rr rfl (s_aload_n rfl) ?_
    refine rr rfl (s_getf rfl rfl) ?_
    refine rr rfl (s_iload_n rfl) ?_
    refine rr rfl (s_iload rfl) ?_
    refine rr rfl (s_iastore (j := 0) (f' := [x7, 0, 0, 0, 0, 0, 0, 0, 0, 0, 0, 0, 0]) rfl rfl (Nat.le_of_ble_eq_true rfl) rfl (Nat.le_of_ble_eq_true rfl) rfl (h' := ((((((((((hF.set 3 (.inr (.inr (0, [.int 1, .ref 62, .int 1])))).set 6 (.inr (.inr (6, [.ref 2, .ref 7, .ref 8, .ref 9, .int 1])))).set 42 (.inl [x1, 0, 0, 0, 0, 0, 0, 0, 0, 0, 0, 0, 0])).set 43 (.inl [x2, 0, 0, 0, 0, 0, 0, 0, 0, 0, 0, 0, 0])).set 44 (.inl [x3, 0, 0, 0, 0, 0, 0, 0, 0, 0, 0, 0, 0])).set 45 (.inl [x4, 0, 0, 0, 0, 0, 0, 0, 0, 0, 0, 0, 0])).set 46 (.inl [x5, 0, 0, 0, 0, 0, 0, 0, 0, 0, 0, 0, 0])).set 47 (.inl [x6, 0, 0, 0, 0, 0, 0, 0, 0, 0, 0, 0, 0])).set 48 (.inl [x7, 0, 0, 0, 0, 0, 0, 0, 0, 0, 0, 0, 0])) ++ [.inr (.inr (2, [.int x1, .int x2, .int x3, .int x4, .int x4, .int x6, .int x7, .int ((1 <<< (x4 &&& 31) : Int32) ||| (1 <<< (x4 &&& 31) : Int32)), .int (1 <<< (x6 &&& 31) : Int32), .int (-1)])), .inr (.inl [some 61, none, none, none, none, none, none, none, none, none])]))) ?_
    refine rr rfl (s_aload_n rfl) ?_
    refine rr rfl (s_getf rfl rfl) ?_
    refine rr rfl (s_iload_n rfl) ?_
    refine rr rfl (s_iconst (v := (-1)) (by decide)) ?_
    refine rr rfl (s_iastore (j := 0) (f' := [(-1), 0, 0, 0, 0, 0, 0, 0, 0, 0, 0, 0, 0]) rfl rfl (Nat.le_of_ble_eq_true rfl) rfl (Nat.le_of_ble_eq_true rfl) rfl (h' := (((((((((((hF.set 3 (.inr (.inr (0, [.int 1, .ref 62, .int 1])))).set 6 (.inr (.inr (6, [.ref 2, .ref 7, .ref 8, .ref 9, .int 1])))).set 42 (.inl [x1, 0, 0, 0, 0, 0, 0, 0, 0, 0, 0, 0, 0])).set 43 (.inl [x2, 0, 0, 0, 0, 0, 0, 0, 0, 0, 0, 0, 0])).set 44 (.inl [x3, 0, 0, 0, 0, 0, 0, 0, 0, 0, 0, 0, 0])).set 45 (.inl [x4, 0, 0, 0, 0, 0, 0, 0, 0, 0, 0, 0, 0])).set 46 (.inl [x5, 0, 0, 0, 0, 0, 0, 0, 0, 0, 0, 0, 0])).set 47 (.inl [x6, 0, 0, 0, 0, 0, 0, 0, 0, 0, 0, 0, 0])).set 48 (.inl [x7, 0, 0, 0, 0, 0, 0, 0, 0, 0, 0, 0, 0])).set 49 (.inl [(-1), 0, 0, 0, 0, 0, 0, 0, 0, 0, 0, 0, 0])) ++ [.inr (.inr (2, [.int x1, .int x2, .int x3, .int x4, .int x4, .int x6, .int x7, .int ((1 <<< (x4 &&& 31) : Int32) ||| (1 <<< (x4 &&& 31) : Int32)), .int (1 <<< (x6 &&& 31) : Int32), .int (-1)])), .inr (.inl [some 61, none, none, none, none, none, none, none, none, none])]))) ?_
    exact rrt rfl rfl rfl rfl
  refine rrc rfl rfl rfl (do_of g_X9_sets rfl rfl e1) ?_
  refine rr rfl (s_aload_n rfl) ?_
  refine rr rfl rfl ?_
  refine rr rfl (s_getf rfl rfl) ?_
  refine rr rfl (s_iconst (v := 1) (by decide)) ?_
  refine rr rfl (s_iadd (v := 1) (by decide)) ?_
  refine rr rfl (s_putf rfl rfl (Nat.le_of_ble_eq_true rfl) rfl (Nat.le_of_ble_eq_true rfl) rfl (h' := ((((((((((((hF.set 3 (.inr (.inr (0, [.int 1, .ref 62, .int 1])))).set 6 (.inr (.inr (6, [.ref 2, .ref 7, .ref 8, .ref 9, .int 1])))).set 41 (.inr (.inr (9, [.int 4, .int 1, .ref 42, .ref 43, .ref 44, .ref 45, .ref 46, .ref 47, .ref 48, .ref 49, .ref 50, .ref 51, .int 0, .int 0, .int 0, .int 0, .int 0, .int 0, .int 0, .int 0, .ref 52, .int 0, .ref 53, .int 0, .ref 54, .int 0, .ref 55, .ref 56, .ref 57, .ref 58, .int 0, .ref 59, .ref 60])))).set 42 (.inl [x1, 0, 0, 0, 0, 0, 0, 0, 0, 0, 0, 0, 0])).set 43 (.inl [x2, 0, 0, 0, 0, 0, 0, 0, 0, 0, 0, 0, 0])).set 44 (.inl [x3, 0, 0, 0, 0, 0, 0, 0, 0, 0, 0, 0, 0])).set 45 (.inl [x4, 0, 0, 0, 0, 0, 0, 0, 0, 0, 0, 0, 0])).set 46 (.inl [x5, 0, 0, 0, 0, 0, 0, 0, 0, 0, 0, 0, 0])).set 47 (.inl [x6, 0, 0, 0, 0, 0, 0, 0, 0, 0, 0, 0, 0])).set 48 (.inl [x7, 0, 0, 0, 0, 0, 0, 0, 0, 0, 0, 0, 0])).set 49 (.inl [(-1), 0, 0, 0, 0, 0, 0, 0, 0, 0, 0, 0, 0])) ++ [.inr (.inr (2, [.int x1, .int x2, .int x3, .int x4, .int x4, .int x6, .int x7, .int ((1 <<< (x4 &&& 31) : Int32) ||| (1 <<< (x4 &&& 31) : Int32)), .int (1 <<< (x6 &&& 31) : Int32), .int (-1)])), .inr (.inl [some 61, none, none, none, none, none, none, none, none, none])]))) ?_
  refine rr rfl (s_aload_n rfl) ?_
  have e2 : a_m MT [] 100000 10 miX9_lays [.ref 41] ((((((((((((hF.set 3 (.inr (.inr (0, [.int 1, .ref 62, .int 1])))).set 6 (.inr (.inr (6, [.ref 2, .ref 7, .ref 8, .ref 9, .int 1])))).set 41 (.inr (.inr (9, [.int 4, .int 1, .ref 42, .ref 43, .ref 44, .ref 45, .ref 46, .ref 47, .ref 48, .ref 49, .ref 50, .ref 51, .int 0, .int 0, .int 0, .int 0, .int 0, .int 0, .int 0, .int 0, .ref 52, .int 0, .ref 53, .int 0, .ref 54, .int 0, .ref 55, .ref 56, .ref 57, .ref 58, .int 0, .ref 59, .ref 60])))).set 42 (.inl [x1, 0, 0, 0, 0, 0, 0, 0, 0, 0, 0, 0, 0])).set 43 (.inl [x2, 0, 0, 0, 0, 0, 0, 0, 0, 0, 0, 0, 0])).set 44 (.inl [x3, 0, 0, 0, 0, 0, 0, 0, 0, 0, 0, 0, 0])).set 45 (.inl [x4, 0, 0, 0, 0, 0, 0, 0, 0, 0, 0, 0, 0])).set 46 (.inl [x5, 0, 0, 0, 0, 0, 0, 0, 0, 0, 0, 0, 0])).set 47 (.inl [x6, 0, 0, 0, 0, 0, 0, 0, 0, 0, 0, 0, 0])).set 48 (.inl [x7, 0, 0, 0, 0, 0, 0, 0, 0, 0, 0, 0, 0])).set 49 (.inl [(-1), 0, 0, 0, 0, 0, 0, 0, 0, 0, 0, 0, 0])) ++ [.inr (.inr (2, [.int x1, .int x2, .int x3, .int x4, .int x4, .int x6, .int x7, .int ((1 <<< (x4 &&& 31) : Int32) ||| (1 <<< (x4 &&& 31) : Int32)), .int (1 <<< (x6 &&& 31) : Int32), .int (-1)])), .inr (.inl [some 61, none, none, none, none, none, none, none, none, none])]) = some ((some (.int 1)), ((((((((((((hF.set 3 (.inr (.inr (0, [.int 1, .ref 62, .int 1])))).set 6 (.inr (.inr (6, [.ref 2, .ref 7, .ref 8, .ref 9, .int 1])))).set 41 (.inr (.inr (9, [.int 4, .int 1, .ref 42, .ref 43, .ref 44, .ref 45, .ref 46, .ref 47, .ref 48, .ref 49, .ref 50, .ref 51, .int 0, .int 0, .int 0, .int 0, .int 0, .int 0, .int 0, .int 0, .ref 52, .int 0, .ref 53, .int 0, .ref 54, .int 0, .ref 55, .ref 56, .ref 57, .ref 58, .int 0, .ref 59, .ref 60])))).set 42 (.inl [x1, 0, 0, 0, 0, 0, 0, 0, 0, 0, 0, 0, 0])).set 43 (.inl [x2, 0, 0, 0, 0, 0, 0, 0, 0, 0, 0, 0, 0])).set 44 (.inl [x3, 0, 0, 0, 0, 0, 0, 0, 0, 0, 0, 0, 0])).set 45 (.inl [x4, 0, 0, 0, 0, 0, 0, 0, 0, 0, 0, 0, 0])).set 46 (.inl [x5, 0, 0, 0, 0, 0, 0, 0, 0, 0, 0, 0, 0])).set 47 (.inl [x6, 0, 0, 0, 0, 0, 0, 0, 0, 0, 0, 0, 0])).set 48 (.inl [x7, 0, 0, 0, 0, 0, 0, 0, 0, 0, 0, 0, 0])).set 49 (.inl [(-1), 0, 0, 0, 0, 0, 0, 0, 0, 0, 0, 0, 0])) ++ [.inr (.inr (2, [.int x1, .int x2, .int x3, .int x4, .int x4, .int x6, .int x7, .int ((1 <<< (x4 &&& 31) : Int32) ||| (1 <<< (x4 &&& 31) : Int32)), .int (1 <<< (x6 &&& 31) : Int32), .int (-1)])), .inr (.inl [some 61, none, none, none, none, none, none, none, none, none])]), 0, 0) := by
    refine me (d := 9) g_X9_lays (Nat.le_of_ble_eq_true rfl) ?_
    refine rr rfl (s_iconst (v := 0) (by decide)) ?_
    refine rr rfl (s_istore_n rfl) ?_
    refine rr rfl (s_iload_n rfl) ?_
    refine rr rfl (s_bipush (v := 8) (by decide)) ?_
    refine rr rfl (s_icF (by decide)) ?_
    refine rr rfl (s_aload_n rfl) ?_
    refine rr rfl (s_getf rfl rfl) ?_
    refine rr rfl (s_iload_n rfl) ?_
    refine rr rfl (s_iconst (v := 0) (by decide)) ?_
    refine rr rfl (s_iastore (j := 0) (f' := (List.replicate 8 0)) rfl rfl (Nat.le_of_ble_eq_true rfl) rfl (Nat.le_of_ble_eq_true rfl) rfl (h' := ((((((((((((hF.set 3 (.inr (.inr (0, [.int 1, .ref 62, .int 1])))).set 6 (.inr (.inr (6, [.ref 2, .ref 7, .ref 8, .ref 9, .int 1])))).set 41 (.inr (.inr (9, [.int 4, .int 1, .ref 42, .ref 43, .ref 44, .ref 45, .ref 46, .ref 47, .ref 48, .ref 49, .ref 50, .ref 51, .int 0, .int 0, .int 0, .int 0, .int 0, .int 0, .int 0, .int 0, .ref 52, .int 0, .ref 53, .int 0, .ref 54, .int 0, .ref 55, .ref 56, .ref 57, .ref 58, .int 0, .ref 59, .ref 60])))).set 42 (.inl [x1, 0, 0, 0, 0, 0, 0, 0, 0, 0, 0, 0, 0])).set 43 (.inl [x2, 0, 0, 0, 0, 0, 0, 0, 0, 0, 0, 0, 0])).set 44 (.inl [x3, 0, 0, 0, 0, 0, 0, 0, 0, 0, 0, 0, 0])).set 45 (.inl [x4, 0, 0, 0, 0, 0, 0, 0, 0, 0, 0, 0, 0])).set 46 (.inl [x5, 0, 0, 0, 0, 0, 0, 0, 0, 0, 0, 0, 0])).set 47 (.inl [x6, 0, 0, 0, 0, 0, 0, 0, 0, 0, 0, 0, 0])).set 48 (.inl [x7, 0, 0, 0, 0, 0, 0, 0, 0, 0, 0, 0, 0])).set 49 (.inl [(-1), 0, 0, 0, 0, 0, 0, 0, 0, 0, 0, 0, 0])) ++ [.inr (.inr (2, [.int x1, .int x2, .int x3, .int x4, .int x4, .int x6, .int x7, .int ((1 <<< (x4 &&& 31) : Int32) ||| (1 <<< (x4 &&& 31) : Int32)), .int (1 <<< (x6 &&& 31) : Int32), .int (-1)])), .inr (.inl [some 61, none, none, none, none, none, none, none, none, none])]))) ?_
    refine rr rfl (s_iinc (v := 1) rfl (by decide) rfl) ?_
    refine rr rfl s_goto ?_
    refine rr rfl (s_iload_n rfl) ?_
    refine rr rfl (s_bipush (v := 8) (by decide)) ?_
    refine rr rfl (s_icF (by decide)) ?_
    refine rr rfl (s_aload_n rfl) ?_
    refine rr rfl (s_getf rfl rfl) ?_
    refine rr rfl (s_iload_n rfl) ?_
    refine rr rfl (s_iconst (v := 0) (by decide)) ?_
    refine rr rfl (s_iastore (j := 1) (f' := (List.replicate 8 0)) rfl rfl (Nat.le_of_ble_eq_true rfl) rfl (Nat.le_of_ble_eq_true rfl) rfl (h' := ((((((((((((hF.set 3 (.inr (.inr (0, [.int 1, .ref 62, .int 1])))).set 6 (.inr (.inr (6, [.ref 2, .ref 7, .ref 8, .ref 9, .int 1])))).set 41 (.inr (.inr (9, [.int 4, .int 1, .ref 42, .ref 43, .ref 44, .ref 45, .ref 46, .ref 47, .ref 48, .ref 49, .ref 50, .ref 51, .int 0, .int 0, .int 0, .int 0, .int 0, .int 0, .int 0, .int 0, .ref 52, .int 0, .ref 53, .int 0, .ref 54, .int 0, .ref 55, .ref 56, .ref 57, .ref 58, .int 0, .ref 59, .ref 60])))).set 42 (.inl [x1, 0, 0, 0, 0, 0, 0, 0, 0, 0, 0, 0, 0])).set 43 (.inl [x2, 0, 0, 0, 0, 0, 0, 0, 0, 0, 0, 0, 0])).set 44 (.inl [x3, 0, 0, 0, 0, 0, 0, 0, 0, 0, 0, 0, 0])).set 45 (.inl [x4, 0, 0, 0, 0, 0, 0, 0, 0, 0, 0, 0, 0])).set 46 (.inl [x5, 0, 0, 0, 0, 0, 0, 0, 0, 0, 0, 0, 0])).set 47 (.inl [x6, 0, 0, 0, 0, 0, 0, 0, 0, 0, 0, 0, 0])).set 48 (.inl [x7, 0, 0, 0, 0, 0, 0, 0, 0, 0, 0, 0, 0])).set 49 (.inl [(-1), 0, 0, 0, 0, 0, 0, 0, 0, 0, 0, 0, 0])) ++ [.inr (.inr (2, [.int x1, .int x2, .int x3, .int x4, .int x4, .int x6, .int x7, .int ((1 <<< (x4 &&& 31) : Int32) ||| (1 <<< (x4 &&& 31) : Int32)), .int (1 <<< (x6 &&& 31) : Int32), .int (-1)])), .inr (.inl [some 61, none, none, none, none, none, none, none, none, none])]))) ?_
    refine rr rfl (s_iinc (v := 2) rfl (by decide) rfl) ?_
    refine rr rfl s_goto ?_
    refine rr rfl (s_iload_n rfl) ?_
    refine rr rfl (s_bipush (v := 8) (by decide)) ?_
    refine rr rfl (s_icF (by decide)) ?_
    refine rr rfl (s_aload_n rfl) ?_
    refine rr rfl (s_getf rfl rfl) ?_
    refine rr rfl (s_iload_n rfl) ?_
    refine rr rfl (s_iconst (v := 0) (by decide)) ?_
    refine rr rfl (s_iastore (j := 2) (f' := (List.replicate 8 0)) rfl rfl (Nat.le_of_ble_eq_true rfl) rfl (Nat.le_of_ble_eq_true rfl) rfl (h' := ((((((((((((hF.set 3 (.inr (.inr (0, [.int 1, .ref 62, .int 1])))).set 6 (.inr (.inr (6, [.ref 2, .ref 7, .ref 8, .ref 9, .int 1])))).set 41 (.inr (.inr (9, [.int 4, .int 1, .ref 42, .ref 43, .ref 44, .ref 45, .ref 46, .ref 47, .ref 48, .ref 49, .ref 50, .ref 51, .int 0, .int 0, .int 0, .int 0, .int 0, .int 0, .int 0, .int 0, .ref 52, .int 0, .ref 53, .int 0, .ref 54, .int 0, .ref 55, .ref 56, .ref 57, .ref 58, .int 0, .ref 59, .ref 60])))).set 42 (.inl [x1, 0, 0, 0, 0, 0, 0, 0, 0, 0, 0, 0, 0])).set 43 (.inl [x2, 0, 0, 0, 0, 0, 0, 0, 0, 0, 0, 0, 0])).set 44 (.inl [x3, 0, 0, 0, 0, 0, 0, 0, 0, 0, 0, 0, 0])).set 45 (.inl [x4, 0, 0, 0, 0, 0, 0, 0, 0, 0, 0, 0, 0])).set 46 (.inl [x5, 0, 0, 0, 0, 0, 0, 0, 0, 0, 0, 0, 0])).set 47 (.inl [x6, 0, 0, 0, 0, 0, 0, 0, 0, 0, 0, 0, 0])).set 48 (.inl [x7, 0, 0, 0, 0, 0, 0, 0, 0, 0, 0, 0, 0])).set 49 (.inl [(-1), 0, 0, 0, 0, 0, 0, 0, 0, 0, 0, 0, 0])) ++ [.inr (.inr (2, [.int x1, .int x2, .int x3, .int x4, .int x4, .int x6, .int x7, .int ((1 <<< (x4 &&& 31) : Int32) ||| (1 <<< (x4 &&& 31) : Int32)), .int (1 <<< (x6 &&& 31) : Int32), .int (-1)])), .inr (.inl [some 61, none, none, none, none, none, none, none, none, none])]))) ?_
    refine rr rfl (s_iinc (v := 3) rfl (by decide) rfl) ?_
    refine rr rfl s_goto ?_
    refine rr rfl (s_iload_n rfl) ?_
    refine rr rfl (s_bipush (v := 8) (by decide)) ?_
    refine rr rfl (s_icF (by decide)) ?_
    refine rr rfl (s_aload_n rfl) ?_
    refine rr rfl (s_getf rfl rfl) ?_
    refine rr rfl (s_iload_n rfl) ?_
    refine rr rfl (s_iconst (v := 0) (by decide)) ?_
    refine rr rfl (s_iastore (j := 3) (f' := (List.replicate 8 0)) rfl rfl (Nat.le_of_ble_eq_true rfl) rfl (Nat.le_of_ble_eq_true rfl) rfl (h' := ((((((((((((hF.set 3 (.inr (.inr (0, [.int 1, .ref 62, .int 1])))).set 6 (.inr (.inr (6, [.ref 2, .ref 7, .ref 8, .ref 9, .int 1])))).set 41 (.inr (.inr (9, [.int 4, .int 1, .ref 42, .ref 43, .ref 44, .ref 45, .ref 46, .ref 47, .ref 48, .ref 49, .ref 50, .ref 51, .int 0, .int 0, .int 0, .int 0, .int 0, .int 0, .int 0, .int 0, .ref 52, .int 0, .ref 53, .int 0, .ref 54, .int 0, .ref 55, .ref 56, .ref 57, .ref 58, .int 0, .ref 59, .ref 60])))).set 42 (.inl [x1, 0, 0, 0, 0, 0, 0, 0, 0, 0, 0, 0, 0])).set 43 (.inl [x2, 0, 0, 0, 0, 0, 0, 0, 0, 0, 0, 0, 0])).set 44 (.inl [x3, 0, 0, 0, 0, 0, 0, 0, 0, 0, 0, 0, 0])).set 45 (.inl [x4, 0, 0, 0, 0, 0, 0, 0, 0, 0, 0, 0, 0])).set 46 (.inl [x5, 0, 0, 0, 0, 0, 0, 0, 0, 0, 0, 0, 0])).set 47 (.inl [x6, 0, 0, 0, 0, 0, 0, 0, 0, 0, 0, 0, 0])).set 48 (.inl [x7, 0, 0, 0, 0, 0, 0, 0, 0, 0, 0, 0, 0])).set 49 (.inl [(-1), 0, 0, 0, 0, 0, 0, 0, 0, 0, 0, 0, 0])) ++ [.inr (.inr (2, [.int x1, .int x2, .int x3, .int x4, .int x4, .int x6, .int x7, .int ((1 <<< (x4 &&& 31) : Int32) ||| (1 <<< (x4 &&& 31) : Int32)), .int (1 <<< (x6 &&& 31) : Int32), .int (-1)])), .inr (.inl [some 61, none, none, none, none, none, none, none, none, none])]))) ?_
    refine rr rfl (s_iinc (v := 4) rfl (by decide) rfl) ?_
    refine rr rfl s_goto ?_
    refine rr rfl (s_iload_n rfl) ?_
    refine rr rfl (s_bipush (v := 8) (by decide)) ?_
    refine rr rfl (s_icF (by decide)) ?_
    refine rr rfl (s_aload_n rfl) ?_
    refine rr rfl (s_getf rfl rfl) ?_
    refine rr rfl (s_iload_n rfl) ?_
    refine rr rfl (s_iconst (v := 0) (by decide)) ?_
    refine rr rfl (s_iastore (j := 4) (f' := (List.replicate 8 0)) rfl rfl (Nat.le_of_ble_eq_true rfl) rfl (Nat.le_of_ble_eq_true rfl) rfl (h' := ((((((((((((hF.set 3 (.inr (.inr (0, [.int 1, .ref 62, .int 1])))).set 6 (.inr (.inr (6, [.ref 2, .ref 7, .ref 8, .ref 9, .int 1])))).set 41 (.inr (.inr (9, [.int 4, .int 1, .ref 42, .ref 43, .ref 44, .ref 45, .ref 46, .ref 47, .ref 48, .ref 49, .ref 50, .ref 51, .int 0, .int 0, .int 0, .int 0, .int 0, .int 0, .int 0, .int 0, .ref 52, .int 0, .ref 53, .int 0, .ref 54, .int 0, .ref 55, .ref 56, .ref 57, .ref 58, .int 0, .ref 59, .ref 60])))).set 42 (.inl [x1, 0, 0, 0, 0, 0, 0, 0, 0, 0, 0, 0, 0])).set 43 (.inl [x2, 0, 0, 0, 0, 0, 0, 0, 0, 0, 0, 0, 0])).set 44 (.inl [x3, 0, 0, 0, 0, 0, 0, 0, 0, 0, 0, 0, 0])).set 45 (.inl [x4, 0, 0, 0, 0, 0, 0, 0, 0, 0, 0, 0, 0])).set 46 (.inl [x5, 0, 0, 0, 0, 0, 0, 0, 0, 0, 0, 0, 0])).set 47 (.inl [x6, 0, 0, 0, 0, 0, 0, 0, 0, 0, 0, 0, 0])).set 48 (.inl [x7, 0, 0, 0, 0, 0, 0, 0, 0, 0, 0, 0, 0])).set 49 (.inl [(-1), 0, 0, 0, 0, 0, 0, 0, 0, 0, 0, 0, 0])) ++ [.inr (.inr (2, [.int x1, .int x2, .int x3, .int x4, .int x4, .int x6, .int x7, .int ((1 <<< (x4 &&& 31) : Int32) ||| (1 <<< (x4 &&& 31) : Int32)), .int (1 <<< (x6 &&& 31) : Int32), .int (-1)])), .inr (.inl [some 61, none, none, none, none, none, none, none, none, none])]))) ?_
    refine rr rfl (s_iinc (v := 5) rfl (by decide) rfl) ?_
    refine rr rfl s_goto ?_
    refine rr rfl (s_iload_n rfl) ?_
    refine rr rfl (s_bipush (v := 8) (by decide)) ?_
    refine rr rfl (s_icF (by decide)) ?_
    refine rr rfl (s_aload_n rfl) ?_
    refine rr rfl (s_getf rfl rfl) ?_
    refine rr rfl (s_iload_n rfl) ?_
    refine rr rfl (s_iconst (v := 0) (by decide)) ?_
    refine rr rfl (s_iastore (j := 5) (f' := (List.replicate 8 0)) rfl rfl (Nat.le_of_ble_eq_true rfl) rfl (Nat.le_of_ble_eq_true rfl) rfl (h' := ((((((((((((hF.set 3 (.inr (.inr (0, [.int 1, .ref 62, .int 1])))).set 6 (.inr (.inr (6, [.ref 2, .ref 7, .ref 8, .ref 9, .int 1])))).set 41 (.inr (.inr (9, [.int 4, .int 1, .ref 42, .ref 43, .ref 44, .ref 45, .ref 46, .ref 47, .ref 48, .ref 49, .ref 50, .ref 51, .int 0, .int 0, .int 0, .int 0, .int 0, .int 0, .int 0, .int 0, .ref 52, .int 0, .ref 53, .int 0, .ref 54, .int 0, .ref 55, .ref 56, .ref 57, .ref 58, .int 0, .ref 59, .ref 60])))).set 42 (.inl [x1, 0, 0, 0, 0, 0, 0, 0, 0, 0, 0, 0, 0])).set 43 (.inl [x2, 0, 0, 0, 0, 0, 0, 0, 0, 0, 0, 0, 0])).set 44 (.inl [x3, 0, 0, 0, 0, 0, 0, 0, 0, 0, 0, 0, 0])).set 45 (.inl [x4, 0, 0, 0, 0, 0, 0, 0, 0, 0, 0, 0, 0])).set 46 (.inl [x5, 0, 0, 0, 0, 0, 0, 0, 0, 0, 0, 0, 0])).set 47 (.inl [x6, 0, 0, 0, 0, 0, 0, 0, 0, 0, 0, 0, 0])).set 48 (.inl [x7, 0, 0, 0, 0, 0, 0, 0, 0, 0, 0, 0, 0])).set 49 (.inl [(-1), 0, 0, 0, 0, 0, 0, 0, 0, 0, 0, 0, 0])) ++ [.inr (.inr (2, [.int x1, .int x2, .int x3, .int x4, .int x4, .int x6, .int x7, .int ((1 <<< (x4 &&& 31) : Int32) ||| (1 <<< (x4 &&& 31) : Int32)), .int (1 <<< (x6 &&& 31) : Int32), .int (-1)])), .inr (.inl [some 61, none, none, none, none, none, none, none, none, none])]))) ?_
    refine rr rfl (s_iinc (v := 6) rfl (by decide) rfl) ?_
    refine rr rfl s_goto ?_
    refine rr rfl (s_iload_n rfl) ?_
    refine rr rfl (s_bipush (v := 8) (by decide)) ?_
    refine rr rfl (s_icF (by decide)) ?_
    refine rr rfl (s_aload_n rfl) ?_
    refine rr rfl (s_getf rfl rfl) ?_
    refine rr rfl (s_iload_n rfl) ?_
    refine rr rfl (s_iconst (v := 0) (by decide)) ?_
    refine rr rfl (s_iastore (j := 6) (f' := (List.replicate 8 0)) rfl rfl (Nat.le_of_ble_eq_true rfl) rfl (Nat.le_of_ble_eq_true rfl) rfl (h' := ((((((((((((hF.set 3 (.inr (.inr (0, [.int 1, .ref 62, .int 1])))).set 6 (.inr (.inr (6, [.ref 2, .ref 7, .ref 8, .ref 9, .int 1])))).set 41 (.inr (.inr (9, [.int 4, .int 1, .ref 42, .ref 43, .ref 44, .ref 45, .ref 46, .ref 47, .ref 48, .ref 49, .ref 50, .ref 51, .int 0, .int 0, .int 0, .int 0, .int 0, .int 0, .int 0, .int 0, .ref 52, .int 0, .ref 53, .int 0, .ref 54, .int 0, .ref 55, .ref 56, .ref 57, .ref 58, .int 0, .ref 59, .ref 60])))).set 42 (.inl [x1, 0, 0, 0, 0, 0, 0, 0, 0, 0, 0, 0, 0])).set 43 (.inl [x2, 0, 0, 0, 0, 0, 0, 0, 0, 0, 0, 0, 0])).set 44 (.inl [x3, 0, 0, 0, 0, 0, 0, 0, 0, 0, 0, 0, 0])).set 45 (.inl [x4, 0, 0, 0, 0, 0, 0, 0, 0, 0, 0, 0, 0])).set 46 (.inl [x5, 0, 0, 0, 0, 0, 0, 0, 0, 0, 0, 0, 0])).set 47 (.inl [x6, 0, 0, 0, 0, 0, 0, 0, 0, 0, 0, 0, 0])).set 48 (.inl [x7, 0, 0, 0, 0, 0, 0, 0, 0, 0, 0, 0, 0])).set 49 (.inl [(-1), 0, 0, 0, 0, 0, 0, 0, 0, 0, 0, 0, 0])) ++ [.inr (.inr (2, [.int x1, .int x2, .int x3, .int x4, .int x4, .int x6, .int x7, .int ((1 <<< (x4 &&& 31) : Int32) ||| (1 <<< (x4 &&& 31) : Int32)), .int (1 <<< (x6 &&& 31) : Int32), .int (-1)])), .inr (.inl [some 61, none, none, none, none, none, none, none, none, none])]))) ?_
    refine rr rfl (s_iinc (v := 7) rfl (by decide) rfl) ?_
    refine rr rfl s_goto ?_
    refine rr rfl (s_iload_n rfl) ?_
    refine rr rfl (s_bipush (v := 8) (by decide)) ?_
    refine rr rfl (s_icF (by decide)) ?_
    refine rr rfl (s_aload_n rfl) ?_
    refine rr rfl (s_getf rfl rfl) ?_
    refine rr rfl (s_iload_n rfl) ?_
    refine rr rfl (s_iconst (v := 0) (by decide)) ?_
    refine rr rfl (s_iastore (j := 7) (f' := (List.replicate 8 0)) rfl rfl (Nat.le_of_ble_eq_true rfl) rfl (Nat.le_of_ble_eq_true rfl) rfl (h' := ((((((((((((hF.set 3 (.inr (.inr (0, [.int 1, .ref 62, .int 1])))).set 6 (.inr (.inr (6, [.ref 2, .ref 7, .ref 8, .ref 9, .int 1])))).set 41 (.inr (.inr (9, [.int 4, .int 1, .ref 42, .ref 43, .ref 44, .ref 45, .ref 46, .ref 47, .ref 48, .ref 49, .ref 50, .ref 51, .int 0, .int 0, .int 0, .int 0, .int 0, .int 0, .int 0, .int 0, .ref 52, .int 0, .ref 53, .int 0, .ref 54, .int 0, .ref 55, .ref 56, .ref 57, .ref 58, .int 0, .ref 59, .ref 60])))).set 42 (.inl [x1, 0, 0, 0, 0, 0, 0, 0, 0, 0, 0, 0, 0])).set 43 (.inl [x2, 0, 0, 0, 0, 0, 0, 0, 0, 0, 0, 0, 0])).set 44 (.inl [x3, 0, 0, 0, 0, 0, 0, 0, 0, 0, 0, 0, 0])).set 45 (.inl [x4, 0, 0, 0, 0, 0, 0, 0, 0, 0, 0, 0, 0])).set 46 (.inl [x5, 0, 0, 0, 0, 0, 0, 0, 0, 0, 0, 0, 0])).set 47 (.inl [x6, 0, 0, 0, 0, 0, 0, 0, 0, 0, 0, 0, 0])).set 48 (.inl [x7, 0, 0, 0, 0, 0, 0, 0, 0, 0, 0, 0, 0])).set 49 (.inl [(-1), 0, 0, 0, 0, 0, 0, 0, 0, 0, 0, 0, 0])) ++ [.inr (.inr (2, [.int x1, .int x2, .int x3, .int x4, .int x4, .int x6, .int x7, .int ((1 <<< (x4 &&& 31) : Int32) ||| (1 <<< (x4 &&& 31) : Int32)), .int (1 <<< (x6 &&& 31) : Int32), .int (-1)])), .inr (.inl [some 61, none, none, none, none, none, none, none, none, none])]))) ?_
    refine rr rfl (s_iinc (v := 8) rfl (by decide) rfl) ?_
    refine rr rfl s_goto ?_
    refine rr rfl (s_iload_n rfl) ?_
    refine rr rfl (s_bipush (v := 8) (by decide)) ?_
    refine rr rfl (s_icT (by decide)) ?_
    refine rr rfl (s_iconst (v := 1) (by decide)) ?_
    refine rr rfl (s_istore_n rfl) ?_
    refine rr rfl (s_iconst (v := 1) (by decide)) ?_
    refine rr rfl (s_istore_n rfl) ?_
    refine rr rfl (s_iload_n rfl) ?_
    refine rr rfl (s_ifF (by decide)) ?_
    refine rr rfl (s_iload_n rfl) ?_
    refine rr rfl (s_ifF (by decide)) ?_
    refine rr rfl (s_iconst (v := 0) (by decide)) ?_
    refine rr rfl (s_istore_n rfl) ?_
    refine rr rfl (s_iconst (v := 0) (by decide)) ?_
    refine rr rfl (s_istore_n rfl) ?_
    refine rr rfl (s_iload_n rfl) ?_
    refine rr rfl (s_aload_n rfl) ?_
    refine rr rfl (s_getf rfl rfl) ?_
    refine rr rfl (s_icF (by decide)) ?_
    refine rr rfl (s_iconst (v := 0) (by decide)) ?_
    refine rr rfl (s_istore rfl) ?_
    refine rr rfl (s_aload_n rfl) ?_
    refine rr rfl (s_getf rfl rfl) ?_
    refine rr rfl (s_iload_n rfl) ?_
    refine rr rfl (s_iaload (j := 0) rfl rfl rfl) ?_
    refine rr rfl (s_ifT (ic_ne g1)) ?_
    refine rr rfl (s_iload rfl) ?_
    refine rr rfl (s_aload_n rfl) ?_
    refine rr rfl (s_getf rfl rfl) ?_
    refine rr rfl (s_aload_n rfl) ?_
    refine rr rfl (s_getf rfl rfl) ?_
    refine rr rfl (s_iload_n rfl) ?_
    refine rr rfl (s_iaload (j := 0) rfl rfl rfl) ?_
    refine rr rfl (s_ialdR (n := 8) (x := 0) rfl g2 g3) ?_
    refine rr rfl (s_icT (by decide)) ?_
    refine rr rfl (s_iinc (v := 1) rfl (by decide) rfl) ?_
    refine rr rfl s_goto ?_
    refine rr rfl (s_iload_n rfl) ?_
    refine rr rfl (s_aload_n rfl) ?_
    refine rr rfl (s_getf rfl rfl) ?_
    refine rr rfl (s_icT (by decide)) ?_
    refine rr rfl s_goto ?_
    refine rr rfl (s_iload_n rfl) ?_
    refine rr rfl (s_ifT (by decide)) ?_
    refine rr rfl (s_iload_n rfl) ?_
    exact rrt rfl rfl rfl rfl
  refine rrc rfl rfl rfl (do_of g_X9_lays rfl rfl e2) ?_
  refine rr rfl (s_istore rfl) ?_
  refine rr rfl (s_iload rfl) ?_
  refine rr rfl (s_ifF (by decide)) ?_
  refine rr rfl (s_aload_n rfl) ?_
  refine rr rfl (s_getf rfl rfl) ?_
  refine rr rfl (s_bipush (v := 12) (by decide)) ?_
  refine rr rfl (s_icT (by decide)) ?_
  refine rr rfl (s_aload_n rfl) ?_
  refine rr rfl (s_getf rfl rfl) ?_
  refine rr rfl (s_iconst (v := 1) (by decide)) ?_
  refine rr rfl (s_isub (v := 0) (by decide)) ?_
  exact rrt rfl rfl rfl rfl
set_option maxHeartbeats 4000000 in
set_option maxRecDepth 10000 in
theorem rm_Kim {x1 x2 x3 x4 x5 x6 x7 : Int32} (g1 : ¬ x2 = 0) (g2 : ¬ x3 < 0) (g3 : x3 < nI 8) : a_run MT [] (a_m MT [] 100000 10) 11 (some .int) tabX9_rule 90000 95 (alQ x1 x2 x3 x4 x5 x6 x7) [] (((hF.set 3 (.inr (.inr (0, [.int 1, .ref 62, .int 1])))).set 6 (.inr (.inr (6, [.ref 2, .ref 7, .ref 8, .ref 9, .int 1])))) ++ [.inr (.inr (2, [.int x1, .int x2, .int x3, .int x4, .int x5, .int x6, .int x7, .int ((1 <<< (x4 &&& 31) : Int32) ||| (1 <<< (x5 &&& 31) : Int32)), .int 0, .int (-1)])), .inr (.inl [some 61, none, none, none, none, none, none, none, none, none])]) 0 0 = some (some (.int 0), ((((((((((((hF.set 3 (.inr (.inr (0, [.int 1, .ref 62, .int 1])))).set 6 (.inr (.inr (6, [.ref 2, .ref 7, .ref 8, .ref 9, .int 1])))).set 41 (.inr (.inr (9, [.int 4, .int 1, .ref 42, .ref 43, .ref 44, .ref 45, .ref 46, .ref 47, .ref 48, .ref 49, .ref 50, .ref 51, .int 0, .int 0, .int 0, .int 0, .int 0, .int 0, .int 0, .int 0, .ref 52, .int 0, .ref 53, .int 0, .ref 54, .int 0, .ref 55, .ref 56, .ref 57, .ref 58, .int 0, .ref 59, .ref 60])))).set 42 (.inl [x1, 0, 0, 0, 0, 0, 0, 0, 0, 0, 0, 0, 0])).set 43 (.inl [x2, 0, 0, 0, 0, 0, 0, 0, 0, 0, 0, 0, 0])).set 44 (.inl [x3, 0, 0, 0, 0, 0, 0, 0, 0, 0, 0, 0, 0])).set 45 (.inl [x4, 0, 0, 0, 0, 0, 0, 0, 0, 0, 0, 0, 0])).set 46 (.inl [x5, 0, 0, 0, 0, 0, 0, 0, 0, 0, 0, 0, 0])).set 47 (.inl [x6, 0, 0, 0, 0, 0, 0, 0, 0, 0, 0, 0, 0])).set 48 (.inl [x7, 0, 0, 0, 0, 0, 0, 0, 0, 0, 0, 0, 0])).set 49 (.inl [(-1), 0, 0, 0, 0, 0, 0, 0, 0, 0, 0, 0, 0])) ++ [.inr (.inr (2, [.int x1, .int x2, .int x3, .int x4, .int x5, .int x6, .int x7, .int ((1 <<< (x4 &&& 31) : Int32) ||| (1 <<< (x5 &&& 31) : Int32)), .int 0, .int (-1)])), .inr (.inl [some 61, none, none, none, none, none, none, none, none, none])]), 0, 0) := by
  refine rr rfl (s_aload_n rfl) ?_
  refine rr rfl (s_aload_n rfl) ?_
  refine rr rfl (s_getf rfl rfl) ?_
  refine rr rfl (s_iload_n rfl) ?_
  refine rr rfl (s_iload_n rfl) ?_
  refine rr rfl (s_iload_n rfl) ?_
  refine rr rfl (s_iload rfl) ?_
  refine rr rfl (s_iload rfl) ?_
  refine rr rfl (s_iload rfl) ?_
  refine rr rfl (s_iload rfl) ?_
  have e1 : a_m MT [] 100000 10 miX9_sets [.ref 41, .int 0, .int x1, .int x2, .int x3, .int x4, .int x5, .int x6, .int x7] (((hF.set 3 (.inr (.inr (0, [.int 1, .ref 62, .int 1])))).set 6 (.inr (.inr (6, [.ref 2, .ref 7, .ref 8, .ref 9, .int 1])))) ++ [.inr (.inr (2, [.int x1, .int x2, .int x3, .int x4, .int x5, .int x6, .int x7, .int ((1 <<< (x4 &&& 31) : Int32) ||| (1 <<< (x5 &&& 31) : Int32)), .int 0, .int (-1)])), .inr (.inl [some 61, none, none, none, none, none, none, none, none, none])]) = some (none, (((((((((((hF.set 3 (.inr (.inr (0, [.int 1, .ref 62, .int 1])))).set 6 (.inr (.inr (6, [.ref 2, .ref 7, .ref 8, .ref 9, .int 1])))).set 42 (.inl [x1, 0, 0, 0, 0, 0, 0, 0, 0, 0, 0, 0, 0])).set 43 (.inl [x2, 0, 0, 0, 0, 0, 0, 0, 0, 0, 0, 0, 0])).set 44 (.inl [x3, 0, 0, 0, 0, 0, 0, 0, 0, 0, 0, 0, 0])).set 45 (.inl [x4, 0, 0, 0, 0, 0, 0, 0, 0, 0, 0, 0, 0])).set 46 (.inl [x5, 0, 0, 0, 0, 0, 0, 0, 0, 0, 0, 0, 0])).set 47 (.inl [x6, 0, 0, 0, 0, 0, 0, 0, 0, 0, 0, 0, 0])).set 48 (.inl [x7, 0, 0, 0, 0, 0, 0, 0, 0, 0, 0, 0, 0])).set 49 (.inl [(-1), 0, 0, 0, 0, 0, 0, 0, 0, 0, 0, 0, 0])) ++ [.inr (.inr (2, [.int x1, .int x2, .int x3, .int x4, .int x5, .int x6, .int x7, .int ((1 <<< (x4 &&& 31) : Int32) ||| (1 <<< (x5 &&& 31) : Int32)), .int 0, .int (-1)])), .inr (.inl [some 61, none, none, none, none, none, none, none, none, none])]), 0, 0) := by
    refine me (d := 9) g_X9_sets (Nat.le_of_ble_eq_true rfl) ?_
    refine rr rfl (s_aload_n rfl) ?_
    refine rr rfl (s_getf rfl rfl) ?_
    refine rr rfl (s_iload_n rfl) ?_
    refine rr rfl (s_iload_n rfl) ?_
    refine rr rfl (s_iastore (j := 0) (f' := [x1, 0, 0, 0, 0, 0, 0, 0, 0, 0, 0, 0, 0]) rfl rfl (Nat.le_of_ble_eq_true rfl) rfl (Nat.le_of_ble_eq_true rfl) rfl (h' := ((((hF.set 3 (.inr (.inr (0, [.int 1, .ref 62, .int 1])))).set 6 (.inr (.inr (6, [.ref 2, .ref 7, .ref 8, .ref 9, .int 1])))).set 42 (.inl [x1, 0, 0, 0, 0, 0, 0, 0, 0, 0, 0, 0, 0])) ++ [.inr (.inr (2, [.int x1, .int x2, .int x3, .int x4, .int x5, .int x6, .int x7, .int ((1 <<< (x4 &&& 31) : Int32) ||| (1 <<< (x5 &&& 31) : Int32)), .int 0, .int (-1)])), .inr (.inl [some 61, none, none, none, none, none, none, none, none, none])]))) ?_
    refine rr rfl (s_aload_n rfl) ?_
    refine rr rfl (s_getf rfl rfl) ?_
    refine rr rfl (s_iload_n rfl) ?_
    refine rr rfl (s_iload_n rfl) ?_
    refine rr rfl (s_iastore (j := 0) (f' := [x2, 0, 0, 0, 0, 0, 0, 0, 0, 0, 0, 0, 0]) rfl rfl (Nat.le_of_ble_eq_true rfl) rfl (Nat.le_of_ble_eq_true rfl) rfl (h' := (((((hF.set 3 (.inr (.inr (0, [.int 1, .ref 62, .int 1])))).set 6 (.inr (.inr (6, [.ref 2, .ref 7, .ref 8, .ref 9, .int 1])))).set 42 (.inl [x1, 0, 0, 0, 0, 0, 0, 0, 0, 0, 0, 0, 0])).set 43 (.inl [x2, 0, 0, 0, 0, 0, 0, 0, 0, 0, 0, 0, 0])) ++ [.inr (.inr (2, [.int x1, .int x2, .int x3, .int x4, .int x5, .int x6, .int x7, .int ((1 <<< (x4 &&& 31) : Int32) ||| (1 <<< (x5 &&& 31) : Int32)), .int 0, .int (-1)])), .inr (.inl [some 61, none, none, none, none, none, none, none, none, none])]))) ?_
    refine rr rfl (s_aload_n rfl) ?_
    refine rr rfl (s_getf rfl rfl) ?_
    refine rr rfl (s_iload_n rfl) ?_
    refine rr rfl (s_iload rfl) ?_
    refine rr rfl (s_iastore (j := 0) (f' := [x3, 0, 0, 0, 0, 0, 0, 0, 0, 0, 0, 0, 0]) rfl rfl (Nat.le_of_ble_eq_true rfl) rfl (Nat.le_of_ble_eq_true rfl) rfl (h' := ((((((hF.set 3 (.inr (.inr (0, [.int 1, .ref 62, .int 1])))).set 6 (.inr (.inr (6, [.ref 2, .ref 7, .ref 8, .ref 9, .int 1])))).set 42 (.inl [x1, 0, 0, 0, 0, 0, 0, 0, 0, 0, 0, 0, 0])).set 43 (.inl [x2, 0, 0, 0, 0, 0, 0, 0, 0, 0, 0, 0, 0])).set 44 (.inl [x3, 0, 0, 0, 0, 0, 0, 0, 0, 0, 0, 0, 0])) ++ [.inr (.inr (2, [.int x1, .int x2, .int x3, .int x4, .int x5, .int x6, .int x7, .int ((1 <<< (x4 &&& 31) : Int32) ||| (1 <<< (x5 &&& 31) : Int32)), .int 0, .int (-1)])), .inr (.inl [some 61, none, none, none, none, none, none, none, none, none])]))) ?_
    refine rr rfl (s_aload_n rfl) ?_
    refine rr rfl (s_getf rfl rfl) ?_
    refine rr rfl (s_iload_n rfl) ?_
    refine rr rfl (s_iload rfl) ?_
    refine rr rfl (s_iastore (j := 0) (f' := [x4, 0, 0, 0, 0, 0, 0, 0, 0, 0, 0, 0, 0]) rfl rfl (Nat.le_of_ble_eq_true rfl) rfl (Nat.le_of_ble_eq_true rfl) rfl (h' := (((((((hF.set 3 (.inr (.inr (0, [.int 1, .ref 62, .int 1])))).set 6 (.inr (.inr (6, [.ref 2, .ref 7, .ref 8, .ref 9, .int 1])))).set 42 (.inl [x1, 0, 0, 0, 0, 0, 0, 0, 0, 0, 0, 0, 0])).set 43 (.inl [x2, 0, 0, 0, 0, 0, 0, 0, 0, 0, 0, 0, 0])).set 44 (.inl [x3, 0, 0, 0, 0, 0, 0, 0, 0, 0, 0, 0, 0])).set 45 (.inl [x4, 0, 0, 0, 0, 0, 0, 0, 0, 0, 0, 0, 0])) ++ [.inr (.inr (2, [.int x1, .int x2, .int x3, .int x4, .int x5, .int x6, .int x7, .int ((1 <<< (x4 &&& 31) : Int32) ||| (1 <<< (x5 &&& 31) : Int32)), .int 0, .int (-1)])), .inr (.inl [some 61, none, none, none, none, none, none, none, none, none])]))) ?_
    refine rr rfl (s_aload_n rfl) ?_
    refine rr rfl (s_getf rfl rfl) ?_
    refine rr rfl (s_iload_n rfl) ?_
    refine rr rfl (s_iload rfl) ?_
    refine rr rfl (s_iastore (j := 0) (f' := [x5, 0, 0, 0, 0, 0, 0, 0, 0, 0, 0, 0, 0]) rfl rfl (Nat.le_of_ble_eq_true rfl) rfl (Nat.le_of_ble_eq_true rfl) rfl (h' := ((((((((hF.set 3 (.inr (.inr (0, [.int 1, .ref 62, .int 1])))).set 6 (.inr (.inr (6, [.ref 2, .ref 7, .ref 8, .ref 9, .int 1])))).set 42 (.inl [x1, 0, 0, 0, 0, 0, 0, 0, 0, 0, 0, 0, 0])).set 43 (.inl [x2, 0, 0, 0, 0, 0, 0, 0, 0, 0, 0, 0, 0])).set 44 (.inl [x3, 0, 0, 0, 0, 0, 0, 0, 0, 0, 0, 0, 0])).set 45 (.inl [x4, 0, 0, 0, 0, 0, 0, 0, 0, 0, 0, 0, 0])).set 46 (.inl [x5, 0, 0, 0, 0, 0, 0, 0, 0, 0, 0, 0, 0])) ++ [.inr (.inr (2, [.int x1, .int x2, .int x3, .int x4, .int x5, .int x6, .int x7, .int ((1 <<< (x4 &&& 31) : Int32) ||| (1 <<< (x5 &&& 31) : Int32)), .int 0, .int (-1)])), .inr (.inl [some 61, none, none, none, none, none, none, none, none, none])]))) ?_
    refine rr rfl (s_aload_n rfl) ?_
    refine rr rfl (s_getf rfl rfl) ?_
    refine rr rfl (s_iload_n rfl) ?_
    refine rr rfl (s_iload rfl) ?_
    refine rr rfl (s_iastore (j := 0) (f' := [x6, 0, 0, 0, 0, 0, 0, 0, 0, 0, 0, 0, 0]) rfl rfl (Nat.le_of_ble_eq_true rfl) rfl (Nat.le_of_ble_eq_true rfl) rfl (h' := (((((((((hF.set 3 (.inr (.inr (0, [.int 1, .ref 62, .int 1])))).set 6 (.inr (.inr (6, [.ref 2, .ref 7, .ref 8, .ref 9, .int 1])))).set 42 (.inl [x1, 0, 0, 0, 0, 0, 0, 0, 0, 0, 0, 0, 0])).set 43 (.inl [x2, 0, 0, 0, 0, 0, 0, 0, 0, 0, 0, 0, 0])).set 44 (.inl [x3, 0, 0, 0, 0, 0, 0, 0, 0, 0, 0, 0, 0])).set 45 (.inl [x4, 0, 0, 0, 0, 0, 0, 0, 0, 0, 0, 0, 0])).set 46 (.inl [x5, 0, 0, 0, 0, 0, 0, 0, 0, 0, 0, 0, 0])).set 47 (.inl [x6, 0, 0, 0, 0, 0, 0, 0, 0, 0, 0, 0, 0])) ++ [.inr (.inr (2, [.int x1, .int x2, .int x3, .int x4, .int x5, .int x6, .int x7, .int ((1 <<< (x4 &&& 31) : Int32) ||| (1 <<< (x5 &&& 31) : Int32)), .int 0, .int (-1)])), .inr (.inl [some 61, none, none, none, none, none, none, none, none, none])]))) ?_
    refine rr rfl (s_aload_n rfl) ?_
    refine rr rfl (s_getf rfl rfl) ?_
    refine rr rfl (s_iload_n rfl) ?_
    refine rr rfl (s_iload rfl) ?_
    refine rr rfl (s_iastore (j := 0) (f' := [x7, 0, 0, 0, 0, 0, 0, 0, 0, 0, 0, 0, 0]) rfl rfl (Nat.le_of_ble_eq_true rfl) rfl (Nat.le_of_ble_eq_true rfl) rfl (h' := ((((((((((hF.set 3 (.inr (.inr (0, [.int 1, .ref 62, .int 1])))).set 6 (.inr (.inr (6, [.ref 2, .ref 7, .ref 8, .ref 9, .int 1])))).set 42 (.inl [x1, 0, 0, 0, 0, 0, 0, 0, 0, 0, 0, 0, 0])).set 43 (.inl [x2, 0, 0, 0, 0, 0, 0, 0, 0, 0, 0, 0, 0])).set 44 (.inl [x3, 0, 0, 0, 0, 0, 0, 0, 0, 0, 0, 0, 0])).set 45 (.inl [x4, 0, 0, 0, 0, 0, 0, 0, 0, 0, 0, 0, 0])).set 46 (.inl [x5, 0, 0, 0, 0, 0, 0, 0, 0, 0, 0, 0, 0])).set 47 (.inl [x6, 0, 0, 0, 0, 0, 0, 0, 0, 0, 0, 0, 0])).set 48 (.inl [x7, 0, 0, 0, 0, 0, 0, 0, 0, 0, 0, 0, 0])) ++ [.inr (.inr (2, [.int x1, .int x2, .int x3, .int x4, .int x5, .int x6, .int x7, .int ((1 <<< (x4 &&& 31) : Int32) ||| (1 <<< (x5 &&& 31) : Int32)), .int 0, .int (-1)])), .inr (.inl [some 61, none, none, none, none, none, none, none, none, none])]))) ?_
    refine rr rfl (s_aload_n rfl) ?_
    refine rr rfl (s_getf rfl rfl) ?_
    refine rr rfl (s_iload_n rfl) ?_
    refine rr rfl (s_iconst (v := (-1)) (by decide)) ?_
    refine rr rfl (s_iastore (j := 0) (f' := [(-1), 0, 0, 0, 0, 0, 0, 0, 0, 0, 0, 0, 0]) rfl rfl (Nat.le_of_ble_eq_true rfl) rfl (Nat.le_of_ble_eq_true rfl) rfl (h' := (((((((((((hF.set 3 (.inr (.inr (0, [.int 1, .ref 62, .int 1])))).set 6 (.inr (.inr (6, [.ref 2, .ref 7, .ref 8, .ref 9, .int 1])))).set 42 (.inl [x1, 0, 0, 0, 0, 0, 0, 0, 0, 0, 0, 0, 0])).set 43 (.inl [x2, 0, 0, 0, 0, 0, 0, 0, 0, 0, 0, 0, 0])).set 44 (.inl [x3, 0, 0, 0, 0, 0, 0, 0, 0, 0, 0, 0, 0])).set 45 (.inl [x4, 0, 0, 0, 0, 0, 0, 0, 0, 0, 0, 0, 0])).set 46 (.inl [x5, 0, 0, 0, 0, 0, 0, 0, 0, 0, 0, 0, 0])).set 47 (.inl [x6, 0, 0, 0, 0, 0, 0, 0, 0, 0, 0, 0, 0])).set 48 (.inl [x7, 0, 0, 0, 0, 0, 0, 0, 0, 0, 0, 0, 0])).set 49 (.inl [(-1), 0, 0, 0, 0, 0, 0, 0, 0, 0, 0, 0, 0])) ++ [.inr (.inr (2, [.int x1, .int x2, .int x3, .int x4, .int x5, .int x6, .int x7, .int ((1 <<< (x4 &&& 31) : Int32) ||| (1 <<< (x5 &&& 31) : Int32)), .int 0, .int (-1)])), .inr (.inl [some 61, none, none, none, none, none, none, none, none, none])]))) ?_
    exact rrt rfl rfl rfl rfl
  refine rrc rfl rfl rfl (do_of g_X9_sets rfl rfl e1) ?_
  refine rr rfl (s_aload_n rfl) ?_
  refine rr rfl rfl ?_
  refine rr rfl (s_getf rfl rfl) ?_
  refine rr rfl (s_iconst (v := 1) (by decide)) ?_
  refine rr rfl (s_iadd (v := 1) (by decide)) ?_
  refine rr rfl (s_putf rfl rfl (Nat.le_of_ble_eq_true rfl) rfl (Nat.le_of_ble_eq_true rfl) rfl (h' := ((((((((((((hF.set 3 (.inr (.inr (0, [.int 1, .ref 62, .int 1])))).set 6 (.inr (.inr (6, [.ref 2, .ref 7, .ref 8, .ref 9, .int 1])))).set 41 (.inr (.inr (9, [.int 4, .int 1, .ref 42, .ref 43, .ref 44, .ref 45, .ref 46, .ref 47, .ref 48, .ref 49, .ref 50, .ref 51, .int 0, .int 0, .int 0, .int 0, .int 0, .int 0, .int 0, .int 0, .ref 52, .int 0, .ref 53, .int 0, .ref 54, .int 0, .ref 55, .ref 56, .ref 57, .ref 58, .int 0, .ref 59, .ref 60])))).set 42 (.inl [x1, 0, 0, 0, 0, 0, 0, 0, 0, 0, 0, 0, 0])).set 43 (.inl [x2, 0, 0, 0, 0, 0, 0, 0, 0, 0, 0, 0, 0])).set 44 (.inl [x3, 0, 0, 0, 0, 0, 0, 0, 0, 0, 0, 0, 0])).set 45 (.inl [x4, 0, 0, 0, 0, 0, 0, 0, 0, 0, 0, 0, 0])).set 46 (.inl [x5, 0, 0, 0, 0, 0, 0, 0, 0, 0, 0, 0, 0])).set 47 (.inl [x6, 0, 0, 0, 0, 0, 0, 0, 0, 0, 0, 0, 0])).set 48 (.inl [x7, 0, 0, 0, 0, 0, 0, 0, 0, 0, 0, 0, 0])).set 49 (.inl [(-1), 0, 0, 0, 0, 0, 0, 0, 0, 0, 0, 0, 0])) ++ [.inr (.inr (2, [.int x1, .int x2, .int x3, .int x4, .int x5, .int x6, .int x7, .int ((1 <<< (x4 &&& 31) : Int32) ||| (1 <<< (x5 &&& 31) : Int32)), .int 0, .int (-1)])), .inr (.inl [some 61, none, none, none, none, none, none, none, none, none])]))) ?_
  refine rr rfl (s_aload_n rfl) ?_
  have e2 : a_m MT [] 100000 10 miX9_lays [.ref 41] ((((((((((((hF.set 3 (.inr (.inr (0, [.int 1, .ref 62, .int 1])))).set 6 (.inr (.inr (6, [.ref 2, .ref 7, .ref 8, .ref 9, .int 1])))).set 41 (.inr (.inr (9, [.int 4, .int 1, .ref 42, .ref 43, .ref 44, .ref 45, .ref 46, .ref 47, .ref 48, .ref 49, .ref 50, .ref 51, .int 0, .int 0, .int 0, .int 0, .int 0, .int 0, .int 0, .int 0, .ref 52, .int 0, .ref 53, .int 0, .ref 54, .int 0, .ref 55, .ref 56, .ref 57, .ref 58, .int 0, .ref 59, .ref 60])))).set 42 (.inl [x1, 0, 0, 0, 0, 0, 0, 0, 0, 0, 0, 0, 0])).set 43 (.inl [x2, 0, 0, 0, 0, 0, 0, 0, 0, 0, 0, 0, 0])).set 44 (.inl [x3, 0, 0, 0, 0, 0, 0, 0, 0, 0, 0, 0, 0])).set 45 (.inl [x4, 0, 0, 0, 0, 0, 0, 0, 0, 0, 0, 0, 0])).set 46 (.inl [x5, 0, 0, 0, 0, 0, 0, 0, 0, 0, 0, 0, 0])).set 47 (.inl [x6, 0, 0, 0, 0, 0, 0, 0, 0, 0, 0, 0, 0])).set 48 (.inl [x7, 0, 0, 0, 0, 0, 0, 0, 0, 0, 0, 0, 0])).set 49 (.inl [(-1), 0, 0, 0, 0, 0, 0, 0, 0, 0, 0, 0, 0])) ++ [.inr (.inr (2, [.int x1, .int x2, .int x3, .int x4, .int x5, .int x6, .int x7, .int ((1 <<< (x4 &&& 31) : Int32) ||| (1 <<< (x5 &&& 31) : Int32)), .int 0, .int (-1)])), .inr (.inl [some 61, none, none, none, none, none, none, none, none, none])]) = some ((some (.int 1)), ((((((((((((hF.set 3 (.inr (.inr (0, [.int 1, .ref 62, .int 1])))).set 6 (.inr (.inr (6, [.ref 2, .ref 7, .ref 8, .ref 9, .int 1])))).set 41 (.inr (.inr (9, [.int 4, .int 1, .ref 42, .ref 43, .ref 44, .ref 45, .ref 46, .ref 47, .ref 48, .ref 49, .ref 50, .ref 51, .int 0, .int 0, .int 0, .int 0, .int 0, .int 0, .int 0, .int 0, .ref 52, .int 0, .ref 53, .int 0, .ref 54, .int 0, .ref 55, .ref 56, .ref 57, .ref 58, .int 0, .ref 59, .ref 60])))).set 42 (.inl [x1, 0, 0, 0, 0, 0, 0, 0, 0, 0, 0, 0, 0])).set 43 (.inl [x2, 0, 0, 0, 0, 0, 0, 0, 0, 0, 0, 0, 0])).set 44 (.inl [x3, 0, 0, 0, 0, 0, 0, 0, 0, 0, 0, 0, 0])).set 45 (.inl [x4, 0, 0, 0, 0, 0, 0, 0, 0, 0, 0, 0, 0])).set 46 (.inl [x5, 0, 0, 0, 0, 0, 0, 0, 0, 0, 0, 0, 0])).set 47 (.inl [x6, 0, 0, 0, 0, 0, 0, 0, 0, 0, 0, 0, 0])).set 48 (.inl [x7, 0, 0, 0, 0, 0, 0, 0, 0, 0, 0, 0, 0])).set 49 (.inl [(-1), 0, 0, 0, 0, 0, 0, 0, 0, 0, 0, 0, 0])) ++ [.inr (.inr (2, [.int x1, .int x2, .int x3, .int x4, .int x5, .int x6, .int x7, .int ((1 <<< (x4 &&& 31) : Int32) ||| (1 <<< (x5 &&& 31) : Int32)), .int 0, .int (-1)])), .inr (.inl [some 61, none, none, none, none, none, none, none, none, none])]), 0, 0) := by
    refine me (d := 9) g_X9_lays (Nat.le_of_ble_eq_true rfl) ?_
    refine rr rfl (s_iconst (v := 0) (by decide)) ?_
    refine rr rfl (s_istore_n rfl) ?_
    refine rr rfl (s_iload_n rfl) ?_
    refine rr rfl (s_bipush (v := 8) (by decide)) ?_
    refine rr rfl (s_icF (by decide)) ?_
    refine rr rfl (s_aload_n rfl) ?_
    refine rr rfl (s_getf rfl rfl) ?_
    refine rr rfl (s_iload_n rfl) ?_
    refine rr rfl (s_iconst (v := 0) (by decide)) ?_
    refine rr rfl (s_iastore (j := 0) (f' := (List.replicate 8 0)) rfl rfl (Nat.le_of_ble_eq_true rfl) rfl (Nat.le_of_ble_eq_true rfl) rfl (h' := ((((((((((((hF.set 3 (.inr (.inr (0, [.int 1, .ref 62, .int 1])))).set 6 (.inr (.inr (6, [.ref 2, .ref 7, .ref 8, .ref 9, .int 1])))).set 41 (.inr (.inr (9, [.int 4, .int 1, .ref 42, .ref 43, .ref 44, .ref 45, .ref 46, .ref 47, .ref 48, .ref 49, .ref 50, .ref 51, .int 0, .int 0, .int 0, .int 0, .int 0, .int 0, .int 0, .int 0, .ref 52, .int 0, .ref 53, .int 0, .ref 54, .int 0, .ref 55, .ref 56, .ref 57, .ref 58, .int 0, .ref 59, .ref 60])))).set 42 (.inl [x1, 0, 0, 0, 0, 0, 0, 0, 0, 0, 0, 0, 0])).set 43 (.inl [x2, 0, 0, 0, 0, 0, 0, 0, 0, 0, 0, 0, 0])).set 44 (.inl [x3, 0, 0, 0, 0, 0, 0, 0, 0, 0, 0, 0, 0])).set 45 (.inl [x4, 0, 0, 0, 0, 0, 0, 0, 0, 0, 0, 0, 0])).set 46 (.inl [x5, 0, 0, 0, 0, 0, 0, 0, 0, 0, 0, 0, 0])).set 47 (.inl [x6, 0, 0, 0, 0, 0, 0, 0, 0, 0, 0, 0, 0])).set 48 (.inl [x7, 0, 0, 0, 0, 0, 0, 0, 0, 0, 0, 0, 0])).set 49 (.inl [(-1), 0, 0, 0, 0, 0, 0, 0, 0, 0, 0, 0, 0])) ++ [.inr (.inr (2, [.int x1, .int x2, .int x3, .int x4, .int x5, .int x6, .int x7, .int ((1 <<< (x4 &&& 31) : Int32) ||| (1 <<< (x5 &&& 31) : Int32)), .int 0, .int (-1)])), .inr (.inl [some 61, none, none, none, none, none, none, none, none, none])]))) ?_
    refine rr rfl (s_iinc (v := 1) rfl (by decide) rfl) ?_
    refine rr rfl s_goto ?_
    refine rr rfl (s_iload_n rfl) ?_
    refine rr rfl (s_bipush (v := 8) (by decide)) ?_
    refine rr rfl (s_icF (by decide)) ?_
    refine rr rfl (s_aload_n rfl) ?_
    refine rr rfl (s_getf rfl rfl) ?_
    refine rr rfl (s_iload_n rfl) ?_
    refine rr rfl (s_iconst (v := 0) (by decide)) ?_
    refine rr rfl (s_iastore (j := 1) (f' := (List.replicate 8 0)) rfl rfl (Nat.le_of_ble_eq_true rfl) rfl (Nat.le_of_ble_eq_true rfl) rfl (h' := ((((((((((((hF.set 3 (.inr (.inr (0, [.int 1, .ref 62, .int 1])))).set 6 (.inr (.inr (6, [.ref 2, .ref 7, .ref 8, .ref 9, .int 1])))).set 41 (.inr (.inr (9, [.int 4, .int 1, .ref 42, .ref 43, .ref 44, .ref 45, .ref 46, .ref 47, .ref 48, .ref 49, .ref 50, .ref 51, .int 0, .int 0, .int 0, .int 0, .int 0, .int 0, .int 0, .int 0, .ref 52, .int 0, .ref 53, .int 0, .ref 54, .int 0, .ref 55, .ref 56, .ref 57, .ref 58, .int 0, .ref 59, .ref 60])))).set 42 (.inl [x1, 0, 0, 0, 0, 0, 0, 0, 0, 0, 0, 0, 0])).set 43 (.inl [x2, 0, 0, 0, 0, 0, 0, 0, 0, 0, 0, 0, 0])).set 44 (.inl [x3, 0, 0, 0, 0, 0, 0, 0, 0, 0, 0, 0, 0])).set 45 (.inl [x4, 0, 0, 0, 0, 0, 0, 0, 0, 0, 0, 0, 0])).set 46 (.inl [x5, 0, 0, 0, 0, 0, 0, 0, 0, 0, 0, 0, 0])).set 47 (.inl [x6, 0, 0, 0, 0, 0, 0, 0, 0, 0, 0, 0, 0])).set 48 (.inl [x7, 0, 0, 0, 0, 0, 0, 0, 0, 0, 0, 0, 0])).set 49 (.inl [(-1), 0, 0, 0, 0, 0, 0, 0, 0, 0, 0, 0, 0])) ++ [.inr (.inr (2, [.int x1, .int x2, .int x3, .int x4, .int x5, .int x6, .int x7, .int ((1 <<< (x4 &&& 31) : Int32) ||| (1 <<< (x5 &&& 31) : Int32)), .int 0, .int (-1)])), .inr (.inl [some 61, none, none, none, none, none, none, none, none, none])]))) ?_
    refine rr rfl (s_iinc (v := 2) rfl (by decide) rfl) ?_
    refine rr rfl s_goto ?_
    refine rr rfl (s_iload_n rfl) ?_
    refine rr rfl (s_bipush (v := 8) (by decide)) ?_
    refine rr rfl (s_icF (by decide)) ?_
    refine rr rfl (s_aload_n rfl) ?_
    refine rr rfl (s_getf rfl rfl) ?_
    refine rr rfl (s_iload_n rfl) ?_
    refine rr rfl (s_iconst (v := 0) (by decide)) ?_
    refine rr rfl (s_iastore (j := 2) (f' := (List.replicate 8 0)) rfl rfl (Nat.le_of_ble_eq_true rfl) rfl (Nat.le_of_ble_eq_true rfl) rfl (h' := ((((((((((((hF.set 3 (.inr (.inr (0, [.int 1, .ref 62, .int 1])))).set 6 (.inr (.inr (6, [.ref 2, .ref 7, .ref 8, .ref 9, .int 1])))).set 41 (.inr (.inr (9, [.int 4, .int 1, .ref 42, .ref 43, .ref 44, .ref 45, .ref 46, .ref 47, .ref 48, .ref 49, .ref 50, .ref 51, .int 0, .int 0, .int 0, .int 0, .int 0, .int 0, .int 0, .int 0, .ref 52, .int 0, .ref 53, .int 0, .ref 54, .int 0, .ref 55, .ref 56, .ref 57, .ref 58, .int 0, .ref 59, .ref 60])))).set 42 (.inl [x1, 0, 0, 0, 0, 0, 0, 0, 0, 0, 0, 0, 0])).set 43 (.inl [x2, 0, 0, 0, 0, 0, 0, 0, 0, 0, 0, 0, 0])).set 44 (.inl [x3, 0, 0, 0, 0, 0, 0, 0, 0, 0, 0, 0, 0])).set 45 (.inl [x4, 0, 0, 0, 0, 0, 0, 0, 0, 0, 0, 0, 0])).set 46 (.inl [x5, 0, 0, 0, 0, 0, 0, 0, 0, 0, 0, 0, 0])).set 47 (.inl [x6, 0, 0, 0, 0, 0, 0, 0, 0, 0, 0, 0, 0])).set 48 (.inl [x7, 0, 0, 0, 0, 0, 0, 0, 0, 0, 0, 0, 0])).set 49 (.inl [(-1), 0, 0, 0, 0, 0, 0, 0, 0, 0, 0, 0, 0])) ++ [.inr (.inr (2, [.int x1, .int x2, .int x3, .int x4, .int x5, .int x6, .int x7, .int ((1 <<< (x4 &&& 31) : Int32) ||| (1 <<< (x5 &&& 31) : Int32)), .int 0, .int (-1)])), .inr (.inl [some 61, none, none, none, none, none, none, none, none, none])]))) ?_
    refine rr rfl (s_iinc (v := 3) rfl (by decide) rfl) ?_
    refine rr rfl s_goto ?_
    refine rr rfl (s_iload_n rfl) ?_
    refine rr rfl (s_bipush (v := 8) (by decide)) ?_
    refine rr rfl (s_icF (by decide)) ?_
    refine rr rfl (s_aload_n rfl) ?_
    refine rr rfl (s_getf rfl rfl) ?_
    refine rr rfl (s_iload_n rfl) ?_
    refine rr rfl (s_iconst (v := 0) (by decide)) ?_
    refine rr rfl (s_iastore (j := 3) (f' := (List.replicate 8 0)) rfl rfl (Nat.le_of_ble_eq_true rfl) rfl (Nat.le_of_ble_eq_true rfl) rfl (h' := ((((((((((((hF.set 3 (.inr (.inr (0, [.int 1, .ref 62, .int 1])))).set 6 (.inr (.inr (6, [.ref 2, .ref 7, .ref 8, .ref 9, .int 1])))).set 41 (.inr (.inr (9, [.int 4, .int 1, .ref 42, .ref 43, .ref 44, .ref 45, .ref 46, .ref 47, .ref 48, .ref 49, .ref 50, .ref 51, .int 0, .int 0, .int 0, .int 0, .int 0, .int 0, .int 0, .int 0, .ref 52, .int 0, .ref 53, .int 0, .ref 54, .int 0, .ref 55, .ref 56, .ref 57, .ref 58, .int 0, .ref 59, .ref 60])))).set 42 (.inl [x1, 0, 0, 0, 0, 0, 0, 0, 0, 0, 0, 0, 0])).set 43 (.inl [x2, 0, 0, 0, 0, 0, 0, 0, 0, 0, 0, 0, 0])).set 44 (.inl [x3, 0, 0, 0, 0, 0, 0, 0, 0, 0, 0, 0, 0])).set 45 (.inl [x4, 0, 0, 0, 0, 0, 0, 0, 0, 0, 0, 0, 0])).set 46 (.inl [x5, 0, 0, 0, 0, 0, 0, 0, 0, 0, 0, 0, 0])).set 47 (.inl [x6, 0, 0, 0, 0, 0, 0, 0, 0, 0, 0, 0, 0])).set 48 (.inl [x7, 0, 0, 0, 0, 0, 0, 0, 0, 0, 0, 0, 0])).set 49 (.inl [(-1), 0, 0, 0, 0, 0, 0, 0, 0, 0, 0, 0, 0])) ++ [.inr (.inr (2, [.int x1, .int x2, .int x3, .int x4, .int x5, .int x6, .int x7, .int ((1 <<< (x4 &&& 31) : Int32) ||| (1 <<< (x5 &&& 31) : Int32)), .int 0, .int (-1)])), .inr (.inl [some 61, none, none, none, none, none, none, none, none, none])]))) ?_
    refine rr rfl (s_iinc (v := 4) rfl (by decide) rfl) ?_
    refine rr rfl s_goto ?_
    refine rr rfl (s_iload_n rfl) ?_
    refine rr rfl (s_bipush (v := 8) (by decide)) ?_
    refine rr rfl (s_icF (by decide)) ?_
    refine rr rfl (s_aload_n rfl) ?_
    refine rr rfl (s_getf rfl rfl) ?_
    refine rr rfl (s_iload_n rfl) ?_
    refine rr rfl (s_iconst (v := 0) (by decide)) ?_
    refine rr rfl (s_iastore (j := 4) (f' := (List.replicate 8 0)) rfl rfl (Nat.le_of_ble_eq_true rfl) rfl (Nat.le_of_ble_eq_true rfl) rfl (h' := ((((((((((((hF.set 3 (.inr (.inr (0, [.int 1, .ref 62, .int 1])))).set 6 (.inr (.inr (6, [.ref 2, .ref 7, .ref 8, .ref 9, .int 1])))).set 41 (.inr (.inr (9, [.int 4, .int 1, .ref 42, .ref 43, .ref 44, .ref 45, .ref 46, .ref 47, .ref 48, .ref 49, .ref 50, .ref 51, .int 0, .int 0, .int 0, .int 0, .int 0, .int 0, .int 0, .int 0, .ref 52, .int 0, .ref 53, .int 0, .ref 54, .int 0, .ref 55, .ref 56, .ref 57, .ref 58, .int 0, .ref 59, .ref 60])))).set 42 (.inl [x1, 0, 0, 0, 0, 0, 0, 0, 0, 0, 0, 0, 0])).set 43 (.inl [x2, 0, 0, 0, 0, 0, 0, 0, 0, 0, 0, 0, 0])).set 44 (.inl [x3, 0, 0, 0, 0, 0, 0, 0, 0, 0, 0, 0, 0])).set 45 (.inl [x4, 0, 0, 0, 0, 0, 0, 0, 0, 0, 0, 0, 0])).set 46 (.inl [x5, 0, 0, 0, 0, 0, 0, 0, 0, 0, 0, 0, 0])).set 47 (.inl [x6, 0, 0, 0, 0, 0, 0, 0, 0, 0, 0, 0, 0])).set 48 (.inl [x7, 0, 0, 0, 0, 0, 0, 0, 0, 0, 0, 0, 0])).set 49 (.inl [(-1), 0, 0, 0, 0, 0, 0, 0, 0, 0, 0, 0, 0])) ++ [.inr (.inr (2, [.int x1, .int x2, .int x3, .int x4, .int x5, .int x6, .int x7, .int ((1 <<< (x4 &&& 31) : Int32) ||| (1 <<< (x5 &&& 31) : Int32)), .int 0, .int (-1)])), .inr (.inl [some 61, none, none, none, none, none, none, none, none, none])]))) ?_
    refine rr rfl (s_iinc (v := 5) rfl (by decide) rfl) ?_
    refine rr rfl s_goto ?_
    refine rr rfl (s_iload_n rfl) ?_
    refine rr rfl (s_bipush (v := 8) (by decide)) ?_
    refine rr rfl (s_icF (by decide)) ?_
    refine rr rfl (s_aload_n rfl) ?_
    refine rr rfl (s_getf rfl rfl) ?_
    refine rr rfl (s_iload_n rfl) ?_
    refine rr rfl (s_iconst (v := 0) (by decide)) ?_
    refine rr rfl (s_iastore (j := 5) (f' := (List.replicate 8 0)) rfl rfl (Nat.le_of_ble_eq_true rfl) rfl (Nat.le_of_ble_eq_true rfl) rfl (h' := ((((((((((((hF.set 3 (.inr (.inr (0, [.int 1, .ref 62, .int 1])))).set 6 (.inr (.inr (6, [.ref 2, .ref 7, .ref 8, .ref 9, .int 1])))).set 41 (.inr (.inr (9, [.int 4, .int 1, .ref 42, .ref 43, .ref 44, .ref 45, .ref 46, .ref 47, .ref 48, .ref 49, .ref 50, .ref 51, .int 0, .int 0, .int 0, .int 0, .int 0, .int 0, .int 0, .int 0, .ref 52, .int 0, .ref 53, .int 0, .ref 54, .int 0, .ref 55, .ref 56, .ref 57, .ref 58, .int 0, .ref 59, .ref 60])))).set 42 (.inl [x1, 0, 0, 0, 0, 0, 0, 0, 0, 0, 0, 0, 0])).set 43 (.inl [x2, 0, 0, 0, 0, 0, 0, 0, 0, 0, 0, 0, 0])).set 44 (.inl [x3, 0, 0, 0, 0, 0, 0, 0, 0, 0, 0, 0, 0])).set 45 (.inl [x4, 0, 0, 0, 0, 0, 0, 0, 0, 0, 0, 0, 0])).set 46 (.inl [x5, 0, 0, 0, 0, 0, 0, 0, 0, 0, 0, 0, 0])).set 47 (.inl [x6, 0, 0, 0, 0, 0, 0, 0, 0, 0, 0, 0, 0])).set 48 (.inl [x7, 0, 0, 0, 0, 0, 0, 0, 0, 0, 0, 0, 0])).set 49 (.inl [(-1), 0, 0, 0, 0, 0, 0, 0, 0, 0, 0, 0, 0])) ++ [.inr (.inr (2, [.int x1, .int x2, .int x3, .int x4, .int x5, .int x6, .int x7, .int ((1 <<< (x4 &&& 31) : Int32) ||| (1 <<< (x5 &&& 31) : Int32)), .int 0, .int (-1)])), .inr (.inl [some 61, none, none, none, none, none, none, none, none, none])]))) ?_
    refine rr rfl (s_iinc (v := 6) rfl (by decide) rfl) ?_
    refine rr rfl s_goto ?_
    refine rr rfl (s_iload_n rfl) ?_
    refine rr rfl (s_bipush (v := 8) (by decide)) ?_
    refine rr rfl (s_icF (by decide)) ?_
    refine rr rfl (s_aload_n rfl) ?_
    refine rr rfl (s_getf rfl rfl) ?_
    refine rr rfl (s_iload_n rfl) ?_
    refine rr rfl (s_iconst (v := 0) (by decide)) ?_
    refine rr rfl (s_iastore (j := 6) (f' := (List.replicate 8 0)) rfl rfl (Nat.le_of_ble_eq_true rfl) rfl (Nat.le_of_ble_eq_true rfl) rfl (h' := ((((((((((((hF.set 3 (.inr (.inr (0, [.int 1, .ref 62, .int 1])))).set 6 (.inr (.inr (6, [.ref 2, .ref 7, .ref 8, .ref 9, .int 1])))).set 41 (.inr (.inr (9, [.int 4, .int 1, .ref 42, .ref 43, .ref 44, .ref 45, .ref 46, .ref 47, .ref 48, .ref 49, .ref 50, .ref 51, .int 0, .int 0, .int 0, .int 0, .int 0, .int 0, .int 0, .int 0, .ref 52, .int 0, .ref 53, .int 0, .ref 54, .int 0, .ref 55, .ref 56, .ref 57, .ref 58, .int 0, .ref 59, .ref 60])))).set 42 (.inl [x1, 0, 0, 0, 0, 0, 0, 0, 0, 0, 0, 0, 0])).set 43 (.inl [x2, 0, 0, 0, 0, 0, 0, 0, 0, 0, 0, 0, 0])).set 44 (.inl [x3, 0, 0, 0, 0, 0, 0, 0, 0, 0, 0, 0, 0])).set 45 (.inl [x4, 0, 0, 0, 0, 0, 0, 0, 0, 0, 0, 0, 0])).set 46 (.inl [x5, 0, 0, 0, 0, 0, 0, 0, 0, 0, 0, 0, 0])).set 47 (.inl [x6, 0, 0, 0, 0, 0, 0, 0, 0, 0, 0, 0, 0])).set 48 (.inl [x7, 0, 0, 0, 0, 0, 0, 0, 0, 0, 0, 0, 0])).set 49 (.inl [(-1), 0, 0, 0, 0, 0, 0, 0, 0, 0, 0, 0, 0])) ++ [.inr (.inr (2, [.int x1, .int x2, .int x3, .int x4, .int x5, .int x6, .int x7, .int ((1 <<< (x4 &&& 31) : Int32) ||| (1 <<< (x5 &&& 31) : Int32)), .int 0, .int (-1)])), .inr (.inl [some 61, none, none, none, none, none, none, none, none, none])]))) ?_
    refine rr rfl (s_iinc (v := 7) rfl (by decide) rfl) ?_
    refine rr rfl s_goto ?_
    refine rr rfl (s_iload_n rfl) ?_
    refine rr rfl (s_bipush (v := 8) (by decide)) ?_
    refine rr rfl (s_icF (by decide)) ?_
    refine rr rfl (s_aload_n rfl) ?_
    refine rr rfl (s_getf rfl rfl) ?_
    refine rr rfl (s_iload_n rfl) ?_
    refine rr rfl (s_iconst (v := 0) (by decide)) ?_
    refine rr rfl (s_iastore (j := 7) (f' := (List.replicate 8 0)) rfl rfl (Nat.le_of_ble_eq_true rfl) rfl (Nat.le_of_ble_eq_true rfl) rfl (h' := ((((((((((((hF.set 3 (.inr (.inr (0, [.int 1, .ref 62, .int 1])))).set 6 (.inr (.inr (6, [.ref 2, .ref 7, .ref 8, .ref 9, .int 1])))).set 41 (.inr (.inr (9, [.int 4, .int 1, .ref 42, .ref 43, .ref 44, .ref 45, .ref 46, .ref 47, .ref 48, .ref 49, .ref 50, .ref 51, .int 0, .int 0, .int 0, .int 0, .int 0, .int 0, .int 0, .int 0, .ref 52, .int 0, .ref 53, .int 0, .ref 54, .int 0, .ref 55, .ref 56, .ref 57, .ref 58, .int 0, .ref 59, .ref 60])))).set 42 (.inl [x1, 0, 0, 0, 0, 0, 0, 0, 0, 0, 0, 0, 0])).set 43 (.inl [x2, 0, 0, 0, 0, 0, 0, 0, 0, 0, 0, 0, 0])).set 44 (.inl [x3, 0, 0, 0, 0, 0, 0, 0, 0, 0, 0, 0, 0])).set 45 (.inl [x4, 0, 0, 0, 0, 0, 0, 0, 0, 0, 0, 0, 0])).set 46 (.inl [x5, 0, 0, 0, 0, 0, 0, 0, 0, 0, 0, 0, 0])).set 47 (.inl [x6, 0, 0, 0, 0, 0, 0, 0, 0, 0, 0, 0, 0])).set 48 (.inl [x7, 0, 0, 0, 0, 0, 0, 0, 0, 0, 0, 0, 0])).set 49 (.inl [(-1), 0, 0, 0, 0, 0, 0, 0, 0, 0, 0, 0, 0])) ++ [.inr (.inr (2, [.int x1, .int x2, .int x3, .int x4, .int x5, .int x6, .int x7, .int ((1 <<< (x4 &&& 31) : Int32) ||| (1 <<< (x5 &&& 31) : Int32)), .int 0, .int (-1)])), .inr (.inl [some 61, none, none, none, none, none, none, none, none, none])]))) ?_
    refine rr rfl (s_iinc (v := 8) rfl (by decide) rfl) ?_
    refine rr rfl s_goto ?_
    refine rr rfl (s_iload_n rfl) ?_
    refine rr rfl (s_bipush (v := 8) (by decide)) ?_
    refine rr rfl (s_icT (by decide)) ?_
    refine rr rfl (s_iconst (v := 1) (by decide)) ?_
    refine rr rfl (s_istore_n rfl) ?_
    refine rr rfl (s_iconst (v := 1) (by decide)) ?_
    refine rr rfl (s_istore_n rfl) ?_
    refine rr rfl (s_iload_n rfl) ?_
    refine rr rfl (s_ifF (by decide)) ?_
    refine rr rfl (s_iload_n rfl) ?_
    refine rr rfl (s_ifF (by decide)) ?_
    refine rr rfl (s_iconst (v := 0) (by decide)) ?_
    refine rr rfl (s_istore_n rfl) ?_
    refine rr rfl (s_iconst (v := 0) (by decide)) ?_
    refine rr rfl (s_istore_n rfl) ?_
    refine rr rfl (s_iload_n rfl) ?_
    refine rr rfl (s_aload_n rfl) ?_
    refine rr rfl (s_getf rfl rfl) ?_
    refine rr rfl (s_icF (by decide)) ?_
    refine rr rfl (s_iconst (v := 0) (by decide)) ?_
    refine rr rfl (s_istore rfl) ?_
    refine rr rfl (s_aload_n rfl) ?_
    refine rr rfl (s_getf rfl rfl) ?_
    refine rr rfl (s_iload_n rfl) ?_
    refine rr rfl (s_iaload (j := 0) rfl rfl rfl) ?_
    refine rr rfl (s_ifT (ic_ne g1)) ?_
    refine rr rfl (s_iload rfl) ?_
    refine rr rfl (s_aload_n rfl) ?_
    refine rr rfl (s_getf rfl rfl) ?_
    refine rr rfl (s_aload_n rfl) ?_
    refine rr rfl (s_getf rfl rfl) ?_
    refine rr rfl (s_iload_n rfl) ?_
    refine rr rfl (s_iaload (j := 0) rfl rfl rfl) ?_
    refine rr rfl (s_ialdR (n := 8) (x := 0) rfl g2 g3) ?_
    refine rr rfl (s_icT (by decide)) ?_
    refine rr rfl (s_iinc (v := 1) rfl (by decide) rfl) ?_
    refine rr rfl s_goto ?_
    refine rr rfl (s_iload_n rfl) ?_
    refine rr rfl (s_aload_n rfl) ?_
    refine rr rfl (s_getf rfl rfl) ?_
    refine rr rfl (s_icT (by decide)) ?_
    refine rr rfl s_goto ?_
    refine rr rfl (s_iload_n rfl) ?_
    refine rr rfl (s_ifT (by decide)) ?_
    refine rr rfl (s_iload_n rfl) ?_
    exact rrt rfl rfl rfl rfl
  refine rrc rfl rfl rfl (do_of g_X9_lays rfl rfl e2) ?_
  refine rr rfl (s_istore rfl) ?_
  refine rr rfl (s_iload rfl) ?_
  refine rr rfl (s_ifF (by decide)) ?_
  refine rr rfl (s_aload_n rfl) ?_
  refine rr rfl (s_getf rfl rfl) ?_
  refine rr rfl (s_bipush (v := 12) (by decide)) ?_
  refine rr rfl (s_icT (by decide)) ?_
  refine rr rfl (s_aload_n rfl) ?_
  refine rr rfl (s_getf rfl rfl) ?_
  refine rr rfl (s_iconst (v := 1) (by decide)) ?_
  refine rr rfl (s_isub (v := 0) (by decide)) ?_
  exact rrt rfl rfl rfl rfl
set_option maxHeartbeats 4000000 in
set_option maxRecDepth 10000 in
theorem rm_Kii {x1 x2 x3 x4 x5 x6 x7 : Int32} (g1 : ¬ x2 = 0) (g2 : ¬ x3 < 0) (g3 : x3 < nI 8) : a_run MT [] (a_m MT [] 100000 10) 11 (some .int) tabX9_rule 90000 95 (alQ x1 x2 x3 x4 x5 x6 x7) [] (((hF.set 3 (.inr (.inr (0, [.int 1, .ref 62, .int 1])))).set 6 (.inr (.inr (6, [.ref 2, .ref 7, .ref 8, .ref 9, .int 1])))) ++ [.inr (.inr (2, [.int x1, .int x2, .int x3, .int x4, .int x5, .int x6, .int x7, .int ((1 <<< (x4 &&& 31) : Int32) ||| (1 <<< (x5 &&& 31) : Int32)), .int (1 <<< (x6 &&& 31) : Int32), .int (-1)])), .inr (.inl [some 61, none, none, none, none, none, none, none, none, none])]) 0 0 = some (some (.int 0), ((((((((((((hF.set 3 (.inr (.inr (0, [.int 1, .ref 62, .int 1])))).set 6 (.inr (.inr (6, [.ref 2, .ref 7, .ref 8, .ref 9, .int 1])))).set 41 (.inr (.inr (9, [.int 4, .int 1, .ref 42, .ref 43, .ref 44, .ref 45, .ref 46, .ref 47, .ref 48, .ref 49, .ref 50, .ref 51, .int 0, .int 0, .int 0, .int 0, .int 0, .int 0, .int 0, .int 0, .ref 52, .int 0, .ref 53, .int 0, .ref 54, .int 0, .ref 55, .ref 56, .ref 57, .ref 58, .int 0, .ref 59, .ref 60])))).set 42 (.inl [x1, 0, 0, 0, 0, 0, 0, 0, 0, 0, 0, 0, 0])).set 43 (.inl [x2, 0, 0, 0, 0, 0, 0, 0, 0, 0, 0, 0, 0])).set 44 (.inl [x3, 0, 0, 0, 0, 0, 0, 0, 0, 0, 0, 0, 0])).set 45 (.inl [x4, 0, 0, 0, 0, 0, 0, 0, 0, 0, 0, 0, 0])).set 46 (.inl [x5, 0, 0, 0, 0, 0, 0, 0, 0, 0, 0, 0, 0])).set 47 (.inl [x6, 0, 0, 0, 0, 0, 0, 0, 0, 0, 0, 0, 0])).set 48 (.inl [x7, 0, 0, 0, 0, 0, 0, 0, 0, 0, 0, 0, 0])).set 49 (.inl [(-1), 0, 0, 0, 0, 0, 0, 0, 0, 0, 0, 0, 0])) ++ [.inr (.inr (2, [.int x1, .int x2, .int x3, .int x4, .int x5, .int x6, .int x7, .int ((1 <<< (x4 &&& 31) : Int32) ||| (1 <<< (x5 &&& 31) : Int32)), .int (1 <<< (x6 &&& 31) : Int32), .int (-1)])), .inr (.inl [some 61, none, none, none, none, none, none, none, none, none])]), 0, 0) := by
  refine rr rfl (s_aload_n rfl) ?_
  refine rr rfl (s_aload_n rfl) ?_
  refine rr rfl (s_getf rfl rfl) ?_
  refine rr rfl (s_iload_n rfl) ?_
  refine rr rfl (s_iload_n rfl) ?_
  refine rr rfl (s_iload_n rfl) ?_
  refine rr rfl (s_iload rfl) ?_
  refine rr rfl (s_iload rfl) ?_
  refine rr rfl (s_iload rfl) ?_
  refine rr rfl (s_iload rfl) ?_
  have e1 : a_m MT [] 100000 10 miX9_sets [.ref 41, .int 0, .int x1, .int x2, .int x3, .int x4, .int x5, .int x6, .int x7] (((hF.set 3 (.inr (.inr (0, [.int 1, .ref 62, .int 1])))).set 6 (.inr (.inr (6, [.ref 2, .ref 7, .ref 8, .ref 9, .int 1])))) ++ [.inr (.inr (2, [.int x1, .int x2, .int x3, .int x4, .int x5, .int x6, .int x7, .int ((1 <<< (x4 &&& 31) : Int32) ||| (1 <<< (x5 &&& 31) : Int32)), .int (1 <<< (x6 &&& 31) : Int32), .int (-1)])), .inr (.inl [some 61, none, none, none, none, none, none, none, none, none])]) = some (none, (((((((((((hF.set 3 (.inr (.inr (0, [.int 1, .ref 62, .int 1])))).set 6 (.inr (.inr (6, [.ref 2, .ref 7, .ref 8, .ref 9, .int 1])))).set 42 (.inl [x1, 0, 0, 0, 0, 0, 0, 0, 0, 0, 0, 0, 0])).set 43 (.inl [x2, 0, 0, 0, 0, 0, 0, 0, 0, 0, 0, 0, 0])).set 44 (.inl [x3, 0, 0, 0, 0, 0, 0, 0, 0, 0, 0, 0, 0])).set 45 (.inl [x4, 0, 0, 0, 0, 0, 0, 0, 0, 0, 0, 0, 0])).set 46 (.inl [x5, 0, 0, 0, 0, 0, 0, 0, 0, 0, 0, 0, 0])).set 47 (.inl [x6, 0, 0, 0, 0, 0, 0, 0, 0, 0, 0, 0, 0])).set 48 (.inl [x7, 0, 0, 0, 0, 0, 0, 0, 0, 0, 0, 0, 0])).set 49 (.inl [(-1), 0, 0, 0, 0, 0, 0, 0, 0, 0, 0, 0, 0])) ++ [.inr (.inr (2, [.int x1, .int x2, .int x3, .int x4, .int x5, .int x6, .int x7, .int ((1 <<< (x4 &&& 31) : Int32) ||| (1 <<< (x5 &&& 31) : Int32)), .int (1 <<< (x6 &&& 31) : Int32), .int (-1)])), .inr (.inl [some 61, none, none, none, none, none, none, none, none, none])]), 0, 0) := by
    refine me (d := 9) g_X9_sets (Nat.le_of_ble_eq_true rfl) ?_
    refine rr rfl (s_aload_n rfl) ?_
    refine rr rfl (s_getf rfl rfl) ?_
    refine rr rfl (s_iload_n rfl) ?_
    refine rr rfl (s_iload_n rfl) ?_
    refine rr rfl (s_iastore (j := 0) (f' := [x1, 0, 0, 0, 0, 0, 0, 0, 0, 0, 0, 0, 0]) rfl rfl (Nat.le_of_ble_eq_true rfl) rfl (Nat.le_of_ble_eq_true rfl) rfl (h' := ((((hF.set 3 (.inr (.inr (0, [.int 1, .ref 62, .int 1])))).set 6 (.inr (.inr (6, [.ref 2, .ref 7, .ref 8, .ref 9, .int 1])))).set 42 (.inl [x1, 0, 0, 0, 0, 0, 0, 0, 0, 0, 0, 0, 0])) ++ [.inr (.inr (2, [.int x1, .int x2, .int x3, .int x4, .int x5, .int x6, .int x7, .int ((1 <<< (x4 &&& 31) : Int32) ||| (1 <<< (x5 &&& 31) : Int32)), .int (1 <<< (x6 &&& 31) : Int32), .int (-1)])), .inr (.inl [some 61, none, none, none, none, none, none, none, none, none])]))) ?_
    refine rr rfl (s_aload_n rfl) ?_
    refine rr rfl (s_getf rfl rfl) ?_
    refine rr rfl (s_iload_n rfl) ?_
    refine rr rfl (s_iload_n rfl) ?_
    refine rr rfl (s_iastore (j := 0) (f' := [x2, 0, 0, 0, 0, 0, 0, 0, 0, 0, 0, 0, 0]) rfl rfl (Nat.le_of_ble_eq_true rfl) rfl (Nat.le_of_ble_eq_true rfl) rfl (h' := (((((hF.set 3 (.inr (.inr (0, [.int 1, .ref 62, .int 1])))).set 6 (.inr (.inr (6, [.ref 2, .ref 7, .ref 8, .ref 9, .int 1])))).set 42 (.inl [x1, 0, 0, 0, 0, 0, 0, 0, 0, 0, 0, 0, 0])).set 43 (.inl [x2, 0, 0, 0, 0, 0, 0, 0, 0, 0, 0, 0, 0])) ++ [.inr (.inr (2, [.int x1, .int x2, .int x3, .int x4, .int x5, .int x6, .int x7, .int ((1 <<< (x4 &&& 31) : Int32) ||| (1 <<< (x5 &&& 31) : Int32)), .int (1 <<< (x6 &&& 31) : Int32), .int (-1)])), .inr (.inl [some 61, none, none, none, none, none, none, none, none, none])]))) ?_
    refine rr rfl (s_aload_n rfl) ?_
    refine rr rfl (s_getf rfl rfl) ?_
    refine rr rfl (s_iload_n rfl) ?_
    refine rr rfl (s_iload rfl) ?_
    refine rr rfl (s_iastore (j := 0) (f' := [x3, 0, 0, 0, 0, 0, 0, 0, 0, 0, 0, 0, 0]) rfl rfl (Nat.le_of_ble_eq_true rfl) rfl (Nat.le_of_ble_eq_true rfl) rfl (h' := ((((((hF.set 3 (.inr (.inr (0, [.int 1, .ref 62, .int 1])))).set 6 (.inr (.inr (6, [.ref 2, .ref 7, .ref 8, .ref 9, .int 1])))).set 42 (.inl [x1, 0, 0, 0, 0, 0, 0, 0, 0, 0, 0, 0, 0])).set 43 (.inl [x2, 0, 0, 0, 0, 0, 0, 0, 0, 0, 0, 0, 0])).set 44 (.inl [x3, 0, 0, 0, 0, 0, 0, 0, 0, 0, 0, 0, 0])) ++ [.inr (.inr (2, [.int x1, .int x2, .int x3, .int x4, .int x5, .int x6, .int x7, .int ((1 <<< (x4 &&& 31) : Int32) ||| (1 <<< (x5 &&& 31) : Int32)), .int (1 <<< (x6 &&& 31) : Int32), .int (-1)])), .inr (.inl [some 61, none, none, none, none, none, none, none, none, none])]))) ?_
    refine rr rfl (s_aload_n rfl) ?_
    refine rr rfl (s_getf rfl rfl) ?_
    refine rr rfl (s_iload_n rfl) ?_
    refine rr rfl (s_iload rfl) ?_
    refine rr rfl (s_iastore (j := 0) (f' := [x4, 0, 0, 0, 0, 0, 0, 0, 0, 0, 0, 0, 0]) rfl rfl (Nat.le_of_ble_eq_true rfl) rfl (Nat.le_of_ble_eq_true rfl) rfl (h' := (((((((hF.set 3 (.inr (.inr (0, [.int 1, .ref 62, .int 1])))).set 6 (.inr (.inr (6, [.ref 2, .ref 7, .ref 8, .ref 9, .int 1])))).set 42 (.inl [x1, 0, 0, 0, 0, 0, 0, 0, 0, 0, 0, 0, 0])).set 43 (.inl [x2, 0, 0, 0, 0, 0, 0, 0, 0, 0, 0, 0, 0])).set 44 (.inl [x3, 0, 0, 0, 0, 0, 0, 0, 0, 0, 0, 0, 0])).set 45 (.inl [x4, 0, 0, 0, 0, 0, 0, 0, 0, 0, 0, 0, 0])) ++ [.inr (.inr (2, [.int x1, .int x2, .int x3, .int x4, .int x5, .int x6, .int x7, .int ((1 <<< (x4 &&& 31) : Int32) ||| (1 <<< (x5 &&& 31) : Int32)), .int (1 <<< (x6 &&& 31) : Int32), .int (-1)])), .inr (.inl [some 61, none, none, none, none, none, none, none, none, none])]))) ?_
    refine rr rfl (s_aload_n rfl) ?_
    refine rr rfl (s_getf rfl rfl) ?_
    refine rr rfl (s_iload_n rfl) ?_
    refine rr rfl (s_iload rfl) ?_
    refine rr rfl (s_iastore (j := 0) (f' := [x5, 0, 0, 0, 0, 0, 0, 0, 0, 0, 0, 0, 0]) rfl rfl (Nat.le_of_ble_eq_true rfl) rfl (Nat.le_of_ble_eq_true rfl) rfl (h' := ((((((((hF.set 3 (.inr (.inr (0, [.int 1, .ref 62, .int 1])))).set 6 (.inr (.inr (6, [.ref 2, .ref 7, .ref 8, .ref 9, .int 1])))).set 42 (.inl [x1, 0, 0, 0, 0, 0, 0, 0, 0, 0, 0, 0, 0])).set 43 (.inl [x2, 0, 0, 0, 0, 0, 0, 0, 0, 0, 0, 0, 0])).set 44 (.inl [x3, 0, 0, 0, 0, 0, 0, 0, 0, 0, 0, 0, 0])).set 45 (.inl [x4, 0, 0, 0, 0, 0, 0, 0, 0, 0, 0, 0, 0])).set 46 (.inl [x5, 0, 0, 0, 0, 0, 0, 0, 0, 0, 0, 0, 0])) ++ [.inr (.inr (2, [.int x1, .int x2, .int x3, .int x4, .int x5, .int x6, .int x7, .int ((1 <<< (x4 &&& 31) : Int32) ||| (1 <<< (x5 &&& 31) : Int32)), .int (1 <<< (x6 &&& 31) : Int32), .int (-1)])), .inr (.inl [some 61, none, none, none, none, none, none, none, none, none])]))) ?_
    refine rr rfl (s_aload_n rfl) ?_
    refine rr rfl (s_getf rfl rfl) ?_
    refine rr rfl (s_iload_n rfl) ?_
    refine rr rfl (s_iload rfl) ?_
    refine rr rfl (s_iastore (j := 0) (f' := [x6, 0, 0, 0, 0, 0, 0, 0, 0, 0, 0, 0, 0]) rfl rfl (Nat.le_of_ble_eq_true rfl) rfl (Nat.le_of_ble_eq_true rfl) rfl (h' := (((((((((hF.set 3 (.inr (.inr (0, [.int 1, .ref 62, .int 1])))).set 6 (.inr (.inr (6, [.ref 2, .ref 7, .ref 8, .ref 9, .int 1])))).set 42 (.inl [x1, 0, 0, 0, 0, 0, 0, 0, 0, 0, 0, 0, 0])).set 43 (.inl [x2, 0, 0, 0, 0, 0, 0, 0, 0, 0, 0, 0, 0])).set 44 (.inl [x3, 0, 0, 0, 0, 0, 0, 0, 0, 0, 0, 0, 0])).set 45 (.inl [x4, 0, 0, 0, 0, 0, 0, 0, 0, 0, 0, 0, 0])).set 46 (.inl [x5, 0, 0, 0, 0, 0, 0, 0, 0, 0, 0, 0, 0])).set 47 (.inl [x6, 0, 0, 0, 0, 0, 0, 0, 0, 0, 0, 0, 0])) ++ [.inr (.inr (2, [.int x1, .int x2, .int x3, .int x4, .int x5, .int x6, .int x7, .int ((1 <<< (x4 &&& 31) : Int32) ||| (1 <<< (x5 &&& 31) : Int32)), .int (1 <<< (x6 &&& 31) : Int32), .int (-1)])), .inr (.inl [some 61, none, none, none, none, none, none, none, none, none])]))) ?_
    refine rr rfl (s_aload_n rfl) ?_
    refine rr rfl (s_getf rfl rfl) ?_
    refine rr rfl (s_iload_n rfl) ?_
    refine rr rfl (s_iload rfl) ?_
    refine rr rfl (s_iastore (j := 0) (f' := [x7, 0, 0, 0, 0, 0, 0, 0, 0, 0, 0, 0, 0]) rfl rfl (Nat.le_of_ble_eq_true rfl) rfl (Nat.le_of_ble_eq_true rfl) rfl (h' := ((((((((((hF.set 3 (.inr (.inr (0, [.int 1, .ref 62, .int 1])))).set 6 (.inr (.inr (6, [.ref 2, .ref 7, .ref 8, .ref 9, .int 1])))).set 42 (.inl [x1, 0, 0, 0, 0, 0, 0, 0, 0, 0, 0, 0, 0])).set 43 (.inl [x2, 0, 0, 0, 0, 0, 0, 0, 0, 0, 0, 0, 0])).set 44 (.inl [x3, 0, 0, 0, 0, 0, 0, 0, 0, 0, 0, 0, 0])).set 45 (.inl [x4, 0, 0, 0, 0, 0, 0, 0, 0, 0, 0, 0, 0])).set 46 (.inl [x5, 0, 0, 0, 0, 0, 0, 0, 0, 0, 0, 0, 0])).set 47 (.inl [x6, 0, 0, 0, 0, 0, 0, 0, 0, 0, 0, 0, 0])).set 48 (.inl [x7, 0, 0, 0, 0, 0, 0, 0, 0, 0, 0, 0, 0])) ++ [.inr (.inr (2, [.int x1, .int x2, .int x3, .int x4, .int x5, .int x6, .int x7, .int ((1 <<< (x4 &&& 31) : Int32) ||| (1 <<< (x5 &&& 31) : Int32)), .int (1 <<< (x6 &&& 31) : Int32), .int (-1)])), .inr (.inl [some 61, none, none, none, none, none, none, none, none, none])]))) ?_
    refine rr rfl (s_aload_n rfl) ?_
    refine rr rfl (s_getf rfl rfl) ?_
    refine rr rfl (s_iload_n rfl) ?_
    refine rr rfl (s_iconst (v := (-1)) (by decide)) ?_
    refine rr rfl (s_iastore (j := 0) (f' := [(-1), 0, 0, 0, 0, 0, 0, 0, 0, 0, 0, 0, 0]) rfl rfl (Nat.le_of_ble_eq_true rfl) rfl (Nat.le_of_ble_eq_true rfl) rfl (h' := (((((((((((hF.set 3 (.inr (.inr (0, [.int 1, .ref 62, .int 1])))).set 6 (.inr (.inr (6, [.ref 2, .ref 7, .ref 8, .ref 9, .int 1])))).set 42 (.inl [x1, 0, 0, 0, 0, 0, 0, 0, 0, 0, 0, 0, 0])).set 43 (.inl [x2, 0, 0, 0, 0, 0, 0, 0, 0, 0, 0, 0, 0])).set 44 (.inl [x3, 0, 0, 0, 0, 0, 0, 0, 0, 0, 0, 0, 0])).set 45 (.inl [x4, 0, 0, 0, 0, 0, 0, 0, 0, 0, 0, 0, 0])).set 46 (.inl [x5, 0, 0, 0, 0, 0, 0, 0, 0, 0, 0, 0, 0])).set 47 (.inl [x6, 0, 0, 0, 0, 0, 0, 0, 0, 0, 0, 0, 0])).set 48 (.inl [x7, 0, 0, 0, 0, 0, 0, 0, 0, 0, 0, 0, 0])).set 49 (.inl [(-1), 0, 0, 0, 0, 0, 0, 0, 0, 0, 0, 0, 0])) ++ [.inr (.inr (2, [.int x1, .int x2, .int x3, .int x4, .int x5, .int x6, .int x7, .int ((1 <<< (x4 &&& 31) : Int32) ||| (1 <<< (x5 &&& 31) : Int32)), .int (1 <<< (x6 &&& 31) : Int32), .int (-1)])), .inr (.inl [some 61, none, none, none, none, none, none, none, none, none])]))) ?_
    exact rrt rfl rfl rfl rfl
  refine rrc rfl rfl rfl (do_of g_X9_sets rfl rfl e1) ?_
  refine rr rfl (s_aload_n rfl) ?_
  refine rr rfl rfl ?_
  refine rr rfl (s_getf rfl rfl) ?_
  refine rr rfl (s_iconst (v := 1) (by decide)) ?_
  refine rr rfl (s_iadd (v := 1) (by decide)) ?_
  refine rr rfl (s_putf rfl rfl (Nat.le_of_ble_eq_true rfl) rfl (Nat.le_of_ble_eq_true rfl) rfl (h' := ((((((((((((hF.set 3 (.inr (.inr (0, [.int 1, .ref 62, .int 1])))).set 6 (.inr (.inr (6, [.ref 2, .ref 7, .ref 8, .ref 9, .int 1])))).set 41 (.inr (.inr (9, [.int 4, .int 1, .ref 42, .ref 43, .ref 44, .ref 45, .ref 46, .ref 47, .ref 48, .ref 49, .ref 50, .ref 51, .int 0, .int 0, .int 0, .int 0, .int 0, .int 0, .int 0, .int 0, .ref 52, .int 0, .ref 53, .int 0, .ref 54, .int 0, .ref 55, .ref 56, .ref 57, .ref 58, .int 0, .ref 59, .ref 60])))).set 42 (.inl [x1, 0, 0, 0, 0, 0, 0, 0, 0, 0, 0, 0, 0])).set 43 (.inl [x2, 0, 0, 0, 0, 0, 0, 0, 0, 0, 0, 0, 0])).set 44 (.inl [x3, 0, 0, 0, 0, 0, 0, 0, 0, 0, 0, 0, 0])).set 45 (.inl [x4, 0, 0, 0, 0, 0, 0, 0, 0, 0, 0, 0, 0])).set 46 (.inl [x5, 0, 0, 0, 0, 0, 0, 0, 0, 0, 0, 0, 0])).set 47 (.inl [x6, 0, 0, 0, 0, 0, 0, 0, 0, 0, 0, 0, 0])).set 48 (.inl [x7, 0, 0, 0, 0, 0, 0, 0, 0, 0, 0, 0, 0])).set 49 (.inl [(-1), 0, 0, 0, 0, 0, 0, 0, 0, 0, 0, 0, 0])) ++ [.inr (.inr (2, [.int x1, .int x2, .int x3, .int x4, .int x5, .int x6, .int x7, .int ((1 <<< (x4 &&& 31) : Int32) ||| (1 <<< (x5 &&& 31) : Int32)), .int (1 <<< (x6 &&& 31) : Int32), .int (-1)])), .inr (.inl [some 61, none, none, none, none, none, none, none, none, none])]))) ?_
  refine rr rfl (s_aload_n rfl) ?_
  have e2 : a_m MT [] 100000 10 miX9_lays [.ref 41] ((((((((((((hF.set 3 (.inr (.inr (0, [.int 1, .ref 62, .int 1])))).set 6 (.inr (.inr (6, [.ref 2, .ref 7, .ref 8, .ref 9, .int 1])))).set 41 (.inr (.inr (9, [.int 4, .int 1, .ref 42, .ref 43, .ref 44, .ref 45, .ref 46, .ref 47, .ref 48, .ref 49, .ref 50, .ref 51, .int 0, .int 0, .int 0, .int 0, .int 0, .int 0, .int 0, .int 0, .ref 52, .int 0, .ref 53, .int 0, .ref 54, .int 0, .ref 55, .ref 56, .ref 57, .ref 58, .int 0, .ref 59, .ref 60])))).set 42 (.inl [x1, 0, 0, 0, 0, 0, 0, 0, 0, 0, 0, 0, 0])).set 43 (.inl [x2, 0, 0, 0, 0, 0, 0, 0, 0, 0, 0, 0, 0])).set 44 (.inl [x3, 0, 0, 0, 0, 0, 0, 0, 0, 0, 0, 0, 0])).set 45 (.inl [x4, 0, 0, 0, 0, 0, 0, 0, 0, 0, 0, 0, 0])).set 46 (.inl [x5, 0, 0, 0, 0, 0, 0, 0, 0, 0, 0, 0, 0])).set 47 (.inl [x6, 0, 0, 0, 0, 0, 0, 0, 0, 0, 0, 0, 0])).set 48 (.inl [x7, 0, 0, 0, 0, 0, 0, 0, 0, 0, 0, 0, 0])).set 49 (.inl [(-1), 0, 0, 0, 0, 0, 0, 0, 0, 0, 0, 0, 0])) ++ [.inr (.inr (2, [.int x1, .int x2, .int x3, .int x4, .int x5, .int x6, .int x7, .int ((1 <<< (x4 &&& 31) : Int32) ||| (1 <<< (x5 &&& 31) : Int32)), .int (1 <<< (x6 &&& 31) : Int32), .int (-1)])), .inr (.inl [some 61, none, none, none, none, none, none, none, none, none])]) = some ((some (.int 1)), ((((((((((((hF.set 3 (.inr (.inr (0, [.int 1, .ref 62, .int 1])))).set 6 (.inr (.inr (6, [.ref 2, .ref 7, .ref 8, .ref 9, .int 1])))).set 41 (.inr (.inr (9, [.int 4, .int 1, .ref 42, .ref 43, .ref 44, .ref 45, .ref 46, .ref 47, .ref 48, .ref 49, .ref 50, .ref 51, .int 0, .int 0, .int 0, .int 0, .int 0, .int 0, .int 0, .int 0, .ref 52, .int 0, .ref 53, .int 0, .ref 54, .int 0, .ref 55, .ref 56, .ref 57, .ref 58, .int 0, .ref 59, .ref 60])))).set 42 (.inl [x1, 0, 0, 0, 0, 0, 0, 0, 0, 0, 0, 0, 0])).set 43 (.inl [x2, 0, 0, 0, 0, 0, 0, 0, 0, 0, 0, 0, 0])).set 44 (.inl [x3, 0, 0, 0, 0, 0, 0, 0, 0, 0, 0, 0, 0])).set 45 (.inl [x4, 0, 0, 0, 0, 0, 0, 0, 0, 0, 0, 0, 0])).set 46 (.inl [x5, 0, 0, 0, 0, 0, 0, 0, 0, 0, 0, 0, 0])).set 47 (.inl [x6, 0, 0, 0, 0, 0, 0, 0, 0, 0, 0, 0, 0])).set 48 (.inl [x7, 0, 0, 0, 0, 0, 0, 0, 0, 0, 0, 0, 0])).set 49 (.inl [(-1), 0, 0, 0, 0, 0, 0, 0, 0, 0, 0, 0, 0])) ++ [.inr (.inr (2, [.int x1, .int x2, .int x3, .int x4, .int x5, .int x6, .int x7, .int ((1 <<< (x4 &&& 31) : Int32) ||| (1 <<< (x5 &&& 31) : Int32)), .int (1 <<< (x6 &&& 31) : Int32), .int (-1)])), .inr (.inl [some 61, none, none, none, none, none, none, none, none, none])]), 0, 0) := by
    refine me (d := 9) g_X9_lays (Nat.le_of_ble_eq_true rfl) ?_
    refine rr rfl (s_iconst (v := 0) (by decide)) ?_
    refine rr rfl (s_istore_n rfl) ?_
    refine rr rfl (s_iload_n rfl) ?_
    refine rr rfl (s_bipush (v := 8) (by decide)) ?_
    refine rr rfl (s_icF (by decide)) ?_
    refine rr rfl (s_aload_n rfl) ?_
    refine rr rfl (s_getf rfl rfl) ?_
    refine rr rfl (s_iload_n rfl) ?_
    refine rr rfl (s_iconst (v := 0) (by decide)) ?_
    refine rr rfl (s_iastore (j := 0) (f' := (List.replicate 8 0)) rfl rfl (Nat.le_of_ble_eq_true rfl) rfl (Nat.le_of_ble_eq_true rfl) rfl (h' := ((((((((((((hF.set 3 (.inr (.inr (0, [.int 1, .ref 62, .int 1])))).set 6 (.inr (.inr (6, [.ref 2, .ref 7, .ref 8, .ref 9, .int 1])))).set 41 (.inr (.inr (9, [.int 4, .int 1, .ref 42, .ref 43, .ref 44, .ref 45, .ref 46, .ref 47, .ref 48, .ref 49, .ref 50, .ref 51, .int 0, .int 0, .int 0, .int 0, .int 0, .int 0, .int 0, .int 0, .ref 52, .int 0, .ref 53, .int 0, .ref 54, .int 0, .ref 55, .ref 56, .ref 57, .ref 58, .int 0, .ref 59, .ref 60])))).set 42 (.inl [x1, 0, 0, 0, 0, 0, 0, 0, 0, 0, 0, 0, 0])).set 43 (.inl [x2, 0, 0, 0, 0, 0, 0, 0, 0, 0, 0, 0, 0])).set 44 (.inl [x3, 0, 0, 0, 0, 0, 0, 0, 0, 0, 0, 0, 0])).set 45 (.inl [x4, 0, 0, 0, 0, 0, 0, 0, 0, 0, 0, 0, 0])).set 46 (.inl [x5, 0, 0, 0, 0, 0, 0, 0, 0, 0, 0, 0, 0])).set 47 (.inl [x6, 0, 0, 0, 0, 0, 0, 0, 0, 0, 0, 0, 0])).set 48 (.inl [x7, 0, 0, 0, 0, 0, 0, 0, 0, 0, 0, 0, 0])).set 49 (.inl [(-1), 0, 0, 0, 0, 0, 0, 0, 0, 0, 0, 0, 0])) ++ [.inr (.inr (2, [.int x1, .int x2, .int x3, .int x4, .int x5, .int x6, .int x7, .int ((1 <<< (x4 &&& 31) : Int32) ||| (1 <<< (x5 &&& 31) : Int32)), .int (1 <<< (x6 &&& 31) : Int32), .int (-1)])), .inr (.inl [some 61, none, none, none, none, none, none, none, none, none])]))) ?_
    refine rr rfl (s_iinc (v := 1) rfl (by decide) rfl) ?_
    refine rr rfl s_goto ?_
    refine rr rfl (s_iload_n rfl) ?_
    refine rr rfl (s_bipush (v := 8) (by decide)) ?_
    refine rr rfl (s_icF (by decide)) ?_
    refine rr rfl (s_aload_n rfl) ?_
    refine rr rfl (s_getf rfl rfl) ?_
    refine rr rfl (s_iload_n rfl) ?_
    refine rr rfl (s_iconst (v := 0) (by decide)) ?_
    refine rr rfl (s_iastore (j := 1) (f' := (List.replicate 8 0)) rfl rfl (Nat.le_of_ble_eq_true rfl) rfl (Nat.le_of_ble_eq_true rfl) rfl (h' := ((((((((((((hF.set 3 (.inr (.inr (0, [.int 1, .ref 62, .int 1])))).set 6 (.inr (.inr (6, [.ref 2, .ref 7, .ref 8, .ref 9, .int 1])))).set 41 (.inr (.inr (9, [.int 4, .int 1, .ref 42, .ref 43, .ref 44, .ref 45, .ref 46, .ref 47, .ref 48, .ref 49, .ref 50, .ref 51, .int 0, .int 0, .int 0, .int 0, .int 0, .int 0, .int 0, .int 0, .ref 52, .int 0, .ref 53, .int 0, .ref 54, .int 0, .ref 55, .ref 56, .ref 57, .ref 58, .int 0, .ref 59, .ref 60])))).set 42 (.inl [x1, 0, 0, 0, 0, 0, 0, 0, 0, 0, 0, 0, 0])).set 43 (.inl [x2, 0, 0, 0, 0, 0, 0, 0, 0, 0, 0, 0, 0])).set 44 (.inl [x3, 0, 0, 0, 0, 0, 0, 0, 0, 0, 0, 0, 0])).set 45 (.inl [x4, 0, 0, 0, 0, 0, 0, 0, 0, 0, 0, 0, 0])).set 46 (.inl [x5, 0, 0, 0, 0, 0, 0, 0, 0, 0, 0, 0, 0])).set 47 (.inl [x6, 0, 0, 0, 0, 0, 0, 0, 0, 0, 0, 0, 0])).set 48 (.inl [x7, 0, 0, 0, 0, 0, 0, 0, 0, 0, 0, 0, 0])).set 49 (.inl [(-1), 0, 0, 0, 0, 0, 0, 0, 0, 0, 0, 0, 0])) ++ [.inr (.inr (2, [.int x1, .int x2, .int x3, .int x4, .int x5, .int x6, .int x7, .int ((1 <<< (x4 &&& 31) : Int32) ||| (1 <<< (x5 &&& 31) : Int32)), .int (1 <<< (x6 &&& 31) : Int32), .int (-1)])), .inr (.inl [some 61, none, none, none, none, none, none, none, none, none])]))) ?_
    refine rr rfl (s_iinc (v := 2) rfl (by decide) rfl) ?_
    refine rr rfl s_goto ?_
    refine rr rfl (s_iload_n rfl) ?_
    refine rr rfl (s_bipush (v := 8) (by decide)) ?_
    refine rr rfl (s_icF (by decide)) ?_
    refine rr rfl (s_aload_n rfl) ?_
    refine rr rfl (s_getf rfl rfl) ?_
    refine rr rfl (s_iload_n rfl) ?_
    refine rr rfl (s_iconst (v := 0) (by decide)) ?_
    refine rr rfl (s_iastore (j := 2) (f' := (List.replicate 8 0)) rfl rfl (Nat.le_of_ble_eq_true rfl) rfl (Nat.le_of_ble_eq_true rfl) rfl (h' := ((((((((((((hF.set 3 (.inr (.inr (0, [.int 1, .ref 62, .int 1])))).set 6 (.inr (.inr (6, [.ref 2, .ref 7, .ref 8, .ref 9, .int 1])))).set 41 (.inr (.inr (9, [.int 4, .int 1, .ref 42, .ref 43, .ref 44, .ref 45, .ref 46, .ref 47, .ref 48, .ref 49, .ref 50, .ref 51, .int 0, .int 0, .int 0, .int 0, .int 0, .int 0, .int 0, .int 0, .ref 52, .int 0, .ref 53, .int 0, .ref 54, .int 0, .ref 55, .ref 56, .ref 57, .ref 58, .int 0, .ref 59, .ref 60])))).set 42 (.inl [x1, 0, 0, 0, 0, 0, 0, 0, 0, 0, 0, 0, 0])).set 43 (.inl [x2, 0, 0, 0, 0, 0, 0, 0, 0, 0, 0, 0, 0])).set 44 (.inl [x3, 0, 0, 0, 0, 0, 0, 0, 0, 0, 0, 0, 0])).set 45 (.inl [x4, 0, 0, 0, 0, 0, 0, 0, 0, 0, 0, 0, 0])).set 46 (.inl [x5, 0, 0, 0, 0, 0, 0, 0, 0, 0, 0, 0, 0])).set 47 (.inl [x6, 0, 0, 0, 0, 0, 0, 0, 0, 0, 0, 0, 0])).set 48 (.inl [x7, 0, 0, 0, 0, 0, 0, 0, 0, 0, 0, 0, 0])).set 49 (.inl [(-1), 0, 0, 0, 0, 0, 0, 0, 0, 0, 0, 0, 0])) ++ [.inr (.inr (2, [.int x1, .int x2, .int x3, .int x4, .int x5, .int x6, .int x7, .int ((1 <<< (x4 &&& 31) : Int32) ||| (1 <<< (x5 &&& 31) : Int32)), .int (1 <<< (x6 &&& 31) : Int32), .int (-1)])), .inr (.inl [some 61, none, none, none, none, none, none, none, none, none])]))) ?_
    refine rr rfl (s_iinc (v := 3) rfl (by decide) rfl) ?_
    refine rr rfl s_goto ?_
    refine rr rfl (s_iload_n rfl) ?_
    refine rr rfl (s_bipush (v := 8) (by decide)) ?_
    refine rr rfl (s_icF (by decide)) ?_
    refine rr rfl (s_aload_n rfl) ?_
    refine rr rfl (s_getf rfl rfl) ?_
    refine rr rfl (s_iload_n rfl) ?_
    refine rr rfl (s_iconst (v := 0) (by decide)) ?_
    refine rr rfl (s_iastore (j := 3) (f' := (List.replicate 8 0)) rfl rfl (Nat.le_of_ble_eq_true rfl) rfl (Nat.le_of_ble_eq_true rfl) rfl (h' := ((((((((((((hF.set 3 (.inr (.inr (0, [.int 1, .ref 62, .int 1])))).set 6 (.inr (.inr (6, [.ref 2, .ref 7, .ref 8, .ref 9, .int 1])))).set 41 (.inr (.inr (9, [.int 4, .int 1, .ref 42, .ref 43, .ref 44, .ref 45, .ref 46, .ref 47, .ref 48, .ref 49, .ref 50, .ref 51, .int 0, .int 0, .int 0, .int 0, .int 0, .int 0, .int 0, .int 0, .ref 52, .int 0, .ref 53, .int 0, .ref 54, .int 0, .ref 55, .ref 56, .ref 57, .ref 58, .int 0, .ref 59, .ref 60])))).set 42 (.inl [x1, 0, 0, 0, 0, 0, 0, 0, 0, 0, 0, 0, 0])).set 43 (.inl [x2, 0, 0, 0, 0, 0, 0, 0, 0, 0, 0, 0, 0])).set 44 (.inl [x3, 0, 0, 0, 0, 0, 0, 0, 0, 0, 0, 0, 0])).set 45 (.inl [x4, 0, 0, 0, 0, 0, 0, 0, 0, 0, 0, 0, 0])).set 46 (.inl [x5, 0, 0, 0, 0, 0, 0, 0, 0, 0, 0, 0, 0])).set 47 (.inl [x6, 0, 0, 0, 0, 0, 0, 0, 0, 0, 0, 0, 0])).set 48 (.inl [x7, 0, 0, 0, 0, 0, 0, 0, 0, 0, 0, 0, 0])).set 49 (.inl [(-1), 0, 0, 0, 0, 0, 0, 0, 0, 0, 0, 0, 0])) ++ [.inr (.inr (2, [.int x1, .int x2, .int x3, .int x4, .int x5, .int x6, .int x7, .int ((1 <<< (x4 &&& 31) : Int32) ||| (1 <<< (x5 &&& 31) : Int32)), .int (1 <<< (x6 &&& 31) : Int32), .int (-1)])), .inr (.inl [some 61, none, none, none, none, none, none, none, none, none])]))) ?_
    refine rr rfl (s_iinc (v := 4) rfl (by decide) rfl) ?_
    refine rr rfl s_goto ?_
    refine rr rfl (s_iload_n rfl) ?_
    refine rr rfl (s_bipush (v := 8) (by decide)) ?_
    refine rr rfl (s_icF (by decide)) ?_
    refine rr rfl (s_aload_n rfl) ?_
    refine rr rfl (s_getf rfl rfl) ?_
    refine rr rfl (s_iload_n rfl) ?_
    refine rr rfl (s_iconst (v := 0) (by decide)) ?_
    refine rr rfl (s_iastore (j := 4) (f' := (List.replicate 8 0)) rfl rfl (Nat.le_of_ble_eq_true rfl) rfl (Nat.le_of_ble_eq_true rfl) rfl (h' := ((((((((((((hF.set 3 (.inr (.inr (0, [.int 1, .ref 62, .int 1])))).set 6 (.inr (.inr (6, [.ref 2, .ref 7, .ref 8, .ref 9, .int 1])))).set 41 (.inr (.inr (9, [.int 4, .int 1, .ref 42, .ref 43, .ref 44, .ref 45, .ref 46, .ref 47, .ref 48, .ref 49, .ref 50, .ref 51, .int 0, .int 0, .int 0, .int 0, .int 0, .int 0, .int 0, .int 0, .ref 52, .int 0, .ref 53, .int 0, .ref 54, .int 0, .ref 55, .ref 56, .ref 57, .ref 58, .int 0, .ref 59, .ref 60])))).set 42 (.inl [x1, 0, 0, 0, 0, 0, 0, 0, 0, 0, 0, 0, 0])).set 43 (.inl [x2, 0, 0, 0, 0, 0, 0, 0, 0, 0, 0, 0, 0])).set 44 (.inl [x3, 0, 0, 0, 0, 0, 0, 0, 0, 0, 0, 0, 0])).set 45 (.inl [x4, 0, 0, 0, 0, 0, 0, 0, 0, 0, 0, 0, 0])).set 46 (.inl [x5, 0, 0, 0, 0, 0, 0, 0, 0, 0, 0, 0, 0])).set 47 (.inl [x6, 0, 0, 0, 0, 0, 0, 0, 0, 0, 0, 0, 0])).set 48 (.inl [x7, 0, 0, 0, 0, 0, 0, 0, 0, 0, 0, 0, 0])).set 49 (.inl [(-1), 0, 0, 0, 0, 0, 0, 0, 0, 0, 0, 0, 0])) ++ [.inr (.inr (2, [.int x1, .int x2, .int x3, .int x4, .int x5, .int x6, .int x7, .int ((1 <<< (x4 &&& 31) : Int32) ||| (1 <<< (x5 &&& 31) : Int32)), .int (1 <<< (x6 &&& 31) : Int32), .int (-1)])), .inr (.inl [some 61, none, none, none, none, none, none, none, none, none])]))) ?_
    refine rr rfl (s_iinc (v := 5) rfl (by decide) rfl) ?_
    refine rr rfl s_goto ?_
    refine rr rfl (s_iload_n rfl) ?_
    refine rr rfl (s_bipush (v := 8) (by decide)) ?_
    refine rr rfl (s_icF (by decide)) ?_
    refine rr rfl (s_aload_n rfl) ?_
    refine rr rfl (s_getf rfl rfl) ?_
    refine rr rfl (s_iload_n rfl) ?_
    refine rr rfl (s_iconst (v := 0) (by decide)) ?_
    refine rr rfl (s_iastore (j := 5) (f' := (List.replicate 8 0)) rfl rfl (Nat.le_of_ble_eq_true rfl) rfl (Nat.le_of_ble_eq_true rfl) rfl (h' := ((((((((((((hF.set 3 (.inr (.inr (0, [.int 1, .ref 62, .int 1])))).set 6 (.inr (.inr (6, [.ref 2, .ref 7, .ref 8, .ref 9, .int 1])))).set 41 (.inr (.inr (9, [.int 4, .int 1, .ref 42, .ref 43, .ref 44, .ref 45, .ref 46, .ref 47, .ref 48, .ref 49, .ref 50, .ref 51, .int 0, .int 0, .int 0, .int 0, .int 0, .int 0, .int 0, .int 0, .ref 52, .int 0, .ref 53, .int 0, .ref 54, .int 0, .ref 55, .ref 56, .ref 57, .ref 58, .int 0, .ref 59, .ref 60])))).set 42 (.inl [x1, 0, 0, 0, 0, 0, 0, 0, 0, 0, 0, 0, 0])).set 43 (.inl [x2, 0, 0, 0, 0, 0, 0, 0, 0, 0, 0, 0, 0])).set 44 (.inl [x3, 0, 0, 0, 0, 0, 0, 0, 0, 0, 0, 0, 0])).set 45 (.inl [x4, 0, 0, 0, 0, 0, 0, 0, 0, 0, 0, 0, 0])).set 46 (.inl [x5, 0, 0, 0, 0, 0, 0, 0, 0, 0, 0, 0, 0])).set 47 (.inl [x6, 0, 0, 0, 0, 0, 0, 0, 0, 0, 0, 0, 0])).set 48 (.inl [x7, 0, 0, 0, 0, 0, 0, 0, 0, 0, 0, 0, 0])).set 49 (.inl [(-1), 0, 0, 0, 0, 0, 0, 0, 0, 0, 0, 0, 0])) ++ [.inr (.inr (2, [.int x1, .int x2, .int x3, .int x4, .int x5, .int x6, .int x7, .int ((1 <<< (x4 &&& 31) : Int32) ||| (1 <<< (x5 &&& 31) : Int32)), .int (1 <<< (x6 &&& 31) : Int32), .int (-1)])), .inr (.inl [some 61, none, none, none, none, none, none, none, none, none])]))) ?_
    refine rr rfl (s_iinc (v := 6) rfl (by decide) rfl) ?_
    refine rr rfl s_goto ?_
    refine rr rfl (s_iload_n rfl) ?_
    refine rr rfl (s_bipush (v := 8) (by decide)) ?_
    refine rr rfl (s_icF (by decide)) ?_
    refine rr rfl (s_aload_n rfl) ?_
    refine rr rfl (s_getf rfl rfl) ?_
    refine rr rfl (s_iload_n rfl) ?_
    refine rr rfl (s_iconst (v := 0) (by decide)) ?_
    refine rr rfl (s_iastore (j := 6) (f' := (List.replicate 8 0)) rfl rfl (Nat.le_of_ble_eq_true rfl) rfl (Nat.le_of_ble_eq_true rfl) rfl (h' := ((((((((((((hF.set 3 (.inr (.inr (0, [.int 1, .ref 62, .int 1])))).set 6 (.inr (.inr (6, [.ref 2, .ref 7, .ref 8, .ref 9, .int 1])))).set 41 (.inr (.inr (9, [.int 4, .int 1, .ref 42, .ref 43, .ref 44, .ref 45, .ref 46, .ref 47, .ref 48, .ref 49, .ref 50, .ref 51, .int 0, .int 0, .int 0, .int 0, .int 0, .int 0, .int 0, .int 0, .ref 52, .int 0, .ref 53, .int 0, .ref 54, .int 0, .ref 55, .ref 56, .ref 57, .ref 58, .int 0, .ref 59, .ref 60])))).set 42 (.inl [x1, 0, 0, 0, 0, 0, 0, 0, 0, 0, 0, 0, 0])).set 43 (.inl [x2, 0, 0, 0, 0, 0, 0, 0, 0, 0, 0, 0, 0])).set 44 (.inl [x3, 0, 0, 0, 0, 0, 0, 0, 0, 0, 0, 0, 0])).set 45 (.inl [x4, 0, 0, 0, 0, 0, 0, 0, 0, 0, 0, 0, 0])).set 46 (.inl [x5, 0, 0, 0, 0, 0, 0, 0, 0, 0, 0, 0, 0])).set 47 (.inl [x6, 0, 0, 0, 0, 0, 0, 0, 0, 0, 0, 0, 0])).set 48 (.inl [x7, 0, 0, 0, 0, 0, 0, 0, 0, 0, 0, 0, 0])).set 49 (.inl [(-1), 0, 0, 0, 0, 0, 0, 0, 0, 0, 0, 0, 0])) ++ [.inr (.inr (2, [.int x1, .int x2, .int x3, .int x4, .int x5, .int x6, .int x7, .int ((1 <<< (x4 &&& 31) : Int32) ||| (1 <<< (x5 &&& 31) : Int32)), .int (1 <<< (x6 &&& 31) : Int32), .int (-1)])), .inr (.inl [some 61, none, none, none, none, none, none, none, none, none])]))) ?_
    refine rr rfl (s_iinc (v := 7) rfl (by decide) rfl) ?_
    refine rr rfl s_goto ?_
    refine rr rfl (s_iload_n rfl) ?_
    refine rr rfl (s_bipush (v := 8) (by decide)) ?_
    refine rr rfl (s_icF (by decide)) ?_
    refine rr rfl (s_aload_n rfl) ?_
    refine rr rfl (s_getf rfl rfl) ?_
    refine rr rfl (s_iload_n rfl) ?_
    refine rr rfl (s_iconst (v := 0) (by decide)) ?_
    refine rr rfl (s_iastore (j := 7) (f' := (List.replicate 8 0)) rfl rfl (Nat.le_of_ble_eq_true rfl) rfl (Nat.le_of_ble_eq_true rfl) rfl (h' := ((((((((((((hF.set 3 (.inr (.inr (0, [.int 1, .ref 62, .int 1])))).set 6 (.inr (.inr (6, [.ref 2, .ref 7, .ref 8, .ref 9, .int 1])))).set 41 (.inr (.inr (9, [.int 4, .int 1, .ref 42, .ref 43, .ref 44, .ref 45, .ref 46, .ref 47, .ref 48, .ref 49, .ref 50, .ref 51, .int 0, .int 0, .int 0, .int 0, .int 0, .int 0, .int 0, .int 0, .ref 52, .int 0, .ref 53, .int 0, .ref 54, .int 0, .ref 55, .ref 56, .ref 57, .ref 58, .int 0, .ref 59, .ref 60])))).set 42 (.inl [x1, 0, 0, 0, 0, 0, 0, 0, 0, 0, 0, 0, 0])).set 43 (.inl [x2, 0, 0, 0, 0, 0, 0, 0, 0, 0, 0, 0, 0])).set 44 (.inl [x3, 0, 0, 0, 0, 0, 0, 0, 0, 0, 0, 0, 0])).set 45 (.inl [x4, 0, 0, 0, 0, 0, 0, 0, 0, 0, 0, 0, 0])).set 46 (.inl [x5, 0, 0, 0, 0, 0, 0, 0, 0, 0, 0, 0, 0])).set 47 (.inl [x6, 0, 0, 0, 0, 0, 0, 0, 0, 0, 0, 0, 0])).set 48 (.inl [x7, 0, 0, 0, 0, 0, 0, 0, 0, 0, 0, 0, 0])).set 49 (.inl [(-1), 0, 0, 0, 0, 0, 0, 0, 0, 0, 0, 0, 0])) ++ [.inr (.inr (2, [.int x1, .int x2, .int x3, .int x4, .int x5, .int x6, .int x7, .int ((1 <<< (x4 &&& 31) : Int32) ||| (1 <<< (x5 &&& 31) : Int32)), .int (1 <<< (x6 &&& 31) : Int32), .int (-1)])), .inr (.inl [some 61, none, none, none, none, none, none, none, none, none])]))) ?_
    refine rr rfl (s_iinc (v := 8) rfl (by decide) rfl) ?_
    refine rr rfl s_goto ?_
    refine rr rfl (s_iload_n rfl) ?_
    refine rr rfl (s_bipush (v := 8) (by decide)) ?_
    refine rr rfl (s_icT (by decide)) ?_
    refine rr rfl (s_iconst (v := 1) (by decide)) ?_
    refine rr rfl (s_istore_n rfl) ?_
    refine rr rfl (s_iconst (v := 1) (by decide)) ?_
    refine rr rfl (s_istore_n rfl) ?_
    refine rr rfl (s_iload_n rfl) ?_
    refine rr rfl (s_ifF (by decide)) ?_
    refine rr rfl (s_iload_n rfl) ?_
    refine rr rfl (s_ifF (by decide)) ?_
    refine rr rfl (s_iconst (v := 0) (by decide)) ?_
    refine rr rfl (s_istore_n rfl) ?_
    refine rr rfl (s_iconst (v := 0) (by decide)) ?_
    refine rr rfl (s_istore_n rfl) ?_
    refine rr rfl (s_iload_n rfl) ?_
    refine rr rfl (s_aload_n rfl) ?_
    refine rr rfl (s_getf rfl rfl) ?_
    refine rr rfl (s_icF (by decide)) ?_
    refine rr rfl (s_iconst (v := 0) (by decide)) ?_
    refine rr rfl (s_istore rfl) ?_
    refine rr rfl (s_aload_n rfl) ?_
    refine rr rfl (s_getf rfl rfl) ?_
    refine rr rfl (s_iload_n rfl) ?_
    refine rr rfl (s_iaload (j := 0) rfl rfl rfl) ?_
    refine rr rfl (s_ifT (ic_ne g1)) ?_
    refine rr rfl (s_iload rfl) ?_
    refine rr rfl (s_aload_n rfl) ?_
    refine rr rfl (s_getf rfl rfl) ?_
    refine rr rfl (s_aload_n rfl) ?_
    refine rr rfl (s_getf rfl rfl) ?_
    refine rr rfl (s_iload_n rfl) ?_
    refine rr rfl (s_iaload (j := 0) rfl rfl rfl) ?_
    refine rr rfl (s_ialdR (n := 8) (x := 0) rfl g2 g3) ?_
    refine rr rfl (s_icT (by decide)) ?_
    refine rr rfl (s_iinc (v := 1) rfl (by decide) rfl) ?_
    refine rr rfl s_goto ?_
    refine rr rfl (s_iload_n rfl) ?_
    refine rr rfl (s_aload_n rfl) ?_
    refine rr rfl (s_getf rfl rfl) ?_
    refine rr rfl (s_icT (by decide)) ?_
    refine rr rfl s_goto ?_
    refine rr rfl (s_iload_n rfl) ?_
    refine rr rfl (s_ifT (by decide)) ?_
    refine rr rfl (s_iload_n rfl) ?_
    exact rrt rfl rfl rfl rfl
  refine rrc rfl rfl rfl (do_of g_X9_lays rfl rfl e2) ?_
  refine rr rfl (s_istore rfl) ?_
  refine rr rfl (s_iload rfl) ?_
  refine rr rfl (s_ifF (by decide)) ?_
  refine rr rfl (s_aload_n rfl) ?_
  refine rr rfl (s_getf rfl rfl) ?_
  refine rr rfl (s_bipush (v := 12) (by decide)) ?_
  refine rr rfl (s_icT (by decide)) ?_
  refine rr rfl (s_aload_n rfl) ?_
  refine rr rfl (s_getf rfl rfl) ?_
  refine rr rfl (s_iconst (v := 1) (by decide)) ?_
  refine rr rfl (s_isub (v := 0) (by decide)) ?_
  exact rrt rfl rfl rfl rfl
set_option maxHeartbeats 4000000 in
set_option maxRecDepth 10000 in
theorem rm_Nmm {x1 x2 x3 x4 x5 x6 x7 : Int32} (g1 : x2 = 0) (g2 : ¬ x4 < 0) (g3 : x4 < nI 8) (g4 : x5 = (-1)) (g5 : x6 = (-1)) (g6 : ¬ x3 < 0) (g7 : x3 < nI 8) : a_run MT [] (a_m MT [] 100000 10) 11 (some .int) tabX9_rule 90000 95 (alQ x1 x2 x3 x4 x5 x6 x7) [] (((hF.set 3 (.inr (.inr (0, [.int 1, .ref 62, .int 1])))).set 6 (.inr (.inr (6, [.ref 2, .ref 7, .ref 8, .ref 9, .int 1])))) ++ [.inr (.inr (2, [.int x1, .int x2, .int x3, .int x4, .int x4, .int x6, .int x7, .int ((1 <<< (x4 &&& 31) : Int32) ||| (1 <<< (x4 &&& 31) : Int32)), .int 0, .int (-1)])), .inr (.inl [some 61, none, none, none, none, none, none, none, none, none])]) 0 0 = some (some (.int 0), ((((((((((((hF.set 3 (.inr (.inr (0, [.int 1, .ref 62, .int 1])))).set 6 (.inr (.inr (6, [.ref 2, .ref 7, .ref 8, .ref 9, .int 1])))).set 41 (.inr (.inr (9, [.int 4, .int 1, .ref 42, .ref 43, .ref 44, .ref 45, .ref 46, .ref 47, .ref 48, .ref 49, .ref 50, .ref 51, .int 0, .int 0, .int 0, .int 0, .int 0, .int 0, .int 0, .int 0, .ref 52, .int 0, .ref 53, .int 0, .ref 54, .int 0, .ref 55, .ref 56, .ref 57, .ref 58, .int 0, .ref 59, .ref 60])))).set 42 (.inl [x1, 0, 0, 0, 0, 0, 0, 0, 0, 0, 0, 0, 0])).set 43 (.inl [x2, 0, 0, 0, 0, 0, 0, 0, 0, 0, 0, 0, 0])).set 44 (.inl [x3, 0, 0, 0, 0, 0, 0, 0, 0, 0, 0, 0, 0])).set 45 (.inl [x4, 0, 0, 0, 0, 0, 0, 0, 0, 0, 0, 0, 0])).set 46 (.inl [x5, 0, 0, 0, 0, 0, 0, 0, 0, 0, 0, 0, 0])).set 47 (.inl [x6, 0, 0, 0, 0, 0, 0, 0, 0, 0, 0, 0, 0])).set 48 (.inl [x7, 0, 0, 0, 0, 0, 0, 0, 0, 0, 0, 0, 0])).set 49 (.inl [(-1), 0, 0, 0, 0, 0, 0, 0, 0, 0, 0, 0, 0])) ++ [.inr (.inr (2, [.int x1, .int x2, .int x3, .int x4, .int x4, .int x6, .int x7, .int ((1 <<< (x4 &&& 31) : Int32) ||| (1 <<< (x4 &&& 31) : Int32)), .int 0, .int (-1)])), .inr (.inl [some 61, none, none, none, none, none, none, none, none, none])]), 0, 0) := by
  refine rr rfl (s_aload_n rfl) ?_
  refine rr rfl (s_aload_n rfl) ?_
  refine rr rfl (s_getf rfl rfl) ?_
  refine rr rfl (s_iload_n rfl) ?_
  refine rr rfl (s_iload_n rfl) ?_
  refine rr rfl (s_iload_n rfl) ?_
  refine rr rfl (s_iload rfl) ?_
  refine rr rfl (s_iload rfl) ?_
  refine rr rfl (s_iload rfl) ?_
  refine rr rfl (s_iload rfl) ?_
  have e1 : a_m MT [] 100000 10 miX9_sets [.ref 41, .int 0, .int x1, .int x2, .int x3, .int x4, .int x5, .int x6, .int x7] (((hF.set 3 (.inr (.inr (0, [.int 1, .ref 62, .int 1])))).set 6 (.inr (.inr (6, [.ref 2, .ref 7, .ref 8, .ref 9, .int 1])))) ++ [.inr (.inr (2, [.int x1, .int x2, .int x3, .int x4, .int x4, .int x6, .int x7, .int ((1 <<< (x4 &&& 31) : Int32) ||| (1 <<< (x4 &&& 31) : Int32)), .int 0, .int (-1)])), .inr (.inl [some 61, none, none, none, none, none, none, none, none, none])]) = some (none, (((((((((((hF.set 3 (.inr (.inr (0, [.int 1, .ref 62, .int 1])))).set 6 (.inr (.inr (6, [.ref 2, .ref 7, .ref 8, .ref 9, .int 1])))).set 42 (.inl [x1, 0, 0, 0, 0, 0, 0, 0, 0, 0, 0, 0, 0])).set 43 (.inl [x2, 0, 0, 0, 0, 0, 0, 0, 0, 0, 0, 0, 0])).set 44 (.inl [x3, 0, 0, 0, 0, 0, 0, 0, 0, 0, 0, 0, 0])).set 45 (.inl [x4, 0, 0, 0, 0, 0, 0, 0, 0, 0, 0, 0, 0])).set 46 (.inl [x5, 0, 0, 0, 0, 0, 0, 0, 0, 0, 0, 0, 0])).set 47 (.inl [x6, 0, 0, 0, 0, 0, 0, 0, 0, 0, 0, 0, 0])).set 48 (.inl [x7, 0, 0, 0, 0, 0, 0, 0, 0, 0, 0, 0, 0])).set 49 (.inl [(-1), 0, 0, 0, 0, 0, 0, 0, 0, 0, 0, 0, 0])) ++ [.inr (.inr (2, [.int x1, .int x2, .int x3, .int x4, .int x4, .int x6, .int x7, .int ((1 <<< (x4 &&& 31) : Int32) ||| (1 <<< (x4 &&& 31) : Int32)), .int 0, .int (-1)])), .inr (.inl [some 61, none, none, none, none, none, none, none, none, none])]), 0, 0) := by
    refine me (d := 9) g_X9_sets (Nat.le_of_ble_eq_true rfl) ?_
    refine rr rfl (s_aload_n rfl) ?_
    refine rr rfl (s_getf rfl rfl) ?_
    refine rr rfl (s_iload_n rfl) ?_
    refine rr rfl (s_iload_n rfl) ?_
    refine rr rfl (s_iastore (j := 0) (f' := [x1, 0, 0, 0, 0, 0, 0, 0, 0, 0, 0, 0, 0]) rfl rfl (Nat.le_of_ble_eq_true rfl) rfl (Nat.le_of_ble_eq_true rfl) rfl (h' := ((((hF.set 3 (.inr (.inr (0, [.int 1, .ref 62, .int 1])))).set 6 (.inr (.inr (6, [.ref 2, .ref 7, .ref 8, .ref 9, .int 1])))).set 42 (.inl [x1, 0, 0, 0, 0, 0, 0, 0, 0, 0, 0, 0, 0])) ++ [.inr (.inr (2, [.int x1, .int x2, .int x3, .int x4, .int x4, .int x6, .int x7, .int ((1 <<< (x4 &&& 31) : Int32) ||| (1 <<< (x4 &&& 31) : Int32)), .int 0, .int (-1)])), .inr (.inl [some 61, none, none, none, none, none, none, none, none, none])]))) ?_
    refine rr rfl (s_aload_n rfl) ?_
    refine rr rfl (s_getf rfl rfl) ?_
    refine rr rfl (s_iload_n rfl) ?_
    refine rr rfl (s_iload_n rfl) ?_
    refine rr rfl (s_iastore (j := 0) (f' := [x2, 0, 0, 0, 0, 0, 0, 0, 0, 0, 0, 0, 0]) rfl rfl (Nat.le_of_ble_eq_true rfl) rfl (Nat.le_of_ble_eq_true rfl) rfl (h' := (((((hF.set 3 (.inr (.inr (0, [.int 1, .ref 62, .int 1])))).set 6 (.inr (.inr (6, [.ref 2, .ref 7, .ref 8, .ref 9, .int 1])))).set 42 (.inl [x1, 0, 0, 0, 0, 0, 0, 0, 0, 0, 0, 0, 0])).set 43 (.inl [x2, 0, 0, 0, 0, 0, 0, 0, 0, 0, 0, 0, 0])) ++ [.inr (.inr (2, [.int x1, .int x2, .int x3, .int x4, .int x4, .int x6, .int x7, .int ((1 <<< (x4 &&& 31) : Int32) ||| (1 <<< (x4 &&& 31) : Int32)), .int 0, .int (-1)])), .inr (.inl [some 61, none, none, none, none, none, none, none, none, none])]))) ?_
    refine rr rfl (s_aload_n rfl) ?_
    refine rr rfl (s_getf rfl rfl) ?_
    refine rr rfl (s_iload_n rfl) ?_
    refine rr rfl (s_iload rfl) ?_
    refine rr rfl (s_iastore (j := 0) (f' := [x3, 0, 0, 0, 0, 0, 0, 0, 0, 0, 0, 0, 0]) rfl rfl (Nat.le_of_ble_eq_true rfl) rfl (Nat.le_of_ble_eq_true rfl) rfl (h' := ((((((hF.set 3 (.inr (.inr (0, [.int 1, .ref 62, .int 1])))).set 6 (.inr (.inr (6, [.ref 2, .ref 7, .ref 8, .ref 9, .int 1])))).set 42 (.inl [x1, 0, 0, 0, 0, 0, 0, 0, 0, 0, 0, 0, 0])).set 43 (.inl [x2, 0, 0, 0, 0, 0, 0, 0, 0, 0, 0, 0, 0])).set 44 (.inl [x3, 0, 0, 0, 0, 0, 0, 0, 0, 0, 0, 0, 0])) ++ [.inr (.inr (2, [.int x1, .int x2, .int x3, .int x4, .int x4, .int x6, .int x7, .int ((1 <<< (x4 &&& 31) : Int32) ||| (1 <<< (x4 &&& 31) : Int32)), .int 0, .int (-1)])), .inr (.inl [some 61, none, none, none, none, none, none, none, none, none])]))) ?_
    refine rr rfl (s_aload_n rfl) ?_
    refine rr rfl (s_getf rfl rfl) ?_
    refine rr rfl (s_iload_n rfl) ?_
    refine rr rfl (s_iload rfl) ?_
    refine rr rfl (s_iastore (j := 0) (f' := [x4, 0, 0, 0, 0, 0, 0, 0, 0, 0, 0, 0, 0]) rfl rfl (Nat.le_of_ble_eq_true rfl) rfl (Nat.le_of_ble_eq_true rfl) rfl (h' := (((((((hF.set 3 (.inr (.inr (0, [.int 1, .ref 62, .int 1])))).set 6 (.inr (.inr (6, [.ref 2, .ref 7, .ref 8, .ref 9, .int 1])))).set 42 (.inl [x1, 0, 0, 0, 0, 0, 0, 0, 0, 0, 0, 0, 0])).set 43 (.inl [x2, 0, 0, 0, 0, 0, 0, 0, 0, 0, 0, 0, 0])).set 44 (.inl [x3, 0, 0, 0, 0, 0, 0, 0, 0, 0, 0, 0, 0])).set 45 (.inl [x4, 0, 0, 0, 0, 0, 0, 0, 0, 0, 0, 0, 0])) ++ [.inr (.inr (2, [.int x1, .int x2, .int x3, .int x4, .int x4, .int x6, .int x7, .int ((1 <<< (x4 &&& 31) : Int32) ||| (1 <<< (x4 &&& 31) : Int32)), .int 0, .int (-1)])), .inr (.inl [some 61, none, none, none, none, none, none, none, none, none])]))) ?_
    refine rr rfl (s_aload_n rfl) ?_
    refine rr rfl (s_getf rfl rfl) ?_
    refine rr rfl (s_iload_n rfl) ?_
    refine rr rfl (s_iload rfl) ?_
    refine rr rfl (s_iastore (j := 0) (f' := [x5, 0, 0, 0, 0, 0, 0, 0, 0, 0, 0, 0, 0]) rfl rfl (Nat.le_of_ble_eq_true rfl) rfl (Nat.le_of_ble_eq_true rfl) rfl (h' := ((((((((hF.set 3 (.inr (.inr (0, [.int 1, .ref 62, .int 1])))).set 6 (.inr (.inr (6, [.ref 2, .ref 7, .ref 8, .ref 9, .int 1])))).set 42 (.inl [x1, 0, 0, 0, 0, 0, 0, 0, 0, 0, 0, 0, 0])).set 43 (.inl [x2, 0, 0, 0, 0, 0, 0, 0, 0, 0, 0, 0, 0])).set 44 (.inl [x3, 0, 0, 0, 0, 0, 0, 0, 0, 0, 0, 0, 0])).set 45 (.inl [x4, 0, 0, 0, 0, 0, 0, 0, 0, 0, 0, 0, 0])).set 46 (.inl [x5, 0, 0, 0, 0, 0, 0, 0, 0, 0, 0, 0, 0])) ++ [.inr (.inr (2, [.int x1, .int x2, .int x3, .int x4, .int x4, .int x6, .int x7, .int ((1 <<< (x4 &&& 31) : Int32) ||| (1 <<< (x4 &&& 31) : Int32)), .int 0, .int (-1)])), .inr (.inl [some 61, none, none, none, none, none, none, none, none, none])]))) ?_
    refine rr rfl (s_aload_n rfl) ?_
    refine rr rfl (s_getf rfl rfl) ?_
    refine rr rfl (s_iload_n rfl) ?_
    refine rr rfl (s_iload rfl) ?_
    refine rr rfl (s_iastore (j := 0) (f' := [x6, 0, 0, 0, 0, 0, 0, 0, 0, 0, 0, 0, 0]) rfl rfl (Nat.le_of_ble_eq_true rfl) rfl (Nat.le_of_ble_eq_true rfl) rfl (h' := (((((((((hF.set 3 (.inr (.inr (0, [.int 1, .ref 62, .int 1])))).set 6 (.inr (.inr (6, [.ref 2, .ref 7, .ref 8, .ref 9, .int 1])))).set 42 (.inl [x1, 0, 0, 0, 0, 0, 0, 0, 0, 0, 0, 0, 0])).set 43 (.inl [x2, 0, 0, 0, 0, 0, 0, 0, 0, 0, 0, 0, 0])).set 44 (.inl [x3, 0, 0, 0, 0, 0, 0, 0, 0, 0, 0, 0, 0])).set 45 (.inl [x4, 0, 0, 0, 0, 0, 0, 0, 0, 0, 0, 0, 0])).set 46 (.inl [x5, 0, 0, 0, 0, 0, 0, 0, 0, 0, 0, 0, 0])).set 47 (.inl [x6, 0, 0, 0, 0, 0, 0, 0, 0, 0, 0, 0, 0])) ++ [.inr (.inr (2, [.int x1, .int x2, .int x3, .int x4, .int x4, .int x6, .int x7, .int ((1 <<< (x4 &&& 31) : Int32) ||| (1 <<< (x4 &&& 31) : Int32)), .int 0, .int (-1)])), .inr (.inl [some 61, none, none, none, none, none, none, none, none, none])]))) ?_
    refine rr rfl (s_aload_n rfl) ?_
    refine rr rfl (s_getf rfl rfl) ?_
    refine rr rfl (s_iload_n rfl) ?_
    refine rr rfl (s_iload rfl) ?_
    refine rr rfl (s_iastore (j := 0) (f' := [x7, 0, 0, 0, 0, 0, 0, 0, 0, 0, 0, 0, 0]) rfl rfl (Nat.le_of_ble_eq_true rfl) rfl (Nat.le_of_ble_eq_true rfl) rfl (h' := ((((((((((hF.set 3 (.inr (.inr (0, [.int 1, .ref 62, .int 1])))).set 6 (.inr (.inr (6, [.ref 2, .ref 7, .ref 8, .ref 9, .int 1])))).set 42 (.inl [x1, 0, 0, 0, 0, 0, 0, 0, 0, 0, 0, 0, 0])).set 43 (.inl [x2, 0, 0, 0, 0, 0, 0, 0, 0, 0, 0, 0, 0])).set 44 (.inl [x3, 0, 0, 0, 0, 0, 0, 0, 0, 0, 0, 0, 0])).set 45 (.inl [x4, 0, 0, 0, 0, 0, 0, 0, 0, 0, 0, 0, 0])).set 46 (.inl [x5, 0, 0, 0, 0, 0, 0, 0, 0, 0, 0, 0, 0])).set 47 (.inl [x6, 0, 0, 0, 0, 0, 0, 0, 0, 0, 0, 0, 0])).set 48 (.inl [x7, 0, 0, 0, 0, 0, 0, 0, 0, 0, 0, 0, 0])) ++ [.inr (.inr (2, [.int x1, .int x2, .int x3, .int x4, .int x4, .int x6, .int x7, .int ((1 <<< (x4 &&& 31) : Int32) ||| (1 <<< (x4 &&& 31) : Int32)), .int 0, .int (-1)])), .inr (.inl [some 61, none, none, none, none, none, none, none, none, none])]))) ?_
    refine rr rfl (s_aload_n rfl) ?_
    refine rr rfl (s_getf rfl rfl) ?_
    refine rr rfl (s_iload_n rfl) ?_
    refine rr rfl (s_iconst (v := (-1)) (by decide)) ?_
    refine rr rfl (s_iastore (j := 0) (f' := [(-1), 0, 0, 0, 0, 0, 0, 0, 0, 0, 0, 0, 0]) rfl rfl (Nat.le_of_ble_eq_true rfl) rfl (Nat.le_of_ble_eq_true rfl) rfl (h' := (((((((((((hF.set 3 (.inr (.inr (0, [.int 1, .ref 62, .int 1])))).set 6 (.inr (.inr (6, [.ref 2, .ref 7, .ref 8, .ref 9, .int 1])))).set 42 (.inl [x1, 0, 0, 0, 0, 0, 0, 0, 0, 0, 0, 0, 0])).set 43 (.inl [x2, 0, 0, 0, 0, 0, 0, 0, 0, 0, 0, 0, 0])).set 44 (.inl [x3, 0, 0, 0, 0, 0, 0, 0, 0, 0, 0, 0, 0])).set 45 (.inl [x4, 0, 0, 0, 0, 0, 0, 0, 0, 0, 0, 0, 0])).set 46 (.inl [x5, 0, 0, 0, 0, 0, 0, 0, 0, 0, 0, 0, 0])).set 47 (.inl [x6, 0, 0, 0, 0, 0, 0, 0, 0, 0, 0, 0, 0])).set 48 (.inl [x7, 0, 0, 0, 0, 0, 0, 0, 0, 0, 0, 0, 0])).set 49 (.inl [(-1), 0, 0, 0, 0, 0, 0, 0, 0, 0, 0, 0, 0])) ++ [.inr (.inr (2, [.int x1, .int x2, .int x3, .int x4, .int x4, .int x6, .int x7, .int ((1 <<< (x4 &&& 31) : Int32) ||| (1 <<< (x4 &&& 31) : Int32)), .int 0, .int (-1)])), .inr (.inl [some 61, none, none, none, none, none, none, none, none, none])]))) ?_
    exact rrt rfl rfl rfl rfl
  refine rrc rfl rfl rfl (do_of g_X9_sets rfl rfl e1) ?_
  refine rr rfl (s_aload_n rfl) ?_
  refine rr rfl rfl ?_
  refine rr rfl (s_getf rfl rfl) ?_
  refine rr rfl (s_iconst (v := 1) (by decide)) ?_
  refine rr rfl (s_iadd (v := 1) (by decide)) ?_
  refine rr rfl (s_putf rfl rfl (Nat.le_of_ble_eq_true rfl) rfl (Nat.le_of_ble_eq_true rfl) rfl (h' := ((((((((((((hF.set 3 (.inr (.inr (0, [.int 1, .ref 62, .int 1])))).set 6 (.inr (.inr (6, [.ref 2, .ref 7, .ref 8, .ref 9, .int 1])))).set 41 (.inr (.inr (9, [.int 4, .int 1, .ref 42, .ref 43, .ref 44, .ref 45, .ref 46, .ref 47, .ref 48, .ref 49, .ref 50, .ref 51, .int 0, .int 0, .int 0, .int 0, .int 0, .int 0, .int 0, .int 0, .ref 52, .int 0, .ref 53, .int 0, .ref 54, .int 0, .ref 55, .ref 56, .ref 57, .ref 58, .int 0, .ref 59, .ref 60])))).set 42 (.inl [x1, 0, 0, 0, 0, 0, 0, 0, 0, 0, 0, 0, 0])).set 43 (.inl [x2, 0, 0, 0, 0, 0, 0, 0, 0, 0, 0, 0, 0])).set 44 (.inl [x3, 0, 0, 0, 0, 0, 0, 0, 0, 0, 0, 0, 0])).set 45 (.inl [x4, 0, 0, 0, 0, 0, 0, 0, 0, 0, 0, 0, 0])).set 46 (.inl [x5, 0, 0, 0, 0, 0, 0, 0, 0, 0, 0, 0, 0])).set 47 (.inl [x6, 0, 0, 0, 0, 0, 0, 0, 0, 0, 0, 0, 0])).set 48 (.inl [x7, 0, 0, 0, 0, 0, 0, 0, 0, 0, 0, 0, 0])).set 49 (.inl [(-1), 0, 0, 0, 0, 0, 0, 0, 0, 0, 0, 0, 0])) ++ [.inr (.inr (2, [.int x1, .int x2, .int x3, .int x4, .int x4, .int x6, .int x7, .int ((1 <<< (x4 &&& 31) : Int32) ||| (1 <<< (x4 &&& 31) : Int32)), .int 0, .int (-1)])), .inr (.inl [some 61, none, none, none, none, none, none, none, none, none])]))) ?_
  refine rr rfl (s_aload_n rfl) ?_
  have e2 : a_m MT [] 100000 10 miX9_lays [.ref 41] ((((((((((((hF.set 3 (.inr (.inr (0, [.int 1, .ref 62, .int 1])))).set 6 (.inr (.inr (6, [.ref 2, .ref 7, .ref 8, .ref 9, .int 1])))).set 41 (.inr (.inr (9, [.int 4, .int 1, .ref 42, .ref 43, .ref 44, .ref 45, .ref 46, .ref 47, .ref 48, .ref 49, .ref 50, .ref 51, .int 0, .int 0, .int 0, .int 0, .int 0, .int 0, .int 0, .int 0, .ref 52, .int 0, .ref 53, .int 0, .ref 54, .int 0, .ref 55, .ref 56, .ref 57, .ref 58, .int 0, .ref 59, .ref 60])))).set 42 (.inl [x1, 0, 0, 0, 0, 0, 0, 0, 0, 0, 0, 0, 0])).set 43 (.inl [x2, 0, 0, 0, 0, 0, 0, 0, 0, 0, 0, 0, 0])).set 44 (.inl [x3, 0, 0, 0, 0, 0, 0, 0, 0, 0, 0, 0, 0])).set 45 (.inl [x4, 0, 0, 0, 0, 0, 0, 0, 0, 0, 0, 0, 0])).set 46 (.inl [x5, 0, 0, 0, 0, 0, 0, 0, 0, 0, 0, 0, 0])).set 47 (.inl [x6, 0, 0, 0, 0, 0, 0, 0, 0, 0, 0, 0, 0])).set 48 (.inl [x7, 0, 0, 0, 0, 0, 0, 0, 0, 0, 0, 0, 0])).set 49 (.inl [(-1), 0, 0, 0, 0, 0, 0, 0, 0, 0, 0, 0, 0])) ++ [.inr (.inr (2, [.int x1, .int x2, .int x3, .int x4, .int x4, .int x6, .int x7, .int ((1 <<< (x4 &&& 31) : Int32) ||| (1 <<< (x4 &&& 31) : Int32)), .int 0, .int (-1)])), .inr (.inl [some 61, none, none, none, none, none, none, none, none, none])]) = some ((some (.int 1)), ((((((((((((hF.set 3 (.inr (.inr (0, [.int 1, .ref 62, .int 1])))).set 6 (.inr (.inr (6, [.ref 2, .ref 7, .ref 8, .ref 9, .int 1])))).set 41 (.inr (.inr (9, [.int 4, .int 1, .ref 42, .ref 43, .ref 44, .ref 45, .ref 46, .ref 47, .ref 48, .ref 49, .ref 50, .ref 51, .int 0, .int 0, .int 0, .int 0, .int 0, .int 0, .int 0, .int 0, .ref 52, .int 0, .ref 53, .int 0, .ref 54, .int 0, .ref 55, .ref 56, .ref 57, .ref 58, .int 0, .ref 59, .ref 60])))).set 42 (.inl [x1, 0, 0, 0, 0, 0, 0, 0, 0, 0, 0, 0, 0])).set 43 (.inl [x2, 0, 0, 0, 0, 0, 0, 0, 0, 0, 0, 0, 0])).set 44 (.inl [x3, 0, 0, 0, 0, 0, 0, 0, 0, 0, 0, 0, 0])).set 45 (.inl [x4, 0, 0, 0, 0, 0, 0, 0, 0, 0, 0, 0, 0])).set 46 (.inl [x5, 0, 0, 0, 0, 0, 0, 0, 0, 0, 0, 0, 0])).set 47 (.inl [x6, 0, 0, 0, 0, 0, 0, 0, 0, 0, 0, 0, 0])).set 48 (.inl [x7, 0, 0, 0, 0, 0, 0, 0, 0, 0, 0, 0, 0])).set 49 (.inl [(-1), 0, 0, 0, 0, 0, 0, 0, 0, 0, 0, 0, 0])) ++ [.inr (.inr (2, [.int x1, .int x2, .int x3, .int x4, .int x4, .int x6, .int x7, .int ((1 <<< (x4 &&& 31) : Int32) ||| (1 <<< (x4 &&& 31) : Int32)), .int 0, .int (-1)])), .inr (.inl [some 61, none, none, none, none, none, none, none, none, none])]), 0, 0) := by
    refine me (d := 9) g_X9_lays (Nat.le_of_ble_eq_true rfl) ?_
    refine rr rfl (s_iconst (v := 0) (by decide)) ?_
    refine rr rfl (s_istore_n rfl) ?_
    refine rr rfl (s_iload_n rfl) ?_
    refine rr rfl (s_bipush (v := 8) (by decide)) ?_
    refine rr rfl (s_icF (by decide)) ?_
    refine rr rfl (s_aload_n rfl) ?_
    refine rr rfl (s_getf rfl rfl) ?_
    refine rr rfl (s_iload_n rfl) ?_
    refine rr rfl (s_iconst (v := 0) (by decide)) ?_
    refine rr rfl (s_iastore (j := 0) (f' := (List.replicate 8 0)) rfl rfl (Nat.le_of_ble_eq_true rfl) rfl (Nat.le_of_ble_eq_true rfl) rfl (h' := ((((((((((((hF.set 3 (.inr (.inr (0, [.int 1, .ref 62, .int 1])))).set 6 (.inr (.inr (6, [.ref 2, .ref 7, .ref 8, .ref 9, .int 1])))).set 41 (.inr (.inr (9, [.int 4, .int 1, .ref 42, .ref 43, .ref 44, .ref 45, .ref 46, .ref 47, .ref 48, .ref 49, .ref 50, .ref 51, .int 0, .int 0, .int 0, .int 0, .int 0, .int 0, .int 0, .int 0, .ref 52, .int 0, .ref 53, .int 0, .ref 54, .int 0, .ref 55, .ref 56, .ref 57, .ref 58, .int 0, .ref 59, .ref 60])))).set 42 (.inl [x1, 0, 0, 0, 0, 0, 0, 0, 0, 0, 0, 0, 0])).set 43 (.inl [x2, 0, 0, 0, 0, 0, 0, 0, 0, 0, 0, 0, 0])).set 44 (.inl [x3, 0, 0, 0, 0, 0, 0, 0, 0, 0, 0, 0, 0])).set 45 (.inl [x4, 0, 0, 0, 0, 0, 0, 0, 0, 0, 0, 0, 0])).set 46 (.inl [x5, 0, 0, 0, 0, 0, 0, 0, 0, 0, 0, 0, 0])).set 47 (.inl [x6, 0, 0, 0, 0, 0, 0, 0, 0, 0, 0, 0, 0])).set 48 (.inl [x7, 0, 0, 0, 0, 0, 0, 0, 0, 0, 0, 0, 0])).set 49 (.inl [(-1), 0, 0, 0, 0, 0, 0, 0, 0, 0, 0, 0, 0])) ++ [.inr (.inr (2, [.int x1, .int x2, .int x3, .int x4, .int x4, .int x6, .int x7, .int ((1 <<< (x4 &&& 31) : Int32) ||| (1 <<< (x4 &&& 31) : Int32)), .int 0, .int (-1)])), .inr (.inl [some 61, none, none, none, none, none, none, none, none, none])]))) ?_
    refine rr rfl (s_iinc (v := 1) rfl (by decide) rfl) ?_
    refine rr rfl s_goto ?_
    refine rr rfl (s_iload_n rfl) ?_
    refine rr rfl (s_bipush (v := 8) (by decide)) ?_
    refine rr rfl (s_icF (by decide)) ?_
    refine rr rfl (s_aload_n rfl) ?_
    refine rr rfl (s_getf rfl rfl) ?_
    refine rr rfl (s_iload_n rfl) ?_
    refine rr rfl (s_iconst (v := 0) (by decide)) ?_
    refine rr rfl (s_iastore (j := 1) (f' := (List.replicate 8 0)) rfl rfl (Nat.le_of_ble_eq_true rfl) rfl (Nat.le_of_ble_eq_true rfl) rfl (h' := ((((((((((((hF.set 3 (.inr (.inr (0, [.int 1, .ref 62, .int 1])))).set 6 (.inr (.inr (6, [.ref 2, .ref 7, .ref 8, .ref 9, .int 1])))).set 41 (.inr (.inr (9, [.int 4, .int 1, .ref 42, .ref 43, .ref 44, .ref 45, .ref 46, .ref 47, .ref 48, .ref 49, .ref 50, .ref 51, .int 0, .int 0, .int 0, .int 0, .int 0, .int 0, .int 0, .int 0, .ref 52, .int 0, .ref 53, .int 0, .ref 54, .int 0, .ref 55, .ref 56, .ref 57, .ref 58, .int 0, .ref 59, .ref 60])))).set 42 (.inl [x1, 0, 0, 0, 0, 0, 0, 0, 0, 0, 0, 0, 0])).set 43 (.inl [x2, 0, 0, 0, 0, 0, 0, 0, 0, 0, 0, 0, 0])).set 44 (.inl [x3, 0, 0, 0, 0, 0, 0, 0, 0, 0, 0, 0, 0])).set 45 (.inl [x4, 0, 0, 0, 0, 0, 0, 0, 0, 0, 0, 0, 0])).set 46 (.inl [x5, 0, 0, 0, 0, 0, 0, 0, 0, 0, 0, 0, 0])).set 47 (.inl [x6, 0, 0, 0, 0, 0, 0, 0, 0, 0, 0, 0, 0])).set 48 (.inl [x7, 0, 0, 0, 0, 0, 0, 0, 0, 0, 0, 0, 0])).set 49 (.inl [(-1), 0, 0, 0, 0, 0, 0, 0, 0, 0, 0, 0, 0])) ++ [.inr (.inr (2, [.int x1, .int x2, .int x3, .int x4, .int x4, .int x6, .int x7, .int ((1 <<< (x4 &&& 31) : Int32) ||| (1 <<< (x4 &&& 31) : Int32)), .int 0, .int (-1)])), .inr (.inl [some 61, none, none, none, none, none, none, none, none, none])]))) ?_
    refine rr rfl (s_iinc (v := 2) rfl (by decide) rfl) ?_
    refine rr rfl s_goto ?_
    refine rr rfl (s_iload_n rfl) ?_
    refine rr rfl (s_bipush (v := 8) (by decide)) ?_
    refine rr rfl (s_icF (by decide)) ?_
    refine rr rfl (s_aload_n rfl) ?_
    refine rr rfl (s_getf rfl rfl) ?_
    refine rr rfl (s_iload_n rfl) ?_
    refine rr rfl (s_iconst (v := 0) (by decide)) ?_
    refine rr rfl (s_iastore (j := 2) (f' := (List.replicate 8 0)) rfl rfl (Nat.le_of_ble_eq_true rfl) rfl (Nat.le_of_ble_eq_true rfl) rfl (h' := ((((((((((((hF.set 3 (.inr (.inr (0, [.int 1, .ref 62, .int 1])))).set 6 (.inr (.inr (6, [.ref 2, .ref 7, .ref 8, .ref 9, .int 1])))).set 41 (.inr (.inr (9, [.int 4, .int 1, .ref 42, .ref 43, .ref 44, .ref 45, .ref 46, .ref 47, .ref 48, .ref 49, .ref 50, .ref 51, .int 0, .int 0, .int 0, .int 0, .int 0, .int 0, .int 0, .int 0, .ref 52, .int 0, .ref 53, .int 0, .ref 54, .int 0, .ref 55, .ref 56, .ref 57, .ref 58, .int 0, .ref 59, .ref 60])))).set 42 (.inl [x1, 0, 0, 0, 0, 0, 0, 0, 0, 0, 0, 0, 0])).set 43 (.inl [x2, 0, 0, 0, 0, 0, 0, 0, 0, 0, 0, 0, 0])).set 44 (.inl [x3, 0, 0, 0, 0, 0, 0, 0, 0, 0, 0, 0, 0])).set 45 (.inl [x4, 0, 0, 0, 0, 0, 0, 0, 0, 0, 0, 0, 0])).set 46 (.inl [x5, 0, 0, 0, 0, 0, 0, 0, 0, 0, 0, 0, 0])).set 47 (.inl [x6, 0, 0, 0, 0, 0, 0, 0, 0, 0, 0, 0, 0])).set 48 (.inl [x7, 0, 0, 0, 0, 0, 0, 0, 0, 0, 0, 0, 0])).set 49 (.inl [(-1), 0, 0, 0, 0, 0, 0, 0, 0, 0, 0, 0, 0])) ++ [.inr (.inr (2, [.int x1, .int x2, .int x3, .int x4, .int x4, .int x6, .int x7, .int ((1 <<< (x4 &&& 31) : Int32) ||| (1 <<< (x4 &&& 31) : Int32)), .int 0, .int (-1)])), .inr (.inl [some 61, none, none, none, none, none, none, none, none, none])]))) ?_
    refine rr rfl (s_iinc (v := 3) rfl (by decide) rfl) ?_
    refine rr rfl s_goto ?_
    refine rr rfl (s_iload_n rfl) ?_
    refine rr rfl (s_bipush (v := 8) (by decide)) ?_
    refine rr rfl (s_icF (by decide)) ?_
    refine rr rfl (s_aload_n rfl) ?_
    refine rr rfl (s_getf rfl rfl) ?_
    refine rr rfl (s_iload_n rfl) ?_
    refine rr rfl (s_iconst (v := 0) (by decide)) ?_
    refine rr rfl (s_iastore (j := 3) (f' := (List.replicate 8 0)) rfl rfl (Nat.le_of_ble_eq_true rfl) rfl (Nat.le_of_ble_eq_true rfl) rfl (h' := ((((((((((((hF.set 3 (.inr (.inr (0, [.int 1, .ref 62, .int 1])))).set 6 (.inr (.inr (6, [.ref 2, .ref 7, .ref 8, .ref 9, .int 1])))).set 41 (.inr (.inr (9, [.int 4, .int 1, .ref 42, .ref 43, .ref 44, .ref 45, .ref 46, .ref 47, .ref 48, .ref 49, .ref 50, .ref 51, .int 0, .int 0, .int 0, .int 0, .int 0, .int 0, .int 0, .int 0, .ref 52, .int 0, .ref 53, .int 0, .ref 54, .int 0, .ref 55, .ref 56, .ref 57, .ref 58, .int 0, .ref 59, .ref 60])))).set 42 (.inl [x1, 0, 0, 0, 0, 0, 0, 0, 0, 0, 0, 0, 0])).set 43 (.inl [x2, 0, 0, 0, 0, 0, 0, 0, 0, 0, 0, 0, 0])).set 44 (.inl [x3, 0, 0, 0, 0, 0, 0, 0, 0, 0, 0, 0, 0])).set 45 (.inl [x4, 0, 0, 0, 0, 0, 0, 0, 0, 0, 0, 0, 0])).set 46 (.inl [x5, 0, 0, 0, 0, 0, 0, 0, 0, 0, 0, 0, 0])).set 47 (.inl [x6, 0, 0, 0, 0, 0, 0, 0, 0, 0, 0, 0, 0])).set 48 (.inl [x7, 0, 0, 0, 0, 0, 0, 0, 0, 0, 0, 0, 0])).set 49 (.inl [(-1), 0, 0, 0, 0, 0, 0, 0, 0, 0, 0, 0, 0])) ++ [.inr (.inr (2, [.int x1, .int x2, .int x3, .int x4, .int x4, .int x6, .int x7, .int ((1 <<< (x4 &&& 31) : Int32) ||| (1 <<< (x4 &&& 31) : Int32)), .int 0, .int (-1)])), .inr (.inl [some 61, none, none, none, none, none, none, none, none, none])]))) ?_
    refine rr rfl (s_iinc (v := 4) rfl (by decide) rfl) ?_
    refine rr rfl s_goto ?_
    refine rr rfl (s_iload_n rfl) ?_
    refine rr rfl (s_bipush (v := 8) (by decide)) ?_
    refine rr rfl (s_icF (by decide)) ?_
    refine rr rfl (s_aload_n rfl) ?_
    refine rr rfl (s_getf rfl rfl) ?_
    refine rr rfl (s_iload_n rfl) ?_
    refine rr rfl (s_iconst (v := 0) (by decide)) ?_
    refine rr rfl (s_iastore (j := 4) (f' := (List.replicate 8 0)) rfl rfl (Nat.le_of_ble_eq_true rfl) rfl (Nat.le_of_ble_eq_true rfl) rfl (h' := ((((((((((((hF.set 3 (.inr (.inr (0, [.int 1, .ref 62, .int 1])))).set 6 (.inr (.inr (6, [.ref 2, .ref 7, .ref 8, .ref 9, .int 1])))).set 41 (.inr (.inr (9, [.int 4, .int 1, .ref 42, .ref 43, .ref 44, .ref 45, .ref 46, .ref 47, .ref 48, .ref 49, .ref 50, .ref 51, .int 0, .int 0, .int 0, .int 0, .int 0, .int 0, .int 0, .int 0, .ref 52, .int 0, .ref 53, .int 0, .ref 54, .int 0, .ref 55, .ref 56, .ref 57, .ref 58, .int 0, .ref 59, .ref 60])))).set 42 (.inl [x1, 0, 0, 0, 0, 0, 0, 0, 0, 0, 0, 0, 0])).set 43 (.inl [x2, 0, 0, 0, 0, 0, 0, 0, 0, 0, 0, 0, 0])).set 44 (.inl [x3, 0, 0, 0, 0, 0, 0, 0, 0, 0, 0, 0, 0])).set 45 (.inl [x4, 0, 0, 0, 0, 0, 0, 0, 0, 0, 0, 0, 0])).set 46 (.inl [x5, 0, 0, 0, 0, 0, 0, 0, 0, 0, 0, 0, 0])).set 47 (.inl [x6, 0, 0, 0, 0, 0, 0, 0, 0, 0, 0, 0, 0])).set 48 (.inl [x7, 0, 0, 0, 0, 0, 0, 0, 0, 0, 0, 0, 0])).set 49 (.inl [(-1), 0, 0, 0, 0, 0, 0, 0, 0, 0, 0, 0, 0])) ++ [.inr (.inr (2, [.int x1, .int x2, .int x3, .int x4, .int x4, .int x6, .int x7, .int ((1 <<< (x4 &&& 31) : Int32) ||| (1 <<< (x4 &&& 31) : Int32)), .int 0, .int (-1)])), .inr (.inl [some 61, none, none, none, none, none, none, none, none, none])]))) ?_
    refine rr rfl (s_iinc (v := 5) rfl (by decide) rfl) ?_
    refine rr rfl s_goto ?_
    refine rr rfl (s_iload_n rfl) ?_
    refine rr rfl (s_bipush (v := 8) (by decide)) ?_
    refine rr rfl (s_icF (by decide)) ?_
    refine rr rfl (s_aload_n rfl) ?_
    refine rr rfl (s_getf rfl rfl) ?_
    refine rr rfl (s_iload_n rfl) ?_
    refine rr rfl (s_iconst (v := 0) (by decide)) ?_
    refine rr rfl (s_iastore (j := 5) (f' := (List.replicate 8 0)) rfl rfl (Nat.le_of_ble_eq_true rfl) rfl (Nat.le_of_ble_eq_true rfl) rfl (h' := ((((((((((((hF.set 3 (.inr (.inr (0, [.int 1, .ref 62, .int 1])))).set 6 (.inr (.inr (6, [.ref 2, .ref 7, .ref 8, .ref 9, .int 1])))).set 41 (.inr (.inr (9, [.int 4, .int 1, .ref 42, .ref 43, .ref 44, .ref 45, .ref 46, .ref 47, .ref 48, .ref 49, .ref 50, .ref 51, .int 0, .int 0, .int 0, .int 0, .int 0, .int 0, .int 0, .int 0, .ref 52, .int 0, .ref 53, .int 0, .ref 54, .int 0, .ref 55, .ref 56, .ref 57, .ref 58, .int 0, .ref 59, .ref 60])))).set 42 (.inl [x1, 0, 0, 0, 0, 0, 0, 0, 0, 0, 0, 0, 0])).set 43 (.inl [x2, 0, 0, 0, 0, 0, 0, 0, 0, 0, 0, 0, 0])).set 44 (.inl [x3, 0, 0, 0, 0, 0, 0, 0, 0, 0, 0, 0, 0])).set 45 (.inl [x4, 0, 0, 0, 0, 0, 0, 0, 0, 0, 0, 0, 0])).set 46 (.inl [x5, 0, 0, 0, 0, 0, 0, 0, 0, 0, 0, 0, 0])).set 47 (.inl [x6, 0, 0, 0, 0, 0, 0, 0, 0, 0, 0, 0, 0])).set 48 (.inl [x7, 0, 0, 0, 0, 0, 0, 0, 0, 0, 0, 0, 0])).set 49 (.inl [(-1), 0, 0, 0, 0, 0, 0, 0, 0, 0, 0, 0, 0])) ++ [.inr (.inr (2, [.int x1, .int x2, .int x3, .int x4, .int x4, .int x6, .int x7, .int ((1 <<< (x4 &&& 31) : Int32) ||| (1 <<< (x4 &&& 31) : Int32)), .int 0, .int (-1)])), .inr (.inl [some 61, none, none, none, none, none, none, none, none, none])]))) ?_
    refine rr rfl (s_iinc (v := 6) rfl (by decide) rfl) ?_
    refine rr rfl s_goto ?_
    refine rr rfl (s_iload_n rfl) ?_
    refine rr rfl (s_bipush (v := 8) (by decide)) ?_
    refine rr rfl (s_icF (by decide)) ?_
    refine rr rfl (s_aload_n rfl) ?_
    refine rr rfl (s_getf rfl rfl) ?_
    refine rr rfl (s_iload_n rfl) ?_
    refine rr rfl (s_iconst (v := 0) (by decide)) ?_
    refine rr rfl (s_iastore (j := 6) (f' := (List.replicate 8 0)) rfl rfl (Nat.le_of_ble_eq_true rfl) rfl (Nat.le_of_ble_eq_true rfl) rfl (h' := ((((((((((((hF.set 3 (.inr (.inr (0, [.int 1, .ref 62, .int 1])))).set 6 (.inr (.inr (6, [.ref 2, .ref 7, .ref 8, .ref 9, .int 1])))).set 41 (.inr (.inr (9, [.int 4, .int 1, .ref 42, .ref 43, .ref 44, .ref 45, .ref 46, .ref 47, .ref 48, .ref 49, .ref 50, .ref 51, .int 0, .int 0, .int 0, .int 0, .int 0, .int 0, .int 0, .int 0, .ref 52, .int 0, .ref 53, .int 0, .ref 54, .int 0, .ref 55, .ref 56, .ref 57, .ref 58, .int 0, .ref 59, .ref 60])))).set 42 (.inl [x1, 0, 0, 0, 0, 0, 0, 0, 0, 0, 0, 0, 0])).set 43 (.inl [x2, 0, 0, 0, 0, 0, 0, 0, 0, 0, 0, 0, 0])).set 44 (.inl [x3, 0, 0, 0, 0, 0, 0, 0, 0, 0, 0, 0, 0])).set 45 (.inl [x4, 0, 0, 0, 0, 0, 0, 0, 0, 0, 0, 0, 0])).set 46 (.inl [x5, 0, 0, 0, 0, 0, 0, 0, 0, 0, 0, 0, 0])).set 47 (.inl [x6, 0, 0, 0, 0, 0, 0, 0, 0, 0, 0, 0, 0])).set 48 (.inl [x7, 0, 0, 0, 0, 0, 0, 0, 0, 0, 0, 0, 0])).set 49 (.inl [(-1), 0, 0, 0, 0, 0, 0, 0, 0, 0, 0, 0, 0])) ++ [.inr (.inr (2, [.int x1, .int x2, .int x3, .int x4, .int x4, .int x6, .int x7, .int ((1 <<< (x4 &&& 31) : Int32) ||| (1 <<< (x4 &&& 31) : Int32)), .int 0, .int (-1)])), .inr (.inl [some 61, none, none, none, none, none, none, none, none, none])]))) ?_
    refine rr rfl (s_iinc (v := 7) rfl (by decide) rfl) ?_
    refine rr rfl s_goto ?_
    refine rr rfl (s_iload_n rfl) ?_
    refine rr rfl (s_bipush (v := 8) (by decide)) ?_
    refine rr rfl (s_icF (by decide)) ?_
    refine rr rfl (s_aload_n rfl) ?_
    refine rr rfl (s_getf rfl rfl) ?_
    refine rr rfl (s_iload_n rfl) ?_
    refine rr rfl (s_iconst (v := 0) (by decide)) ?_
    refine rr rfl (s_iastore (j := 7) (f' := (List.replicate 8 0)) rfl rfl (Nat.le_of_ble_eq_true rfl) rfl (Nat.le_of_ble_eq_true rfl) rfl (h' := ((((((((((((hF.set 3 (.inr (.inr (0, [.int 1, .ref 62, .int 1])))).set 6 (.inr (.inr (6, [.ref 2, .ref 7, .ref 8, .ref 9, .int 1])))).set 41 (.inr (.inr (9, [.int 4, .int 1, .ref 42, .ref 43, .ref 44, .ref 45, .ref 46, .ref 47, .ref 48, .ref 49, .ref 50, .ref 51, .int 0, .int 0, .int 0, .int 0, .int 0, .int 0, .int 0, .int 0, .ref 52, .int 0, .ref 53, .int 0, .ref 54, .int 0, .ref 55, .ref 56, .ref 57, .ref 58, .int 0, .ref 59, .ref 60])))).set 42 (.inl [x1, 0, 0, 0, 0, 0, 0, 0, 0, 0, 0, 0, 0])).set 43 (.inl [x2, 0, 0, 0, 0, 0, 0, 0, 0, 0, 0, 0, 0])).set 44 (.inl [x3, 0, 0, 0, 0, 0, 0, 0, 0, 0, 0, 0, 0])).set 45 (.inl [x4, 0, 0, 0, 0, 0, 0, 0, 0, 0, 0, 0, 0])).set 46 (.inl [x5, 0, 0, 0, 0, 0, 0, 0, 0, 0, 0, 0, 0])).set 47 (.inl [x6, 0, 0, 0, 0, 0, 0, 0, 0, 0, 0, 0, 0])).set 48 (.inl [x7, 0, 0, 0, 0, 0, 0, 0, 0, 0, 0, 0, 0])).set 49 (.inl [(-1), 0, 0, 0, 0, 0, 0, 0, 0, 0, 0, 0, 0])) ++ [.inr (.inr (2, [.int x1, .int x2, .int x3, .int x4, .int x4, .int x6, .int x7, .int ((1 <<< (x4 &&& 31) : Int32) ||| (1 <<< (x4 &&& 31) : Int32)), .int 0, .int (-1)])), .inr (.inl [some 61, none, none, none, none, none, none, none, none, none])]))) ?_
    refine rr rfl (s_iinc (v := 8) rfl (by decide) rfl) ?_
    refine rr rfl s_goto ?_
    refine rr rfl (s_iload_n rfl) ?_
    refine rr rfl (s_bipush (v := 8) (by decide)) ?_
    refine rr rfl (s_icT (by decide)) ?_
    refine rr rfl (s_iconst (v := 1) (by decide)) ?_
    refine rr rfl (s_istore_n rfl) ?_
    refine rr rfl (s_iconst (v := 1) (by decide)) ?_
    refine rr rfl (s_istore_n rfl) ?_
    refine rr rfl (s_iload_n rfl) ?_
    refine rr rfl (s_ifF (by decide)) ?_
    refine rr rfl (s_iload_n rfl) ?_
    refine rr rfl (s_ifF (by decide)) ?_
    refine rr rfl (s_iconst (v := 0) (by decide)) ?_
    refine rr rfl (s_istore_n rfl) ?_
    refine rr rfl (s_iconst (v := 0) (by decide)) ?_
    refine rr rfl (s_istore_n rfl) ?_
    refine rr rfl (s_iload_n rfl) ?_
    refine rr rfl (s_aload_n rfl) ?_
    refine rr rfl (s_getf rfl rfl) ?_
    refine rr rfl (s_icF (by decide)) ?_
    refine rr rfl (s_iconst (v := 0) (by decide)) ?_
    refine rr rfl (s_istore rfl) ?_
    refine rr rfl (s_aload_n rfl) ?_
    refine rr rfl (s_getf rfl rfl) ?_
    refine rr rfl (s_iload_n rfl) ?_
    refine rr rfl (s_iaload (j := 0) rfl rfl rfl) ?_
    refine rr rfl (s_ifF (ic_nne g1)) ?_
    refine rr rfl (s_aload_n rfl) ?_
    refine rr rfl (s_getf rfl rfl) ?_
    refine rr rfl (s_aload_n rfl) ?_
    refine rr rfl (s_getf rfl rfl) ?_
    refine rr rfl (s_iload_n rfl) ?_
    refine rr rfl (s_iaload (j := 0) rfl rfl rfl) ?_
    refine rr rfl (s_ialdR (n := 8) (x := 0) rfl g2 g3) ?_
    refine rr rfl (s_istore rfl) ?_
    refine rr rfl (s_aload_n rfl) ?_
    refine rr rfl (s_getf rfl rfl) ?_
    refine rr rfl (s_iload_n rfl) ?_
    refine rr rfl (s_iaload (j := 0) rfl rfl rfl) ?_
    refine rr rfl (s_iconst (v := (-1)) (by decide)) ?_
    refine rr rfl (s_icT (ic_eq g4)) ?_
    refine rr rfl (s_iload rfl) ?_
    refine rr rfl (s_istore rfl) ?_
    refine rr rfl (s_aload_n rfl) ?_
    refine rr rfl (s_getf rfl rfl) ?_
    refine rr rfl (s_iload_n rfl) ?_
    refine rr rfl (s_iaload (j := 0) rfl rfl rfl) ?_
    refine rr rfl (s_iconst (v := (-1)) (by decide)) ?_
    refine rr rfl (s_icT (ic_eq g5)) ?_
    refine rr rfl (s_iload rfl) ?_
    refine rr rfl (s_istore rfl) ?_
    refine rr rfl (s_iload rfl) ?_
    refine rr rfl (s_aload_n rfl) ?_
    refine rr rfl (s_getf rfl rfl) ?_
    refine rr rfl (s_aload_n rfl) ?_
    refine rr rfl (s_getf rfl rfl) ?_
    refine rr rfl (s_iload_n rfl) ?_
    refine rr rfl (s_iaload (j := 0) rfl rfl rfl) ?_
    refine rr rfl (s_ialdR (n := 8) (x := 0) rfl g6 g7) ?_
    refine rr rfl (s_icT (by decide)) ?_
    refine rr rfl (s_iinc (v := 1) rfl (by decide) rfl) ?_
    refine rr rfl s_goto ?_
    refine rr rfl (s_iload_n rfl) ?_
    refine rr rfl (s_aload_n rfl) ?_
    refine rr rfl (s_getf rfl rfl) ?_
    refine rr rfl (s_icT (by decide)) ?_
    refine rr rfl s_goto ?_
    refine rr rfl (s_iload_n rfl) ?_
    refine rr rfl (s_ifT (by decide)) ?_
    refine rr rfl (s_iload_n rfl) ?_
    exact rrt rfl rfl rfl rfl
  refine rrc rfl rfl rfl (do_of g_X9_lays rfl rfl e2) ?_
  refine rr rfl (s_istore rfl) ?_
  refine rr rfl (s_iload rfl) ?_
  refine rr rfl (s_ifF (by decide)) ?_
  refine rr rfl (s_aload_n rfl) ?_
  refine rr rfl (s_getf rfl rfl) ?_
  refine rr rfl (s_bipush (v := 12) (by decide)) ?_
  refine rr rfl (s_icT (by decide)) ?_
  refine rr rfl (s_aload_n rfl) ?_
  refine rr rfl (s_getf rfl rfl) ?_
  refine rr rfl (s_iconst (v := 1) (by decide)) ?_
  refine rr rfl (s_isub (v := 0) (by decide)) ?_
  exact rrt rfl rfl rfl rfl
set_option maxHeartbeats 4000000 in
set_option maxRecDepth 10000 in
theorem rm_Nim {x1 x2 x3 x4 x5 x6 x7 : Int32} (g1 : x2 = 0) (g2 : ¬ x4 < 0) (g3 : x4 < nI 8) (g4 : ¬ x5 = (-1)) (g5 : ¬ x5 < 0) (g6 : x5 < nI 8) (g7 : x6 = (-1)) (g8 : ¬ x3 < 0) (g9 : x3 < nI 8) : a_run MT [] (a_m MT [] 100000 10) 11 (some .int) tabX9_rule 90000 95 (alQ x1 x2 x3 x4 x5 x6 x7) [] (((hF.set 3 (.inr (.inr (0, [.int 1, .ref 62, .int 1])))).set 6 (.inr (.inr (6, [.ref 2, .ref 7, .ref 8, .ref 9, .int 1])))) ++ [.inr (.inr (2, [.int x1, .int x2, .int x3, .int x4, .int x5, .int x6, .int x7, .int ((1 <<< (x4 &&& 31) : Int32) ||| (1 <<< (x5 &&& 31) : Int32)), .int 0, .int (-1)])), .inr (.inl [some 61, none, none, none, none, none, none, none, none, none])]) 0 0 = some (some (.int 0), ((((((((((((hF.set 3 (.inr (.inr (0, [.int 1, .ref 62, .int 1])))).set 6 (.inr (.inr (6, [.ref 2, .ref 7, .ref 8, .ref 9, .int 1])))).set 41 (.inr (.inr (9, [.int 4, .int 1, .ref 42, .ref 43, .ref 44, .ref 45, .ref 46, .ref 47, .ref 48, .ref 49, .ref 50, .ref 51, .int 0, .int 0, .int 0, .int 0, .int 0, .int 0, .int 0, .int 0, .ref 52, .int 0, .ref 53, .int 0, .ref 54, .int 0, .ref 55, .ref 56, .ref 57, .ref 58, .int 0, .ref 59, .ref 60])))).set 42 (.inl [x1, 0, 0, 0, 0, 0, 0, 0, 0, 0, 0, 0, 0])).set 43 (.inl [x2, 0, 0, 0, 0, 0, 0, 0, 0, 0, 0, 0, 0])).set 44 (.inl [x3, 0, 0, 0, 0, 0, 0, 0, 0, 0, 0, 0, 0])).set 45 (.inl [x4, 0, 0, 0, 0, 0, 0, 0, 0, 0, 0, 0, 0])).set 46 (.inl [x5, 0, 0, 0, 0, 0, 0, 0, 0, 0, 0, 0, 0])).set 47 (.inl [x6, 0, 0, 0, 0, 0, 0, 0, 0, 0, 0, 0, 0])).set 48 (.inl [x7, 0, 0, 0, 0, 0, 0, 0, 0, 0, 0, 0, 0])).set 49 (.inl [(-1), 0, 0, 0, 0, 0, 0, 0, 0, 0, 0, 0, 0])) ++ [.inr (.inr (2, [.int x1, .int x2, .int x3, .int x4, .int x5, .int x6, .int x7, .int ((1 <<< (x4 &&& 31) : Int32) ||| (1 <<< (x5 &&& 31) : Int32)), .int 0, .int (-1)])), .inr (.inl [some 61, none, none, none, none, none, none, none, none, none])]), 0, 0) := by
  refine rr rfl (s_aload_n rfl) ?_
  refine rr rfl (s_aload_n rfl) ?_
  refine rr rfl (s_getf rfl rfl) ?_
  refine rr rfl (s_iload_n rfl) ?_
  refine rr rfl (s_iload_n rfl) ?_
  refine rr rfl (s_iload_n rfl) ?_
  refine rr rfl (s_iload rfl) ?_
  refine rr rfl (s_iload rfl) ?_
  refine rr rfl (s_iload rfl) ?_
  refine rr rfl (s_iload rfl) ?_
  have e1 : a_m MT [] 100000 10 miX9_sets [.ref 41, .int 0, .int x1, .int x2, .int x3, .int x4, .int x5, .int x6, .int x7] (((hF.set 3 (.inr (.inr (0, [.int 1, .ref 62, .int 1])))).set 6 (.inr (.inr (6, [.ref 2, .ref 7, .ref 8, .ref 9, .int 1])))) ++ [.inr (.inr (2, [.int x1, .int x2, .int x3, .int x4, .int x5, .int x6, .int x7, .int ((1 <<< (x4 &&& 31) : Int32) ||| (1 <<< (x5 &&& 31) : Int32)), .int 0, .int (-1)])), .inr (.inl [some 61, none, none, none, none, none, none, none, none, none])]) = some (none, (((((((((((hF.set 3 (.inr (.inr (0, [.int 1, .ref 62, .int 1])))).set 6 (.inr (.inr (6, [.ref 2, .ref 7, .ref 8, .ref 9, .int 1])))).set 42 (.inl [x1, 0, 0, 0, 0, 0, 0, 0, 0, 0, 0, 0, 0])).set 43 (.inl [x2, 0, 0, 0, 0, 0, 0, 0, 0, 0, 0, 0, 0])).set 44 (.inl [x3, 0, 0, 0, 0, 0, 0, 0, 0, 0, 0, 0, 0])).set 45 (.inl [x4, 0, 0, 0, 0, 0, 0, 0, 0, 0, 0, 0, 0])).set 46 (.inl [x5, 0, 0, 0, 0, 0, 0, 0, 0, 0, 0, 0, 0])).set 47 (.inl [x6, 0, 0, 0, 0, 0, 0, 0, 0, 0, 0, 0, 0])).set 48 (.inl [x7, 0, 0, 0, 0, 0, 0, 0, 0, 0, 0, 0, 0])).set 49 (.inl [(-1), 0, 0, 0, 0, 0, 0, 0, 0, 0, 0, 0, 0])) ++ [.inr (.inr (2, [.int x1, .int x2, .int x3, .int x4, .int x5, .int x6, .int x7, .int ((1 <<< (x4 &&& 31) : Int32) ||| (1 <<< (x5 &&& 31) : Int32)), .int 0, .int (-1)])), .inr (.inl [some 61, none, none, none, none, none, none, none, none, none])]), 0, 0) := by
    refine me (d := 9) g_X9_sets (Nat.le_of_ble_eq_true rfl) ?_
    refine rr rfl (s_aload_n rfl) ?_
    refine rr rfl (s_getf rfl rfl) ?_
    refine rr rfl (s_iload_n rfl) ?_
    refine rr rfl (s_iload_n rfl) ?_
    refine rr rfl (s_iastore (j := 0) (f' := [x1, 0, 0, 0, 0, 0, 0, 0, 0, 0, 0, 0, 0]) rfl rfl (Nat.le_of_ble_eq_true rfl) rfl (Nat.le_of_ble_eq_true rfl) rfl (h' := ((((hF.set 3 (.inr (.inr (0, [.int 1, .ref 62, .int 1])))).set 6 (.inr (.inr (6, [.ref 2, .ref 7, .ref 8, .ref 9, .int 1])))).set 42 (.inl [x1, 0, 0, 0, 0, 0, 0, 0, 0, 0, 0, 0, 0])) ++ [.inr (.inr (2, [.int x1, .int x2, .int x3, .int x4, .int x5, .int x6, .int x7, .int ((1 <<< (x4 &&& 31) : Int32) ||| (1 <<< (x5 &&& 31) : Int32)), .int 0, .int (-1)])), .inr (.inl [some 61, none, none, none, none, none, none, none, none, none])]))) ?_
    refine rr rfl (s_aload_n rfl) ?_
    refine rr rfl (s_getf rfl rfl) ?_
    refine rr rfl (s_iload_n rfl) ?_
    refine rr rfl (s_iload_n rfl) ?_
    refine rr rfl (s_iastore (j := 0) (f' := [x2, 0, 0, 0, 0, 0, 0, 0, 0, 0, 0, 0, 0]) rfl rfl (Nat.le_of_ble_eq_true rfl) rfl (Nat.le_of_ble_eq_true rfl) rfl (h' := (((((hF.set 3 (.inr (.inr (0, [.int 1, .ref 62, .int 1])))).set 6 (.inr (.inr (6, [.ref 2, .ref 7, .ref 8, .ref 9, .int 1])))).set 42 (.inl [x1, 0, 0, 0, 0, 0, 0, 0, 0, 0, 0, 0, 0])).set 43 (.inl [x2, 0, 0, 0, 0, 0, 0, 0, 0, 0, 0, 0, 0])) ++ [.inr (.inr (2, [.int x1, .int x2, .int x3, .int x4, .int x5, .int x6, .int x7, .int ((1 <<< (x4 &&& 31) : Int32) ||| (1 <<< (x5 &&& 31) : Int32)), .int 0, .int (-1)])), .inr (.inl [some 61, none, none, none, none, none, none, none, none, none])]))) ?_
    refine rr rfl (s_aload_n rfl) ?_
    refine rr rfl (s_getf rfl rfl) ?_
    refine rr rfl (s_iload_n rfl) ?_
    refine rr rfl (s_iload rfl) ?_
    refine rr rfl (s_iastore (j := 0) (f' := [x3, 0, 0, 0, 0, 0, 0, 0, 0, 0, 0, 0, 0]) rfl rfl (Nat.le_of_ble_eq_true rfl) rfl (Nat.le_of_ble_eq_true rfl) rfl (h' := ((((((hF.set 3 (.inr (.inr (0, [.int 1, .ref 62, .int 1])))).set 6 (.inr (.inr (6, [.ref 2, .ref 7, .ref 8, .ref 9, .int 1])))).set 42 (.inl [x1, 0, 0, 0, 0, 0, 0, 0, 0, 0, 0, 0, 0])).set 43 (.inl [x2, 0, 0, 0, 0, 0, 0, 0, 0, 0, 0, 0, 0])).set 44 (.inl [x3, 0, 0, 0, 0, 0, 0, 0, 0, 0, 0, 0, 0])) ++ [.inr (.inr (2, [.int x1, .int x2, .int x3, .int x4, .int x5, .int x6, .int x7, .int ((1 <<< (x4 &&& 31) : Int32) ||| (1 <<< (x5 &&& 31) : Int32)), .int 0, .int (-1)])), .inr (.inl [some 61, none, none, none, none, none, none, none, none, none])]))) ?_
    refine rr rfl (s_aload_n rfl) ?_
    refine rr rfl (s_getf rfl rfl) ?_
    refine rr rfl (s_iload_n rfl) ?_
    refine rr rfl (s_iload rfl) ?_
    refine rr rfl (s_iastore (j := 0) (f' := [x4, 0, 0, 0, 0, 0, 0, 0, 0, 0, 0, 0, 0]) rfl rfl (Nat.le_of_ble_eq_true rfl) rfl (Nat.le_of_ble_eq_true rfl) rfl (h' := (((((((hF.set 3 (.inr (.inr (0, [.int 1, .ref 62, .int 1])))).set 6 (.inr (.inr (6, [.ref 2, .ref 7, .ref 8, .ref 9, .int 1])))).set 42 (.inl [x1, 0, 0, 0, 0, 0, 0, 0, 0, 0, 0, 0, 0])).set 43 (.inl [x2, 0, 0, 0, 0, 0, 0, 0, 0, 0, 0, 0, 0])).set 44 (.inl [x3, 0, 0, 0, 0, 0, 0, 0, 0, 0, 0, 0, 0])).set 45 (.inl [x4, 0, 0, 0, 0, 0, 0, 0, 0, 0, 0, 0, 0])) ++ [.inr (.inr (2, [.int x1, .int x2, .int x3, .int x4, .int x5, .int x6, .int x7, .int ((1 <<< (x4 &&& 31) : Int32) ||| (1 <<< (x5 &&& 31) : Int32)), .int 0, .int (-1)])), .inr (.inl [some 61, none, none, none, none, none, none, none, none, none])]))) ?_
    refine rr rfl (s_aload_n rfl) ?_
    refine rr rfl (s_getf rfl rfl) ?_
    refine rr rfl (s_iload_n rfl) ?_
    refine rr rfl (s_iload rfl) ?_
    refine rr rfl (s_iastore (j := 0) (f' := [x5, 0, 0, 0, 0, 0, 0, 0, 0, 0, 0, 0, 0]) rfl rfl (Nat.le_of_ble_eq_true rfl) rfl (Nat.le_of_ble_eq_true rfl) rfl (h' := ((((((((hF.set 3 (.inr (.inr (0, [.int 1, .ref 62, .int 1])))).set 6 (.inr (.inr (6, [.ref 2, .ref 7, .ref 8, .ref 9, .int 1])))).set 42 (.inl [x1, 0, 0, 0, 0, 0, 0, 0, 0, 0, 0, 0, 0])).set 43 (.inl [x2, 0, 0, 0, 0, 0, 0, 0, 0, 0, 0, 0, 0])).set 44 (.inl [x3, 0, 0, 0, 0, 0, 0, 0, 0, 0, 0, 0, 0])).set 45 (.inl [x4, 0, 0, 0, 0, 0, 0, 0, 0, 0, 0, 0, 0])).set 46 (.inl [x5, 0, 0, 0, 0, 0, 0, 0, 0, 0, 0, 0, 0])) ++ [.inr (.inr (2, [.int x1, .int x2, .int x3, .int x4, .int x5, .int x6, .int x7, .int ((1 <<< (x4 &&& 31) : Int32) ||| (1 <<< (x5 &&& 31) : Int32)), .int 0, .int (-1)])), .inr (.inl [some 61, none, none, none, none, none, none, none, none, none])]))) ?_
    refine rr rfl (s_aload_n rfl) ?_
    refine rr rfl (s_getf rfl rfl) ?_
    refine rr rfl (s_iload_n rfl) ?_
    refine rr rfl (s_iload rfl) ?_
    refine rr rfl (s_iastore (j := 0) (f' := [x6, 0, 0, 0, 0, 0, 0, 0, 0, 0, 0, 0, 0]) rfl rfl (Nat.le_of_ble_eq_true rfl) rfl (Nat.le_of_ble_eq_true rfl) rfl (h' := (((((((((hF.set 3 (.inr (.inr (0, [.int 1, .ref 62, .int 1])))).set 6 (.inr (.inr (6, [.ref 2, .ref 7, .ref 8, .ref 9, .int 1])))).set 42 (.inl [x1, 0, 0, 0, 0, 0, 0, 0, 0, 0, 0, 0, 0])).set 43 (.inl [x2, 0, 0, 0, 0, 0, 0, 0, 0, 0, 0, 0, 0])).set 44 (.inl [x3, 0, 0, 0, 0, 0, 0, 0, 0, 0, 0, 0, 0])).set 45 (.inl [x4, 0, 0, 0, 0, 0, 0, 0, 0, 0, 0, 0, 0])).set 46 (.inl [x5, 0, 0, 0, 0, 0, 0, 0, 0, 0, 0, 0, 0])).set 47 (.inl [x6, 0, 0, 0, 0, 0, 0, 0, 0, 0, 0, 0, 0])) ++ [.inr (.inr (2, [.int x1, .int x2, .int x3, .int x4, .int x5, .int x6, .int x7, .int ((1 <<< (x4 &&& 31) : Int32) ||| (1 <<< (x5 &&& 31) : Int32)), .int 0, .int (-1)])), .inr (.inl [some 61, none, none, none, none, none, none, none, none, none])]))) ?_
    refine rr rfl (s_aload_n rfl) ?_
    refine rr rfl (s_getf rfl rfl) ?_
    refine rr rfl (s_iload_n rfl) ?_
    refine rr rfl (s_iload rfl) ?_
    refine rr rfl (s_iastore (j := 0) (f' := [x7, 0, 0, 0, 0, 0, 0, 0, 0, 0, 0, 0, 0]) rfl rfl (Nat.le_of_ble_eq_true rfl) rfl (Nat.le_of_ble_eq_true rfl) rfl (h' := ((((((((((hF.set 3 (.inr (.inr (0, [.int 1, .ref 62, .int 1])))).set 6 (.inr (.inr (6, [.ref 2, .ref 7, .ref 8, .ref 9, .int 1])))).set 42 (.inl [x1, 0, 0, 0, 0, 0, 0, 0, 0, 0, 0, 0, 0])).set 43 (.inl [x2, 0, 0, 0, 0, 0, 0, 0, 0, 0, 0, 0, 0])).set 44 (.inl [x3, 0, 0, 0, 0, 0, 0, 0, 0, 0, 0, 0, 0])).set 45 (.inl [x4, 0, 0, 0, 0, 0, 0, 0, 0, 0, 0, 0, 0])).set 46 (.inl [x5, 0, 0, 0, 0, 0, 0, 0, 0, 0, 0, 0, 0])).set 47 (.inl [x6, 0, 0, 0, 0, 0, 0, 0, 0, 0, 0, 0, 0])).set 48 (.inl [x7, 0, 0, 0, 0, 0, 0, 0, 0, 0, 0, 0, 0])) ++ [.inr (.inr (2, [.int x1, .int x2, .int x3, .int x4, .int x5, .int x6, .int x7, .int ((1 <<< (x4 &&& 31) : Int32) ||| (1 <<< (x5 &&& 31) : Int32)), .int 0, .int (-1)])), .inr (.inl [some 61, none, none, none, none, none, none, none, none, none])]))) ?_
    refine rr rfl (s_aload_n rfl) ?_
    refine rr rfl (s_getf rfl rfl) ?_
    refine rr rfl (s_iload_n rfl) ?_
    refine rr rfl (s_iconst (v := (-1)) (by decide)) ?_
    refine rr rfl (s_iastore (j := 0) (f' := [(-1), 0, 0, 0, 0, 0, 0, 0, 0, 0, 0, 0, 0]) rfl rfl (Nat.le_of_ble_eq_true rfl) rfl (Nat.le_of_ble_eq_true rfl) rfl (h' := (((((((((((hF.set 3 (.inr (.inr (0, [.int 1, .ref 62, .int 1])))).set 6 (.inr (.inr (6, [.ref 2, .ref 7, .ref 8, .ref 9, .int 1])))).set 42 (.inl [x1, 0, 0, 0, 0, 0, 0, 0, 0, 0, 0, 0, 0])).set 43 (.inl [x2, 0, 0, 0, 0, 0, 0, 0, 0, 0, 0, 0, 0])).set 44 (.inl [x3, 0, 0, 0, 0, 0, 0, 0, 0, 0, 0, 0, 0])).set 45 (.inl [x4, 0, 0, 0, 0, 0, 0, 0, 0, 0, 0, 0, 0])).set 46 (.inl [x5, 0, 0, 0, 0, 0, 0, 0, 0, 0, 0, 0, 0])).set 47 (.inl [x6, 0, 0, 0, 0, 0, 0, 0, 0, 0, 0, 0, 0])).set 48 (.inl [x7, 0, 0, 0, 0, 0, 0, 0, 0, 0, 0, 0, 0])).set 49 (.inl [(-1), 0, 0, 0, 0, 0, 0, 0, 0, 0, 0, 0, 0])) ++ [.inr (.inr (2, [.int x1, .int x2, .int x3, .int x4, .int x5, .int x6, .int x7, .int ((1 <<< (x4 &&& 31) : Int32) ||| (1 <<< (x5 &&& 31) : Int32)), .int 0, .int (-1)])), .inr (.inl [some 61, none, none, none, none, none, none, none, none, none])]))) ?_
    exact rrt rfl rfl rfl rfl
  refine rrc rfl rfl rfl (do_of g_X9_sets rfl rfl e1) ?_
  refine rr rfl (s_aload_n rfl) ?_
  refine rr rfl rfl ?_
  refine rr rfl (s_getf rfl rfl) ?_
  refine rr rfl (s_iconst (v := 1) (by decide)) ?_
  refine rr rfl (s_iadd (v := 1) (by decide)) ?_
  refine rr rfl (s_putf rfl rfl (Nat.le_of_ble_eq_true rfl) rfl (Nat.le_of_ble_eq_true rfl) rfl (h' := ((((((((((((hF.set 3 (.inr (.inr (0, [.int 1, .ref 62, .int 1])))).set 6 (.inr (.inr (6, [.ref 2, .ref 7, .ref 8, .ref 9, .int 1])))).set 41 (.inr (.inr (9, [.int 4, .int 1, .ref 42, .ref 43, .ref 44, .ref 45, .ref 46, .ref 47, .ref 48, .ref 49, .ref 50, .ref 51, .int 0, .int 0, .int 0, .int 0, .int 0, .int 0, .int 0, .int 0, .ref 52, .int 0, .ref 53, .int 0, .ref 54, .int 0, .ref 55, .ref 56, .ref 57, .ref 58, .int 0, .ref 59, .ref 60])))).set 42 (.inl [x1, 0, 0, 0, 0, 0, 0, 0, 0, 0, 0, 0, 0])).set 43 (.inl [x2, 0, 0, 0, 0, 0, 0, 0, 0, 0, 0, 0, 0])).set 44 (.inl [x3, 0, 0, 0, 0, 0, 0, 0, 0, 0, 0, 0, 0])).set 45 (.inl [x4, 0, 0, 0, 0, 0, 0, 0, 0, 0, 0, 0, 0])).set 46 (.inl [x5, 0, 0, 0, 0, 0, 0, 0, 0, 0, 0, 0, 0])).set 47 (.inl [x6, 0, 0, 0, 0, 0, 0, 0, 0, 0, 0, 0, 0])).set 48 (.inl [x7, 0, 0, 0, 0, 0, 0, 0, 0, 0, 0, 0, 0])).set 49 (.inl [(-1), 0, 0, 0, 0, 0, 0, 0, 0, 0, 0, 0, 0])) ++ [.inr (.inr (2, [.int x1, .int x2, .int x3, .int x4, .int x5, .int x6, .int x7, .int ((1 <<< (x4 &&& 31) : Int32) ||| (1 <<< (x5 &&& 31) : Int32)), .int 0, .int (-1)])), .inr (.inl [some 61, none, none, none, none, none, none, none, none, none])]))) ?_
  refine rr rfl (s_aload_n rfl) ?_
  have e2 : a_m MT [] 100000 10 miX9_lays [.ref 41] ((((((((((((hF.set 3 (.inr (.inr (0, [.int 1, .ref 62, .int 1])))).set 6 (.inr (.inr (6, [.ref 2, .ref 7, .ref 8, .ref 9, .int 1])))).set 41 (.inr (.inr (9, [.int 4, .int 1, .ref 42, .ref 43, .ref 44, .ref 45, .ref 46, .ref 47, .ref 48, .ref 49, .ref 50, .ref 51, .int 0, .int 0, .int 0, .int 0, .int 0, .int 0, .int 0, .int 0, .ref 52, .int 0, .ref 53, .int 0, .ref 54, .int 0, .ref 55, .ref 56, .ref 57, .ref 58, .int 0, .ref 59, .ref 60])))).set 42 (.inl [x1, 0, 0, 0, 0, 0, 0, 0, 0, 0, 0, 0, 0])).set 43 (.inl [x2, 0, 0, 0, 0, 0, 0, 0, 0, 0, 0, 0, 0])).set 44 (.inl [x3, 0, 0, 0, 0, 0, 0, 0, 0, 0, 0, 0, 0])).set 45 (.inl [x4, 0, 0, 0, 0, 0, 0, 0, 0, 0, 0, 0, 0])).set 46 (.inl [x5, 0, 0, 0, 0, 0, 0, 0, 0, 0, 0, 0, 0])).set 47 (.inl [x6, 0, 0, 0, 0, 0, 0, 0, 0, 0, 0, 0, 0])).set 48 (.inl [x7, 0, 0, 0, 0, 0, 0, 0, 0, 0, 0, 0, 0])).set 49 (.inl [(-1), 0, 0, 0, 0, 0, 0, 0, 0, 0, 0, 0, 0])) ++ [.inr (.inr (2, [.int x1, .int x2, .int x3, .int x4, .int x5, .int x6, .int x7, .int ((1 <<< (x4 &&& 31) : Int32) ||| (1 <<< (x5 &&& 31) : Int32)), .int 0, .int (-1)])), .inr (.inl [some 61, none, none, none, none, none, none, none, none, none])]) = some ((some (.int 1)), ((((((((((((hF.set 3 (.inr (.inr (0, [.int 1, .ref 62, .int 1])))).set 6 (.inr (.inr (6, [.ref 2, .ref 7, .ref 8, .ref 9, .int 1])))).set 41 (.inr (.inr (9, [.int 4, .int 1, .ref 42, .ref 43, .ref 44, .ref 45, .ref 46, .ref 47, .ref 48, .ref 49, .ref 50, .ref 51, .int 0, .int 0, .int 0, .int 0, .int 0, .int 0, .int 0, .int 0, .ref 52, .int 0, .ref 53, .int 0, .ref 54, .int 0, .ref 55, .ref 56, .ref 57, .ref 58, .int 0, .ref 59, .ref 60])))).set 42 (.inl [x1, 0, 0, 0, 0, 0, 0, 0, 0, 0, 0, 0, 0])).set 43 (.inl [x2, 0, 0, 0, 0, 0, 0, 0, 0, 0, 0, 0, 0])).set 44 (.inl [x3, 0, 0, 0, 0, 0, 0, 0, 0, 0, 0, 0, 0])).set 45 (.inl [x4, 0, 0, 0, 0, 0, 0, 0, 0, 0, 0, 0, 0])).set 46 (.inl [x5, 0, 0, 0, 0, 0, 0, 0, 0, 0, 0, 0, 0])).set 47 (.inl [x6, 0, 0, 0, 0, 0, 0, 0, 0, 0, 0, 0, 0])).set 48 (.inl [x7, 0, 0, 0, 0, 0, 0, 0, 0, 0, 0, 0, 0])).set 49 (.inl [(-1), 0, 0, 0, 0, 0, 0, 0, 0, 0, 0, 0, 0])) ++ [.inr (.inr (2, [.int x1, .int x2, .int x3, .int x4, .int x5, .int x6, .int x7, .int ((1 <<< (x4 &&& 31) : Int32) ||| (1 <<< (x5 &&& 31) : Int32)), .int 0, .int (-1)])), .inr (.inl [some 61, none, none, none, none, none, none, none, none, none])]), 0, 0) := by
    refine me (d := 9) g_X9_lays (Nat.le_of_ble_eq_true rfl) ?_
    refine rr rfl (s_iconst (v := 0) (by decide)) ?_
    refine rr rfl (s_istore_n rfl) ?_
    refine rr rfl (s_iload_n rfl) ?_
    refine rr rfl (s_bipush (v := 8) (by decide)) ?_
    refine rr rfl (s_icF (by decide)) ?_
    refine rr rfl (s_aload_n rfl) ?_
    refine rr rfl (s_getf rfl rfl) ?_
    refine rr rfl (s_iload_n rfl) ?_
    refine rr rfl (s_iconst (v := 0) (by decide)) ?_
    refine rr rfl (s_iastore (j := 0) (f' := (List.replicate 8 0)) rfl rfl (Nat.le_of_ble_eq_true rfl) rfl (Nat.le_of_ble_eq_true rfl) rfl (h' := ((((((((((((hF.set 3 (.inr (.inr (0, [.int 1, .ref 62, .int 1])))).set 6 (.inr (.inr (6, [.ref 2, .ref 7, .ref 8, .ref 9, .int 1])))).set 41 (.inr (.inr (9, [.int 4, .int 1, .ref 42, .ref 43, .ref 44, .ref 45, .ref 46, .ref 47, .ref 48, .ref 49, .ref 50, .ref 51, .int 0, .int 0, .int 0, .int 0, .int 0, .int 0, .int 0, .int 0, .ref 52, .int 0, .ref 53, .int 0, .ref 54, .int 0, .ref 55, .ref 56, .ref 57, .ref 58, .int 0, .ref 59, .ref 60])))).set 42 (.inl [x1, 0, 0, 0, 0, 0, 0, 0, 0, 0, 0, 0, 0])).set 43 (.inl [x2, 0, 0, 0, 0, 0, 0, 0, 0, 0, 0, 0, 0])).set 44 (.inl [x3, 0, 0, 0, 0, 0, 0, 0, 0, 0, 0, 0, 0])).set 45 (.inl [x4, 0, 0, 0, 0, 0, 0, 0, 0, 0, 0, 0, 0])).set 46 (.inl [x5, 0, 0, 0, 0, 0, 0, 0, 0, 0, 0, 0, 0])).set 47 (.inl [x6, 0, 0, 0, 0, 0, 0, 0, 0, 0, 0, 0, 0])).set 48 (.inl [x7, 0, 0, 0, 0, 0, 0, 0, 0, 0, 0, 0, 0])).set 49 (.inl [(-1), 0, 0, 0, 0, 0, 0, 0, 0, 0, 0, 0, 0])) ++ [.inr (.inr (2, [.int x1, .int x2, .int x3, .int x4, .int x5, .int x6, .int x7, .int ((1 <<< (x4 &&& 31) : Int32) ||| (1 <<< (x5 &&& 31) : Int32)), .int 0, .int (-1)])), .inr (.inl [some 61, none, none, none, none, none, none, none, none, none])]))) ?_
    refine rr rfl (s_iinc (v := 1) rfl (by decide) rfl) ?_
    refine rr rfl s_goto ?_
    refine rr rfl (s_iload_n rfl) ?_
    refine rr rfl (s_bipush (v := 8) (by decide)) ?_
    refine rr rfl (s_icF (by decide)) ?_
    refine rr rfl (s_aload_n rfl) ?_
    refine rr rfl (s_getf rfl rfl) ?_
    refine rr rfl (s_iload_n rfl) ?_
    refine rr rfl (s_iconst (v := 0) (by decide)) ?_
    refine rr rfl (s_iastore (j := 1) (f' := (List.replicate 8 0)) rfl rfl (Nat.le_of_ble_eq_true rfl) rfl (Nat.le_of_ble_eq_true rfl) rfl (h' := ((((((((((((hF.set 3 (.inr (.inr (0, [.int 1, .ref 62, .int 1])))).set 6 (.inr (.inr (6, [.ref 2, .ref 7, .ref 8, .ref 9, .int 1])))).set 41 (.inr (.inr (9, [.int 4, .int 1, .ref 42, .ref 43, .ref 44, .ref 45, .ref 46, .ref 47, .ref 48, .ref 49, .ref 50, .ref 51, .int 0, .int 0, .int 0, .int 0, .int 0, .int 0, .int 0, .int 0, .ref 52, .int 0, .ref 53, .int 0, .ref 54, .int 0, .ref 55, .ref 56, .ref 57, .ref 58, .int 0, .ref 59, .ref 60])))).set 42 (.inl [x1, 0, 0, 0, 0, 0, 0, 0, 0, 0, 0, 0, 0])).set 43 (.inl [x2, 0, 0, 0, 0, 0, 0, 0, 0, 0, 0, 0, 0])).set 44 (.inl [x3, 0, 0, 0, 0, 0, 0, 0, 0, 0, 0, 0, 0])).set 45 (.inl [x4, 0, 0, 0, 0, 0, 0, 0, 0, 0, 0, 0, 0])).set 46 (.inl [x5, 0, 0, 0, 0, 0, 0, 0, 0, 0, 0, 0, 0])).set 47 (.inl [x6, 0, 0, 0, 0, 0, 0, 0, 0, 0, 0, 0, 0])).set 48 (.inl [x7, 0, 0, 0, 0, 0, 0, 0, 0, 0, 0, 0, 0])).set 49 (.inl [(-1), 0, 0, 0, 0, 0, 0, 0, 0, 0, 0, 0, 0])) ++ [.inr (.inr (2, [.int x1, .int x2, .int x3, .int x4, .int x5, .int x6, .int x7, .int ((1 <<< (x4 &&& 31) : Int32) ||| (1 <<< (x5 &&& 31) : Int32)), .int 0, .int (-1)])), .inr (.inl [some 61, none, none, none, none, none, none, none, none, none])]))) ?_
    refine rr rfl (s_iinc (v := 2) rfl (by decide) rfl) ?_
    refine rr rfl s_goto ?_
    refine rr rfl (s_iload_n rfl) ?_
    refine rr rfl (s_bipush (v := 8) (by decide)) ?_
    refine rr rfl (s_icF (by decide)) ?_
    refine rr rfl (s_aload_n rfl) ?_
    refine rr rfl (s_getf rfl rfl) ?_
    refine rr rfl (s_iload_n rfl) ?_
    refine rr rfl (s_iconst (v := 0) (by decide)) ?_
    refine rr rfl (s_iastore (j := 2) (f' := (List.replicate 8 0)) rfl rfl (Nat.le_of_ble_eq_true rfl) rfl (Nat.le_of_ble_eq_true rfl) rfl (h' := ((((((((((((hF.set 3 (.inr (.inr (0, [.int 1, .ref 62, .int 1])))).set 6 (.inr (.inr (6, [.ref 2, .ref 7, .ref 8, .ref 9, .int 1])))).set 41 (.inr (.inr (9, [.int 4, .int 1, .ref 42, .ref 43, .ref 44, .ref 45, .ref 46, .ref 47, .ref 48, .ref 49, .ref 50, .ref 51, .int 0, .int 0, .int 0, .int 0, .int 0, .int 0, .int 0, .int 0, .ref 52, .int 0, .ref 53, .int 0, .ref 54, .int 0, .ref 55, .ref 56, .ref 57, .ref 58, .int 0, .ref 59, .ref 60])))).set 42 (.inl [x1, 0, 0, 0, 0, 0, 0, 0, 0, 0, 0, 0, 0])).set 43 (.inl [x2, 0, 0, 0, 0, 0, 0, 0, 0, 0, 0, 0, 0])).set 44 (.inl [x3, 0, 0, 0, 0, 0, 0, 0, 0, 0, 0, 0, 0])).set 45 (.inl [x4, 0, 0, 0, 0, 0, 0, 0, 0, 0, 0, 0, 0])).set 46 (.inl [x5, 0, 0, 0, 0, 0, 0, 0, 0, 0, 0, 0, 0])).set 47 (.inl [x6, 0, 0, 0, 0, 0, 0, 0, 0, 0, 0, 0, 0])).set 48 (.inl [x7, 0, 0, 0, 0, 0, 0, 0, 0, 0, 0, 0, 0])).set 49 (.inl [(-1), 0, 0, 0, 0, 0, 0, 0, 0, 0, 0, 0, 0])) ++ [.inr (.inr (2, [.int x1, .int x2, .int x3, .int x4, .int x5, .int x6, .int x7, .int ((1 <<< (x4 &&& 31) : Int32) ||| (1 <<< (x5 &&& 31) : Int32)), .int 0, .int (-1)])), .inr (.inl [some 61, none, none, none, none, none, none, none, none, none])]))) ?_
    refine rr rfl (s_iinc (v := 3) rfl (by decide) rfl) ?_
    refine rr rfl s_goto ?_
    refine rr rfl (s_iload_n rfl) ?_
    refine rr rfl (s_bipush (v := 8) (by decide)) ?_
    refine rr rfl (s_icF (by decide)) ?_
    refine rr rfl (s_aload_n rfl) ?_
    refine rr rfl (s_getf rfl rfl) ?_
    refine rr rfl (s_iload_n rfl) ?_
    refine rr rfl (s_iconst (v := 0) (by decide)) ?_
    refine rr rfl (s_iastore (j := 3) (f' := (List.replicate 8 0)) rfl rfl (Nat.le_of_ble_eq_true rfl) rfl (Nat.le_of_ble_eq_true rfl) rfl (h' := ((((((((((((hF.set 3 (.inr (.inr (0, [.int 1, .ref 62, .int 1])))).set 6 (.inr (.inr (6, [.ref 2, .ref 7, .ref 8, .ref 9, .int 1])))).set 41 (.inr (.inr (9, [.int 4, .int 1, .ref 42, .ref 43, .ref 44, .ref 45, .ref 46, .ref 47, .ref 48, .ref 49, .ref 50, .ref 51, .int 0, .int 0, .int 0, .int 0, .int 0, .int 0, .int 0, .int 0, .ref 52, .int 0, .ref 53, .int 0, .ref 54, .int 0, .ref 55, .ref 56, .ref 57, .ref 58, .int 0, .ref 59, .ref 60])))).set 42 (.inl [x1, 0, 0, 0, 0, 0, 0, 0, 0, 0, 0, 0, 0])).set 43 (.inl [x2, 0, 0, 0, 0, 0, 0, 0, 0, 0, 0, 0, 0])).set 44 (.inl [x3, 0, 0, 0, 0, 0, 0, 0, 0, 0, 0, 0, 0])).set 45 (.inl [x4, 0, 0, 0, 0, 0, 0, 0, 0, 0, 0, 0, 0])).set 46 (.inl [x5, 0, 0, 0, 0, 0, 0, 0, 0, 0, 0, 0, 0])).set 47 (.inl [x6, 0, 0, 0, 0, 0, 0, 0, 0, 0, 0, 0, 0])).set 48 (.inl [x7, 0, 0, 0, 0, 0, 0, 0, 0, 0, 0, 0, 0])).set 49 (.inl [(-1), 0, 0, 0, 0, 0, 0, 0, 0, 0, 0, 0, 0])) ++ [.inr (.inr (2, [.int x1, .int x2, .int x3, .int x4, .int x5, .int x6, .int x7, .int ((1 <<< (x4 &&& 31) : Int32) ||| (1 <<< (x5 &&& 31) : Int32)), .int 0, .int (-1)])), .inr (.inl [some 61, none, none, none, none, none, none, none, none, none])]))) ?_
    refine rr rfl (s_iinc (v := 4) rfl (by decide) rfl) ?_
    refine rr rfl s_goto ?_
    refine rr rfl (s_iload_n rfl) ?_
    refine rr rfl (s_bipush (v := 8) (by decide)) ?_
    refine rr rfl (s_icF (by decide)) ?_
    refine rr rfl (s_aload_n rfl) ?_
    refine rr rfl (s_getf rfl rfl) ?_
    refine rr rfl (s_iload_n rfl) ?_
    refine rr rfl (s_iconst (v := 0) (by decide)) ?_
    refine rr rfl (s_iastore (j := 4) (f' := (List.replicate 8 0)) rfl rfl (Nat.le_of_ble_eq_true rfl) rfl (Nat.le_of_ble_eq_true rfl) rfl (h' := ((((((((((((hF.set 3 (.inr (.inr (0, [.int 1, .ref 62, .int 1])))).set 6 (.inr (.inr (6, [.ref 2, .ref 7, .ref 8, .ref 9, .int 1])))).set 41 (.inr (.inr (9, [.int 4, .int 1, .ref 42, .ref 43, .ref 44, .ref 45, .ref 46, .ref 47, .ref 48, .ref 49, .ref 50, .ref 51, .int 0, .int 0, .int 0, .int 0, .int 0, .int 0, .int 0, .int 0, .ref 52, .int 0, .ref 53, .int 0, .ref 54, .int 0, .ref 55, .ref 56, .ref 57, .ref 58, .int 0, .ref 59, .ref 60])))).set 42 (.inl [x1, 0, 0, 0, 0, 0, 0, 0, 0, 0, 0, 0, 0])).set 43 (.inl [x2, 0, 0, 0, 0, 0, 0, 0, 0, 0, 0, 0, 0])).set 44 (.inl [x3, 0, 0, 0, 0, 0, 0, 0, 0, 0, 0, 0, 0])).set 45 (.inl [x4, 0, 0, 0, 0, 0, 0, 0, 0, 0, 0, 0, 0])).set 46 (.inl [x5, 0, 0, 0, 0, 0, 0, 0, 0, 0, 0, 0, 0])).set 47 (.inl [x6, 0, 0, 0, 0, 0, 0, 0, 0, 0, 0, 0, 0])).set 48 (.inl [x7, 0, 0, 0, 0, 0, 0, 0, 0, 0, 0, 0, 0])).set 49 (.inl [(-1), 0, 0, 0, 0, 0, 0, 0, 0, 0, 0, 0, 0])) ++ [.inr (.inr (2, [.int x1, .int x2, .int x3, .int x4, .int x5, .int x6, .int x7, .int ((1 <<< (x4 &&& 31) : Int32) ||| (1 <<< (x5 &&& 31) : Int32)), .int 0, .int (-1)])), .inr (.inl [some 61, none, none, none, none, none, none, none, none, none])]))) ?_
    refine rr rfl (s_iinc (v := 5) rfl (by decide) rfl) ?_
    refine rr rfl s_goto ?_
    refine rr rfl (s_iload_n rfl) ?_
    refine rr rfl (s_bipush (v := 8) (by decide)) ?_
    refine rr rfl (s_icF (by decide)) ?_
    refine rr rfl (s_aload_n rfl) ?_
    refine rr rfl (s_getf rfl rfl) ?_
    refine rr rfl (s_iload_n rfl) ?_
    refine rr rfl (s_iconst (v := 0) (by decide)) ?_
    refine rr rfl (s_iastore (j := 5) (f' := (List.replicate 8 0)) rfl rfl (Nat.le_of_ble_eq_true rfl) rfl (Nat.le_of_ble_eq_true rfl) rfl (h' := ((((((((((((hF.set 3 (.inr (.inr (0, [.int 1, .ref 62, .int 1])))).set 6 (.inr (.inr (6, [.ref 2, .ref 7, .ref 8, .ref 9, .int 1])))).set 41 (.inr (.inr (9, [.int 4, .int 1, .ref 42, .ref 43, .ref 44, .ref 45, .ref 46, .ref 47, .ref 48, .ref 49, .ref 50, .ref 51, .int 0, .int 0, .int 0, .int 0, .int 0, .int 0, .int 0, .int 0, .ref 52, .int 0, .ref 53, .int 0, .ref 54, .int 0, .ref 55, .ref 56, .ref 57, .ref 58, .int 0, .ref 59, .ref 60])))).set 42 (.inl [x1, 0, 0, 0, 0, 0, 0, 0, 0, 0, 0, 0, 0])).set 43 (.inl [x2, 0, 0, 0, 0, 0, 0, 0, 0, 0, 0, 0, 0])).set 44 (.inl [x3, 0, 0, 0, 0, 0, 0, 0, 0, 0, 0, 0, 0])).set 45 (.inl [x4, 0, 0, 0, 0, 0, 0, 0, 0, 0, 0, 0, 0])).set 46 (.inl [x5, 0, 0, 0, 0, 0, 0, 0, 0, 0, 0, 0, 0])).set 47 (.inl [x6, 0, 0, 0, 0, 0, 0, 0, 0, 0, 0, 0, 0])).set 48 (.inl [x7, 0, 0, 0, 0, 0, 0, 0, 0, 0, 0, 0, 0])).set 49 (.inl [(-1), 0, 0, 0, 0, 0, 0, 0, 0, 0, 0, 0, 0])) ++ [.inr (.inr (2, [.int x1, .int x2, .int x3, .int x4, .int x5, .int x6, .int x7, .int ((1 <<< (x4 &&& 31) : Int32) ||| (1 <<< (x5 &&& 31) : Int32)), .int 0, .int (-1)])), .inr (.inl [some 61, none, none, none, none, none, none, none, none, none])]))) ?_
    refine rr rfl (s_iinc (v := 6) rfl (by decide) rfl) ?_
    refine rr rfl s_goto ?_
    refine rr rfl (s_iload_n rfl) ?_
    refine rr rfl (s_bipush (v := 8) (by decide)) ?_
    refine rr rfl (s_icF (by decide)) ?_
    refine rr rfl (s_aload_n rfl) ?_
    refine rr rfl (s_getf rfl rfl) ?_
    refine rr rfl (s_iload_n rfl) ?_
    refine rr rfl (s_iconst (v := 0) (by decide)) ?_
    refine rr rfl (s_iastore (j := 6) (f' := (List.replicate 8 0)) rfl rfl (Nat.le_of_ble_eq_true rfl) rfl (Nat.le_of_ble_eq_true rfl) rfl (h' := ((((((((((((hF.set 3 (.inr (.inr (0, [.int 1, .ref 62, .int 1])))).set 6 (.inr (.inr (6, [.ref 2, .ref 7, .ref 8, .ref 9, .int 1])))).set 41 (.inr (.inr (9, [.int 4, .int 1, .ref 42, .ref 43, .ref 44, .ref 45, .ref 46, .ref 47, .ref 48, .ref 49, .ref 50, .ref 51, .int 0, .int 0, .int 0, .int 0, .int 0, .int 0, .int 0, .int 0, .ref 52, .int 0, .ref 53, .int 0, .ref 54, .int 0, .ref 55, .ref 56, .ref 57, .ref 58, .int 0, .ref 59, .ref 60])))).set 42 (.inl [x1, 0, 0, 0, 0, 0, 0, 0, 0, 0, 0, 0, 0])).set 43 (.inl [x2, 0, 0, 0, 0, 0, 0, 0, 0, 0, 0, 0, 0])).set 44 (.inl [x3, 0, 0, 0, 0, 0, 0, 0, 0, 0, 0, 0, 0])).set 45 (.inl [x4, 0, 0, 0, 0, 0, 0, 0, 0, 0, 0, 0, 0])).set 46 (.inl [x5, 0, 0, 0, 0, 0, 0, 0, 0, 0, 0, 0, 0])).set 47 (.inl [x6, 0, 0, 0, 0, 0, 0, 0, 0, 0, 0, 0, 0])).set 48 (.inl [x7, 0, 0, 0, 0, 0, 0, 0, 0, 0, 0, 0, 0])).set 49 (.inl [(-1), 0, 0, 0, 0, 0, 0, 0, 0, 0, 0, 0, 0])) ++ [.inr (.inr (2, [.int x1, .int x2, .int x3, .int x4, .int x5, .int x6, .int x7, .int ((1 <<< (x4 &&& 31) : Int32) ||| (1 <<< (x5 &&& 31) : Int32)), .int 0, .int (-1)])), .inr (.inl [some 61, none, none, none, none, none, none, none, none, none])]))) ?_
    refine rr rfl (s_iinc (v := 7) rfl (by decide) rfl) ?_
    refine rr rfl s_goto ?_
    refine rr rfl (s_iload_n rfl) ?_
    refine rr rfl (s_bipush (v := 8) (by decide)) ?_
    refine rr rfl (s_icF (by decide)) ?_
    refine rr rfl (s_aload_n rfl) ?_
    refine rr rfl (s_getf rfl rfl) ?_
    refine rr rfl (s_iload_n rfl) ?_
    refine rr rfl (s_iconst (v := 0) (by decide)) ?_
    refine rr rfl (s_iastore (j := 7) (f' := (List.replicate 8 0)) rfl rfl (Nat.le_of_ble_eq_true rfl) rfl (Nat.le_of_ble_eq_true rfl) rfl (h' := ((((((((((((hF.set 3 (.inr (.inr (0, [.int 1, .ref 62, .int 1])))).set 6 (.inr (.inr (6, [.ref 2, .ref 7, .ref 8, .ref 9, .int 1])))).set 41 (.inr (.inr (9, [.int 4, .int 1, .ref 42, .ref 43, .ref 44, .ref 45, .ref 46, .ref 47, .ref 48, .ref 49, .ref 50, .ref 51, .int 0, .int 0, .int 0, .int 0, .int 0, .int 0, .int 0, .int 0, .ref 52, .int 0, .ref 53, .int 0, .ref 54, .int 0, .ref 55, .ref 56, .ref 57, .ref 58, .int 0, .ref 59, .ref 60])))).set 42 (.inl [x1, 0, 0, 0, 0, 0, 0, 0, 0, 0, 0, 0, 0])).set 43 (.inl [x2, 0, 0, 0, 0, 0, 0, 0, 0, 0, 0, 0, 0])).set 44 (.inl [x3, 0, 0, 0, 0, 0, 0, 0, 0, 0, 0, 0, 0])).set 45 (.inl [x4, 0, 0, 0, 0, 0, 0, 0, 0, 0, 0, 0, 0])).set 46 (.inl [x5, 0, 0, 0, 0, 0, 0, 0, 0, 0, 0, 0, 0])).set 47 (.inl [x6, 0, 0, 0, 0, 0, 0, 0, 0, 0, 0, 0, 0])).set 48 (.inl [x7, 0, 0, 0, 0, 0, 0, 0, 0, 0, 0, 0, 0])).set 49 (.inl [(-1), 0, 0, 0, 0, 0, 0, 0, 0, 0, 0, 0, 0])) ++ [.inr (.inr (2, [.int x1, .int x2, .int x3, .int x4, .int x5, .int x6, .int x7, .int ((1 <<< (x4 &&& 31) : Int32) ||| (1 <<< (x5 &&& 31) : Int32)), .int 0, .int (-1)])), .inr (.inl [some 61, none, none, none, none, none, none, none, none, none])]))) ?_
    refine rr rfl (s_iinc (v := 8) rfl (by decide) rfl) ?_
    refine rr rfl s_goto ?_
    refine rr rfl (s_iload_n rfl) ?_
    refine rr rfl (s_bipush (v := 8) (by decide)) ?_
    refine rr rfl (s_icT (by decide)) ?_
    refine rr rfl (s_iconst (v := 1) (by decide)) ?_
    refine rr rfl (s_istore_n rfl) ?_
    refine rr rfl (s_iconst (v := 1) (by decide)) ?_
    refine rr rfl (s_istore_n rfl) ?_
    refine rr rfl (s_iload_n rfl) ?_
    refine rr rfl (s_ifF (by decide)) ?_
    refine rr rfl (s_iload_n rfl) ?_
    refine rr rfl (s_ifF (by decide)) ?_
    refine rr rfl (s_iconst (v := 0) (by decide)) ?_
    refine rr rfl (s_istore_n rfl) ?_
    refine rr rfl (s_iconst (v := 0) (by decide)) ?_
    refine rr rfl (s_istore_n rfl) ?_
    refine rr rfl (s_iload_n rfl) ?_
    refine rr rfl (s_aload_n rfl) ?_
    refine rr rfl (s_getf rfl rfl) ?_
    refine rr rfl (s_icF (by decide)) ?_
    refine rr rfl (s_iconst (v := 0) (by decide)) ?_
    refine rr rfl (s_istore rfl) ?_
    refine rr rfl (s_aload_n rfl) ?_
    refine rr rfl (s_getf rfl rfl) ?_
    refine rr rfl (s_iload_n rfl) ?_
    refine rr rfl (s_iaload (j := 0) rfl rfl rfl) ?_
    refine rr rfl (s_ifF (ic_nne g1)) ?_
    refine rr rfl (s_aload_n rfl) ?_
    refine rr rfl (s_getf rfl rfl) ?_
    refine rr rfl (s_aload_n rfl) ?_
    refine rr rfl (s_getf rfl rfl) ?_
    refine rr rfl (s_iload_n rfl) ?_
    refine rr rfl (s_iaload (j := 0) rfl rfl rfl) ?_
    refine rr rfl (s_ialdR (n := 8) (x := 0) rfl g2 g3) ?_
    refine rr rfl (s_istore rfl) ?_
    refine rr rfl (s_aload_n rfl) ?_
    refine rr rfl (s_getf rfl rfl) ?_
    refine rr rfl (s_iload_n rfl) ?_
    refine rr rfl (s_iaload (j := 0) rfl rfl rfl) ?_
    refine rr rfl (s_iconst (v := (-1)) (by decide)) ?_
    refine rr rfl (s_icF (ic_neq g4)) ?_
    refine rr rfl (s_aload_n rfl) ?_
    refine rr rfl (s_getf rfl rfl) ?_
    refine rr rfl (s_aload_n rfl) ?_
    refine rr rfl (s_getf rfl rfl) ?_
    refine rr rfl (s_iload_n rfl) ?_
    refine rr rfl (s_iaload (j := 0) rfl rfl rfl) ?_
    refine rr rfl (s_ialdR (n := 8) (x := 0) rfl g5 g6) ?_
    refine rr rfl (s_iload rfl) ?_
    refine rr rfl (s_icT (by decide)) ?_
    refine rr rfl (s_iload rfl) ?_
    refine rr rfl (s_istore rfl) ?_
    refine rr rfl (s_aload_n rfl) ?_
    refine rr rfl (s_getf rfl rfl) ?_
    refine rr rfl (s_iload_n rfl) ?_
    refine rr rfl (s_iaload (j := 0) rfl rfl rfl) ?_
    refine rr rfl (s_iconst (v := (-1)) (by decide)) ?_
    refine rr rfl (s_icT (ic_eq g7)) ?_
    refine rr rfl (s_iload rfl) ?_
    refine rr rfl (s_istore rfl) ?_
    refine rr rfl (s_iload rfl) ?_
    refine rr rfl (s_aload_n rfl) ?_
    refine rr rfl (s_getf rfl rfl) ?_
    refine rr rfl (s_aload_n rfl) ?_
    refine rr rfl (s_getf rfl rfl) ?_
    refine rr rfl (s_iload_n rfl) ?_
    refine rr rfl (s_iaload (j := 0) rfl rfl rfl) ?_
    refine rr rfl (s_ialdR (n := 8) (x := 0) rfl g8 g9) ?_
    refine rr rfl (s_icT (by decide)) ?_
    refine rr rfl (s_iinc (v := 1) rfl (by decide) rfl) ?_
    refine rr rfl s_goto ?_
    refine rr rfl (s_iload_n rfl) ?_
    refine rr rfl (s_aload_n rfl) ?_
    refine rr rfl (s_getf rfl rfl) ?_
    refine rr rfl (s_icT (by decide)) ?_
    refine rr rfl s_goto ?_
    refine rr rfl (s_iload_n rfl) ?_
    refine rr rfl (s_ifT (by decide)) ?_
    refine rr rfl (s_iload_n rfl) ?_
    exact rrt rfl rfl rfl rfl
  refine rrc rfl rfl rfl (do_of g_X9_lays rfl rfl e2) ?_
  refine rr rfl (s_istore rfl) ?_
  refine rr rfl (s_iload rfl) ?_
  refine rr rfl (s_ifF (by decide)) ?_
  refine rr rfl (s_aload_n rfl) ?_
  refine rr rfl (s_getf rfl rfl) ?_
  refine rr rfl (s_bipush (v := 12) (by decide)) ?_
  refine rr rfl (s_icT (by decide)) ?_
  refine rr rfl (s_aload_n rfl) ?_
  refine rr rfl (s_getf rfl rfl) ?_
  refine rr rfl (s_iconst (v := 1) (by decide)) ?_
  refine rr rfl (s_isub (v := 0) (by decide)) ?_
  exact rrt rfl rfl rfl rfl
set_option maxHeartbeats 4000000 in
set_option maxRecDepth 10000 in
theorem rm_Nmoo {x1 x2 x3 x4 x5 x6 x7 : Int32} (g1 : x2 = 0) (g2 : ¬ x4 < 0) (g3 : x4 < nI 8) (g4 : x5 = (-1)) (g5 : ¬ x6 = (-1)) (g6 : ¬ x6 < 0) (g7 : x6 < nI 8) (g8 : ¬ x3 < 0) (g9 : x3 < nI 8) (g10 : ¬ x4 = x3) (g11 : ¬ x6 = x3) : a_run MT [] (a_m MT [] 100000 10) 11 (some .int) tabX9_rule 90000 95 (alQ x1 x2 x3 x4 x5 x6 x7) [] (((((hF.set 3 (.inr (.inr (0, [.int 1, .ref 62, .int 1])))).set 4 (.inl ((List.replicate 8 (0 : Int32)).set (Int32.toNatClampNeg x3) 1))).set 5 (.inl ((List.replicate 8 (0 : Int32)).set (Int32.toNatClampNeg x3) 1))).set 6 (.inr (.inr (6, [.ref 2, .ref 7, .ref 8, .ref 9, .int 1])))) ++ [.inr (.inr (2, [.int x1, .int x2, .int x3, .int x4, .int x4, .int x6, .int x7, .int ((1 <<< (x4 &&& 31) : Int32) ||| (1 <<< (x4 &&& 31) : Int32)), .int (1 <<< (x6 &&& 31) : Int32), .int (-1)])), .inr (.inl [some 61, none, none, none, none, none, none, none, none, none])]) 0 0 = some (some (.int 0), (((((((((((((((hF.set 3 (.inr (.inr (0, [.int 1, .ref 62, .int 1])))).set 4 (.inl ((List.replicate 8 (0 : Int32)).set (Int32.toNatClampNeg x3) 1))).set 5 (.inl ((List.replicate 8 (0 : Int32)).set (Int32.toNatClampNeg x3) 1))).set 6 (.inr (.inr (6, [.ref 2, .ref 7, .ref 8, .ref 9, .int 1])))).set 41 (.inr (.inr (9, [.int 4, .int 1, .ref 42, .ref 43, .ref 44, .ref 45, .ref 46, .ref 47, .ref 48, .ref 49, .ref 50, .ref 51, .int 0, .int 0, .int 0, .int 0, .int 0, .int 0, .int 0, .int 0, .ref 52, .int 0, .ref 53, .int 0, .ref 54, .int 0, .ref 55, .ref 56, .ref 57, .ref 58, .int 0, .ref 59, .ref 60])))).set 42 (.inl [x1, 0, 0, 0, 0, 0, 0, 0, 0, 0, 0, 0, 0])).set 43 (.inl [x2, 0, 0, 0, 0, 0, 0, 0, 0, 0, 0, 0, 0])).set 44 (.inl [x3, 0, 0, 0, 0, 0, 0, 0, 0, 0, 0, 0, 0])).set 45 (.inl [x4, 0, 0, 0, 0, 0, 0, 0, 0, 0, 0, 0, 0])).set 46 (.inl [x5, 0, 0, 0, 0, 0, 0, 0, 0, 0, 0, 0, 0])).set 47 (.inl [x6, 0, 0, 0, 0, 0, 0, 0, 0, 0, 0, 0, 0])).set 48 (.inl [x7, 0, 0, 0, 0, 0, 0, 0, 0, 0, 0, 0, 0])).set 49 (.inl [(-1), 0, 0, 0, 0, 0, 0, 0, 0, 0, 0, 0, 0])).set 51 (.inl ((List.replicate 8 (0 : Int32)).set (Int32.toNatClampNeg x3) 1))) ++ [.inr (.inr (2, [.int x1, .int x2, .int x3, .int x4, .int x4, .int x6, .int x7, .int ((1 <<< (x4 &&& 31) : Int32) ||| (1 <<< (x4 &&& 31) : Int32)), .int (1 <<< (x6 &&& 31) : Int32), .int (-1)])), .inr (.inl [some 61, none, none, none, none, none, none, none, none, none])]), 0, 0) := by
  refine rr rfl (s_aload_n rfl) ?_
  refine rr rfl (s_aload_n rfl) ?_
  refine rr rfl (s_getf rfl rfl) ?_
  refine rr rfl (s_iload_n rfl) ?_
  refine rr rfl (s_iload_n rfl) ?_
  refine rr rfl (s_iload_n rfl) ?_
  refine rr rfl (s_iload rfl) ?_
  refine rr rfl (s_iload rfl) ?_
  refine rr rfl (s_iload rfl) ?_
  refine rr rfl (s_iload rfl) ?_
  have e1 : a_m MT [] 100000 10 miX9_sets [.ref 41, .int 0, .int x1, .int x2, .int x3, .int x4, .int x5, .int x6, .int x7] (((((hF.set 3 (.inr (.inr (0, [.int 1, .ref 62, .int 1])))).set 4 (.inl ((List.replicate 8 (0 : Int32)).set (Int32.toNatClampNeg x3) 1))).set 5 (.inl ((List.replicate 8 (0 : Int32)).set (Int32.toNatClampNeg x3) 1))).set 6 (.inr (.inr (6, [.ref 2, .ref 7, .ref 8, .ref 9, .int 1])))) ++ [.inr (.inr (2, [.int x1, .int x2, .int x3, .int x4, .int x4, .int x6, .int x7, .int ((1 <<< (x4 &&& 31) : Int32) ||| (1 <<< (x4 &&& 31) : Int32)), .int (1 <<< (x6 &&& 31) : Int32), .int (-1)])), .inr (.inl [some 61, none, none, none, none, none, none, none, none, none])]) = some (none, (((((((((((((hF.set 3 (.inr (.inr (0, [.int 1, .ref 62, .int 1])))).set 4 (.inl ((List.replicate 8 (0 : Int32)).set (Int32.toNatClampNeg x3) 1))).set 5 (.inl ((List.replicate 8 (0 : Int32)).set (Int32.toNatClampNeg x3) 1))).set 6 (.inr (.inr (6, [.ref 2, .ref 7, .ref 8, .ref 9, .int 1])))).set 42 (.inl [x1, 0, 0, 0, 0, 0, 0, 0, 0, 0, 0, 0, 0])).set 43 (.inl [x2, 0, 0, 0, 0, 0, 0, 0, 0, 0, 0, 0, 0])).set 44 (.inl [x3, 0, 0, 0, 0, 0, 0, 0, 0, 0, 0, 0, 0])).set 45 (.inl [x4, 0, 0, 0, 0, 0, 0, 0, 0, 0, 0, 0, 0])).set 46 (.inl [x5, 0, 0, 0, 0, 0, 0, 0, 0, 0, 0, 0, 0])).set 47 (.inl [x6, 0, 0, 0, 0, 0, 0, 0, 0, 0, 0, 0, 0])).set 48 (.inl [x7, 0, 0, 0, 0, 0, 0, 0, 0, 0, 0, 0, 0])).set 49 (.inl [(-1), 0, 0, 0, 0, 0, 0, 0, 0, 0, 0, 0, 0])) ++ [.inr (.inr (2, [.int x1, .int x2, .int x3, .int x4, .int x4, .int x6, .int x7, .int ((1 <<< (x4 &&& 31) : Int32) ||| (1 <<< (x4 &&& 31) : Int32)), .int (1 <<< (x6 &&& 31) : Int32), .int (-1)])), .inr (.inl [some 61, none, none, none, none, none, none, none, none, none])]), 0, 0) := by
    refine me (d := 9) g_X9_sets (Nat.le_of_ble_eq_true rfl) ?_
    refine rr rfl (s_aload_n rfl) ?_
    refine rr rfl (s_getf rfl rfl) ?_
    refine rr rfl (s_iload_n rfl) ?_
    refine rr rfl (s_iload_n rfl) ?_
    refine rr rfl (s_iastore (j := 0) (f' := [x1, 0, 0, 0, 0, 0, 0, 0, 0, 0, 0, 0, 0]) rfl rfl (Nat.le_of_ble_eq_true rfl) rfl (Nat.le_of_ble_eq_true rfl) rfl (h' := ((((((hF.set 3 (.inr (.inr (0, [.int 1, .ref 62, .int 1])))).set 4 (.inl ((List.replicate 8 (0 : Int32)).set (Int32.toNatClampNeg x3) 1))).set 5 (.inl ((List.replicate 8 (0 : Int32)).set (Int32.toNatClampNeg x3) 1))).set 6 (.inr (.inr (6, [.ref 2, .ref 7, .ref 8, .ref 9, .int 1])))).set 42 (.inl [x1, 0, 0, 0, 0, 0, 0, 0, 0, 0, 0, 0, 0])) ++ [.inr (.inr (2, [.int x1, .int x2, .int x3, .int x4, .int x4, .int x6, .int x7, .int ((1 <<< (x4 &&& 31) : Int32) ||| (1 <<< (x4 &&& 31) : Int32)), .int (1 <<< (x6 &&& 31) : Int32), .int (-1)])), .inr (.inl [some 61, none, none, none, none, none, none, none, none, none])]))) ?_
    refine rr rfl (s_aload_n rfl) ?_
    refine rr rfl (s_getf rfl rfl) ?_
    refine rr rfl (s_iload_n rfl) ?_
    refine rr rfl (s_iload_n rfl) ?_
    refine rr rfl (s_iastore (j := 0) (f' := [x2, 0, 0, 0, 0, 0, 0, 0, 0, 0, 0, 0, 0]) rfl rfl (Nat.le_of_ble_eq_true rfl) rfl (Nat.le_of_ble_eq_true rfl) rfl (h' := (((((((hF.set 3 (.inr (.inr (0, [.int 1, .ref 62, .int 1])))).set 4 (.inl ((List.replicate 8 (0 : Int32)).set (Int32.toNatClampNeg x3) 1))).set 5 (.inl ((List.replicate 8 (0 : Int32)).set (Int32.toNatClampNeg x3) 1))).set 6 (.inr (.inr (6, [.ref 2, .ref 7, .ref 8, .ref 9, .int 1])))).set 42 (.inl [x1, 0, 0, 0, 0, 0, 0, 0, 0, 0, 0, 0, 0])).set 43 (.inl [x2, 0, 0, 0, 0, 0, 0, 0, 0, 0, 0, 0, 0])) ++ [.inr (.inr (2, [.int x1, .int x2, .int x3, .int x4, .int x4, .int x6, .int x7, .int ((1 <<< (x4 &&& 31) : Int32) ||| (1 <<< (x4 &&& 31) : Int32)), .int (1 <<< (x6 &&& 31) : Int32), .int (-1)])), .inr (.inl [some 61, none, none, none, none, none, none, none, none, none])]))) ?_
    refine rr rfl (s_aload_n rfl) ?_
    refine rr rfl (s_getf rfl rfl) ?_
    refine rr rfl (s_iload_n rfl) ?_
    refine rr rfl (s_iload rfl) ?_
    refine rr rfl (s_iastore (j := 0) (f' := [x3, 0, 0, 0, 0, 0, 0, 0, 0, 0, 0, 0, 0]) rfl rfl (Nat.le_of_ble_eq_true rfl) rfl (Nat.le_of_ble_eq_true rfl) rfl (h' := ((((((((hF.set 3 (.inr (.inr (0, [.int 1, .ref 62, .int 1])))).set 4 (.inl ((List.replicate 8 (0 : Int32)).set (Int32.toNatClampNeg x3) 1))).set 5 (.inl ((List.replicate 8 (0 : Int32)).set (Int32.toNatClampNeg x3) 1))).set 6 (.inr (.inr (6, [.ref 2, .ref 7, .ref 8, .ref 9, .int 1])))).set 42 (.inl [x1, 0, 0, 0, 0, 0, 0, 0, 0, 0, 0, 0, 0])).set 43 (.inl [x2, 0, 0, 0, 0, 0, 0, 0, 0, 0, 0, 0, 0])).set 44 (.inl [x3, 0, 0, 0, 0, 0, 0, 0, 0, 0, 0, 0, 0])) ++ [.inr (.inr (2, [.int x1, .int x2, .int x3, .int x4, .int x4, .int x6, .int x7, .int ((1 <<< (x4 &&& 31) : Int32) ||| (1 <<< (x4 &&& 31) : Int32)), .int (1 <<< (x6 &&& 31) : Int32), .int (-1)])), .inr (.inl [some 61, none, none, none, none, none, none, none, none, none])]))) ?_
    refine rr rfl (s_aload_n rfl) ?_
    refine rr rfl (s_getf rfl rfl) ?_
    refine rr rfl (s_iload_n rfl) ?_
    refine rr rfl (s_iload rfl) ?_
    refine rr rfl (s_iastore (j := 0) (f' := [x4, 0, 0, 0, 0, 0, 0, 0, 0, 0, 0, 0, 0]) rfl rfl (Nat.le_of_ble_eq_true rfl) rfl (Nat.le_of_ble_eq_true rfl) rfl (h' := (((((((((hF.set 3 (.inr (.inr (0, [.int 1, .ref 62, .int 1])))).set 4 (.inl ((List.replicate 8 (0 : Int32)).set (Int32.toNatClampNeg x3) 1))).set 5 (.inl ((List.replicate 8 (0 : Int32)).set (Int32.toNatClampNeg x3) 1))).set 6 (.inr (.inr (6, [.ref 2, .ref 7, .ref 8, .ref 9, .int 1])))).set 42 (.inl [x1, 0, 0, 0, 0, 0, 0, 0, 0, 0, 0, 0, 0])).set 43 (.inl [x2, 0, 0, 0, 0, 0, 0, 0, 0, 0, 0, 0, 0])).set 44 (.inl [x3, 0, 0, 0, 0, 0, 0, 0, 0, 0, 0, 0, 0])).set 45 (.inl [x4, 0, 0, 0, 0, 0, 0, 0, 0, 0, 0, 0, 0])) ++ [.inr (.inr (2, [.int x1, .int x2, .int x3, .int x4, .int x4, .int x6, .int x7, .int ((1 <<< (x4 &&& 31) : Int32) ||| (1 <<< (x4 &&& 31) : Int32)), .int (1 <<< (x6 &&& 31) : Int32), .int (-1)])), .inr (.inl [some 61, none, none, none, none, none, none, none, none, none])]))) ?_
    refine rr rfl (s_aload_n rfl) ?_
    refine rr rfl (s_getf rfl rfl) ?_
    refine rr rfl (s_iload_n rfl) ?_
    refine rr rfl (s_iload rfl) ?_
    refine rr rfl (s_iastore (j := 0) (f' := [x5, 0, 0, 0, 0, 0, 0, 0, 0, 0, 0, 0, 0]) rfl rfl (Nat.le_of_ble_eq_true rfl) rfl (Nat.le_of_ble_eq_true rfl) rfl (h' := ((((((((((hF.set 3 (.inr (.inr (0, [.int 1, .ref 62, .int 1])))).set 4 (.inl ((List.replicate 8 (0 : Int32)).set (Int32.toNatClampNeg x3) 1))).set 5 (.inl ((List.replicate 8 (0 : Int32)).set (Int32.toNatClampNeg x3) 1))).set 6 (.inr (.inr (6, [.ref 2, .ref 7, .ref 8, .ref 9, .int 1])))).set 42 (.inl [x1, 0, 0, 0, 0, 0, 0, 0, 0, 0, 0, 0, 0])).set 43 (.inl [x2, 0, 0, 0, 0, 0, 0, 0, 0, 0, 0, 0, 0])).set 44 (.inl [x3, 0, 0, 0, 0, 0, 0, 0, 0, 0, 0, 0, 0])).set 45 (.inl [x4, 0, 0, 0, 0, 0, 0, 0, 0, 0, 0, 0, 0])).set 46 (.inl [x5, 0, 0, 0, 0, 0, 0, 0, 0, 0, 0, 0, 0])) ++ [.inr (.inr (2, [.int x1, .int x2, .int x3, .int x4, .int x4, .int x6, .int x7, .int ((1 <<< (x4 &&& 31) : Int32) ||| (1 <<< (x4 &&& 31) : Int32)), .int (1 <<< (x6 &&& 31) : Int32), .int (-1)])), .inr (.inl [some 61, none, none, none, none, none, none, none, none, none])]))) ?_
    refine rr rfl (s_aload_n rfl) ?_
    refine rr rfl (s_getf rfl rfl) ?_
    refine rr rfl (s_iload_n rfl) ?_
    refine rr rfl (s_iload rfl) ?_
    refine rr rfl (s_iastore (j := 0) (f' := [x6, 0, 0, 0, 0, 0, 0, 0, 0, 0, 0, 0, 0]) rfl rfl (Nat.le_of_ble_eq_true rfl) rfl (Nat.le_of_ble_eq_true rfl) rfl (h' := (((((((((((hF.set 3 (.inr (.inr (0, [.int 1, .ref 62, .int 1])))).set 4 (.inl ((List.replicate 8 (0 : Int32)).set (Int32.toNatClampNeg x3) 1))).set 5 (.inl ((List.replicate 8 (0 : Int32)).set (Int32.toNatClampNeg x3) 1))).set 6 (.inr (.inr (6, [.ref 2, .ref 7, .ref 8, .ref 9, .int 1])))).set 42 (.inl [x1, 0, 0, 0, 0, 0, 0, 0, 0, 0, 0, 0, 0])).set 43 (.inl [x2, 0, 0, 0, 0, 0, 0, 0, 0, 0, 0, 0, 0])).set 44 (.inl [x3, 0, 0, 0, 0, 0, 0, 0, 0, 0, 0, 0, 0])).set 45 (.inl [x4, 0, 0, 0, 0, 0, 0, 0, 0, 0, 0, 0, 0])).set 46 (.inl [x5, 0, 0, 0, 0, 0, 0, 0, 0, 0, 0, 0, 0])).set 47 (.inl [x6, 0, 0, 0, 0, 0, 0, 0, 0, 0, 0, 0, 0])) ++ [.inr (.inr (2, [.int x1, .int x2, .int x3, .int x4, .int x4, .int x6, .int x7, .int ((1 <<< (x4 &&& 31) : Int32) ||| (1 <<< (x4 &&& 31) : Int32)), .int (1 <<< (x6 &&& 31) : Int32), .int (-1)])), .inr (.inl [some 61, none, none, none, none, none, none, none, none, none])]))) ?_
    refine rr rfl (s_aload_n rfl) ?_
    refine rr rfl (s_getf rfl rfl) ?_
    refine rr rfl (s_iload_n rfl) ?_
    refine rr rfl (s_iload rfl) ?_
    refine rr rfl (s_iastore (j := 0) (f' := [x7, 0, 0, 0, 0, 0, 0, 0, 0, 0, 0, 0, 0]) rfl rfl (Nat.le_of_ble_eq_true rfl) rfl (Nat.le_of_ble_eq_true rfl) rfl (h' := ((((((((((((hF.set 3 (.inr (.inr (0, [.int 1, .ref 62, .int 1])))).set 4 (.inl ((List.replicate 8 (0 : Int32)).set (Int32.toNatClampNeg x3) 1))).set 5 (.inl ((List.replicate 8 (0 : Int32)).set (Int32.toNatClampNeg x3) 1))).set 6 (.inr (.inr (6, [.ref 2, .ref 7, .ref 8, .ref 9, .int 1])))).set 42 (.inl [x1, 0, 0, 0, 0, 0, 0, 0, 0, 0, 0, 0, 0])).set 43 (.inl [x2, 0, 0, 0, 0, 0, 0, 0, 0, 0, 0, 0, 0])).set 44 (.inl [x3, 0, 0, 0, 0, 0, 0, 0, 0, 0, 0, 0, 0])).set 45 (.inl [x4, 0, 0, 0, 0, 0, 0, 0, 0, 0, 0, 0, 0])).set 46 (.inl [x5, 0, 0, 0, 0, 0, 0, 0, 0, 0, 0, 0, 0])).set 47 (.inl [x6, 0, 0, 0, 0, 0, 0, 0, 0, 0, 0, 0, 0])).set 48 (.inl [x7, 0, 0, 0, 0, 0, 0, 0, 0, 0, 0, 0, 0])) ++ [.inr (.inr (2, [.int x1, .int x2, .int x3, .int x4, .int x4, .int x6, .int x7, .int ((1 <<< (x4 &&& 31) : Int32) ||| (1 <<< (x4 &&& 31) : Int32)), .int (1 <<< (x6 &&& 31) : Int32), .int (-1)])), .inr (.inl [some 61, none, none, none, none, none, none, none, none, none])]))) ?_
    refine rr rfl (s_aload_n rfl) ?_
    refine rr rfl (s_getf rfl rfl) ?_
    refine rr rfl (s_iload_n rfl) ?_
    refine rr rfl (s_iconst (v := (-1)) (by decide)) ?_
    refine rr rfl (s_iastore (j := 0) (f' := [(-1), 0, 0, 0, 0, 0, 0, 0, 0, 0, 0, 0, 0]) rfl rfl (Nat.le_of_ble_eq_true rfl) rfl (Nat.le_of_ble_eq_true rfl) rfl (h' := (((((((((((((hF.set 3 (.inr (.inr (0, [.int 1, .ref 62, .int 1])))).set 4 (.inl ((List.replicate 8 (0 : Int32)).set (Int32.toNatClampNeg x3) 1))).set 5 (.inl ((List.replicate 8 (0 : Int32)).set (Int32.toNatClampNeg x3) 1))).set 6 (.inr (.inr (6, [.ref 2, .ref 7, .ref 8, .ref 9, .int 1])))).set 42 (.inl [x1, 0, 0, 0, 0, 0, 0, 0, 0, 0, 0, 0, 0])).set 43 (.inl [x2, 0, 0, 0, 0, 0, 0, 0, 0, 0, 0, 0, 0])).set 44 (.inl [x3, 0, 0, 0, 0, 0, 0, 0, 0, 0, 0, 0, 0])).set 45 (.inl [x4, 0, 0, 0, 0, 0, 0, 0, 0, 0, 0, 0, 0])).set 46 (.inl [x5, 0, 0, 0, 0, 0, 0, 0, 0, 0, 0, 0, 0])).set 47 (.inl [x6, 0, 0, 0, 0, 0, 0, 0, 0, 0, 0, 0, 0])).set 48 (.inl [x7, 0, 0, 0, 0, 0, 0, 0, 0, 0, 0, 0, 0])).set 49 (.inl [(-1), 0, 0, 0, 0, 0, 0, 0, 0, 0, 0, 0, 0])) ++ [.inr (.inr (2, [.int x1, .int x2, .int x3, .int x4, .int x4, .int x6, .int x7, .int ((1 <<< (x4 &&& 31) : Int32) ||| (1 <<< (x4 &&& 31) : Int32)), .int (1 <<< (x6 &&& 31) : Int32), .int (-1)])), .inr (.inl [some 61, none, none, none, none, none, none, none, none, none])]))) ?_
    exact rrt rfl rfl rfl rfl
  refine rrc rfl rfl rfl (do_of g_X9_sets rfl rfl e1) ?_
  refine rr rfl (s_aload_n rfl) ?_
  refine rr rfl rfl ?_
  refine rr rfl (s_getf rfl rfl) ?_
  refine rr rfl (s_iconst (v := 1) (by decide)) ?_
  refine rr rfl (s_iadd (v := 1) (by decide)) ?_
  refine rr rfl (s_putf rfl rfl (Nat.le_of_ble_eq_true rfl) rfl (Nat.le_of_ble_eq_true rfl) rfl (h' := ((((((((((((((hF.set 3 (.inr (.inr (0, [.int 1, .ref 62, .int 1])))).set 4 (.inl ((List.replicate 8 (0 : Int32)).set (Int32.toNatClampNeg x3) 1))).set 5 (.inl ((List.replicate 8 (0 : Int32)).set (Int32.toNatClampNeg x3) 1))).set 6 (.inr (.inr (6, [.ref 2, .ref 7, .ref 8, .ref 9, .int 1])))).set 41 (.inr (.inr (9, [.int 4, .int 1, .ref 42, .ref 43, .ref 44, .ref 45, .ref 46, .ref 47, .ref 48, .ref 49, .ref 50, .ref 51, .int 0, .int 0, .int 0, .int 0, .int 0, .int 0, .int 0, .int 0, .ref 52, .int 0, .ref 53, .int 0, .ref 54, .int 0, .ref 55, .ref 56, .ref 57, .ref 58, .int 0, .ref 59, .ref 60])))).set 42 (.inl [x1, 0, 0, 0, 0, 0, 0, 0, 0, 0, 0, 0, 0])).set 43 (.inl [x2, 0, 0, 0, 0, 0, 0, 0, 0, 0, 0, 0, 0])).set 44 (.inl [x3, 0, 0, 0, 0, 0, 0, 0, 0, 0, 0, 0, 0])).set 45 (.inl [x4, 0, 0, 0, 0, 0, 0, 0, 0, 0, 0, 0, 0])).set 46 (.inl [x5, 0, 0, 0, 0, 0, 0, 0, 0, 0, 0, 0, 0])).set 47 (.inl [x6, 0, 0, 0, 0, 0, 0, 0, 0, 0, 0, 0, 0])).set 48 (.inl [x7, 0, 0, 0, 0, 0, 0, 0, 0, 0, 0, 0, 0])).set 49 (.inl [(-1), 0, 0, 0, 0, 0, 0, 0, 0, 0, 0, 0, 0])) ++ [.inr (.inr (2, [.int x1, .int x2, .int x3, .int x4, .int x4, .int x6, .int x7, .int ((1 <<< (x4 &&& 31) : Int32) ||| (1 <<< (x4 &&& 31) : Int32)), .int (1 <<< (x6 &&& 31) : Int32), .int (-1)])), .inr (.inl [some 61, none, none, none, none, none, none, none, none, none])]))) ?_
  refine rr rfl (s_aload_n rfl) ?_
  have e2 : a_m MT [] 100000 10 miX9_lays [.ref 41] ((((((((((((((hF.set 3 (.inr (.inr (0, [.int 1, .ref 62, .int 1])))).set 4 (.inl ((List.replicate 8 (0 : Int32)).set (Int32.toNatClampNeg x3) 1))).set 5 (.inl ((List.replicate 8 (0 : Int32)).set (Int32.toNatClampNeg x3) 1))).set 6 (.inr (.inr (6, [.ref 2, .ref 7, .ref 8, .ref 9, .int 1])))).set 41 (.inr (.inr (9, [.int 4, .int 1, .ref 42, .ref 43, .ref 44, .ref 45, .ref 46, .ref 47, .ref 48, .ref 49, .ref 50, .ref 51, .int 0, .int 0, .int 0, .int 0, .int 0, .int 0, .int 0, .int 0, .ref 52, .int 0, .ref 53, .int 0, .ref 54, .int 0, .ref 55, .ref 56, .ref 57, .ref 58, .int 0, .ref 59, .ref 60])))).set 42 (.inl [x1, 0, 0, 0, 0, 0, 0, 0, 0, 0, 0, 0, 0])).set 43 (.inl [x2, 0, 0, 0, 0, 0, 0, 0, 0, 0, 0, 0, 0])).set 44 (.inl [x3, 0, 0, 0, 0, 0, 0, 0, 0, 0, 0, 0, 0])).set 45 (.inl [x4, 0, 0, 0, 0, 0, 0, 0, 0, 0, 0, 0, 0])).set 46 (.inl [x5, 0, 0, 0, 0, 0, 0, 0, 0, 0, 0, 0, 0])).set 47 (.inl [x6, 0, 0, 0, 0, 0, 0, 0, 0, 0, 0, 0, 0])).set 48 (.inl [x7, 0, 0, 0, 0, 0, 0, 0, 0, 0, 0, 0, 0])).set 49 (.inl [(-1), 0, 0, 0, 0, 0, 0, 0, 0, 0, 0, 0, 0])) ++ [.inr (.inr (2, [.int x1, .int x2, .int x3, .int x4, .int x4, .int x6, .int x7, .int ((1 <<< (x4 &&& 31) : Int32) ||| (1 <<< (x4 &&& 31) : Int32)), .int (1 <<< (x6 &&& 31) : Int32), .int (-1)])), .inr (.inl [some 61, none, none, none, none, none, none, none, none, none])]) = some ((some (.int 1)), (((((((((((((((hF.set 3 (.inr (.inr (0, [.int 1, .ref 62, .int 1])))).set 4 (.inl ((List.replicate 8 (0 : Int32)).set (Int32.toNatClampNeg x3) 1))).set 5 (.inl ((List.replicate 8 (0 : Int32)).set (Int32.toNatClampNeg x3) 1))).set 6 (.inr (.inr (6, [.ref 2, .ref 7, .ref 8, .ref 9, .int 1])))).set 41 (.inr (.inr (9, [.int 4, .int 1, .ref 42, .ref 43, .ref 44, .ref 45, .ref 46, .ref 47, .ref 48, .ref 49, .ref 50, .ref 51, .int 0, .int 0, .int 0, .int 0, .int 0, .int 0, .int 0, .int 0, .ref 52, .int 0, .ref 53, .int 0, .ref 54, .int 0, .ref 55, .ref 56, .ref 57, .ref 58, .int 0, .ref 59, .ref 60])))).set 42 (.inl [x1, 0, 0, 0, 0, 0, 0, 0, 0, 0, 0, 0, 0])).set 43 (.inl [x2, 0, 0, 0, 0, 0, 0, 0, 0, 0, 0, 0, 0])).set 44 (.inl [x3, 0, 0, 0, 0, 0, 0, 0, 0, 0, 0, 0, 0])).set 45 (.inl [x4, 0, 0, 0, 0, 0, 0, 0, 0, 0, 0, 0, 0])).set 46 (.inl [x5, 0, 0, 0, 0, 0, 0, 0, 0, 0, 0, 0, 0])).set 47 (.inl [x6, 0, 0, 0, 0, 0, 0, 0, 0, 0, 0, 0, 0])).set 48 (.inl [x7, 0, 0, 0, 0, 0, 0, 0, 0, 0, 0, 0, 0])).set 49 (.inl [(-1), 0, 0, 0, 0, 0, 0, 0, 0, 0, 0, 0, 0])).set 51 (.inl ((List.replicate 8 (0 : Int32)).set (Int32.toNatClampNeg x3) 1))) ++ [.inr (.inr (2, [.int x1, .int x2, .int x3, .int x4, .int x4, .int x6, .int x7, .int ((1 <<< (x4 &&& 31) : Int32) ||| (1 <<< (x4 &&& 31) : Int32)), .int (1 <<< (x6 &&& 31) : Int32), .int (-1)])), .inr (.inl [some 61, none, none, none, none, none, none, none, none, none])]), 0, 0) := by
    refine me (d := 9) g_X9_lays (Nat.le_of_ble_eq_true rfl) ?_
    refine rr rfl (s_iconst (v := 0) (by decide)) ?_
    refine rr rfl (s_istore_n rfl) ?_
    refine rr rfl (s_iload_n rfl) ?_
    refine rr rfl (s_bipush (v := 8) (by decide)) ?_
    refine rr rfl (s_icF (by decide)) ?_
    refine rr rfl (s_aload_n rfl) ?_
    refine rr rfl (s_getf rfl rfl) ?_
    refine rr rfl (s_iload_n rfl) ?_
    refine rr rfl (s_iconst (v := 0) (by decide)) ?_
    refine rr rfl (s_iastore (j := 0) (f' := (List.replicate 8 0)) rfl rfl (Nat.le_of_ble_eq_true rfl) rfl (Nat.le_of_ble_eq_true rfl) rfl (h' := ((((((((((((((hF.set 3 (.inr (.inr (0, [.int 1, .ref 62, .int 1])))).set 4 (.inl ((List.replicate 8 (0 : Int32)).set (Int32.toNatClampNeg x3) 1))).set 5 (.inl ((List.replicate 8 (0 : Int32)).set (Int32.toNatClampNeg x3) 1))).set 6 (.inr (.inr (6, [.ref 2, .ref 7, .ref 8, .ref 9, .int 1])))).set 41 (.inr (.inr (9, [.int 4, .int 1, .ref 42, .ref 43, .ref 44, .ref 45, .ref 46, .ref 47, .ref 48, .ref 49, .ref 50, .ref 51, .int 0, .int 0, .int 0, .int 0, .int 0, .int 0, .int 0, .int 0, .ref 52, .int 0, .ref 53, .int 0, .ref 54, .int 0, .ref 55, .ref 56, .ref 57, .ref 58, .int 0, .ref 59, .ref 60])))).set 42 (.inl [x1, 0, 0, 0, 0, 0, 0, 0, 0, 0, 0, 0, 0])).set 43 (.inl [x2, 0, 0, 0, 0, 0, 0, 0, 0, 0, 0, 0, 0])).set 44 (.inl [x3, 0, 0, 0, 0, 0, 0, 0, 0, 0, 0, 0, 0])).set 45 (.inl [x4, 0, 0, 0, 0, 0, 0, 0, 0, 0, 0, 0, 0])).set 46 (.inl [x5, 0, 0, 0, 0, 0, 0, 0, 0, 0, 0, 0, 0])).set 47 (.inl [x6, 0, 0, 0, 0, 0, 0, 0, 0, 0, 0, 0, 0])).set 48 (.inl [x7, 0, 0, 0, 0, 0, 0, 0, 0, 0, 0, 0, 0])).set 49 (.inl [(-1), 0, 0, 0, 0, 0, 0, 0, 0, 0, 0, 0, 0])) ++ [.inr (.inr (2, [.int x1, .int x2, .int x3, .int x4, .int x4, .int x6, .int x7, .int ((1 <<< (x4 &&& 31) : Int32) ||| (1 <<< (x4 &&& 31) : Int32)), .int (1 <<< (x6 &&& 31) : Int32), .int (-1)])), .inr (.inl [some 61, none, none, none, none, none, none, none, none, none])]))) ?_
    refine rr rfl (s_iinc (v := 1) rfl (by decide) rfl) ?_
    refine rr rfl s_goto ?_
    refine rr rfl (s_iload_n rfl) ?_
    refine rr rfl (s_bipush (v := 8) (by decide)) ?_
    refine rr rfl (s_icF (by decide)) ?_
    refine rr rfl (s_aload_n rfl) ?_
    refine rr rfl (s_getf rfl rfl) ?_
    refine rr rfl (s_iload_n rfl) ?_
    refine rr rfl (s_iconst (v := 0) (by decide)) ?_
    refine rr rfl (s_iastore (j := 1) (f' := (List.replicate 8 0)) rfl rfl (Nat.le_of_ble_eq_true rfl) rfl (Nat.le_of_ble_eq_true rfl) rfl (h' := ((((((((((((((hF.set 3 (.inr (.inr (0, [.int 1, .ref 62, .int 1])))).set 4 (.inl ((List.replicate 8 (0 : Int32)).set (Int32.toNatClampNeg x3) 1))).set 5 (.inl ((List.replicate 8 (0 : Int32)).set (Int32.toNatClampNeg x3) 1))).set 6 (.inr (.inr (6, [.ref 2, .ref 7, .ref 8, .ref 9, .int 1])))).set 41 (.inr (.inr (9, [.int 4, .int 1, .ref 42, .ref 43, .ref 44, .ref 45, .ref 46, .ref 47, .ref 48, .ref 49, .ref 50, .ref 51, .int 0, .int 0, .int 0, .int 0, .int 0, .int 0, .int 0, .int 0, .ref 52, .int 0, .ref 53, .int 0, .ref 54, .int 0, .ref 55, .ref 56, .ref 57, .ref 58, .int 0, .ref 59, .ref 60])))).set 42 (.inl [x1, 0, 0, 0, 0, 0, 0, 0, 0, 0, 0, 0, 0])).set 43 (.inl [x2, 0, 0, 0, 0, 0, 0, 0, 0, 0, 0, 0, 0])).set 44 (.inl [x3, 0, 0, 0, 0, 0, 0, 0, 0, 0, 0, 0, 0])).set 45 (.inl [x4, 0, 0, 0, 0, 0, 0, 0, 0, 0, 0, 0, 0])).set 46 (.inl [x5, 0, 0, 0, 0, 0, 0, 0, 0, 0, 0, 0, 0])).set 47 (.inl [x6, 0, 0, 0, 0, 0, 0, 0, 0, 0, 0, 0, 0])).set 48 (.inl [x7, 0, 0, 0, 0, 0, 0, 0, 0, 0, 0, 0, 0])).set 49 (.inl [(-1), 0, 0, 0, 0, 0, 0, 0, 0, 0, 0, 0, 0])) ++ [.inr (.inr (2, [.int x1, .int x2, .int x3, .int x4, .int x4, .int x6, .int x7, .int ((1 <<< (x4 &&& 31) : Int32) ||| (1 <<< (x4 &&& 31) : Int32)), .int (1 <<< (x6 &&& 31) : Int32), .int (-1)])), .inr (.inl [some 61, none, none, none, none, none, none, none, none, none])]))) ?_
    refine rr rfl (s_iinc (v := 2) rfl (by decide) rfl) ?_
    refine rr rfl s_goto ?_
    refine rr rfl (s_iload_n rfl) ?_
    refine rr rfl (s_bipush (v := 8) (by decide)) ?_
    refine rr rfl (s_icF (by decide)) ?_
    refine rr rfl (s_aload_n rfl) ?_
    refine rr rfl (s_getf rfl rfl) ?_
    refine rr rfl (s_iload_n rfl) ?_
    refine rr rfl (s_iconst (v := 0) (by decide)) ?_
    refine rr rfl (s_iastore (j := 2) (f' := (List.replicate 8 0)) rfl rfl (Nat.le_of_ble_eq_true rfl) rfl (Nat.le_of_ble_eq_true rfl) rfl (h' := ((((((((((((((hF.set 3 (.inr (.inr (0, [.int 1, .ref 62, .int 1])))).set 4 (.inl ((List.replicate 8 (0 : Int32)).set (Int32.toNatClampNeg x3) 1))).set 5 (.inl ((List.replicate 8 (0 : Int32)).set (Int32.toNatClampNeg x3) 1))).set 6 (.inr (.inr (6, [.ref 2, .ref 7, .ref 8, .ref 9, .int 1])))).set 41 (.inr (.inr (9, [.int 4, .int 1, .ref 42, .ref 43, .ref 44, .ref 45, .ref 46, .ref 47, .ref 48, .ref 49, .ref 50, .ref 51, .int 0, .int 0, .int 0, .int 0, .int 0, .int 0, .int 0, .int 0, .ref 52, .int 0, .ref 53, .int 0, .ref 54, .int 0, .ref 55, .ref 56, .ref 57, .ref 58, .int 0, .ref 59, .ref 60])))).set 42 (.inl [x1, 0, 0, 0, 0, 0, 0, 0, 0, 0, 0, 0, 0])).set 43 (.inl [x2, 0, 0, 0, 0, 0, 0, 0, 0, 0, 0, 0, 0])).set 44 (.inl [x3, 0, 0, 0, 0, 0, 0, 0, 0, 0, 0, 0, 0])).set 45 (.inl [x4, 0, 0, 0, 0, 0, 0, 0, 0, 0, 0, 0, 0])).set 46 (.inl [x5, 0, 0, 0, 0, 0, 0, 0, 0, 0, 0, 0, 0])).set 47 (.inl [x6, 0, 0, 0, 0, 0, 0, 0, 0, 0, 0, 0, 0])).set 48 (.inl [x7, 0, 0, 0, 0, 0, 0, 0, 0, 0, 0, 0, 0])).set 49 (.inl [(-1), 0, 0, 0, 0, 0, 0, 0, 0, 0, 0, 0, 0])) ++ [.inr (.inr (2, [.int x1, .int x2, .int x3, .int x4, .int x4, .int x6, .int x7, .int ((1 <<< (x4 &&& 31) : Int32) ||| (1 <<< (x4 &&& 31) : Int32)), .int (1 <<< (x6 &&& 31) : Int32), .int (-1)])), .inr (.inl [some 61, none, none, none, none, none, none, none, none, none])]))) ?_
    refine rr rfl (s_iinc (v := 3) rfl (by decide) rfl) ?_
    refine rr rfl s_goto ?_
    refine rr rfl (s_iload_n rfl) ?_
    refine rr rfl (s_bipush (v := 8) (by decide)) ?_
    refine rr rfl (s_icF (by decide)) ?_
    refine rr rfl (s_aload_n rfl) ?_
    refine rr rfl (s_getf rfl rfl) ?_
    refine rr rfl (s_iload_n rfl) ?_
    refine rr rfl (s_iconst (v := 0) (by decide)) ?_
    refine rr rfl (s_iastore (j := 3) (f' := (List.replicate 8 0)) rfl rfl (Nat.le_of_ble_eq_true rfl) rfl (Nat.le_of_ble_eq_true rfl) rfl (h' := ((((((((((((((hF.set 3 (.inr (.inr (0, [.int 1, .ref 62, .int 1])))).set 4 (.inl ((List.replicate 8 (0 : Int32)).set (Int32.toNatClampNeg x3) 1))).set 5 (.inl ((List.replicate 8 (0 : Int32)).set (Int32.toNatClampNeg x3) 1))).set 6 (.inr (.inr (6, [.ref 2, .ref 7, .ref 8, .ref 9, .int 1])))).set 41 (.inr (.inr (9, [.int 4, .int 1, .ref 42, .ref 43, .ref 44, .ref 45, .ref 46, .ref 47, .ref 48, .ref 49, .ref 50, .ref 51, .int 0, .int 0, .int 0, .int 0, .int 0, .int 0, .int 0, .int 0, .ref 52, .int 0, .ref 53, .int 0, .ref 54, .int 0, .ref 55, .ref 56, .ref 57, .ref 58, .int 0, .ref 59, .ref 60])))).set 42 (.inl [x1, 0, 0, 0, 0, 0, 0, 0, 0, 0, 0, 0, 0])).set 43 (.inl [x2, 0, 0, 0, 0, 0, 0, 0, 0, 0, 0, 0, 0])).set 44 (.inl [x3, 0, 0, 0, 0, 0, 0, 0, 0, 0, 0, 0, 0])).set 45 (.inl [x4, 0, 0, 0, 0, 0, 0, 0, 0, 0, 0, 0, 0])).set 46 (.inl [x5, 0, 0, 0, 0, 0, 0, 0, 0, 0, 0, 0, 0])).set 47 (.inl [x6, 0, 0, 0, 0, 0, 0, 0, 0, 0, 0, 0, 0])).set 48 (.inl [x7, 0, 0, 0, 0, 0, 0, 0, 0, 0, 0, 0, 0])).set 49 (.inl [(-1), 0, 0, 0, 0, 0, 0, 0, 0, 0, 0, 0, 0])) ++ [.inr (.inr (2, [.int x1, .int x2, .int x3, .int x4, .int x4, .int x6, .int x7, .int ((1 <<< (x4 &&& 31) : Int32) ||| (1 <<< (x4 &&& 31) : Int32)), .int (1 <<< (x6 &&& 31) : Int32), .int (-1)])), .inr (.inl [some 61, none, none, none, none, none, none, none, none, none])]))) ?_
    refine rr rfl (s_iinc (v := 4) rfl (by decide) rfl) ?_
    refine rr rfl s_goto ?_
    refine rr rfl (s_iload_n rfl) ?_
    refine rr rfl (s_bipush (v := 8) (by decide)) ?_
    refine rr rfl (s_icF (by decide)) ?_
    refine rr rfl (s_aload_n rfl) ?_
    refine rr rfl (s_getf rfl rfl) ?_
    refine rr rfl (s_iload_n rfl) ?_
    refine rr rfl (s_iconst (v := 0) (by decide)) ?_
    refine rr rfl (s_iastore (j := 4) (f' := (List.replicate 8 0)) rfl rfl (Nat.le_of_ble_eq_true rfl) rfl (Nat.le_of_ble_eq_true rfl) rfl (h' := ((((((((((((((hF.set 3 (.inr (.inr (0, [.int 1, .ref 62, .int 1])))).set 4 (.inl ((List.replicate 8 (0 : Int32)).set (Int32.toNatClampNeg x3) 1))).set 5 (.inl ((List.replicate 8 (0 : Int32)).set (Int32.toNatClampNeg x3) 1))).set 6 (.inr (.inr (6, [.ref 2, .ref 7, .ref 8, .ref 9, .int 1])))).set 41 (.inr (.inr (9, [.int 4, .int 1, .ref 42, .ref 43, .ref 44, .ref 45, .ref 46, .ref 47, .ref 48, .ref 49, .ref 50, .ref 51, .int 0, .int 0, .int 0, .int 0, .int 0, .int 0, .int 0, .int 0, .ref 52, .int 0, .ref 53, .int 0, .ref 54, .int 0, .ref 55, .ref 56, .ref 57, .ref 58, .int 0, .ref 59, .ref 60])))).set 42 (.inl [x1, 0, 0, 0, 0, 0, 0, 0, 0, 0, 0, 0, 0])).set 43 (.inl [x2, 0, 0, 0, 0, 0, 0, 0, 0, 0, 0, 0, 0])).set 44 (.inl [x3, 0, 0, 0, 0, 0, 0, 0, 0, 0, 0, 0, 0])).set 45 (.inl [x4, 0, 0, 0, 0, 0, 0, 0, 0, 0, 0, 0, 0])).set 46 (.inl [x5, 0, 0, 0, 0, 0, 0, 0, 0, 0, 0, 0, 0])).set 47 (.inl [x6, 0, 0, 0, 0, 0, 0, 0, 0, 0, 0, 0, 0])).set 48 (.inl [x7, 0, 0, 0, 0, 0, 0, 0, 0, 0, 0, 0, 0])).set 49 (.inl [(-1), 0, 0, 0, 0, 0, 0, 0, 0, 0, 0, 0, 0])) ++ [.inr (.inr (2, [.int x1, .int x2, .int x3, .int x4, .int x4, .int x6, .int x7, .int ((1 <<< (x4 &&& 31) : Int32) ||| (1 <<< (x4 &&& 31) : Int32)), .int (1 <<< (x6 &&& 31) : Int32), .int (-1)])), .inr (.inl [some 61, none, none, none, none, none, none, none, none, none])]))) ?_
    refine rr rfl (s_iinc (v := 5) rfl (by decide) rfl) ?_
    refine rr rfl s_goto ?_
    refine rr rfl (s_iload_n rfl) ?_
    refine rr rfl (s_bipush (v := 8) (by decide)) ?_
    refine rr rfl (s_icF (by decide)) ?_
    refine rr rfl (s_aload_n rfl) ?_
    refine rr rfl (s_getf rfl rfl) ?_
    refine rr rfl (s_iload_n rfl) ?_
    refine rr rfl (s_iconst (v := 0) (by decide)) ?_
    refine rr rfl (s_iastore (j := 5) (f' := (List.replicate 8 0)) rfl rfl (Nat.le_of_ble_eq_true rfl) rfl (Nat.le_of_ble_eq_true rfl) rfl (h' := ((((((((((((((hF.set 3 (.inr (.inr (0, [.int 1, .ref 62, .int 1])))).set 4 (.inl ((List.replicate 8 (0 : Int32)).set (Int32.toNatClampNeg x3) 1))).set 5 (.inl ((List.replicate 8 (0 : Int32)).set (Int32.toNatClampNeg x3) 1))).set 6 (.inr (.inr (6, [.ref 2, .ref 7, .ref 8, .ref 9, .int 1])))).set 41 (.inr (.inr (9, [.int 4, .int 1, .ref 42, .ref 43, .ref 44, .ref 45, .ref 46, .ref 47, .ref 48, .ref 49, .ref 50, .ref 51, .int 0, .int 0, .int 0, .int 0, .int 0, .int 0, .int 0, .int 0, .ref 52, .int 0, .ref 53, .int 0, .ref 54, .int 0, .ref 55, .ref 56, .ref 57, .ref 58, .int 0, .ref 59, .ref 60])))).set 42 (.inl [x1, 0, 0, 0, 0, 0, 0, 0, 0, 0, 0, 0, 0])).set 43 (.inl [x2, 0, 0, 0, 0, 0, 0, 0, 0, 0, 0, 0, 0])).set 44 (.inl [x3, 0, 0, 0, 0, 0, 0, 0, 0, 0, 0, 0, 0])).set 45 (.inl [x4, 0, 0, 0, 0, 0, 0, 0, 0, 0, 0, 0, 0])).set 46 (.inl [x5, 0, 0, 0, 0, 0, 0, 0, 0, 0, 0, 0, 0])).set 47 (.inl [x6, 0, 0, 0, 0, 0, 0, 0, 0, 0, 0, 0, 0])).set 48 (.inl [x7, 0, 0, 0, 0, 0, 0, 0, 0, 0, 0, 0, 0])).set 49 (.inl [(-1), 0, 0, 0, 0, 0, 0, 0, 0, 0, 0, 0, 0])) ++ [.inr (.inr (2, [.int x1, .int x2, .int x3, .int x4, .int x4, .int x6, .int x7, .int ((1 <<< (x4 &&& 31) : Int32) ||| (1 <<< (x4 &&& 31) : Int32)), .int (1 <<< (x6 &&& 31) : Int32), .int (-1)])), .inr (.inl [some 61, none, none, none, none, none, none, none, none, none])]))) ?_
    refine rr rfl (s_iinc (v := 6) rfl (by decide) rfl) ?_
    refine rr rfl s_goto ?_
    refine rr rfl (s_iload_n rfl) ?_
    refine rr rfl (s_bipush (v := 8) (by decide)) ?_
    refine rr rfl (s_icF (by decide)) ?_
    refine rr rfl (s_aload_n rfl) ?_
    refine rr rfl (s_getf rfl rfl) ?_
    refine rr rfl (s_iload_n rfl) ?_
    refine rr rfl (s_iconst (v := 0) (by decide)) ?_
    refine rr rfl (s_iastore (j := 6) (f' := (List.replicate 8 0)) rfl rfl (Nat.le_of_ble_eq_true rfl) rfl (Nat.le_of_ble_eq_true rfl) rfl (h' := ((((((((((((((hF.set 3 (.inr (.inr (0, [.int 1, .ref 62, .int 1])))).set 4 (.inl ((List.replicate 8 (0 : Int32)).set (Int32.toNatClampNeg x3) 1))).set 5 (.inl ((List.replicate 8 (0 : Int32)).set (Int32.toNatClampNeg x3) 1))).set 6 (.inr (.inr (6, [.ref 2, .ref 7, .ref 8, .ref 9, .int 1])))).set 41 (.inr (.inr (9, [.int 4, .int 1, .ref 42, .ref 43, .ref 44, .ref 45, .ref 46, .ref 47, .ref 48, .ref 49, .ref 50, .ref 51, .int 0, .int 0, .int 0, .int 0, .int 0, .int 0, .int 0, .int 0, .ref 52, .int 0, .ref 53, .int 0, .ref 54, .int 0, .ref 55, .ref 56, .ref 57, .ref 58, .int 0, .ref 59, .ref 60])))).set 42 (.inl [x1, 0, 0, 0, 0, 0, 0, 0, 0, 0, 0, 0, 0])).set 43 (.inl [x2, 0, 0, 0, 0, 0, 0, 0, 0, 0, 0, 0, 0])).set 44 (.inl [x3, 0, 0, 0, 0, 0, 0, 0, 0, 0, 0, 0, 0])).set 45 (.inl [x4, 0, 0, 0, 0, 0, 0, 0, 0, 0, 0, 0, 0])).set 46 (.inl [x5, 0, 0, 0, 0, 0, 0, 0, 0, 0, 0, 0, 0])).set 47 (.inl [x6, 0, 0, 0, 0, 0, 0, 0, 0, 0, 0, 0, 0])).set 48 (.inl [x7, 0, 0, 0, 0, 0, 0, 0, 0, 0, 0, 0, 0])).set 49 (.inl [(-1), 0, 0, 0, 0, 0, 0, 0, 0, 0, 0, 0, 0])) ++ [.inr (.inr (2, [.int x1, .int x2, .int x3, .int x4, .int x4, .int x6, .int x7, .int ((1 <<< (x4 &&& 31) : Int32) ||| (1 <<< (x4 &&& 31) : Int32)), .int (1 <<< (x6 &&& 31) : Int32), .int (-1)])), .inr (.inl [some 61, none, none, none, none, none, none, none, none, none])]))) ?_
    refine rr rfl (s_iinc (v := 7) rfl (by decide) rfl) ?_
    refine rr rfl s_goto ?_
    refine rr rfl (s_iload_n rfl) ?_
    refine rr rfl (s_bipush (v := 8) (by decide)) ?_
    refine rr rfl (s_icF (by decide)) ?_
    refine rr rfl (s_aload_n rfl) ?_
    refine rr rfl (s_getf rfl rfl) ?_
    refine rr rfl (s_iload_n rfl) ?_
    refine rr rfl (s_iconst (v := 0) (by decide)) ?_
    refine rr rfl (s_iastore (j := 7) (f' := (List.replicate 8 0)) rfl rfl (Nat.le_of_ble_eq_true rfl) rfl (Nat.le_of_ble_eq_true rfl) rfl (h' := ((((((((((((((hF.set 3 (.inr (.inr (0, [.int 1, .ref 62, .int 1])))).set 4 (.inl ((List.replicate 8 (0 : Int32)).set (Int32.toNatClampNeg x3) 1))).set 5 (.inl ((List.replicate 8 (0 : Int32)).set (Int32.toNatClampNeg x3) 1))).set 6 (.inr (.inr (6, [.ref 2, .ref 7, .ref 8, .ref 9, .int 1])))).set 41 (.inr (.inr (9, [.int 4, .int 1, .ref 42, .ref 43, .ref 44, .ref 45, .ref 46, .ref 47, .ref 48, .ref 49, .ref 50, .ref 51, .int 0, .int 0, .int 0, .int 0, .int 0, .int 0, .int 0, .int 0, .ref 52, .int 0, .ref 53, .int 0, .ref 54, .int 0, .ref 55, .ref 56, .ref 57, .ref 58, .int 0, .ref 59, .ref 60])))).set 42 (.inl [x1, 0, 0, 0, 0, 0, 0, 0, 0, 0, 0, 0, 0])).set 43 (.inl [x2, 0, 0, 0, 0, 0, 0, 0, 0, 0, 0, 0, 0])).set 44 (.inl [x3, 0, 0, 0, 0, 0, 0, 0, 0, 0, 0, 0, 0])).set 45 (.inl [x4, 0, 0, 0, 0, 0, 0, 0, 0, 0, 0, 0, 0])).set 46 (.inl [x5, 0, 0, 0, 0, 0, 0, 0, 0, 0, 0, 0, 0])).set 47 (.inl [x6, 0, 0, 0, 0, 0, 0, 0, 0, 0, 0, 0, 0])).set 48 (.inl [x7, 0, 0, 0, 0, 0, 0, 0, 0, 0, 0, 0, 0])).set 49 (.inl [(-1), 0, 0, 0, 0, 0, 0, 0, 0, 0, 0, 0, 0])) ++ [.inr (.inr (2, [.int x1, .int x2, .int x3, .int x4, .int x4, .int x6, .int x7, .int ((1 <<< (x4 &&& 31) : Int32) ||| (1 <<< (x4 &&& 31) : Int32)), .int (1 <<< (x6 &&& 31) : Int32), .int (-1)])), .inr (.inl [some 61, none, none, none, none, none, none, none, none, none])]))) ?_
    refine rr rfl (s_iinc (v := 8) rfl (by decide) rfl) ?_
    refine rr rfl s_goto ?_
    refine rr rfl (s_iload_n rfl) ?_
    refine rr rfl (s_bipush (v := 8) (by decide)) ?_
    refine rr rfl (s_icT (by decide)) ?_
    refine rr rfl (s_iconst (v := 1) (by decide)) ?_
    refine rr rfl (s_istore_n rfl) ?_
    refine rr rfl (s_iconst (v := 1) (by decide)) ?_
    refine rr rfl (s_istore_n rfl) ?_
    refine rr rfl (s_iload_n rfl) ?_
    refine rr rfl (s_ifF (by decide)) ?_
    refine rr rfl (s_iload_n rfl) ?_
    refine rr rfl (s_ifF (by decide)) ?_
    refine rr rfl (s_iconst (v := 0) (by decide)) ?_
    refine rr rfl (s_istore_n rfl) ?_
    refine rr rfl (s_iconst (v := 0) (by decide)) ?_
    refine rr rfl (s_istore_n rfl) ?_
    refine rr rfl (s_iload_n rfl) ?_
    refine rr rfl (s_aload_n rfl) ?_
    refine rr rfl (s_getf rfl rfl) ?_
    refine rr rfl (s_icF (by decide)) ?_
    refine rr rfl (s_iconst (v := 0) (by decide)) ?_
    refine rr rfl (s_istore rfl) ?_
    refine rr rfl (s_aload_n rfl) ?_
    refine rr rfl (s_getf rfl rfl) ?_
    refine rr rfl (s_iload_n rfl) ?_
    refine rr rfl (s_iaload (j := 0) rfl rfl rfl) ?_
    refine rr rfl (s_ifF (ic_nne g1)) ?_
    refine rr rfl (s_aload_n rfl) ?_
    refine rr rfl (s_getf rfl rfl) ?_
    refine rr rfl (s_aload_n rfl) ?_
    refine rr rfl (s_getf rfl rfl) ?_
    refine rr rfl (s_iload_n rfl) ?_
    refine rr rfl (s_iaload (j := 0) rfl rfl rfl) ?_
    refine rr rfl (s_ialdR (n := 8) (x := 0) rfl g2 g3) ?_
    refine rr rfl (s_istore rfl) ?_
    refine rr rfl (s_aload_n rfl) ?_
    refine rr rfl (s_getf rfl rfl) ?_
    refine rr rfl (s_iload_n rfl) ?_
    refine rr rfl (s_iaload (j := 0) rfl rfl rfl) ?_
    refine rr rfl (s_iconst (v := (-1)) (by decide)) ?_
    refine rr rfl (s_icT (ic_eq g4)) ?_
    refine rr rfl (s_iload rfl) ?_
    refine rr rfl (s_istore rfl) ?_
    refine rr rfl (s_aload_n rfl) ?_
    refine rr rfl (s_getf rfl rfl) ?_
    refine rr rfl (s_iload_n rfl) ?_
    refine rr rfl (s_iaload (j := 0) rfl rfl rfl) ?_
    refine rr rfl (s_iconst (v := (-1)) (by decide)) ?_
    refine rr rfl (s_icF (ic_neq g5)) ?_
    refine rr rfl (s_aload_n rfl) ?_
    refine rr rfl (s_getf rfl rfl) ?_
    refine rr rfl (s_aload_n rfl) ?_
    refine rr rfl (s_getf rfl rfl) ?_
    refine rr rfl (s_iload_n rfl) ?_
    refine rr rfl (s_iaload (j := 0) rfl rfl rfl) ?_
    refine rr rfl (s_ialdR (n := 8) (x := 0) rfl g6 g7) ?_
    refine rr rfl (s_iconst (v := 1) (by decide)) ?_
    refine rr rfl (s_iadd (v := 1) (by decide)) ?_
    refine rr rfl (s_iload rfl) ?_
    refine rr rfl (s_icF (by decide)) ?_
    refine rr rfl (s_aload_n rfl) ?_
    refine rr rfl (s_getf rfl rfl) ?_
    refine rr rfl (s_aload_n rfl) ?_
    refine rr rfl (s_getf rfl rfl) ?_
    refine rr rfl (s_iload_n rfl) ?_
    refine rr rfl (s_iaload (j := 0) rfl rfl rfl) ?_
    refine rr rfl (s_ialdR (n := 8) (x := 0) rfl g6 g7) ?_
    refine rr rfl (s_iconst (v := 1) (by decide)) ?_
    refine rr rfl (s_iadd (v := 1) (by decide)) ?_
    refine rr rfl s_goto ?_
    refine rr rfl (s_istore rfl) ?_
    refine rr rfl (s_iload rfl) ?_
    refine rr rfl (s_aload_n rfl) ?_
    refine rr rfl (s_getf rfl rfl) ?_
    refine rr rfl (s_aload_n rfl) ?_
    refine rr rfl (s_getf rfl rfl) ?_
    refine rr rfl (s_iload_n rfl) ?_
    refine rr rfl (s_iaload (j := 0) rfl rfl rfl) ?_
    refine rr rfl (s_ialdR (n := 8) (x := 0) rfl g8 g9) ?_
    refine rr rfl (s_icF (by decide)) ?_
    refine rr rfl (s_aload_n rfl) ?_
    refine rr rfl (s_getf rfl rfl) ?_
    refine rr rfl (s_aload_n rfl) ?_
    refine rr rfl (s_getf rfl rfl) ?_
    refine rr rfl (s_iload_n rfl) ?_
    refine rr rfl (s_iaload (j := 0) rfl rfl rfl) ?_
    refine rr rfl (s_iload rfl) ?_
    refine rr rfl (s_iastR (n := 8) rfl g8 g9 (Nat.le_of_ble_eq_true rfl) rfl (h' := (((((((((((((((hF.set 3 (.inr (.inr (0, [.int 1, .ref 62, .int 1])))).set 4 (.inl ((List.replicate 8 (0 : Int32)).set (Int32.toNatClampNeg x3) 1))).set 5 (.inl ((List.replicate 8 (0 : Int32)).set (Int32.toNatClampNeg x3) 1))).set 6 (.inr (.inr (6, [.ref 2, .ref 7, .ref 8, .ref 9, .int 1])))).set 41 (.inr (.inr (9, [.int 4, .int 1, .ref 42, .ref 43, .ref 44, .ref 45, .ref 46, .ref 47, .ref 48, .ref 49, .ref 50, .ref 51, .int 0, .int 0, .int 0, .int 0, .int 0, .int 0, .int 0, .int 0, .ref 52, .int 0, .ref 53, .int 0, .ref 54, .int 0, .ref 55, .ref 56, .ref 57, .ref 58, .int 0, .ref 59, .ref 60])))).set 42 (.inl [x1, 0, 0, 0, 0, 0, 0, 0, 0, 0, 0, 0, 0])).set 43 (.inl [x2, 0, 0, 0, 0, 0, 0, 0, 0, 0, 0, 0, 0])).set 44 (.inl [x3, 0, 0, 0, 0, 0, 0, 0, 0, 0, 0, 0, 0])).set 45 (.inl [x4, 0, 0, 0, 0, 0, 0, 0, 0, 0, 0, 0, 0])).set 46 (.inl [x5, 0, 0, 0, 0, 0, 0, 0, 0, 0, 0, 0, 0])).set 47 (.inl [x6, 0, 0, 0, 0, 0, 0, 0, 0, 0, 0, 0, 0])).set 48 (.inl [x7, 0, 0, 0, 0, 0, 0, 0, 0, 0, 0, 0, 0])).set 49 (.inl [(-1), 0, 0, 0, 0, 0, 0, 0, 0, 0, 0, 0, 0])).set 51 (.inl ((List.replicate 8 (0 : Int32)).set (Int32.toNatClampNeg x3) 1))) ++ [.inr (.inr (2, [.int x1, .int x2, .int x3, .int x4, .int x4, .int x6, .int x7, .int ((1 <<< (x4 &&& 31) : Int32) ||| (1 <<< (x4 &&& 31) : Int32)), .int (1 <<< (x6 &&& 31) : Int32), .int (-1)])), .inr (.inl [some 61, none, none, none, none, none, none, none, none, none])]))) ?_
    refine rr rfl (s_iconst (v := 1) (by decide)) ?_
    refine rr rfl (s_istore_n rfl) ?_
    refine rr rfl (s_iload_n rfl) ?_
    refine rr rfl (s_ifF (by decide)) ?_
    refine rr rfl (s_iload rfl) ?_
    refine rr rfl (s_bipush (v := 8) (by decide)) ?_
    refine rr rfl (s_icF (by decide)) ?_
    refine rr rfl (s_iconst (v := 1) (by decide)) ?_
    refine rr rfl s_goto ?_
    refine rr rfl (s_istore_n rfl) ?_
    refine rr rfl (s_iinc (v := 1) rfl (by decide) rfl) ?_
    refine rr rfl s_goto ?_
    refine rr rfl (s_iload_n rfl) ?_
    refine rr rfl (s_aload_n rfl) ?_
    refine rr rfl (s_getf rfl rfl) ?_
    refine rr rfl (s_icT (by decide)) ?_
    refine rr rfl s_goto ?_
    refine rr rfl (s_iload_n rfl) ?_
    refine rr rfl (s_ifF (by decide)) ?_
    refine rr rfl (s_iload_n rfl) ?_
    refine rr rfl (s_ifF (by decide)) ?_
    refine rr rfl (s_iconst (v := 0) (by decide)) ?_
    refine rr rfl (s_istore_n rfl) ?_
    refine rr rfl (s_iconst (v := 0) (by decide)) ?_
    refine rr rfl (s_istore_n rfl) ?_
    refine rr rfl (s_iload_n rfl) ?_
    refine rr rfl (s_aload_n rfl) ?_
    refine rr rfl (s_getf rfl rfl) ?_
    refine rr rfl (s_icF (by decide)) ?_
    refine rr rfl (s_iconst (v := 0) (by decide)) ?_
    refine rr rfl (s_istore rfl) ?_
    refine rr rfl (s_aload_n rfl) ?_
    refine rr rfl (s_getf rfl rfl) ?_
    refine rr rfl (s_iload_n rfl) ?_
    refine rr rfl (s_iaload (j := 0) rfl rfl rfl) ?_
    refine rr rfl (s_ifF (ic_nne g1)) ?_
    refine rr rfl (s_aload_n rfl) ?_
    refine rr rfl (s_getf rfl rfl) ?_
    refine rr rfl (s_aload_n rfl) ?_
    refine rr rfl (s_getf rfl rfl) ?_
    refine rr rfl (s_iload_n rfl) ?_
    refine rr rfl (s_iaload (j := 0) rfl rfl rfl) ?_
    refine rr rfl (s_ialdN rfl g10 g2 g3 g8) ?_
    refine rr rfl (s_istore rfl) ?_
    refine rr rfl (s_aload_n rfl) ?_
    refine rr rfl (s_getf rfl rfl) ?_
    refine rr rfl (s_iload_n rfl) ?_
    refine rr rfl (s_iaload (j := 0) rfl rfl rfl) ?_
    refine rr rfl (s_iconst (v := (-1)) (by decide)) ?_
    refine rr rfl (s_icT (ic_eq g4)) ?_
    refine rr rfl (s_iload rfl) ?_
    refine rr rfl (s_istore rfl) ?_
    refine rr rfl (s_aload_n rfl) ?_
    refine rr rfl (s_getf rfl rfl) ?_
    refine rr rfl (s_iload_n rfl) ?_
    refine rr rfl (s_iaload (j := 0) rfl rfl rfl) ?_
    refine rr rfl (s_iconst (v := (-1)) (by decide)) ?_
    refine rr rfl (s_icF (ic_neq g5)) ?_
    refine rr rfl (s_aload_n rfl) ?_
    refine rr rfl (s_getf rfl rfl) ?_
    refine rr rfl (s_aload_n rfl) ?_
    refine rr rfl (s_getf rfl rfl) ?_
    refine rr rfl (s_iload_n rfl) ?_
    refine rr rfl (s_iaload (j := 0) rfl rfl rfl) ?_
    refine rr rfl (s_ialdN rfl g11 g6 g7 g8) ?_
    refine rr rfl (s_iconst (v := 1) (by decide)) ?_
    refine rr rfl (s_iadd (v := 1) (by decide)) ?_
    refine rr rfl (s_iload rfl) ?_
    refine rr rfl (s_icF (by decide)) ?_
    refine rr rfl (s_aload_n rfl) ?_
    refine rr rfl (s_getf rfl rfl) ?_
    refine rr rfl (s_aload_n rfl) ?_
    refine rr rfl (s_getf rfl rfl) ?_
    refine rr rfl (s_iload_n rfl) ?_
    refine rr rfl (s_iaload (j := 0) rfl rfl rfl) ?_
    refine rr rfl (s_ialdN rfl g11 g6 g7 g8) ?_
    refine rr rfl (s_iconst (v := 1) (by decide)) ?_
    refine rr rfl (s_iadd (v := 1) (by decide)) ?_
    refine rr rfl s_goto ?_
    refine rr rfl (s_istore rfl) ?_
    refine rr rfl (s_iload rfl) ?_
    refine rr rfl (s_aload_n rfl) ?_
    refine rr rfl (s_getf rfl rfl) ?_
    refine rr rfl (s_aload_n rfl) ?_
    refine rr rfl (s_getf rfl rfl) ?_
    refine rr rfl (s_iload_n rfl) ?_
    refine rr rfl (s_iaload (j := 0) rfl rfl rfl) ?_
    refine rr rfl (s_ialdH rfl rfl g8 g9) ?_
    refine rr rfl (s_icT (by decide)) ?_
    refine rr rfl (s_iinc (v := 1) rfl (by decide) rfl) ?_
    refine rr rfl s_goto ?_
    refine rr rfl (s_iload_n rfl) ?_
    refine rr rfl (s_aload_n rfl) ?_
    refine rr rfl (s_getf rfl rfl) ?_
    refine rr rfl (s_icT (by decide)) ?_
    refine rr rfl s_goto ?_
    refine rr rfl (s_iload_n rfl) ?_
    refine rr rfl (s_ifT (by decide)) ?_
    refine rr rfl (s_iload_n rfl) ?_
    exact rrt rfl rfl rfl rfl
  refine rrc rfl rfl rfl (do_of g_X9_lays rfl rfl e2) ?_
  refine rr rfl (s_istore rfl) ?_
  refine rr rfl (s_iload rfl) ?_
  refine rr rfl (s_ifF (by decide)) ?_
  refine rr rfl (s_aload_n rfl) ?_
  refine rr rfl (s_getf rfl rfl) ?_
  refine rr rfl (s_bipush (v := 12) (by decide)) ?_
  refine rr rfl (s_icT (by decide)) ?_
  refine rr rfl (s_aload_n rfl) ?_
  refine rr rfl (s_getf rfl rfl) ?_
  refine rr rfl (s_iconst (v := 1) (by decide)) ?_
  refine rr rfl (s_isub (v := 0) (by decide)) ?_
  exact rrt rfl rfl rfl rfl
set_option maxHeartbeats 4000000 in
set_option maxRecDepth 10000 in
theorem rm_Nooo {x1 x2 x3 x4 x5 x6 x7 : Int32} (g1 : x2 = 0) (g2 : ¬ x4 < 0) (g3 : x4 < nI 8) (g4 : ¬ x5 = (-1)) (g5 : ¬ x5 < 0) (g6 : x5 < nI 8) (g7 : ¬ x6 = (-1)) (g8 : ¬ x6 < 0) (g9 : x6 < nI 8) (g10 : ¬ x3 < 0) (g11 : x3 < nI 8) (g12 : ¬ x4 = x3) (g13 : ¬ x5 = x3) (g14 : ¬ x6 = x3) : a_run MT [] (a_m MT [] 100000 10) 11 (some .int) tabX9_rule 90000 95 (alQ x1 x2 x3 x4 x5 x6 x7) [] (((((hF.set 3 (.inr (.inr (0, [.int 1, .ref 62, .int 1])))).set 4 (.inl ((List.replicate 8 (0 : Int32)).set (Int32.toNatClampNeg x3) 1))).set 5 (.inl ((List.replicate 8 (0 : Int32)).set (Int32.toNatClampNeg x3) 1))).set 6 (.inr (.inr (6, [.ref 2, .ref 7, .ref 8, .ref 9, .int 1])))) ++ [.inr (.inr (2, [.int x1, .int x2, .int x3, .int x4, .int x5, .int x6, .int x7, .int ((1 <<< (x4 &&& 31) : Int32) ||| (1 <<< (x5 &&& 31) : Int32)), .int (1 <<< (x6 &&& 31) : Int32), .int (-1)])), .inr (.inl [some 61, none, none, none, none, none, none, none, none, none])]) 0 0 = some (some (.int 0), (((((((((((((((hF.set 3 (.inr (.inr (0, [.int 1, .ref 62, .int 1])))).set 4 (.inl ((List.replicate 8 (0 : Int32)).set (Int32.toNatClampNeg x3) 1))).set 5 (.inl ((List.replicate 8 (0 : Int32)).set (Int32.toNatClampNeg x3) 1))).set 6 (.inr (.inr (6, [.ref 2, .ref 7, .ref 8, .ref 9, .int 1])))).set 41 (.inr (.inr (9, [.int 4, .int 1, .ref 42, .ref 43, .ref 44, .ref 45, .ref 46, .ref 47, .ref 48, .ref 49, .ref 50, .ref 51, .int 0, .int 0, .int 0, .int 0, .int 0, .int 0, .int 0, .int 0, .ref 52, .int 0, .ref 53, .int 0, .ref 54, .int 0, .ref 55, .ref 56, .ref 57, .ref 58, .int 0, .ref 59, .ref 60])))).set 42 (.inl [x1, 0, 0, 0, 0, 0, 0, 0, 0, 0, 0, 0, 0])).set 43 (.inl [x2, 0, 0, 0, 0, 0, 0, 0, 0, 0, 0, 0, 0])).set 44 (.inl [x3, 0, 0, 0, 0, 0, 0, 0, 0, 0, 0, 0, 0])).set 45 (.inl [x4, 0, 0, 0, 0, 0, 0, 0, 0, 0, 0, 0, 0])).set 46 (.inl [x5, 0, 0, 0, 0, 0, 0, 0, 0, 0, 0, 0, 0])).set 47 (.inl [x6, 0, 0, 0, 0, 0, 0, 0, 0, 0, 0, 0, 0])).set 48 (.inl [x7, 0, 0, 0, 0, 0, 0, 0, 0, 0, 0, 0, 0])).set 49 (.inl [(-1), 0, 0, 0, 0, 0, 0, 0, 0, 0, 0, 0, 0])).set 51 (.inl ((List.replicate 8 (0 : Int32)).set (Int32.toNatClampNeg x3) 1))) ++ [.inr (.inr (2, [.int x1, .int x2, .int x3, .int x4, .int x5, .int x6, .int x7, .int ((1 <<< (x4 &&& 31) : Int32) ||| (1 <<< (x5 &&& 31) : Int32)), .int (1 <<< (x6 &&& 31) : Int32), .int (-1)])), .inr (.inl [some 61, none, none, none, none, none, none, none, none, none])]), 0, 0) := by
  refine rr rfl (s_aload_n rfl) ?_
  refine rr rfl (s_aload_n rfl) ?_
  refine rr rfl (s_getf rfl rfl) ?_
  refine rr rfl (s_iload_n rfl) ?_
  refine rr rfl (s_iload_n rfl) ?_
  refine rr rfl (s_iload_n rfl) ?_
  refine rr rfl (s_iload rfl) ?_
  refine rr rfl (s_iload rfl) ?_
  refine rr rfl (s_iload rfl) ?_
  refine rr rfl (s_iload rfl) ?_
  have e1 : a_m MT [] 100000 10 miX9_sets [.ref 41, .int 0, .int x1, .int x2, .int x3, .int x4, .int x5, .int x6, .int x7] (((((hF.set 3 (.inr (.inr (0, [.int 1, .ref 62, .int 1])))).set 4 (.inl ((List.replicate 8 (0 : Int32)).set (Int32.toNatClampNeg x3) 1))).set 5 (.inl ((List.replicate 8 (0 : Int32)).set (Int32.toNatClampNeg x3) 1))).set 6 (.inr (.inr (6, [.ref 2, .ref 7, .ref 8, .ref 9, .int 1])))) ++ [.inr (.inr (2, [.int x1, .int x2, .int x3, .int x4, .int x5, .int x6, .int x7, .int ((1 <<< (x4 &&& 31) : Int32) ||| (1 <<< (x5 &&& 31) : Int32)), .int (1 <<< (x6 &&& 31) : Int32), .int (-1)])), .inr (.inl [some 61, none, none, none, none, none, none, none, none, none])]) = some (none, (((((((((((((hF.set 3 (.inr (.inr (0, [.int 1, .ref 62, .int 1])))).set 4 (.inl ((List.replicate 8 (0 : Int32)).set (Int32.toNatClampNeg x3) 1))).set 5 (.inl ((List.replicate 8 (0 : Int32)).set (Int32.toNatClampNeg x3) 1))).set 6 (.inr (.inr (6, [.ref 2, .ref 7, .ref 8, .ref 9, .int 1])))).set 42 (.inl [x1, 0, 0, 0, 0, 0, 0, 0, 0, 0, 0, 0, 0])).set 43 (.inl [x2, 0, 0, 0, 0, 0, 0, 0, 0, 0, 0, 0, 0])).set 44 (.inl [x3, 0, 0, 0, 0, 0, 0, 0, 0, 0, 0, 0, 0])).set 45 (.inl [x4, 0, 0, 0, 0, 0, 0, 0, 0, 0, 0, 0, 0])).set 46 (.inl [x5, 0, 0, 0, 0, 0, 0, 0, 0, 0, 0, 0, 0])).set 47 (.inl [x6, 0, 0, 0, 0, 0, 0, 0, 0, 0, 0, 0, 0])).set 48 (.inl [x7, 0, 0, 0, 0, 0, 0, 0, 0, 0, 0, 0, 0])).set 49 (.inl [(-1), 0, 0, 0, 0, 0, 0, 0, 0, 0, 0, 0, 0])) ++ [.inr (.inr (2, [.int x1, .int x2, .int x3, .int x4, .int x5, .int x6, .int x7, .int ((1 <<< (x4 &&& 31) : Int32) ||| (1 <<< (x5 &&& 31) : Int32)), .int (1 <<< (x6 &&& 31) : Int32), .int (-1)])), .inr (.inl [some 61, none, none, none, none, none, none, none, none, none])]), 0, 0) := by
    refine me (d := 9) g_X9_sets (Nat.le_of_ble_eq_true rfl) ?_
    refine rr rfl (s_aload_n rfl) ?_
    refine rr rfl (s_getf rfl rfl) ?_
    refine rr rfl (s_iload_n rfl) ?_
    refine rr rfl (s_iload_n rfl) ?_
    refine rr rfl (s_iastore (j := 0) (f' := [x1, 0, 0, 0, 0, 0, 0, 0, 0, 0, 0, 0, 0]) rfl rfl (Nat.le_of_ble_eq_true rfl) rfl (Nat.le_of_ble_eq_true rfl) rfl (h' := ((((((hF.set 3 (.inr (.inr (0, [.int 1, .ref 62, .int 1])))).set 4 (.inl ((List.replicate 8 (0 : Int32)).set (Int32.toNatClampNeg x3) 1))).set 5 (.inl ((List.replicate 8 (0 : Int32)).set (Int32.toNatClampNeg x3) 1))).set 6 (.inr (.inr (6, [.ref 2, .ref 7, .ref 8, .ref 9, .int 1])))).set 42 (.inl [x1, 0, 0, 0, 0, 0, 0, 0, 0, 0, 0, 0, 0])) ++ [.inr (.inr (2, [.int x1, .int x2, .int x3, .int x4, .int x5, .int x6, .int x7, .int ((1 <<< (x4 &&& 31) : Int32) ||| (1 <<< (x5 &&& 31) : Int32)), .int (1 <<< (x6 &&& 31) : Int32), .int (-1)])), .inr (.inl [some 61, none, none, none, none, none, none, none, none, none])]))) ?_
    refine rr rfl (s_aload_n rfl) ?_
    refine rr rfl (s_getf rfl rfl) ?_
    refine rr rfl (s_iload_n rfl) ?_
    refine rr rfl (s_iload_n rfl) ?_
    refine rr rfl (s_iastore (j := 0) (f' := [x2, 0, 0, 0, 0, 0, 0, 0, 0, 0, 0, 0, 0]) rfl rfl (Nat.le_of_ble_eq_true rfl) rfl (Nat.le_of_ble_eq_true rfl) rfl (h' := (((((((hF.set 3 (.inr (.inr (0, [.int 1, .ref 62, .int 1])))).set 4 (.inl ((List.replicate 8 (0 : Int32)).set (Int32.toNatClampNeg x3) 1))).set 5 (.inl ((List.replicate 8 (0 : Int32)).set (Int32.toNatClampNeg x3) 1))).set 6 (.inr (.inr (6, [.ref 2, .ref 7, .ref 8, .ref 9, .int 1])))).set 42 (.inl [x1, 0, 0, 0, 0, 0, 0, 0, 0, 0, 0, 0, 0])).set 43 (.inl [x2, 0, 0, 0, 0, 0, 0, 0, 0, 0, 0, 0, 0])) ++ [.inr (.inr (2, [.int x1, .int x2, .int x3, .int x4, .int x5, .int x6, .int x7, .int ((1 <<< (x4 &&& 31) : Int32) ||| (1 <<< (x5 &&& 31) : Int32)), .int (1 <<< (x6 &&& 31) : Int32), .int (-1)])), .inr (.inl [some 61, none, none, none, none, none, none, none, none, none])]))) ?_
    refine rr rfl (s_aload_n rfl) ?_
    refine rr rfl (s_getf rfl rfl) ?_
    refine rr rfl (s_iload_n rfl) ?_
    refine rr rfl (s_iload rfl) ?_
    refine rr rfl (s_iastore (j := 0) (f' := [x3, 0, 0, 0, 0, 0, 0, 0, 0, 0, 0, 0, 0]) rfl rfl (Nat.le_of_ble_eq_true rfl) rfl (Nat.le_of_ble_eq_true rfl) rfl (h' := ((((((((hF.set 3 (.inr (.inr (0, [.int 1, .ref 62, .int 1])))).set 4 (.inl ((List.replicate 8 (0 : Int32)).set (Int32.toNatClampNeg x3) 1))).set 5 (.inl ((List.replicate 8 (0 : Int32)).set (Int32.toNatClampNeg x3) 1))).set 6 (.inr (.inr (6, [.ref 2, .ref 7, .ref 8, .ref 9, .int 1])))).set 42 (.inl [x1, 0, 0, 0, 0, 0, 0, 0, 0, 0, 0, 0, 0])).set 43 (.inl [x2, 0, 0, 0, 0, 0, 0, 0, 0, 0, 0, 0, 0])).set 44 (.inl [x3, 0, 0, 0, 0, 0, 0, 0, 0, 0, 0, 0, 0])) ++ [.inr (.inr (2, [.int x1, .int x2, .int x3, .int x4, .int x5, .int x6, .int x7, .int ((1 <<< (x4 &&& 31) : Int32) ||| (1 <<< (x5 &&& 31) : Int32)), .int (1 <<< (x6 &&& 31) : Int32), .int (-1)])), .inr (.inl [some 61, none, none, none, none, none, none, none, none, none])]))) ?_
    refine rr rfl (s_aload_n rfl) ?_
    refine rr rfl (s_getf rfl rfl) ?_
    refine rr rfl (s_iload_n rfl) ?_
    refine rr rfl (s_iload rfl) ?_
    refine rr rfl (s_iastore (j := 0) (f' := [x4, 0, 0, 0, 0, 0, 0, 0, 0, 0, 0, 0, 0]) rfl rfl (Nat.le_of_ble_eq_true rfl) rfl (Nat.le_of_ble_eq_true rfl) rfl (h' := (((((((((hF.set 3 (.inr (.inr (0, [.int 1, .ref 62, .int 1])))).set 4 (.inl ((List.replicate 8 (0 : Int32)).set (Int32.toNatClampNeg x3) 1))).set 5 (.inl ((List.replicate 8 (0 : Int32)).set (Int32.toNatClampNeg x3) 1))).set 6 (.inr (.inr (6, [.ref 2, .ref 7, .ref 8, .ref 9, .int 1])))).set 42 (.inl [x1, 0, 0, 0, 0, 0, 0, 0, 0, 0, 0, 0, 0])).set 43 (.inl [x2, 0, 0, 0, 0, 0, 0, 0, 0, 0, 0, 0, 0])).set 44 (.inl [x3, 0, 0, 0, 0, 0, 0, 0, 0, 0, 0, 0, 0])).set 45 (.inl [x4, 0, 0, 0, 0, 0, 0, 0, 0, 0, 0, 0, 0])) ++ [.inr (.inr (2, [.int x1, .int x2, .int x3, .int x4, .int x5, .int x6, .int x7, .int ((1 <<< (x4 &&& 31) : Int32) ||| (1 <<< (x5 &&& 31) : Int32)), .int (1 <<< (x6 &&& 31) : Int32), .int (-1)])), .inr (.inl [some 61, none, none, none, none, none, none, none, none, none])]))) ?_
    refine rr rfl (s_aload_n rfl) ?_
    refine rr rfl (s_getf rfl rfl) ?_
    refine rr rfl (s_iload_n rfl) ?_
    refine rr rfl (s_iload rfl) ?_
    refine rr rfl (s_iastore (j := 0) (f' := [x5, 0, 0, 0, 0, 0, 0, 0, 0, 0, 0, 0, 0]) rfl rfl (Nat.le_of_ble_eq_true rfl) rfl (Nat.le_of_ble_eq_true rfl) rfl (h' := ((((((((((hF.set 3 (.inr (.inr (0, [.int 1, .ref 62, .int 1])))).set 4 (.inl ((List.replicate 8 (0 : Int32)).set (Int32.toNatClampNeg x3) 1))).set 5 (.inl ((List.replicate 8 (0 : Int32)).set (Int32.toNatClampNeg x3) 1))).set 6 (.inr (.inr (6, [.ref 2, .ref 7, .ref 8, .ref 9, .int 1])))).set 42 (.inl [x1, 0, 0, 0, 0, 0, 0, 0, 0, 0, 0, 0, 0])).set 43 (.inl [x2, 0, 0, 0, 0, 0, 0, 0, 0, 0, 0, 0, 0])).set 44 (.inl [x3, 0, 0, 0, 0, 0, 0, 0, 0, 0, 0, 0, 0])).set 45 (.inl [x4, 0, 0, 0, 0, 0, 0, 0, 0, 0, 0, 0, 0])).set 46 (.inl [x5, 0, 0, 0, 0, 0, 0, 0, 0, 0, 0, 0, 0])) ++ [.inr (.inr (2, [.int x1, .int x2, .int x3, .int x4, .int x5, .int x6, .int x7, .int ((1 <<< (x4 &&& 31) : Int32) ||| (1 <<< (x5 &&& 31) : Int32)), .int (1 <<< (x6 &&& 31) : Int32), .int (-1)])), .inr (.inl [some 61, none, none, none, none, none, none, none, none, none])]))) ?_
    refine rr rfl (s_aload_n rfl) ?_
    refine rr rfl (s_getf rfl rfl) ?_
    refine rr rfl (s_iload_n rfl) ?_
    refine rr rfl (s_iload rfl) ?_
    refine rr rfl (s_iastore (j := 0) (f' := [x6, 0, 0, 0, 0, 0, 0, 0, 0, 0, 0, 0, 0]) rfl rfl (Nat.le_of_ble_eq_true rfl) rfl (Nat.le_of_ble_eq_true rfl) rfl (h' := (((((((((((hF.set 3 (.inr (.inr (0, [.int 1, .ref 62, .int 1])))).set 4 (.inl ((List.replicate 8 (0 : Int32)).set (Int32.toNatClampNeg x3) 1))).set 5 (.inl ((List.replicate 8 (0 : Int32)).set (Int32.toNatClampNeg x3) 1))).set 6 (.inr (.inr (6, [.ref 2, .ref 7, .ref 8, .ref 9, .int 1])))).set 42 (.inl [x1, 0, 0, 0, 0, 0, 0, 0, 0, 0, 0, 0, 0])).set 43 (.inl [x2, 0, 0, 0, 0, 0, 0, 0, 0, 0, 0, 0, 0])).set 44 (.inl [x3, 0, 0, 0, 0, 0, 0, 0, 0, 0, 0, 0, 0])).set 45 (.inl [x4, 0, 0, 0, 0, 0, 0, 0, 0, 0, 0, 0, 0])).set 46 (.inl [x5, 0, 0, 0, 0, 0, 0, 0, 0, 0, 0, 0, 0])).set 47 (.inl [x6, 0, 0, 0, 0, 0, 0, 0, 0, 0, 0, 0, 0])) ++ [.inr (.inr (2, [.int x1, .int x2, .int x3, .int x4, .int x5, .int x6, .int x7, .int ((1 <<< (x4 &&& 31) : Int32) ||| (1 <<< (x5 &&& 31) : Int32)), .int (1 <<< (x6 &&& 31) : Int32), .int (-1)])), .inr (.inl [some 61, none, none, none, none, none, none, none, none, none])]))) ?_
    refine rr rfl (s_aload_n rfl) ?_
    refine rr rfl (s_getf rfl rfl) ?_
    refine rr rfl (s_iload_n rfl) ?_
    refine rr rfl (s_iload rfl) ?_
    refine rr rfl (s_iastore (j := 0) (f' := [x7, 0, 0, 0, 0, 0, 0, 0, 0, 0, 0, 0, 0]) rfl rfl (Nat.le_of_ble_eq_true rfl) rfl (Nat.le_of_ble_eq_true rfl) rfl (h' := ((((((((((((hF.set 3 (.inr (.inr (0, [.int 1, .ref 62, .int 1])))).set 4 (.inl ((List.replicate 8 (0 : Int32)).set (Int32.toNatClampNeg x3) 1))).set 5 (.inl ((List.replicate 8 (0 : Int32)).set (Int32.toNatClampNeg x3) 1))).set 6 (.inr (.inr (6, [.ref 2, .ref 7, .ref 8, .ref 9, .int 1])))).set 42 (.inl [x1, 0, 0, 0, 0, 0, 0, 0, 0, 0, 0, 0, 0])).set 43 (.inl [x2, 0, 0, 0, 0, 0, 0, 0, 0, 0, 0, 0, 0])).set 44 (.inl [x3, 0, 0, 0, 0, 0, 0, 0, 0, 0, 0, 0, 0])).set 45 (.inl [x4, 0, 0, 0, 0, 0, 0, 0, 0, 0, 0, 0, 0])).set 46 (.inl [x5, 0, 0, 0, 0, 0, 0, 0, 0, 0, 0, 0, 0])).set 47 (.inl [x6, 0, 0, 0, 0, 0, 0, 0, 0, 0, 0, 0, 0])).set 48 (.inl [x7, 0, 0, 0, 0, 0, 0, 0, 0, 0, 0, 0, 0])) ++ [.inr (.inr (2, [.int x1, .int x2, .int x3, .int x4, .int x5, .int x6, .int x7, .int ((1 <<< (x4 &&& 31) : Int32) ||| (1 <<< (x5 &&& 31) : Int32)), .int (1 <<< (x6 &&& 31) : Int32), .int (-1)])), .inr (.inl [some 61, none, none, none, none, none, none, none, none, none])]))) ?_
    refine rr rfl (s_aload_n rfl) ?_
    refine rr rfl (s_getf rfl rfl) ?_
    refine rr rfl (s_iload_n rfl) ?_
    refine rr rfl (s_iconst (v := (-1)) (by decide)) ?_
    refine rr rfl (s_iastore (j := 0) (f' := [(-1), 0, 0, 0, 0, 0, 0, 0, 0, 0, 0, 0, 0]) rfl rfl (Nat.le_of_ble_eq_true rfl) rfl (Nat.le_of_ble_eq_true rfl) rfl (h' := (((((((((((((hF.set 3 (.inr (.inr (0, [.int 1, .ref 62, .int 1])))).set 4 (.inl ((List.replicate 8 (0 : Int32)).set (Int32.toNatClampNeg x3) 1))).set 5 (.inl ((List.replicate 8 (0 : Int32)).set (Int32.toNatClampNeg x3) 1))).set 6 (.inr (.inr (6, [.ref 2, .ref 7, .ref 8, .ref 9, .int 1])))).set 42 (.inl [x1, 0, 0, 0, 0, 0, 0, 0, 0, 0, 0, 0, 0])).set 43 (.inl [x2, 0, 0, 0, 0, 0, 0, 0, 0, 0, 0, 0, 0])).set 44 (.inl [x3, 0, 0, 0, 0, 0, 0, 0, 0, 0, 0, 0, 0])).set 45 (.inl [x4, 0, 0, 0, 0, 0, 0, 0, 0, 0, 0, 0, 0])).set 46 (.inl [x5, 0, 0, 0, 0, 0, 0, 0, 0, 0, 0, 0, 0])).set 47 (.inl [x6, 0, 0, 0, 0, 0, 0, 0, 0, 0, 0, 0, 0])).set 48 (.inl [x7, 0, 0, 0, 0, 0, 0, 0, 0, 0, 0, 0, 0])).set 49 (.inl [(-1), 0, 0, 0, 0, 0, 0, 0, 0, 0, 0, 0, 0])) ++ [.inr (.inr (2, [.int x1, .int x2, .int x3, .int x4, .int x5, .int x6, .int x7, .int ((1 <<< (x4 &&& 31) : Int32) ||| (1 <<< (x5 &&& 31) : Int32)), .int (1 <<< (x6 &&& 31) : Int32), .int (-1)])), .inr (.inl [some 61, none, none, none, none, none, none, none, none, none])]))) ?_
    exact rrt rfl rfl rfl rfl
  refine rrc rfl rfl rfl (do_of g_X9_sets rfl rfl e1) ?_
  refine rr rfl (s_aload_n rfl) ?_
  refine rr rfl rfl ?_
  refine rr rfl (s_getf rfl rfl) ?_
  refine rr rfl (s_iconst (v := 1) (by decide)) ?_
  refine rr rfl (s_iadd (v := 1) (by decide)) ?_
  refine rr rfl (s_putf rfl rfl (Nat.le_of_ble_eq_true rfl) rfl (Nat.le_of_ble_eq_true rfl) rfl (h' := ((((((((((((((hF.set 3 (.inr (.inr (0, [.int 1, .ref 62, .int 1])))).set 4 (.inl ((List.replicate 8 (0 : Int32)).set (Int32.toNatClampNeg x3) 1))).set 5 (.inl ((List.replicate 8 (0 : Int32)).set (Int32.toNatClampNeg x3) 1))).set 6 (.inr (.inr (6, [.ref 2, .ref 7, .ref 8, .ref 9, .int 1])))).set 41 (.inr (.inr (9, [.int 4, .int 1, .ref 42, .ref 43, .ref 44, .ref 45, .ref 46, .ref 47, .ref 48, .ref 49, .ref 50, .ref 51, .int 0, .int 0, .int 0, .int 0, .int 0, .int 0, .int 0, .int 0, .ref 52, .int 0, .ref 53, .int 0, .ref 54, .int 0, .ref 55, .ref 56, .ref 57, .ref 58, .int 0, .ref 59, .ref 60])))).set 42 (.inl [x1, 0, 0, 0, 0, 0, 0, 0, 0, 0, 0, 0, 0])).set 43 (.inl [x2, 0, 0, 0, 0, 0, 0, 0, 0, 0, 0, 0, 0])).set 44 (.inl [x3, 0, 0, 0, 0, 0, 0, 0, 0, 0, 0, 0, 0])).set 45 (.inl [x4, 0, 0, 0, 0, 0, 0, 0, 0, 0, 0, 0, 0])).set 46 (.inl [x5, 0, 0, 0, 0, 0, 0, 0, 0, 0, 0, 0, 0])).set 47 (.inl [x6, 0, 0, 0, 0, 0, 0, 0, 0, 0, 0, 0, 0])).set 48 (.inl [x7, 0, 0, 0, 0, 0, 0, 0, 0, 0, 0, 0, 0])).set 49 (.inl [(-1), 0, 0, 0, 0, 0, 0, 0, 0, 0, 0, 0, 0])) ++ [.inr (.inr (2, [.int x1, .int x2, .int x3, .int x4, .int x5, .int x6, .int x7, .int ((1 <<< (x4 &&& 31) : Int32) ||| (1 <<< (x5 &&& 31) : Int32)), .int (1 <<< (x6 &&& 31) : Int32), .int (-1)])), .inr (.inl [some 61, none, none, none, none, none, none, none, none, none])]))) ?_
  refine rr rfl (s_aload_n rfl) ?_
  have e2 : a_m MT [] 100000 10 miX9_lays [.ref 41] ((((((((((((((hF.set 3 (.inr (.inr (0, [.int 1, .ref 62, .int 1])))).set 4 (.inl ((List.replicate 8 (0 : Int32)).set (Int32.toNatClampNeg x3) 1))).set 5 (.inl ((List.replicate 8 (0 : Int32)).set (Int32.toNatClampNeg x3) 1))).set 6 (.inr (.inr (6, [.ref 2, .ref 7, .ref 8, .ref 9, .int 1])))).set 41 (.inr (.inr (9, [.int 4, .int 1, .ref 42, .ref 43, .ref 44, .ref 45, .ref 46, .ref 47, .ref 48, .ref 49, .ref 50, .ref 51, .int 0, .int 0, .int 0, .int 0, .int 0, .int 0, .int 0, .int 0, .ref 52, .int 0, .ref 53, .int 0, .ref 54, .int 0, .ref 55, .ref 56, .ref 57, .ref 58, .int 0, .ref 59, .ref 60])))).set 42 (.inl [x1, 0, 0, 0, 0, 0, 0, 0, 0, 0, 0, 0, 0])).set 43 (.inl [x2, 0, 0, 0, 0, 0, 0, 0, 0, 0, 0, 0, 0])).set 44 (.inl [x3, 0, 0, 0, 0, 0, 0, 0, 0, 0, 0, 0, 0])).set 45 (.inl [x4, 0, 0, 0, 0, 0, 0, 0, 0, 0, 0, 0, 0])).set 46 (.inl [x5, 0, 0, 0, 0, 0, 0, 0, 0, 0, 0, 0, 0])).set 47 (.inl [x6, 0, 0, 0, 0, 0, 0, 0, 0, 0, 0, 0, 0])).set 48 (.inl [x7, 0, 0, 0, 0, 0, 0, 0, 0, 0, 0, 0, 0])).set 49 (.inl [(-1), 0, 0, 0, 0, 0, 0, 0, 0, 0, 0, 0, 0])) ++ [.inr (.inr (2, [.int x1, .int x2, .int x3, .int x4, .int x5, .int x6, .int x7, .int ((1 <<< (x4 &&& 31) : Int32) ||| (1 <<< (x5 &&& 31) : Int32)), .int (1 <<< (x6 &&& 31) : Int32), .int (-1)])), .inr (.inl [some 61, none, none, none, none, none, none, none, none, none])]) = some ((some (.int 1)), (((((((((((((((hF.set 3 (.inr (.inr (0, [.int 1, .ref 62, .int 1])))).set 4 (.inl ((List.replicate 8 (0 : Int32)).set (Int32.toNatClampNeg x3) 1))).set 5 (.inl ((List.replicate 8 (0 : Int32)).set (Int32.toNatClampNeg x3) 1))).set 6 (.inr (.inr (6, [.ref 2, .ref 7, .ref 8, .ref 9, .int 1])))).set 41 (.inr (.inr (9, [.int 4, .int 1, .ref 42, .ref 43, .ref 44, .ref 45, .ref 46, .ref 47, .ref 48, .ref 49, .ref 50, .ref 51, .int 0, .int 0, .int 0, .int 0, .int 0, .int 0, .int 0, .int 0, .ref 52, .int 0, .ref 53, .int 0, .ref 54, .int 0, .ref 55, .ref 56, .ref 57, .ref 58, .int 0, .ref 59, .ref 60])))).set 42 (.inl [x1, 0, 0, 0, 0, 0, 0, 0, 0, 0, 0, 0, 0])).set 43 (.inl [x2, 0, 0, 0, 0, 0, 0, 0, 0, 0, 0, 0, 0])).set 44 (.inl [x3, 0, 0, 0, 0, 0, 0, 0, 0, 0, 0, 0, 0])).set 45 (.inl [x4, 0, 0, 0, 0, 0, 0, 0, 0, 0, 0, 0, 0])).set 46 (.inl [x5, 0, 0, 0, 0, 0, 0, 0, 0, 0, 0, 0, 0])).set 47 (.inl [x6, 0, 0, 0, 0, 0, 0, 0, 0, 0, 0, 0, 0])).set 48 (.inl [x7, 0, 0, 0, 0, 0, 0, 0, 0, 0, 0, 0, 0])).set 49 (.inl [(-1), 0, 0, 0, 0, 0, 0, 0, 0, 0, 0, 0, 0])).set 51 (.inl ((List.replicate 8 (0 : Int32)).set (Int32.toNatClampNeg x3) 1))) ++ [.inr (.inr (2, [.int x1, .int x2, .int x3, .int x4, .int x5, .int x6, .int x7, .int ((1 <<< (x4 &&& 31) : Int32) ||| (1 <<< (x5 &&& 31) : Int32)), .int (1 <<< (x6 &&& 31) : Int32), .int (-1)])), .inr (.inl [some 61, none, none, none, none, none, none, none, none, none])]), 0, 0) := by
    refine me (d := 9) g_X9_lays (Nat.le_of_ble_eq_true rfl) ?_
    refine rr rfl (s_iconst (v := 0) (by decide)) ?_
    refine rr rfl (s_istore_n rfl) ?_
    refine rr rfl (s_iload_n rfl) ?_
    refine rr rfl (s_bipush (v := 8) (by decide)) ?_
    refine rr rfl (s_icF (by decide)) ?_
    refine rr rfl (s_aload_n rfl) ?_
    refine rr rfl (s_getf rfl rfl) ?_
    refine rr rfl (s_iload_n rfl) ?_
    refine rr rfl (s_iconst (v := 0) (by decide)) ?_
    refine rr rfl (s_iastore (j := 0) (f' := (List.replicate 8 0)) rfl rfl (Nat.le_of_ble_eq_true rfl) rfl (Nat.le_of_ble_eq_true rfl) rfl (h' := ((((((((((((((hF.set 3 (.inr (.inr (0, [.int 1, .ref 62, .int 1])))).set 4 (.inl ((List.replicate 8 (0 : Int32)).set (Int32.toNatClampNeg x3) 1))).set 5 (.inl ((List.replicate 8 (0 : Int32)).set (Int32.toNatClampNeg x3) 1))).set 6 (.inr (.inr (6, [.ref 2, .ref 7, .ref 8, .ref 9, .int 1])))).set 41 (.inr (.inr (9, [.int 4, .int 1, .ref 42, .ref 43, .ref 44, .ref 45, .ref 46, .ref 47, .ref 48, .ref 49, .ref 50, .ref 51, .int 0, .int 0, .int 0, .int 0, .int 0, .int 0, .int 0, .int 0, .ref 52, .int 0, .ref 53, .int 0, .ref 54, .int 0, .ref 55, .ref 56, .ref 57, .ref 58, .int 0, .ref 59, .ref 60])))).set 42 (.inl [x1, 0, 0, 0, 0, 0, 0, 0, 0, 0, 0, 0, 0])).set 43 (.inl [x2, 0, 0, 0, 0, 0, 0, 0, 0, 0, 0, 0, 0])).set 44 (.inl [x3, 0, 0, 0, 0, 0, 0, 0, 0, 0, 0, 0, 0])).set 45 (.inl [x4, 0, 0, 0, 0, 0, 0, 0, 0, 0, 0, 0, 0])).set 46 (.inl [x5, 0, 0, 0, 0, 0, 0, 0, 0, 0, 0, 0, 0])).set 47 (.inl [x6, 0, 0, 0, 0, 0, 0, 0, 0, 0, 0, 0, 0])).set 48 (.inl [x7, 0, 0, 0, 0, 0, 0, 0, 0, 0, 0, 0, 0])).set 49 (.inl [(-1), 0, 0, 0, 0, 0, 0, 0, 0, 0, 0, 0, 0])) ++ [.inr (.inr (2, [.int x1, .int x2, .int x3, .int x4, .int x5, .int x6, .int x7, .int ((1 <<< (x4 &&& 31) : Int32) ||| (1 <<< (x5 &&& 31) : Int32)), .int (1 <<< (x6 &&& 31) : Int32), .int (-1)])), .inr (.inl [some 61, none, none, none, none, none, none, none, none, none])]))) ?_
    refine rr rfl (s_iinc (v := 1) rfl (by decide) rfl) ?_
    refine rr rfl s_goto ?_
    refine rr rfl (s_iload_n rfl) ?_
    refine rr rfl (s_bipush (v := 8) (by decide)) ?_
    refine rr rfl (s_icF (by decide)) ?_
    refine rr rfl (s_aload_n rfl) ?_
    refine rr rfl (s_getf rfl rfl) ?_
    refine rr rfl (s_iload_n rfl) ?_
    refine rr rfl (s_iconst (v := 0) (by decide)) ?_
    refine rr rfl (s_iastore (j := 1) (f' := (List.replicate 8 0)) rfl rfl (Nat.le_of_ble_eq_true rfl) rfl (Nat.le_of_ble_eq_true rfl) rfl (h' := ((((((((((((((hF.set 3 (.inr (.inr (0, [.int 1, .ref 62, .int 1])))).set 4 (.inl ((List.replicate 8 (0 : Int32)).set (Int32.toNatClampNeg x3) 1))).set 5 (.inl ((List.replicate 8 (0 : Int32)).set (Int32.toNatClampNeg x3) 1))).set 6 (.inr (.inr (6, [.ref 2, .ref 7, .ref 8, .ref 9, .int 1])))).set 41 (.inr (.inr (9, [.int 4, .int 1, .ref 42, .ref 43, .ref 44, .ref 45, .ref 46, .ref 47, .ref 48, .ref 49, .ref 50, .ref 51, .int 0, .int 0, .int 0, .int 0, .int 0, .int 0, .int 0, .int 0, .ref 52, .int 0, .ref 53, .int 0, .ref 54, .int 0, .ref 55, .ref 56, .ref 57, .ref 58, .int 0, .ref 59, .ref 60])))).set 42 (.inl [x1, 0, 0, 0, 0, 0, 0, 0, 0, 0, 0, 0, 0])).set 43 (.inl [x2, 0, 0, 0, 0, 0, 0, 0, 0, 0, 0, 0, 0])).set 44 (.inl [x3, 0, 0, 0, 0, 0, 0, 0, 0, 0, 0, 0, 0])).set 45 (.inl [x4, 0, 0, 0, 0, 0, 0, 0, 0, 0, 0, 0, 0])).set 46 (.inl [x5, 0, 0, 0, 0, 0, 0, 0, 0, 0, 0, 0, 0])).set 47 (.inl [x6, 0, 0, 0, 0, 0, 0, 0, 0, 0, 0, 0, 0])).set 48 (.inl [x7, 0, 0, 0, 0, 0, 0, 0, 0, 0, 0, 0, 0])).set 49 (.inl [(-1), 0, 0, 0, 0, 0, 0, 0, 0, 0, 0, 0, 0])) ++ [.inr (.inr (2, [.int x1, .int x2, .int x3, .int x4, .int x5, .int x6, .int x7, .int ((1 <<< (x4 &&& 31) : Int32) ||| (1 <<< (x5 &&& 31) : Int32)), .int (1 <<< (x6 &&& 31) : Int32), .int (-1)])), .inr (.inl [some 61, none, none, none, none, none, none, none, none, none])]))) ?_
    refine rr rfl (s_iinc (v := 2) rfl (by decide) rfl) ?_
    refine rr rfl s_goto ?_
    refine rr rfl (s_iload_n rfl) ?_
    refine rr rfl (s_bipush (v := 8) (by decide)) ?_
    refine rr rfl (s_icF (by decide)) ?_
    refine rr rfl (s_aload_n rfl) ?_
    refine rr rfl (s_getf rfl rfl) ?_
    refine rr rfl (s_iload_n rfl) ?_
    refine rr rfl (s_iconst (v := 0) (by decide)) ?_
    refine rr rfl (s_iastore (j := 2) (f' := (List.replicate 8 0)) rfl rfl (Nat.le_of_ble_eq_true rfl) rfl (Nat.le_of_ble_eq_true rfl) rfl (h' := ((((((((((((((hF.set 3 (.inr (.inr (0, [.int 1, .ref 62, .int 1])))).set 4 (.inl ((List.replicate 8 (0 : Int32)).set (Int32.toNatClampNeg x3) 1))).set 5 (.inl ((List.replicate 8 (0 : Int32)).set (Int32.toNatClampNeg x3) 1))).set 6 (.inr (.inr (6, [.ref 2, .ref 7, .ref 8, .ref 9, .int 1])))).set 41 (.inr (.inr (9, [.int 4, .int 1, .ref 42, .ref 43, .ref 44, .ref 45, .ref 46, .ref 47, .ref 48, .ref 49, .ref 50, .ref 51, .int 0, .int 0, .int 0, .int 0, .int 0, .int 0, .int 0, .int 0, .ref 52, .int 0, .ref 53, .int 0, .ref 54, .int 0, .ref 55, .ref 56, .ref 57, .ref 58, .int 0, .ref 59, .ref 60])))).set 42 (.inl [x1, 0, 0, 0, 0, 0, 0, 0, 0, 0, 0, 0, 0])).set 43 (.inl [x2, 0, 0, 0, 0, 0, 0, 0, 0, 0, 0, 0, 0])).set 44 (.inl [x3, 0, 0, 0, 0, 0, 0, 0, 0, 0, 0, 0, 0])).set 45 (.inl [x4, 0, 0, 0, 0, 0, 0, 0, 0, 0, 0, 0, 0])).set 46 (.inl [x5, 0, 0, 0, 0, 0, 0, 0, 0, 0, 0, 0, 0])).set 47 (.inl [x6, 0, 0, 0, 0, 0, 0, 0, 0, 0, 0, 0, 0])).set 48 (.inl [x7, 0, 0, 0, 0, 0, 0, 0, 0, 0, 0, 0, 0])).set 49 (.inl [(-1), 0, 0, 0, 0, 0, 0, 0, 0, 0, 0, 0, 0])) ++ [.inr (.inr (2, [.int x1, .int x2, .int x3, .int x4, .int x5, .int x6, .int x7, .int ((1 <<< (x4 &&& 31) : Int32) ||| (1 <<< (x5 &&& 31) : Int32)), .int (1 <<< (x6 &&& 31) : Int32), .int (-1)])), .inr (.inl [some 61, none, none, none, none, none, none, none, none, none])]))) ?_
    refine rr rfl (s_iinc (v := 3) rfl (by decide) rfl) ?_
    refine rr rfl s_goto ?_
    refine rr rfl (s_iload_n rfl) ?_
    refine rr rfl (s_bipush (v := 8) (by decide)) ?_
    refine rr rfl (s_icF (by decide)) ?_
    refine rr rfl (s_aload_n rfl) ?_
    refine rr rfl (s_getf rfl rfl) ?_
    refine rr rfl (s_iload_n rfl) ?_
    refine rr rfl (s_iconst (v := 0) (by decide)) ?_
    refine rr rfl (s_iastore (j := 3) (f' := (List.replicate 8 0)) rfl rfl (Nat.le_of_ble_eq_true rfl) rfl (Nat.le_of_ble_eq_true rfl) rfl (h' := ((((((((((((((hF.set 3 (.inr (.inr (0, [.int 1, .ref 62, .int 1])))).set 4 (.inl ((List.replicate 8 (0 : Int32)).set (Int32.toNatClampNeg x3) 1))).set 5 (.inl ((List.replicate 8 (0 : Int32)).set (Int32.toNatClampNeg x3) 1))).set 6 (.inr (.inr (6, [.ref 2, .ref 7, .ref 8, .ref 9, .int 1])))).set 41 (.inr (.inr (9, [.int 4, .int 1, .ref 42, .ref 43, .ref 44, .ref 45, .ref 46, .ref 47, .ref 48, .ref 49, .ref 50, .ref 51, .int 0, .int 0, .int 0, .int 0, .int 0, .int 0, .int 0, .int 0, .ref 52, .int 0, .ref 53, .int 0, .ref 54, .int 0, .ref 55, .ref 56, .ref 57, .ref 58, .int 0, .ref 59, .ref 60])))).set 42 (.inl [x1, 0, 0, 0, 0, 0, 0, 0, 0, 0, 0, 0, 0])).set 43 (.inl [x2, 0, 0, 0, 0, 0, 0, 0, 0, 0, 0, 0, 0])).set 44 (.inl [x3, 0, 0, 0, 0, 0, 0, 0, 0, 0, 0, 0, 0])).set 45 (.inl [x4, 0, 0, 0, 0, 0, 0, 0, 0, 0, 0, 0, 0])).set 46 (.inl [x5, 0, 0, 0, 0, 0, 0, 0, 0, 0, 0, 0, 0])).set 47 (.inl [x6, 0, 0, 0, 0, 0, 0, 0, 0, 0, 0, 0, 0])).set 48 (.inl [x7, 0, 0, 0, 0, 0, 0, 0, 0, 0, 0, 0, 0])).set 49 (.inl [(-1), 0, 0, 0, 0, 0, 0, 0, 0, 0, 0, 0, 0])) ++ [.inr (.inr (2, [.int x1, .int x2, .int x3, .int x4, .int x5, .int x6, .int x7, .int ((1 <<< (x4 &&& 31) : Int32) ||| (1 <<< (x5 &&& 31) : Int32)), .int (1 <<< (x6 &&& 31) : Int32), .int (-1)])), .inr (.inl [some 61, none, none, none, none, none, none, none, none, none])]))) ?_
    refine rr rfl (s_iinc (v := 4) rfl (by decide) rfl) ?_
    refine rr rfl s_goto ?_
    refine rr rfl (s_iload_n rfl) ?_
    refine rr rfl (s_bipush (v := 8) (by decide)) ?_
    refine rr rfl (s_icF (by decide)) ?_
    refine rr rfl (s_aload_n rfl) ?_
    refine rr rfl (s_getf rfl rfl) ?_
    refine rr rfl (s_iload_n rfl) ?_
    refine rr rfl (s_iconst (v := 0) (by decide)) ?_
    refine rr rfl (s_iastore (j := 4) (f' := (List.replicate 8 0)) rfl rfl (Nat.le_of_ble_eq_true rfl) rfl (Nat.le_of_ble_eq_true rfl) rfl (h' := ((((((((((((((hF.set 3 (.inr (.inr (0, [.int 1, .ref 62, .int 1])))).set 4 (.inl ((List.replicate 8 (0 : Int32)).set (Int32.toNatClampNeg x3) 1))).set 5 (.inl ((List.replicate 8 (0 : Int32)).set (Int32.toNatClampNeg x3) 1))).set 6 (.inr (.inr (6, [.ref 2, .ref 7, .ref 8, .ref 9, .int 1])))).set 41 (.inr (.inr (9, [.int 4, .int 1, .ref 42, .ref 43, .ref 44, .ref 45, .ref 46, .ref 47, .ref 48, .ref 49, .ref 50, .ref 51, .int 0, .int 0, .int 0, .int 0, .int 0, .int 0, .int 0, .int 0, .ref 52, .int 0, .ref 53, .int 0, .ref 54, .int 0, .ref 55, .ref 56, .ref 57, .ref 58, .int 0, .ref 59, .ref 60])))).set 42 (.inl [x1, 0, 0, 0, 0, 0, 0, 0, 0, 0, 0, 0, 0])).set 43 (.inl [x2, 0, 0, 0, 0, 0, 0, 0, 0, 0, 0, 0, 0])).set 44 (.inl [x3, 0, 0, 0, 0, 0, 0, 0, 0, 0, 0, 0, 0])).set 45 (.inl [x4, 0, 0, 0, 0, 0, 0, 0, 0, 0, 0, 0, 0])).set 46 (.inl [x5, 0, 0, 0, 0, 0, 0, 0, 0, 0, 0, 0, 0])).set 47 (.inl [x6, 0, 0, 0, 0, 0, 0, 0, 0, 0, 0, 0, 0])).set 48 (.inl [x7, 0, 0, 0, 0, 0, 0, 0, 0, 0, 0, 0, 0])).set 49 (.inl [(-1), 0, 0, 0, 0, 0, 0, 0, 0, 0, 0, 0, 0])) ++ [.inr (.inr (2, [.int x1, .int x2, .int x3, .int x4, .int x5, .int x6, .int x7, .int ((1 <<< (x4 &&& 31) : Int32) ||| (1 <<< (x5 &&& 31) : Int32)), .int (1 <<< (x6 &&& 31) : Int32), .int (-1)])), .inr (.inl [some 61, none, none, none, none, none, none, none, none, none])]))) ?_
    refine rr rfl (s_iinc (v := 5) rfl (by decide) rfl) ?_
    refine rr rfl s_goto ?_
    refine rr rfl (s_iload_n rfl) ?_
    refine rr rfl (s_bipush (v := 8) (by decide)) ?_
    refine rr rfl (s_icF (by decide)) ?_
    refine rr rfl (s_aload_n rfl) ?_
    refine rr rfl (s_getf rfl rfl) ?_
    refine rr rfl (s_iload_n rfl) ?_
    refine rr rfl (s_iconst (v := 0) (by decide)) ?_
    refine rr rfl (s_iastore (j := 5) (f' := (List.replicate 8 0)) rfl rfl (Nat.le_of_ble_eq_true rfl) rfl (Nat.le_of_ble_eq_true rfl) rfl (h' := ((((((((((((((hF.set 3 (.inr (.inr (0, [.int 1, .ref 62, .int 1])))).set 4 (.inl ((List.replicate 8 (0 : Int32)).set (Int32.toNatClampNeg x3) 1))).set 5 (.inl ((List.replicate 8 (0 : Int32)).set (Int32.toNatClampNeg x3) 1))).set 6 (.inr (.inr (6, [.ref 2, .ref 7, .ref 8, .ref 9, .int 1])))).set 41 (.inr (.inr (9, [.int 4, .int 1, .ref 42, .ref 43, .ref 44, .ref 45, .ref 46, .ref 47, .ref 48, .ref 49, .ref 50, .ref 51, .int 0, .int 0, .int 0, .int 0, .int 0, .int 0, .int 0, .int 0, .ref 52, .int 0, .ref 53, .int 0, .ref 54, .int 0, .ref 55, .ref 56, .ref 57, .ref 58, .int 0, .ref 59, .ref 60])))).set 42 (.inl [x1, 0, 0, 0, 0, 0, 0, 0, 0, 0, 0, 0, 0])).set 43 (.inl [x2, 0, 0, 0, 0, 0, 0, 0, 0, 0, 0, 0, 0])).set 44 (.inl [x3, 0, 0, 0, 0, 0, 0, 0, 0, 0, 0, 0, 0])).set 45 (.inl [x4, 0, 0, 0, 0, 0, 0, 0, 0, 0, 0, 0, 0])).set 46 (.inl [x5, 0, 0, 0, 0, 0, 0, 0, 0, 0, 0, 0, 0])).set 47 (.inl [x6, 0, 0, 0, 0, 0, 0, 0, 0, 0, 0, 0, 0])).set 48 (.inl [x7, 0, 0, 0, 0, 0, 0, 0, 0, 0, 0, 0, 0])).set 49 (.inl [(-1), 0, 0, 0, 0, 0, 0, 0, 0, 0, 0, 0, 0])) ++ [.inr (.inr (2, [.int x1, .int x2, .int x3, .int x4, .int x5, .int x6, .int x7, .int ((1 <<< (x4 &&& 31) : Int32) ||| (1 <<< (x5 &&& 31) : Int32)), .int (1 <<< (x6 &&& 31) : Int32), .int (-1)])), .inr (.inl [some 61, none, none, none, none, none, none, none, none, none])]))) ?_
    refine rr rfl (s_iinc (v := 6) rfl (by decide) rfl) ?_
    refine rr rfl s_goto ?_
    refine rr rfl (s_iload_n rfl) ?_
    refine rr rfl (s_bipush (v := 8) (by decide)) ?_
    refine rr rfl (s_icF (by decide)) ?_
    refine rr rfl (s_aload_n rfl) ?_
    refine rr rfl (s_getf rfl rfl) ?_
    refine rr rfl (s_iload_n rfl) ?_
    refine rr rfl (s_iconst (v := 0) (by decide)) ?_
    refine rr rfl (s_iastore (j := 6) (f' := (List.replicate 8 0)) rfl rfl (Nat.le_of_ble_eq_true rfl) rfl (Nat.le_of_ble_eq_true rfl) rfl (h' := ((((((((((((((hF.set 3 (.inr (.inr (0, [.int 1, .ref 62, .int 1])))).set 4 (.inl ((List.replicate 8 (0 : Int32)).set (Int32.toNatClampNeg x3) 1))).set 5 (.inl ((List.replicate 8 (0 : Int32)).set (Int32.toNatClampNeg x3) 1))).set 6 (.inr (.inr (6, [.ref 2, .ref 7, .ref 8, .ref 9, .int 1])))).set 41 (.inr (.inr (9, [.int 4, .int 1, .ref 42, .ref 43, .ref 44, .ref 45, .ref 46, .ref 47, .ref 48, .ref 49, .ref 50, .ref 51, .int 0, .int 0, .int 0, .int 0, .int 0, .int 0, .int 0, .int 0, .ref 52, .int 0, .ref 53, .int 0, .ref 54, .int 0, .ref 55, .ref 56, .ref 57, .ref 58, .int 0, .ref 59, .ref 60])))).set 42 (.inl [x1, 0, 0, 0, 0, 0, 0, 0, 0, 0, 0, 0, 0])).set 43 (.inl [x2, 0, 0, 0, 0, 0, 0, 0, 0, 0, 0, 0, 0])).set 44 (.inl [x3, 0, 0, 0, 0, 0, 0, 0, 0, 0, 0, 0, 0])).set 45 (.inl [x4, 0, 0, 0, 0, 0, 0, 0, 0, 0, 0, 0, 0])).set 46 (.inl [x5, 0, 0, 0, 0, 0, 0, 0, 0, 0, 0, 0, 0])).set 47 (.inl [x6, 0, 0, 0, 0, 0, 0, 0, 0, 0, 0, 0, 0])).set 48 (.inl [x7, 0, 0, 0, 0, 0, 0, 0, 0, 0, 0, 0, 0])).set 49 (.inl [(-1), 0, 0, 0, 0, 0, 0, 0, 0, 0, 0, 0, 0])) ++ [.inr (.inr (2, [.int x1, .int x2, .int x3, .int x4, .int x5, .int x6, .int x7, .int ((1 <<< (x4 &&& 31) : Int32) ||| (1 <<< (x5 &&& 31) : Int32)), .int (1 <<< (x6 &&& 31) : Int32), .int (-1)])), .inr (.inl [some 61, none, none, none, none, none, none, none, none, none])]))) ?_
    refine rr rfl (s_iinc (v := 7) rfl (by decide) rfl) ?_
    refine rr rfl s_goto ?_
    refine rr rfl (s_iload_n rfl) ?_
    refine rr rfl (s_bipush (v := 8) (by decide)) ?_
    refine rr rfl (s_icF (by decide)) ?_
    refine rr rfl (s_aload_n rfl) ?_
    refine rr rfl (s_getf rfl rfl) ?_
    refine rr rfl (s_iload_n rfl) ?_
    refine rr rfl (s_iconst (v := 0) (by decide)) ?_
    refine rr rfl (s_iastore (j := 7) (f' := (List.replicate 8 0)) rfl rfl (Nat.le_of_ble_eq_true rfl) rfl (Nat.le_of_ble_eq_true rfl) rfl (h' := ((((((((((((((hF.set 3 (.inr (.inr (0, [.int 1, .ref 62, .int 1])))).set 4 (.inl ((List.replicate 8 (0 : Int32)).set (Int32.toNatClampNeg x3) 1))).set 5 (.inl ((List.replicate 8 (0 : Int32)).set (Int32.toNatClampNeg x3) 1))).set 6 (.inr (.inr (6, [.ref 2, .ref 7, .ref 8, .ref 9, .int 1])))).set 41 (.inr (.inr (9, [.int 4, .int 1, .ref 42, .ref 43, .ref 44, .ref 45, .ref 46, .ref 47, .ref 48, .ref 49, .ref 50, .ref 51, .int 0, .int 0, .int 0, .int 0, .int 0, .int 0, .int 0, .int 0, .ref 52, .int 0, .ref 53, .int 0, .ref 54, .int 0, .ref 55, .ref 56, .ref 57, .ref 58, .int 0, .ref 59, .ref 60])))).set 42 (.inl [x1, 0, 0, 0, 0, 0, 0, 0, 0, 0, 0, 0, 0])).set 43 (.inl [x2, 0, 0, 0, 0, 0, 0, 0, 0, 0, 0, 0, 0])).set 44 (.inl [x3, 0, 0, 0, 0, 0, 0, 0, 0, 0, 0, 0, 0])).set 45 (.inl [x4, 0, 0, 0, 0, 0, 0, 0, 0, 0, 0, 0, 0])).set 46 (.inl [x5, 0, 0, 0, 0, 0, 0, 0, 0, 0, 0, 0, 0])).set 47 (.inl [x6, 0, 0, 0, 0, 0, 0, 0, 0, 0, 0, 0, 0])).set 48 (.inl [x7, 0, 0, 0, 0, 0, 0, 0, 0, 0, 0, 0, 0])).set 49 (.inl [(-1), 0, 0, 0, 0, 0, 0, 0, 0, 0, 0, 0, 0])) ++ [.inr (.inr (2, [.int x1, .int x2, .int x3, .int x4, .int x5, .int x6, .int x7, .int ((1 <<< (x4 &&& 31) : Int32) ||| (1 <<< (x5 &&& 31) : Int32)), .int (1 <<< (x6 &&& 31) : Int32), .int (-1)])), .inr (.inl [some 61, none, none, none, none, none, none, none, none, none])]))) ?_
    refine rr rfl (s_iinc (v := 8) rfl (by decide) rfl) ?_
    refine rr rfl s_goto ?_
    refine rr rfl (s_iload_n rfl) ?_
    refine rr rfl (s_bipush (v := 8) (by decide)) ?_
    refine rr rfl (s_icT (by decide)) ?_
    refine rr rfl (s_iconst (v := 1) (by decide)) ?_
    refine rr rfl (s_istore_n rfl) ?_
    refine rr rfl (s_iconst (v := 1) (by decide)) ?_
    refine rr rfl (s_istore_n rfl) ?_
    refine rr rfl (s_iload_n rfl) ?_
    refine rr rfl (s_ifF (by decide)) ?_
    refine rr rfl (s_iload_n rfl) ?_
    refine rr rfl (s_ifF (by decide)) ?_
    refine rr rfl (s_iconst (v := 0) (by decide)) ?_
    refine rr rfl (s_istore_n rfl) ?_
    refine rr rfl (s_iconst (v := 0) (by decide)) ?_
    refine rr rfl (s_istore_n rfl) ?_
    refine rr rfl (s_iload_n rfl) ?_
    refine rr rfl (s_aload_n rfl) ?_
    refine rr rfl (s_getf rfl rfl) ?_
    refine rr rfl (s_icF (by decide)) ?_
    refine rr rfl (s_iconst (v := 0) (by decide)) ?_
    refine rr rfl (s_istore rfl) ?_
    refine rr rfl (s_aload_n rfl) ?_
    refine rr rfl (s_getf rfl rfl) ?_
    refine rr rfl (s_iload_n rfl) ?_
    refine rr rfl (s_iaload (j := 0) rfl rfl rfl) ?_
    refine rr rfl (s_ifF (ic_nne g1)) ?_
    refine rr rfl (s_aload_n rfl) ?_
    refine rr rfl (s_getf rfl rfl) ?_
    refine rr rfl (s_aload_n rfl) ?_
    refine rr rfl (s_getf rfl rfl) ?_
    refine rr rfl (s_iload_n rfl) ?_
    refine rr rfl (s_iaload (j := 0) rfl rfl rfl) ?_
    refine rr rfl (s_ialdR (n := 8) (x := 0) rfl g2 g3) ?_
    refine rr rfl (s_istore rfl) ?_
    refine rr rfl (s_aload_n rfl) ?_
    refine rr rfl (s_getf rfl rfl) ?_
    refine rr rfl (s_iload_n rfl) ?_
    refine rr rfl (s_iaload (j := 0) rfl rfl rfl) ?_
    refine rr rfl (s_iconst (v := (-1)) (by decide)) ?_
    refine rr rfl (s_icF (ic_neq g4)) ?_
    refine rr rfl (s_aload_n rfl) ?_
    refine rr rfl (s_getf rfl rfl) ?_
    refine rr rfl (s_aload_n rfl) ?_
    refine rr rfl (s_getf rfl rfl) ?_
    refine rr rfl (s_iload_n rfl) ?_
    refine rr rfl (s_iaload (j := 0) rfl rfl rfl) ?_
    refine rr rfl (s_ialdR (n := 8) (x := 0) rfl g5 g6) ?_
    refine rr rfl (s_iload rfl) ?_
    refine rr rfl (s_icT (by decide)) ?_
    refine rr rfl (s_iload rfl) ?_
    refine rr rfl (s_istore rfl) ?_
    refine rr rfl (s_aload_n rfl) ?_
    refine rr rfl (s_getf rfl rfl) ?_
    refine rr rfl (s_iload_n rfl) ?_
    refine rr rfl (s_iaload (j := 0) rfl rfl rfl) ?_
    refine rr rfl (s_iconst (v := (-1)) (by decide)) ?_
    refine rr rfl (s_icF (ic_neq g7)) ?_
    refine rr rfl (s_aload_n rfl) ?_
    refine rr rfl (s_getf rfl rfl) ?_
    refine rr rfl (s_aload_n rfl) ?_
    refine rr rfl (s_getf rfl rfl) ?_
    refine rr rfl (s_iload_n rfl) ?_
    refine rr rfl (s_iaload (j := 0) rfl rfl rfl) ?_
    refine rr rfl (s_ialdR (n := 8) (x := 0) rfl g8 g9) ?_
    refine rr rfl (s_iconst (v := 1) (by decide)) ?_
    refine rr rfl (s_iadd (v := 1) (by decide)) ?_
    refine rr rfl (s_iload rfl) ?_
    refine rr rfl (s_icF (by decide)) ?_
    refine rr rfl (s_aload_n rfl) ?_
    refine rr rfl (s_getf rfl rfl) ?_
    refine rr rfl (s_aload_n rfl) ?_
    refine rr rfl (s_getf rfl rfl) ?_
    refine rr rfl (s_iload_n rfl) ?_
    refine rr rfl (s_iaload (j := 0) rfl rfl rfl) ?_
    refine rr rfl (s_ialdR (n := 8) (x := 0) rfl g8 g9) ?_
    refine rr rfl (s_iconst (v := 1) (by decide)) ?_
    refine rr rfl (s_iadd (v := 1) (by decide)) ?_
    refine rr rfl s_goto ?_
    refine rr rfl (s_istore rfl) ?_
    refine rr rfl (s_iload rfl) ?_
    refine rr rfl (s_aload_n rfl) ?_
    refine rr rfl (s_getf rfl rfl) ?_
    refine rr rfl (s_aload_n rfl) ?_
    refine rr rfl (s_getf rfl rfl) ?_
    refine rr rfl (s_iload_n rfl) ?_
    refine rr rfl (s_iaload (j := 0) rfl rfl rfl) ?_
    refine rr rfl (s_ialdR (n := 8) (x := 0) rfl g10 g11) ?_
    refine rr rfl (s_icF (by decide)) ?_
    refine rr rfl (s_aload_n rfl) ?_
    refine rr rfl (s_getf rfl rfl) ?_
    refine rr rfl (s_aload_n rfl) ?_
    refine rr rfl (s_getf rfl rfl) ?_
    refine rr rfl (s_iload_n rfl) ?_
    refine rr rfl (s_iaload (j := 0) rfl rfl rfl) ?_
    refine rr rfl (s_iload rfl) ?_
    refine rr rfl (s_iastR (n := 8) rfl g10 g11 (Nat.le_of_ble_eq_true rfl) rfl (h' := (((((((((((((((hF.set 3 (.inr (.inr (0, [.int 1, .ref 62, .int 1])))).set 4 (.inl ((List.replicate 8 (0 : Int32)).set (Int32.toNatClampNeg x3) 1))).set 5 (.inl ((List.replicate 8 (0 : Int32)).set (Int32.toNatClampNeg x3) 1))).set 6 (.inr (.inr (6, [.ref 2, .ref 7, .ref 8, .ref 9, .int 1])))).set 41 (.inr (.inr (9, [.int 4, .int 1, .ref 42, .ref 43, .ref 44, .ref 45, .ref 46, .ref 47, .ref 48, .ref 49, .ref 50, .ref 51, .int 0, .int 0, .int 0, .int 0, .int 0, .int 0, .int 0, .int 0, .ref 52, .int 0, .ref 53, .int 0, .ref 54, .int 0, .ref 55, .ref 56, .ref 57, .ref 58, .int 0, .ref 59, .ref 60])))).set 42 (.inl [x1, 0, 0, 0, 0, 0, 0, 0, 0, 0, 0, 0, 0])).set 43 (.inl [x2, 0, 0, 0, 0, 0, 0, 0, 0, 0, 0, 0, 0])).set 44 (.inl [x3, 0, 0, 0, 0, 0, 0, 0, 0, 0, 0, 0, 0])).set 45 (.inl [x4, 0, 0, 0, 0, 0, 0, 0, 0, 0, 0, 0, 0])).set 46 (.inl [x5, 0, 0, 0, 0, 0, 0, 0, 0, 0, 0, 0, 0])).set 47 (.inl [x6, 0, 0, 0, 0, 0, 0, 0, 0, 0, 0, 0, 0])).set 48 (.inl [x7, 0, 0, 0, 0, 0, 0, 0, 0, 0, 0, 0, 0])).set 49 (.inl [(-1), 0, 0, 0, 0, 0, 0, 0, 0, 0, 0, 0, 0])).set 51 (.inl ((List.replicate 8 (0 : Int32)).set (Int32.toNatClampNeg x3) 1))) ++ [.inr (.inr (2, [.int x1, .int x2, .int x3, .int x4, .int x5, .int x6, .int x7, .int ((1 <<< (x4 &&& 31) : Int32) ||| (1 <<< (x5 &&& 31) : Int32)), .int (1 <<< (x6 &&& 31) : Int32), .int (-1)])), .inr (.inl [some 61, none, none, none, none, none, none, none, none, none])]))) ?_
    refine rr rfl (s_iconst (v := 1) (by decide)) ?_
    refine rr rfl (s_istore_n rfl) ?_
    refine rr rfl (s_iload_n rfl) ?_
    refine rr rfl (s_ifF (by decide)) ?_
    refine rr rfl (s_iload rfl) ?_
    refine rr rfl (s_bipush (v := 8) (by decide)) ?_
    refine rr rfl (s_icF (by decide)) ?_
    refine rr rfl (s_iconst (v := 1) (by decide)) ?_
    refine rr rfl s_goto ?_
    refine rr rfl (s_istore_n rfl) ?_
    refine rr rfl (s_iinc (v := 1) rfl (by decide) rfl) ?_
    refine rr rfl s_goto ?_
    refine rr rfl (s_iload_n rfl) ?_
    refine rr rfl (s_aload_n rfl) ?_
    refine rr rfl (s_getf rfl rfl) ?_
    refine rr rfl (s_icT (by decide)) ?_
    refine rr rfl s_goto ?_
    refine rr rfl (s_iload_n rfl) ?_
    refine rr rfl (s_ifF (by decide)) ?_
    refine rr rfl (s_iload_n rfl) ?_
    refine rr rfl (s_ifF (by decide)) ?_
    refine rr rfl (s_iconst (v := 0) (by decide)) ?_
    refine rr rfl (s_istore_n rfl) ?_
    refine rr rfl (s_iconst (v := 0) (by decide)) ?_
    refine rr rfl (s_istore_n rfl) ?_
    refine rr rfl (s_iload_n rfl) ?_
    refine rr rfl (s_aload_n rfl) ?_
    refine rr rfl (s_getf rfl rfl) ?_
    refine rr rfl (s_icF (by decide)) ?_
    refine rr rfl (s_iconst (v := 0) (by decide)) ?_
    refine rr rfl (s_istore rfl) ?_
    refine rr rfl (s_aload_n rfl) ?_
    refine rr rfl (s_getf rfl rfl) ?_
    refine rr rfl (s_iload_n rfl) ?_
    refine rr rfl (s_iaload (j := 0) rfl rfl rfl) ?_
    refine rr rfl (s_ifF (ic_nne g1)) ?_
    refine rr rfl (s_aload_n rfl) ?_
    refine rr rfl (s_getf rfl rfl) ?_
    refine rr rfl (s_aload_n rfl) ?_
    refine rr rfl (s_getf rfl rfl) ?_
    refine rr rfl (s_iload_n rfl) ?_
    refine rr rfl (s_iaload (j := 0) rfl rfl rfl) ?_
    refine rr rfl (s_ialdN rfl g12 g2 g3 g10) ?_
    refine rr rfl (s_istore rfl) ?_
    refine rr rfl (s_aload_n rfl) ?_
    refine rr rfl (s_getf rfl rfl) ?_
    refine rr rfl (s_iload_n rfl) ?_
    refine rr rfl (s_iaload (j := 0) rfl rfl rfl) ?_
    refine rr rfl (s_iconst (v := (-1)) (by decide)) ?_
    refine rr rfl (s_icF (ic_neq g4)) ?_
    refine rr rfl (s_aload_n rfl) ?_
    refine rr rfl (s_getf rfl rfl) ?_
    refine rr rfl (s_aload_n rfl) ?_
    refine rr rfl (s_getf rfl rfl) ?_
    refine rr rfl (s_iload_n rfl) ?_
    refine rr rfl (s_iaload (j := 0) rfl rfl rfl) ?_
    refine rr rfl (s_ialdN rfl g13 g5 g6 g10) ?_
    refine rr rfl (s_iload rfl) ?_
    refine rr rfl (s_icT (by decide)) ?_
    refine rr rfl (s_iload rfl) ?_
    refine rr rfl (s_istore rfl) ?_
    refine rr rfl (s_aload_n rfl) ?_
    refine rr rfl (s_getf rfl rfl) ?_
    refine rr rfl (s_iload_n rfl) ?_
    refine rr rfl (s_iaload (j := 0) rfl rfl rfl) ?_
    refine rr rfl (s_iconst (v := (-1)) (by decide)) ?_
    refine rr rfl (s_icF (ic_neq g7)) ?_
    refine rr rfl (s_aload_n rfl) ?_
    refine rr rfl (s_getf rfl rfl) ?_
    refine rr rfl (s_aload_n rfl) ?_
    refine rr rfl (s_getf rfl rfl) ?_
    refine rr rfl (s_iload_n rfl) ?_
    refine rr rfl (s_iaload (j := 0) rfl rfl rfl) ?_
    refine rr rfl (s_ialdN rfl g14 g8 g9 g10) ?_
    refine rr rfl (s_iconst (v := 1) (by decide)) ?_
    refine rr rfl (s_iadd (v := 1) (by decide)) ?_
    refine rr rfl (s_iload rfl) ?_
    refine rr rfl (s_icF (by decide)) ?_
    refine rr rfl (s_aload_n rfl) ?_
    refine rr rfl (s_getf rfl rfl) ?_
    refine rr rfl (s_aload_n rfl) ?_
    refine rr rfl (s_getf rfl rfl) ?_
    refine rr rfl (s_iload_n rfl) ?_
    refine rr rfl (s_iaload (j := 0) rfl rfl rfl) ?_
    refine rr rfl (s_ialdN rfl g14 g8 g9 g10) ?_
    refine rr rfl (s_iconst (v := 1) (by decide)) ?_
    refine rr rfl (s_iadd (v := 1) (by decide)) ?_
    refine rr rfl s_goto ?_
    refine rr rfl (s_istore rfl) ?_
    refine rr rfl (s_iload rfl) ?_
    refine rr rfl (s_aload_n rfl) ?_
    refine rr rfl (s_getf rfl rfl) ?_
    refine rr rfl (s_aload_n rfl) ?_
    refine rr rfl (s_getf rfl rfl) ?_
    refine rr rfl (s_iload_n rfl) ?_
    refine rr rfl (s_iaload (j := 0) rfl rfl rfl) ?_
    refine rr rfl (s_ialdH rfl rfl g10 g11) ?_
    refine rr rfl (s_icT (by decide)) ?_
    refine rr rfl (s_iinc (v := 1) rfl (by decide) rfl) ?_
    refine rr rfl s_goto ?_
    refine rr rfl (s_iload_n rfl) ?_
    refine rr rfl (s_aload_n rfl) ?_
    refine rr rfl (s_getf rfl rfl) ?_
    refine rr rfl (s_icT (by decide)) ?_
    refine rr rfl s_goto ?_
    refine rr rfl (s_iload_n rfl) ?_
    refine rr rfl (s_ifT (by decide)) ?_
    refine rr rfl (s_iload_n rfl) ?_
    exact rrt rfl rfl rfl rfl
  refine rrc rfl rfl rfl (do_of g_X9_lays rfl rfl e2) ?_
  refine rr rfl (s_istore rfl) ?_
  refine rr rfl (s_iload rfl) ?_
  refine rr rfl (s_ifF (by decide)) ?_
  refine rr rfl (s_aload_n rfl) ?_
  refine rr rfl (s_getf rfl rfl) ?_
  refine rr rfl (s_bipush (v := 12) (by decide)) ?_
  refine rr rfl (s_icT (by decide)) ?_
  refine rr rfl (s_aload_n rfl) ?_
  refine rr rfl (s_getf rfl rfl) ?_
  refine rr rfl (s_iconst (v := 1) (by decide)) ?_
  refine rr rfl (s_isub (v := 0) (by decide)) ?_
  exact rrt rfl rfl rfl rfl
set_option maxHeartbeats 4000000 in
set_option maxRecDepth 10000 in
theorem rm_Nhoo {x1 x2 x3 x4 x5 x6 x7 : Int32} (g1 : x2 = 0) (g2 : ¬ x4 < 0) (g3 : x4 < nI 8) (g4 : ¬ x5 = (-1)) (g5 : ¬ x5 < 0) (g6 : x5 < nI 8) (g7 : ¬ x6 = (-1)) (g8 : ¬ x6 < 0) (g9 : x6 < nI 8) (g10 : ¬ x3 < 0) (g11 : x3 < nI 8) (g12 : ¬ x4 = x3) (g13 : x5 = x3) (g14 : ¬ x6 = x3) : a_run MT [] (a_m MT [] 100000 10) 11 (some .int) tabX9_rule 90000 95 (alQ x1 x2 x3 x4 x5 x6 x7) [] (((((hF.set 3 (.inr (.inr (0, [.int 1, .ref 62, .int 1])))).set 4 (.inl ((List.replicate 8 (0 : Int32)).set (Int32.toNatClampNeg x3) 1))).set 5 (.inl ((List.replicate 8 (0 : Int32)).set (Int32.toNatClampNeg x3) 1))).set 6 (.inr (.inr (6, [.ref 2, .ref 7, .ref 8, .ref 9, .int 1])))) ++ [.inr (.inr (2, [.int x1, .int x2, .int x3, .int x4, .int x5, .int x6, .int x7, .int ((1 <<< (x4 &&& 31) : Int32) ||| (1 <<< (x5 &&& 31) : Int32)), .int (1 <<< (x6 &&& 31) : Int32), .int (-1)])), .inr (.inl [some 61, none, none, none, none, none, none, none, none, none])]) 0 0 = some (some (.int 0), (((((((((((((((hF.set 3 (.inr (.inr (0, [.int 1, .ref 62, .int 1])))).set 4 (.inl ((List.replicate 8 (0 : Int32)).set (Int32.toNatClampNeg x3) 1))).set 5 (.inl ((List.replicate 8 (0 : Int32)).set (Int32.toNatClampNeg x3) 1))).set 6 (.inr (.inr (6, [.ref 2, .ref 7, .ref 8, .ref 9, .int 1])))).set 41 (.inr (.inr (9, [.int 4, .int 1, .ref 42, .ref 43, .ref 44, .ref 45, .ref 46, .ref 47, .ref 48, .ref 49, .ref 50, .ref 51, .int 0, .int 0, .int 0, .int 0, .int 0, .int 0, .int 0, .int 0, .ref 52, .int 0, .ref 53, .int 0, .ref 54, .int 0, .ref 55, .ref 56, .ref 57, .ref 58, .int 0, .ref 59, .ref 60])))).set 42 (.inl [x1, 0, 0, 0, 0, 0, 0, 0, 0, 0, 0, 0, 0])).set 43 (.inl [x2, 0, 0, 0, 0, 0, 0, 0, 0, 0, 0, 0, 0])).set 44 (.inl [x3, 0, 0, 0, 0, 0, 0, 0, 0, 0, 0, 0, 0])).set 45 (.inl [x4, 0, 0, 0, 0, 0, 0, 0, 0, 0, 0, 0, 0])).set 46 (.inl [x5, 0, 0, 0, 0, 0, 0, 0, 0, 0, 0, 0, 0])).set 47 (.inl [x6, 0, 0, 0, 0, 0, 0, 0, 0, 0, 0, 0, 0])).set 48 (.inl [x7, 0, 0, 0, 0, 0, 0, 0, 0, 0, 0, 0, 0])).set 49 (.inl [(-1), 0, 0, 0, 0, 0, 0, 0, 0, 0, 0, 0, 0])).set 51 (.inl ((List.replicate 8 (0 : Int32)).set (Int32.toNatClampNeg x3) 1))) ++ [.inr (.inr (2, [.int x1, .int x2, .int x3, .int x4, .int x5, .int x6, .int x7, .int ((1 <<< (x4 &&& 31) : Int32) ||| (1 <<< (x5 &&& 31) : Int32)), .int (1 <<< (x6 &&& 31) : Int32), .int (-1)])), .inr (.inl [some 61, none, none, none, none, none, none, none, none, none])]), 0, 0) := by
  refine rr rfl (s_aload_n rfl) ?_
  refine rr rfl (s_aload_n rfl) ?_
  refine rr rfl (s_getf rfl rfl) ?_
  refine rr rfl (s_iload_n rfl) ?_
  refine rr rfl (s_iload_n rfl) ?_
  refine rr rfl (s_iload_n rfl) ?_
  refine rr rfl (s_iload rfl) ?_
  refine rr rfl (s_iload rfl) ?_
  refine rr rfl (s_iload rfl) ?_
  refine rr rfl (s_iload rfl) ?_
  have e1 : a_m MT [] 100000 10 miX9_sets [.ref 41, .int 0, .int x1, .int x2, .int x3, .int x4, .int x5, .int x6, .int x7] (((((hF.set 3 (.inr (.inr (0, [.int 1, .ref 62, .int 1])))).set 4 (.inl ((List.replicate 8 (0 : Int32)).set (Int32.toNatClampNeg x3) 1))).set 5 (.inl ((List.replicate 8 (0 : Int32)).set (Int32.toNatClampNeg x3) 1))).set 6 (.inr (.inr (6, [.ref 2, .ref 7, .ref 8, .ref 9, .int 1])))) ++ [.inr (.inr (2, [.int x1, .int x2, .int x3, .int x4, .int x5, .int x6, .int x7, .int ((1 <<< (x4 &&& 31) : Int32) ||| (1 <<< (x5 &&& 31) : Int32)), .int (1 <<< (x6 &&& 31) : Int32), .int (-1)])), .inr (.inl [some 61, none, none, none, none, none, none, none, none, none])]) = some (none, (((((((((((((hF.set 3 (.inr (.inr (0, [.int 1, .ref 62, .int 1])))).set 4 (.inl ((List.replicate 8 (0 : Int32)).set (Int32.toNatClampNeg x3) 1))).set 5 (.inl ((List.replicate 8 (0 : Int32)).set (Int32.toNatClampNeg x3) 1))).set 6 (.inr (.inr (6, [.ref 2, .ref 7, .ref 8, .ref 9, .int 1])))).set 42 (.inl [x1, 0, 0, 0, 0, 0, 0, 0, 0, 0, 0, 0, 0])).set 43 (.inl [x2, 0, 0, 0, 0, 0, 0, 0, 0, 0, 0, 0, 0])).set 44 (.inl [x3, 0, 0, 0, 0, 0, 0, 0, 0, 0, 0, 0, 0])).set 45 (.inl [x4, 0, 0, 0, 0, 0, 0, 0, 0, 0, 0, 0, 0])).set 46 (.inl [x5, 0, 0, 0, 0, 0, 0, 0, 0, 0, 0, 0, 0])).set 47 (.inl [x6, 0, 0, 0, 0, 0, 0, 0, 0, 0, 0, 0, 0])).set 48 (.inl [x7, 0, 0, 0, 0, 0, 0, 0, 0, 0, 0, 0, 0])).set 49 (.inl [(-1), 0, 0, 0, 0, 0, 0, 0, 0, 0, 0, 0, 0])) ++ [.inr (.inr (2, [.int x1, .int x2, .int x3, .int x4, .int x5, .int x6, .int x7, .int ((1 <<< (x4 &&& 31) : Int32) ||| (1 <<< (x5 &&& 31) : Int32)), .int (1 <<< (x6 &&& 31) : Int32), .int (-1)])), .inr (.inl [some 61, none, none, none, none, none, none, none, none, none])]), 0, 0) := by
    refine me (d := 9) g_X9_sets (Nat.le_of_ble_eq_true rfl) ?_
    refine rr rfl (s_aload_n rfl) ?_
    refine rr rfl (s_getf rfl rfl) ?_
    refine rr rfl (s_iload_n rfl) ?_
    refine rr rfl (s_iload_n rfl) ?_
    refine rr rfl (s_iastore (j := 0) (f' := [x1, 0, 0, 0, 0, 0, 0, 0, 0, 0, 0, 0, 0]) rfl rfl (Nat.le_of_ble_eq_true rfl) rfl (Nat.le_of_ble_eq_true rfl) rfl (h' := ((((((hF.set 3 (.inr (.inr (0, [.int 1, .ref 62, .int 1])))).set 4 (.inl ((List.replicate 8 (0 : Int32)).set (Int32.toNatClampNeg x3) 1))).set 5 (.inl ((List.replicate 8 (0 : Int32)).set (Int32.toNatClampNeg x3) 1))).set 6 (.inr (.inr (6, [.ref 2, .ref 7, .ref 8, .ref 9, .int 1])))).set 42 (.inl [x1, 0, 0, 0, 0, 0, 0, 0, 0, 0, 0, 0, 0])) ++ [.inr (.inr (2, [.int x1, .int x2, .int x3, .int x4, .int x5, .int x6, .int x7, .int ((1 <<< (x4 &&& 31) : Int32) ||| (1 <<< (x5 &&& 31) : Int32)), .int (1 <<< (x6 &&& 31) : Int32), .int (-1)])), .inr (.inl [some 61, none, none, none, none, none, none, none, none, none])]))) ?_
    refine rr rfl (s_aload_n rfl) ?_
    refine rr rfl (s_getf rfl rfl) ?_
    refine rr rfl (s_iload_n rfl) ?_
    refine rr rfl (s_iload_n rfl) ?_
    refine rr rfl (s_iastore (j := 0) (f' := [x2, 0, 0, 0, 0, 0, 0, 0, 0, 0, 0, 0, 0]) rfl rfl (Nat.le_of_ble_eq_true rfl) rfl (Nat.le_of_ble_eq_true rfl) rfl (h' := (((((((hF.set 3 (.inr (.inr (0, [.int 1, .ref 62, .int 1])))).set 4 (.inl ((List.replicate 8 (0 : Int32)).set (Int32.toNatClampNeg x3) 1))).set 5 (.inl ((List.replicate 8 (0 : Int32)).set (Int32.toNatClampNeg x3) 1))).set 6 (.inr (.inr (6, [.ref 2, .ref 7, .ref 8, .ref 9, .int 1])))).set 42 (.inl [x1, 0, 0, 0, 0, 0, 0, 0, 0, 0, 0, 0, 0])).set 43 (.inl [x2, 0, 0, 0, 0, 0, 0, 0, 0, 0, 0, 0, 0])) ++ [.inr (.inr (2, [.int x1, .int x2, .int x3, .int x4, .int x5, .int x6, .int x7, .int ((1 <<< (x4 &&& 31) : Int32) ||| (1 <<< (x5 &&& 31) : Int32)), .int (1 <<< (x6 &&& 31) : Int32), .int (-1)])), .inr (.inl [some 61, none, none, none, none, none, none, none, none, none])]))) ?_
    refine rr rfl (s_aload_n rfl) ?_
    refine rr rfl (s_getf rfl rfl) ?_
    refine rr rfl (s_iload_n rfl) ?_
    refine rr rfl (s_iload rfl) ?_
    refine rr rfl (s_iastore (j := 0) (f' := [x3, 0, 0, 0, 0, 0, 0, 0, 0, 0, 0, 0, 0]) rfl rfl (Nat.le_of_ble_eq_true rfl) rfl (Nat.le_of_ble_eq_true rfl) rfl (h' := ((((((((hF.set 3 (.inr (.inr (0, [.int 1, .ref 62, .int 1])))).set 4 (.inl ((List.replicate 8 (0 : Int32)).set (Int32.toNatClampNeg x3) 1))).set 5 (.inl ((List.replicate 8 (0 : Int32)).set (Int32.toNatClampNeg x3) 1))).set 6 (.inr (.inr (6, [.ref 2, .ref 7, .ref 8, .ref 9, .int 1])))).set 42 (.inl [x1, 0, 0, 0, 0, 0, 0, 0, 0, 0, 0, 0, 0])).set 43 (.inl [x2, 0, 0, 0, 0, 0, 0, 0, 0, 0, 0, 0, 0])).set 44 (.inl [x3, 0, 0, 0, 0, 0, 0, 0, 0, 0, 0, 0, 0])) ++ [.inr (.inr (2, [.int x1, .int x2, .int x3, .int x4, .int x5, .int x6, .int x7, .int ((1 <<< (x4 &&& 31) : Int32) ||| (1 <<< (x5 &&& 31) : Int32)), .int (1 <<< (x6 &&& 31) : Int32), .int (-1)])), .inr (.inl [some 61, none, none, none, none, none, none, none, none, none])]))) ?_
    refine rr rfl (s_aload_n rfl) ?_
    refine rr rfl (s_getf rfl rfl) ?_
    refine rr rfl (s_iload_n rfl) ?_
    refine rr rfl (s_iload rfl) ?_
    refine rr rfl (s_iastore (j := 0) (f' := [x4, 0, 0, 0, 0, 0, 0, 0, 0, 0, 0, 0, 0]) rfl rfl (Nat.le_of_ble_eq_true rfl) rfl (Nat.le_of_ble_eq_true rfl) rfl (h' := (((((((((hF.set 3 (.inr (.inr (0, [.int 1, .ref 62, .int 1])))).set 4 (.inl ((List.replicate 8 (0 : Int32)).set (Int32.toNatClampNeg x3) 1))).set 5 (.inl ((List.replicate 8 (0 : Int32)).set (Int32.toNatClampNeg x3) 1))).set 6 (.inr (.inr (6, [.ref 2, .ref 7, .ref 8, .ref 9, .int 1])))).set 42 (.inl [x1, 0, 0, 0, 0, 0, 0, 0, 0, 0, 0, 0, 0])).set 43 (.inl [x2, 0, 0, 0, 0, 0, 0, 0, 0, 0, 0, 0, 0])).set 44 (.inl [x3, 0, 0, 0, 0, 0, 0, 0, 0, 0, 0, 0, 0])).set 45 (.inl [x4, 0, 0, 0, 0, 0, 0, 0, 0, 0, 0, 0, 0])) ++ [.inr (.inr (2, [.int x1, .int x2, .int x3, .int x4, .int x5, .int x6, .int x7, .int ((1 <<< (x4 &&& 31) : Int32) ||| (1 <<< (x5 &&& 31) : Int32)), .int (1 <<< (x6 &&& 31) : Int32), .int (-1)])), .inr (.inl [some 61, none, none, none, none, none, none, none, none, none])]))) ?_
    refine rr rfl (s_aload_n rfl) ?_
    refine rr rfl (s_getf rfl rfl) ?_
    refine rr rfl (s_iload_n rfl) ?_
    refine rr rfl (s_iload rfl) ?_
    refine rr rfl (s_iastore (j := 0) (f' := [x5, 0, 0, 0, 0, 0, 0, 0, 0, 0, 0, 0, 0]) rfl rfl (Nat.le_of_ble_eq_true rfl) rfl (Nat.le_of_ble_eq_true rfl) rfl (h' := ((((((((((hF.set 3 (.inr (.inr (0, [.int 1, .ref 62, .int 1])))).set 4 (.inl ((List.replicate 8 (0 : Int32)).set (Int32.toNatClampNeg x3) 1))).set 5 (.inl ((List.replicate 8 (0 : Int32)).set (Int32.toNatClampNeg x3) 1))).set 6 (.inr (.inr (6, [.ref 2, .ref 7, .ref 8, .ref 9, .int 1])))).set 42 (.inl [x1, 0, 0, 0, 0, 0, 0, 0, 0, 0, 0, 0, 0])).set 43 (.inl [x2, 0, 0, 0, 0, 0, 0, 0, 0, 0, 0, 0, 0])).set 44 (.inl [x3, 0, 0, 0, 0, 0, 0, 0, 0, 0, 0, 0, 0])).set 45 (.inl [x4, 0, 0, 0, 0, 0, 0, 0, 0, 0, 0, 0, 0])).set 46 (.inl [x5, 0, 0, 0, 0, 0, 0, 0, 0, 0, 0, 0, 0])) ++ [.inr (.inr (2, [.int x1, .int x2, .int x3, .int x4, .int x5, .int x6, .int x7, .int ((1 <<< (x4 &&& 31) : Int32) ||| (1 <<< (x5 &&& 31) : Int32)), .int (1 <<< (x6 &&& 31) : Int32), .int (-1)])), .inr (.inl [some 61, none, none, none, none, none, none, none, none, none])]))) ?_
    refine rr rfl (s_aload_n rfl) ?_
    refine rr rfl (s_getf rfl rfl) ?_
    refine rr rfl (s_iload_n rfl) ?_
    refine rr rfl (s_iload rfl) ?_
    refine rr rfl (s_iastore (j := 0) (f' := [x6, 0, 0, 0, 0, 0, 0, 0, 0, 0, 0, 0, 0]) rfl rfl (Nat.le_of_ble_eq_true rfl) rfl (Nat.le_of_ble_eq_true rfl) rfl (h' := (((((((((((hF.set 3 (.inr (.inr (0, [.int 1, .ref 62, .int 1])))).set 4 (.inl ((List.replicate 8 (0 : Int32)).set (Int32.toNatClampNeg x3) 1))).set 5 (.inl ((List.replicate 8 (0 : Int32)).set (Int32.toNatClampNeg x3) 1))).set 6 (.inr (.inr (6, [.ref 2, .ref 7, .ref 8, .ref 9, .int 1])))).set 42 (.inl [x1, 0, 0, 0, 0, 0, 0, 0, 0, 0, 0, 0, 0])).set 43 (.inl [x2, 0, 0, 0, 0, 0, 0, 0, 0, 0, 0, 0, 0])).set 44 (.inl [x3, 0, 0, 0, 0, 0, 0, 0, 0, 0, 0, 0, 0])).set 45 (.inl [x4, 0, 0, 0, 0, 0, 0, 0, 0, 0, 0, 0, 0])).set 46 (.inl [x5, 0, 0, 0, 0, 0, 0, 0, 0, 0, 0, 0, 0])).set 47 (.inl [x6, 0, 0, 0, 0, 0, 0, 0, 0, 0, 0, 0, 0])) ++ [.inr (.inr (2, [.int x1, .int x2, .int x3, .int x4, .int x5, .int x6, .int x7, .int ((1 <<< (x4 &&& 31) : Int32) ||| (1 <<< (x5 &&& 31) : Int32)), .int (1 <<< (x6 &&& 31) : Int32), .int (-1)])), .inr (.inl [some 61, none, none, none, none, none, none, none, none, none])]))) ?_
    refine rr rfl (s_aload_n rfl) ?_
    refine rr rfl (s_getf rfl rfl) ?_
    refine rr rfl (s_iload_n rfl) ?_
    refine rr rfl (s_iload rfl) ?_
    refine rr rfl (s_iastore (j := 0) (f' := [x7, 0, 0, 0, 0, 0, 0, 0, 0, 0, 0, 0, 0]) rfl rfl (Nat.le_of_ble_eq_true rfl) rfl (Nat.le_of_ble_eq_true rfl) rfl (h' := ((((((((((((hF.set 3 (.inr (.inr (0, [.int 1, .ref 62, .int 1])))).set 4 (.inl ((List.replicate 8 (0 : Int32)).set (Int32.toNatClampNeg x3) 1))).set 5 (.inl ((List.replicate 8 (0 : Int32)).set (Int32.toNatClampNeg x3) 1))).set 6 (.inr (.inr (6, [.ref 2, .ref 7, .ref 8, .ref 9, .int 1])))).set 42 (.inl [x1, 0, 0, 0, 0, 0, 0, 0, 0, 0, 0, 0, 0])).set 43 (.inl [x2, 0, 0, 0, 0, 0, 0, 0, 0, 0, 0, 0, 0])).set 44 (.inl [x3, 0, 0, 0, 0, 0, 0, 0, 0, 0, 0, 0, 0])).set 45 (.inl [x4, 0, 0, 0, 0, 0, 0, 0, 0, 0, 0, 0, 0])).set 46 (.inl [x5, 0, 0, 0, 0, 0, 0, 0, 0, 0, 0, 0, 0])).set 47 (.inl [x6, 0, 0, 0, 0, 0, 0, 0, 0, 0, 0, 0, 0])).set 48 (.inl [x7, 0, 0, 0, 0, 0, 0, 0, 0, 0, 0, 0, 0])) ++ [.inr (.inr (2, [.int x1, .int x2, .int x3, .int x4, .int x5, .int x6, .int x7, .int ((1 <<< (x4 &&& 31) : Int32) ||| (1 <<< (x5 &&& 31) : Int32)), .int (1 <<< (x6 &&& 31) : Int32), .int (-1)])), .inr (.inl [some 61, none, none, none, none, none, none, none, none, none])]))) ?_
    refine rr rfl (s_aload_n rfl) ?_
    refine rr rfl (s_getf rfl rfl) ?_
    refine rr rfl (s_iload_n rfl) ?_
    refine rr rfl (s_iconst (v := (-1)) (by decide)) ?_
    refine rr rfl (s_iastore (j := 0) (f' := [(-1), 0, 0, 0, 0, 0, 0, 0, 0, 0, 0, 0, 0]) rfl rfl (Nat.le_of_ble_eq_true rfl) rfl (Nat.le_of_ble_eq_true rfl) rfl (h' := (((((((((((((hF.set 3 (.inr (.inr (0, [.int 1, .ref 62, .int 1])))).set 4 (.inl ((List.replicate 8 (0 : Int32)).set (Int32.toNatClampNeg x3) 1))).set 5 (.inl ((List.replicate 8 (0 : Int32)).set (Int32.toNatClampNeg x3) 1))).set 6 (.inr (.inr (6, [.ref 2, .ref 7, .ref 8, .ref 9, .int 1])))).set 42 (.inl [x1, 0, 0, 0, 0, 0, 0, 0, 0, 0, 0, 0, 0])).set 43 (.inl [x2, 0, 0, 0, 0, 0, 0, 0, 0, 0, 0, 0, 0])).set 44 (.inl [x3, 0, 0, 0, 0, 0, 0, 0, 0, 0, 0, 0, 0])).set 45 (.inl [x4, 0, 0, 0, 0, 0, 0, 0, 0, 0, 0, 0, 0])).set 46 (.inl [x5, 0, 0, 0, 0, 0, 0, 0, 0, 0, 0, 0, 0])).set 47 (.inl [x6, 0, 0, 0, 0, 0, 0, 0, 0, 0, 0, 0, 0])).set 48 (.inl [x7, 0, 0, 0, 0, 0, 0, 0, 0, 0, 0, 0, 0])).set 49 (.inl [(-1), 0, 0, 0, 0, 0, 0, 0, 0, 0, 0, 0, 0])) ++ [.inr (.inr (2, [.int x1, .int x2, .int x3, .int x4, .int x5, .int x6, .int x7, .int ((1 <<< (x4 &&& 31) : Int32) ||| (1 <<< (x5 &&& 31) : Int32)), .int (1 <<< (x6 &&& 31) : Int32), .int (-1)])), .inr (.inl [some 61, none, none, none, none, none, none, none, none, none])]))) ?_
    exact rrt rfl rfl rfl rfl
  refine rrc rfl rfl rfl (do_of g_X9_sets rfl rfl e1) ?_
  refine rr rfl (s_aload_n rfl) ?_
  refine rr rfl rfl ?_
  refine rr rfl (s_getf rfl rfl) ?_
  refine rr rfl (s_iconst (v := 1) (by decide)) ?_
  refine rr rfl (s_iadd (v := 1) (by decide)) ?_
  refine rr rfl (s_putf rfl rfl (Nat.le_of_ble_eq_true rfl) rfl (Nat.le_of_ble_eq_true rfl) rfl (h' := ((((((((((((((hF.set 3 (.inr (.inr (0, [.int 1, .ref 62, .int 1])))).set 4 (.inl ((List.replicate 8 (0 : Int32)).set (Int32.toNatClampNeg x3) 1))).set 5 (.inl ((List.replicate 8 (0 : Int32)).set (Int32.toNatClampNeg x3) 1))).set 6 (.inr (.inr (6, [.ref 2, .ref 7, .ref 8, .ref 9, .int 1])))).set 41 (.inr (.inr (9, [.int 4, .int 1, .ref 42, .ref 43, .ref 44, .ref 45, .ref 46, .ref 47, .ref 48, .ref 49, .ref 50, .ref 51, .int 0, .int 0, .int 0, .int 0, .int 0, .int 0, .int 0, .int 0, .ref 52, .int 0, .ref 53, .int 0, .ref 54, .int 0, .ref 55, .ref 56, .ref 57, .ref 58, .int 0, .ref 59, .ref 60])))).set 42 (.inl [x1, 0, 0, 0, 0, 0, 0, 0, 0, 0, 0, 0, 0])).set 43 (.inl [x2, 0, 0, 0, 0, 0, 0, 0, 0, 0, 0, 0, 0])).set 44 (.inl [x3, 0, 0, 0, 0, 0, 0, 0, 0, 0, 0, 0, 0])).set 45 (.inl [x4, 0, 0, 0, 0, 0, 0, 0, 0, 0, 0, 0, 0])).set 46 (.inl [x5, 0, 0, 0, 0, 0, 0, 0, 0, 0, 0, 0, 0])).set 47 (.inl [x6, 0, 0, 0, 0, 0, 0, 0, 0, 0, 0, 0, 0])).set 48 (.inl [x7, 0, 0, 0, 0, 0, 0, 0, 0, 0, 0, 0, 0])).set 49 (.inl [(-1), 0, 0, 0, 0, 0, 0, 0, 0, 0, 0, 0, 0])) ++ [.inr (.inr (2, [.int x1, .int x2, .int x3, .int x4, .int x5, .int x6, .int x7, .int ((1 <<< (x4 &&& 31) : Int32) ||| (1 <<< (x5 &&& 31) : Int32)), .int (1 <<< (x6 &&& 31) : Int32), .int (-1)])), .inr (.inl [some 61, none, none, none, none, none, none, none, none, none])]))) ?_
  refine rr rfl (s_aload_n rfl) ?_
  have e2 : a_m MT [] 100000 10 miX9_lays [.ref 41] ((((((((((((((hF.set 3 (.inr (.inr (0, [.int 1, .ref 62, .int 1])))).set 4 (.inl ((List.replicate 8 (0 : Int32)).set (Int32.toNatClampNeg x3) 1))).set 5 (.inl ((List.replicate 8 (0 : Int32)).set (Int32.toNatClampNeg x3) 1))).set 6 (.inr (.inr (6, [.ref 2, .ref 7, .ref 8, .ref 9, .int 1])))).set 41 (.inr (.inr (9, [.int 4, .int 1, .ref 42, .ref 43, .ref 44, .ref 45, .ref 46, .ref 47, .ref 48, .ref 49, .ref 50, .ref 51, .int 0, .int 0, .int 0, .int 0, .int 0, .int 0, .int 0, .int 0, .ref 52, .int 0, .ref 53, .int 0, .ref 54, .int 0, .ref 55, .ref 56, .ref 57, .ref 58, .int 0, .ref 59, .ref 60])))).set 42 (.inl [x1, 0, 0, 0, 0, 0, 0, 0, 0, 0, 0, 0, 0])).set 43 (.inl [x2, 0, 0, 0, 0, 0, 0, 0, 0, 0, 0, 0, 0])).set 44 (.inl [x3, 0, 0, 0, 0, 0, 0, 0, 0, 0, 0, 0, 0])).set 45 (.inl [x4, 0, 0, 0, 0, 0, 0, 0, 0, 0, 0, 0, 0])).set 46 (.inl [x5, 0, 0, 0, 0, 0, 0, 0, 0, 0, 0, 0, 0])).set 47 (.inl [x6, 0, 0, 0, 0, 0, 0, 0, 0, 0, 0, 0, 0])).set 48 (.inl [x7, 0, 0, 0, 0, 0, 0, 0, 0, 0, 0, 0, 0])).set 49 (.inl [(-1), 0, 0, 0, 0, 0, 0, 0, 0, 0, 0, 0, 0])) ++ [.inr (.inr (2, [.int x1, .int x2, .int x3, .int x4, .int x5, .int x6, .int x7, .int ((1 <<< (x4 &&& 31) : Int32) ||| (1 <<< (x5 &&& 31) : Int32)), .int (1 <<< (x6 &&& 31) : Int32), .int (-1)])), .inr (.inl [some 61, none, none, none, none, none, none, none, none, none])]) = some ((some (.int 1)), (((((((((((((((hF.set 3 (.inr (.inr (0, [.int 1, .ref 62, .int 1])))).set 4 (.inl ((List.replicate 8 (0 : Int32)).set (Int32.toNatClampNeg x3) 1))).set 5 (.inl ((List.replicate 8 (0 : Int32)).set (Int32.toNatClampNeg x3) 1))).set 6 (.inr (.inr (6, [.ref 2, .ref 7, .ref 8, .ref 9, .int 1])))).set 41 (.inr (.inr (9, [.int 4, .int 1, .ref 42, .ref 43, .ref 44, .ref 45, .ref 46, .ref 47, .ref 48, .ref 49, .ref 50, .ref 51, .int 0, .int 0, .int 0, .int 0, .int 0, .int 0, .int 0, .int 0, .ref 52, .int 0, .ref 53, .int 0, .ref 54, .int 0, .ref 55, .ref 56, .ref 57, .ref 58, .int 0, .ref 59, .ref 60])))).set 42 (.inl [x1, 0, 0, 0, 0, 0, 0, 0, 0, 0, 0, 0, 0])).set 43 (.inl [x2, 0, 0, 0, 0, 0, 0, 0, 0, 0, 0, 0, 0])).set 44 (.inl [x3, 0, 0, 0, 0, 0, 0, 0, 0, 0, 0, 0, 0])).set 45 (.inl [x4, 0, 0, 0, 0, 0, 0, 0, 0, 0, 0, 0, 0])).set 46 (.inl [x5, 0, 0, 0, 0, 0, 0, 0, 0, 0, 0, 0, 0])).set 47 (.inl [x6, 0, 0, 0, 0, 0, 0, 0, 0, 0, 0, 0, 0])).set 48 (.inl [x7, 0, 0, 0, 0, 0, 0, 0, 0, 0, 0, 0, 0])).set 49 (.inl [(-1), 0, 0, 0, 0, 0, 0, 0, 0, 0, 0, 0, 0])).set 51 (.inl ((List.replicate 8 (0 : Int32)).set (Int32.toNatClampNeg x3) 1))) ++ [.inr (.inr (2, [.int x1, .int x2, .int x3, .int x4, .int x5, .int x6, .int x7, .int ((1 <<< (x4 &&& 31) : Int32) ||| (1 <<< (x5 &&& 31) : Int32)), .int (1 <<< (x6 &&& 31) : Int32), .int (-1)])), .inr (.inl [some 61, none, none, none, none, none, none, none, none, none])]), 0, 0) := by
    refine me (d := 9) g_X9_lays (Nat.le_of_ble_eq_true rfl) ?_
    refine rr rfl (s_iconst (v := 0) (by decide)) ?_
    refine rr rfl (s_istore_n rfl) ?_
    refine rr rfl (s_iload_n rfl) ?_
    refine rr rfl (s_bipush (v := 8) (by decide)) ?_
    refine rr rfl (s_icF (by decide)) ?_
    refine rr rfl (s_aload_n rfl) ?_
    refine rr rfl (s_getf rfl rfl) ?_
    refine rr rfl (s_iload_n rfl) ?_
    refine rr rfl (s_iconst (v := 0) (by decide)) ?_
    refine rr rfl (s_iastore (j := 0) (f' := (List.replicate 8 0)) rfl rfl (Nat.le_of_ble_eq_true rfl) rfl (Nat.le_of_ble_eq_true rfl) rfl (h' := ((((((((((((((hF.set 3 (.inr (.inr (0, [.int 1, .ref 62, .int 1])))).set 4 (.inl ((List.replicate 8 (0 : Int32)).set (Int32.toNatClampNeg x3) 1))).set 5 (.inl ((List.replicate 8 (0 : Int32)).set (Int32.toNatClampNeg x3) 1))).set 6 (.inr (.inr (6, [.ref 2, .ref 7, .ref 8, .ref 9, .int 1])))).set 41 (.inr (.inr (9, [.int 4, .int 1, .ref 42, .ref 43, .ref 44, .ref 45, .ref 46, .ref 47, .ref 48, .ref 49, .ref 50, .ref 51, .int 0, .int 0, .int 0, .int 0, .int 0, .int 0, .int 0, .int 0, .ref 52, .int 0, .ref 53, .int 0, .ref 54, .int 0, .ref 55, .ref 56, .ref 57, .ref 58, .int 0, .ref 59, .ref 60])))).set 42 (.inl [x1, 0, 0, 0, 0, 0, 0, 0, 0, 0, 0, 0, 0])).set 43 (.inl [x2, 0, 0, 0, 0, 0, 0, 0, 0, 0, 0, 0, 0])).set 44 (.inl [x3, 0, 0, 0, 0, 0, 0, 0, 0, 0, 0, 0, 0])).set 45 (.inl [x4, 0, 0, 0, 0, 0, 0, 0, 0, 0, 0, 0, 0])).set 46 (.inl [x5, 0, 0, 0, 0, 0, 0, 0, 0, 0, 0, 0, 0])).set 47 (.inl [x6, 0, 0, 0, 0, 0, 0, 0, 0, 0, 0, 0, 0])).set 48 (.inl [x7, 0, 0, 0, 0, 0, 0, 0, 0, 0, 0, 0, 0])).set 49 (.inl [(-1), 0, 0, 0, 0, 0, 0, 0, 0, 0, 0, 0, 0])) ++ [.inr (.inr (2, [.int x1, .int x2, .int x3, .int x4, .int x5, .int x6, .int x7, .int ((1 <<< (x4 &&& 31) : Int32) ||| (1 <<< (x5 &&& 31) : Int32)), .int (1 <<< (x6 &&& 31) : Int32), .int (-1)])), .inr (.inl [some 61, none, none, none, none, none, none, none, none, none])]))) ?_
    refine rr rfl (s_iinc (v := 1) rfl (by decide) rfl) ?_
    refine rr rfl s_goto ?_
    refine rr rfl (s_iload_n rfl) ?_
    refine rr rfl (s_bipush (v := 8) (by decide)) ?_
    refine rr rfl (s_icF (by decide)) ?_
    refine rr rfl (s_aload_n rfl) ?_
    refine rr rfl (s_getf rfl rfl) ?_
    refine rr rfl (s_iload_n rfl) ?_
    refine rr rfl (s_iconst (v := 0) (by decide)) ?_
    refine rr rfl (s_iastore (j := 1) (f' := (List.replicate 8 0)) rfl rfl (Nat.le_of_ble_eq_true rfl) rfl (Nat.le_of_ble_eq_true rfl) rfl (h' := ((((((((((((((hF.set 3 (.inr (.inr (0, [.int 1, .ref 62, .int 1])))).set 4 (.inl ((List.replicate 8 (0 : Int32)).set (Int32.toNatClampNeg x3) 1))).set 5 (.inl ((List.replicate 8 (0 : Int32)).set (Int32.toNatClampNeg x3) 1))).set 6 (.inr (.inr (6, [.ref 2, .ref 7, .ref 8, .ref 9, .int 1])))).set 41 (.inr (.inr (9, [.int 4, .int 1, .ref 42, .ref 43, .ref 44, .ref 45, .ref 46, .ref 47, .ref 48, .ref 49, .ref 50, .ref 51, .int 0, .int 0, .int 0, .int 0, .int 0, .int 0, .int 0, .int 0, .ref 52, .int 0, .ref 53, .int 0, .ref 54, .int 0, .ref 55, .ref 56, .ref 57, .ref 58, .int 0, .ref 59, .ref 60])))).set 42 (.inl [x1, 0, 0, 0, 0, 0, 0, 0, 0, 0, 0, 0, 0])).set 43 (.inl [x2, 0, 0, 0, 0, 0, 0, 0, 0, 0, 0, 0, 0])).set 44 (.inl [x3, 0, 0, 0, 0, 0, 0, 0, 0, 0, 0, 0, 0])).set 45 (.inl [x4, 0, 0, 0, 0, 0, 0, 0, 0, 0, 0, 0, 0])).set 46 (.inl [x5, 0, 0, 0, 0, 0, 0, 0, 0, 0, 0, 0, 0])).set 47 (.inl [x6, 0, 0, 0, 0, 0, 0, 0, 0, 0, 0, 0, 0])).set 48 (.inl [x7, 0, 0, 0, 0, 0, 0, 0, 0, 0, 0, 0, 0])).set 49 (.inl [(-1), 0, 0, 0, 0, 0, 0, 0, 0, 0, 0, 0, 0])) ++ [.inr (.inr (2, [.int x1, .int x2, .int x3, .int x4, .int x5, .int x6, .int x7, .int ((1 <<< (x4 &&& 31) : Int32) ||| (1 <<< (x5 &&& 31) : Int32)), .int (1 <<< (x6 &&& 31) : Int32), .int (-1)])), .inr (.inl [some 61, none, none, none, none, none, none, none, none, none])]))) ?_
    refine rr rfl (s_iinc (v := 2) rfl (by decide) rfl) ?_
    refine rr rfl s_goto ?_
    refine rr rfl (s_iload_n rfl) ?_
    refine rr rfl (s_bipush (v := 8) (by decide)) ?_
    refine rr rfl (s_icF (by decide)) ?_
    refine rr rfl (s_aload_n rfl) ?_
    refine rr rfl (s_getf rfl rfl) ?_
    refine rr rfl (s_iload_n rfl) ?_
    refine rr rfl (s_iconst (v := 0) (by decide)) ?_
    refine rr rfl (s_iastore (j := 2) (f' := (List.replicate 8 0)) rfl rfl (Nat.le_of_ble_eq_true rfl) rfl (Nat.le_of_ble_eq_true rfl) rfl (h' := ((((((((((((((hF.set 3 (.inr (.inr (0, [.int 1, .ref 62, .int 1])))).set 4 (.inl ((List.replicate 8 (0 : Int32)).set (Int32.toNatClampNeg x3) 1))).set 5 (.inl ((List.replicate 8 (0 : Int32)).set (Int32.toNatClampNeg x3) 1))).set 6 (.inr (.inr (6, [.ref 2, .ref 7, .ref 8, .ref 9, .int 1])))).set 41 (.inr (.inr (9, [.int 4, .int 1, .ref 42, .ref 43, .ref 44, .ref 45, .ref 46, .ref 47, .ref 48, .ref 49, .ref 50, .ref 51, .int 0, .int 0, .int 0, .int 0, .int 0, .int 0, .int 0, .int 0, .ref 52, .int 0, .ref 53, .int 0, .ref 54, .int 0, .ref 55, .ref 56, .ref 57, .ref 58, .int 0, .ref 59, .ref 60])))).set 42 (.inl [x1, 0, 0, 0, 0, 0, 0, 0, 0, 0, 0, 0, 0])).set 43 (.inl [x2, 0, 0, 0, 0, 0, 0, 0, 0, 0, 0, 0, 0])).set 44 (.inl [x3, 0, 0, 0, 0, 0, 0, 0, 0, 0, 0, 0, 0])).set 45 (.inl [x4, 0, 0, 0, 0, 0, 0, 0, 0, 0, 0, 0, 0])).set 46 (.inl [x5, 0, 0, 0, 0, 0, 0, 0, 0, 0, 0, 0, 0])).set 47 (.inl [x6, 0, 0, 0, 0, 0, 0, 0, 0, 0, 0, 0, 0])).set 48 (.inl [x7, 0, 0, 0, 0, 0, 0, 0, 0, 0, 0, 0, 0])).set 49 (.inl [(-1), 0, 0, 0, 0, 0, 0, 0, 0, 0, 0, 0, 0])) ++ [.inr (.inr (2, [.int x1, .int x2, .int x3, .int x4, .int x5, .int x6, .int x7, .int ((1 <<< (x4 &&& 31) : Int32) ||| (1 <<< (x5 &&& 31) : Int32)), .int (1 <<< (x6 &&& 31) : Int32), .int (-1)])), .inr (.inl [some 61, none, none, none, none, none, none, none, none, none])]))) ?_
    refine rr rfl (s_iinc (v := 3) rfl (by decide) rfl) ?_
    refine rr rfl s_goto ?_
    refine rr rfl (s_iload_n rfl) ?_
    refine rr rfl (s_bipush (v := 8) (by decide)) ?_
    refine rr rfl (s_icF (by decide)) ?_
    refine rr rfl (s_aload_n rfl) ?_
    refine rr rfl (s_getf rfl rfl) ?_
    refine rr rfl (s_iload_n rfl) ?_
    refine rr rfl (s_iconst (v := 0) (by decide)) ?_
    refine rr rfl (s_iastore (j := 3) (f' := (List.replicate 8 0)) rfl rfl (Nat.le_of_ble_eq_true rfl) rfl (Nat.le_of_ble_eq_true rfl) rfl (h' := ((((((((((((((hF.set 3 (.inr (.inr (0, [.int 1, .ref 62, .int 1])))).set 4 (.inl ((List.replicate 8 (0 : Int32)).set (Int32.toNatClampNeg x3) 1))).set 5 (.inl ((List.replicate 8 (0 : Int32)).set (Int32.toNatClampNeg x3) 1))).set 6 (.inr (.inr (6, [.ref 2, .ref 7, .ref 8, .ref 9, .int 1])))).set 41 (.inr (.inr (9, [.int 4, .int 1, .ref 42, .ref 43, .ref 44, .ref 45, .ref 46, .ref 47, .ref 48, .ref 49, .ref 50, .ref 51, .int 0, .int 0, .int 0, .int 0, .int 0, .int 0, .int 0, .int 0, .ref 52, .int 0, .ref 53, .int 0, .ref 54, .int 0, .ref 55, .ref 56, .ref 57, .ref 58, .int 0, .ref 59, .ref 60])))).set 42 (.inl [x1, 0, 0, 0, 0, 0, 0, 0, 0, 0, 0, 0, 0])).set 43 (.inl [x2, 0, 0, 0, 0, 0, 0, 0, 0, 0, 0, 0, 0])).set 44 (.inl [x3, 0, 0, 0, 0, 0, 0, 0, 0, 0, 0, 0, 0])).set 45 (.inl [x4, 0, 0, 0, 0, 0, 0, 0, 0, 0, 0, 0, 0])).set 46 (.inl [x5, 0, 0, 0, 0, 0, 0, 0, 0, 0, 0, 0, 0])).set 47 (.inl [x6, 0, 0, 0, 0, 0, 0, 0, 0, 0, 0, 0, 0])).set 48 (.inl [x7, 0, 0, 0, 0, 0, 0, 0, 0, 0, 0, 0, 0])).set 49 (.inl [(-1), 0, 0, 0, 0, 0, 0, 0, 0, 0, 0, 0, 0])) ++ [.inr (.inr (2, [.int x1, .int x2, .int x3, .int x4, .int x5, .int x6, .int x7, .int ((1 <<< (x4 &&& 31) : Int32) ||| (1 <<< (x5 &&& 31) : Int32)), .int (1 <<< (x6 &&& 31) : Int32), .int (-1)])), .inr (.inl [some 61, none, none, none, none, none, none, none, none, none])]))) ?_
    refine rr rfl (s_iinc (v := 4) rfl (by decide) rfl) ?_
    refine rr rfl s_goto ?_
    refine rr rfl (s_iload_n rfl) ?_
    refine rr rfl (s_bipush (v := 8) (by decide)) ?_
    refine rr rfl (s_icF (by decide)) ?_
    refine rr rfl (s_aload_n rfl) ?_
    refine rr rfl (s_getf rfl rfl) ?_
    refine rr rfl (s_iload_n rfl) ?_
    refine rr rfl (s_iconst (v := 0) (by decide)) ?_
    refine rr rfl (s_iastore (j := 4) (f' := (List.replicate 8 0)) rfl rfl (Nat.le_of_ble_eq_true rfl) rfl (Nat.le_of_ble_eq_true rfl) rfl (h' := ((((((((((((((hF.set 3 (.inr (.inr (0, [.int 1, .ref 62, .int 1])))).set 4 (.inl ((List.replicate 8 (0 : Int32)).set (Int32.toNatClampNeg x3) 1))).set 5 (.inl ((List.replicate 8 (0 : Int32)).set (Int32.toNatClampNeg x3) 1))).set 6 (.inr (.inr (6, [.ref 2, .ref 7, .ref 8, .ref 9, .int 1])))).set 41 (.inr (.inr (9, [.int 4, .int 1, .ref 42, .ref 43, .ref 44, .ref 45, .ref 46, .ref 47, .ref 48, .ref 49, .ref 50, .ref 51, .int 0, .int 0, .int 0, .int 0, .int 0, .int 0, .int 0, .int 0, .ref 52, .int 0, .ref 53, .int 0, .ref 54, .int 0, .ref 55, .ref 56, .ref 57, .ref 58, .int 0, .ref 59, .ref 60])))).set 42 (.inl [x1, 0, 0, 0, 0, 0, 0, 0, 0, 0, 0, 0, 0])).set 43 (.inl [x2, 0, 0, 0, 0, 0, 0, 0, 0, 0, 0, 0, 0])).set 44 (.inl [x3, 0, 0, 0, 0, 0, 0, 0, 0, 0, 0, 0, 0])).set 45 (.inl [x4, 0, 0, 0, 0, 0, 0, 0, 0, 0, 0, 0, 0])).set 46 (.inl [x5, 0, 0, 0, 0, 0, 0, 0, 0, 0, 0, 0, 0])).set 47 (.inl [x6, 0, 0, 0, 0, 0, 0, 0, 0, 0, 0, 0, 0])).set 48 (.inl [x7, 0, 0, 0, 0, 0, 0, 0, 0, 0, 0, 0, 0])).set 49 (.inl [(-1), 0, 0, 0, 0, 0, 0, 0, 0, 0, 0, 0, 0])) ++ [.inr (.inr (2, [.int x1, .int x2, .int x3, .int x4, .int x5, .int x6, .int x7, .int ((1 <<< (x4 &&& 31) : Int32) ||| (1 <<< (x5 &&& 31) : Int32)), .int (1 <<< (x6 &&& 31) : Int32), .int (-1)])), .inr (.inl [some 61, none, none, none, none, none, none, none, none, none])]))) ?_
    refine rr rfl (s_iinc (v := 5) rfl (by decide) rfl) ?_
    refine rr rfl s_goto ?_
    refine rr rfl (s_iload_n rfl) ?_
    refine rr rfl (s_bipush (v := 8) (by decide)) ?_
    refine rr rfl (s_icF (by decide)) ?_
    refine rr rfl (s_aload_n rfl) ?_
    refine rr rfl (s_getf rfl rfl) ?_
    refine rr rfl (s_iload_n rfl) ?_
    refine rr rfl (s_iconst (v := 0) (by decide)) ?_
    refine rr rfl (s_iastore (j := 5) (f' := (List.replicate 8 0)) rfl rfl (Nat.le_of_ble_eq_true rfl) rfl (Nat.le_of_ble_eq_true rfl) rfl (h' := ((((((((((((((hF.set 3 (.inr (.inr (0, [.int 1, .ref 62, .int 1])))).set 4 (.inl ((List.replicate 8 (0 : Int32)).set (Int32.toNatClampNeg x3) 1))).set 5 (.inl ((List.replicate 8 (0 : Int32)).set (Int32.toNatClampNeg x3) 1))).set 6 (.inr (.inr (6, [.ref 2, .ref 7, .ref 8, .ref 9, .int 1])))).set 41 (.inr (.inr (9, [.int 4, .int 1, .ref 42, .ref 43, .ref 44, .ref 45, .ref 46, .ref 47, .ref 48, .ref 49, .ref 50, .ref 51, .int 0, .int 0, .int 0, .int 0, .int 0, .int 0, .int 0, .int 0, .ref 52, .int 0, .ref 53, .int 0, .ref 54, .int 0, .ref 55, .ref 56, .ref 57, .ref 58, .int 0, .ref 59, .ref 60])))).set 42 (.inl [x1, 0, 0, 0, 0, 0, 0, 0, 0, 0, 0, 0, 0])).set 43 (.inl [x2, 0, 0, 0, 0, 0, 0, 0, 0, 0, 0, 0, 0])).set 44 (.inl [x3, 0, 0, 0, 0, 0, 0, 0, 0, 0, 0, 0, 0])).set 45 (.inl [x4, 0, 0, 0, 0, 0, 0, 0, 0, 0, 0, 0, 0])).set 46 (.inl [x5, 0, 0, 0, 0, 0, 0, 0, 0, 0, 0, 0, 0])).set 47 (.inl [x6, 0, 0, 0, 0, 0, 0, 0, 0, 0, 0, 0, 0])).set 48 (.inl [x7, 0, 0, 0, 0, 0, 0, 0, 0, 0, 0, 0, 0])).set 49 (.inl [(-1), 0, 0, 0, 0, 0, 0, 0, 0, 0, 0, 0, 0])) ++ [.inr (.inr (2, [.int x1, .int x2, .int x3, .int x4, .int x5, .int x6, .int x7, .int ((1 <<< (x4 &&& 31) : Int32) ||| (1 <<< (x5 &&& 31) : Int32)), .int (1 <<< (x6 &&& 31) : Int32), .int (-1)])), .inr (.inl [some 61, none, none, none, none, none, none, none, none, none])]))) ?_
    refine rr rfl (s_iinc (v := 6) rfl (by decide) rfl) ?_
    refine rr rfl s_goto ?_
    refine rr rfl (s_iload_n rfl) ?_
    refine rr rfl (s_bipush (v := 8) (by decide)) ?_
    refine rr rfl (s_icF (by decide)) ?_
    refine rr rfl (s_aload_n rfl) ?_
    refine rr rfl (s_getf rfl rfl) ?_
    refine rr rfl (s_iload_n rfl) ?_
    refine rr rfl (s_iconst (v := 0) (by decide)) ?_
    refine rr rfl (s_iastore (j := 6) (f' := (List.replicate 8 0)) rfl rfl (Nat.le_of_ble_eq_true rfl) rfl (Nat.le_of_ble_eq_true rfl) rfl (h' := ((((((((((((((hF.set 3 (.inr (.inr (0, [.int 1, .ref 62, .int 1])))).set 4 (.inl ((List.replicate 8 (0 : Int32)).set (Int32.toNatClampNeg x3) 1))).set 5 (.inl ((List.replicate 8 (0 : Int32)).set (Int32.toNatClampNeg x3) 1))).set 6 (.inr (.inr (6, [.ref 2, .ref 7, .ref 8, .ref 9, .int 1])))).set 41 (.inr (.inr (9, [.int 4, .int 1, .ref 42, .ref 43, .ref 44, .ref 45, .ref 46, .ref 47, .ref 48, .ref 49, .ref 50, .ref 51, .int 0, .int 0, .int 0, .int 0, .int 0, .int 0, .int 0, .int 0, .ref 52, .int 0, .ref 53, .int 0, .ref 54, .int 0, .ref 55, .ref 56, .ref 57, .ref 58, .int 0, .ref 59, .ref 60])))).set 42 (.inl [x1, 0, 0, 0, 0, 0, 0, 0, 0, 0, 0, 0, 0])).set 43 (.inl [x2, 0, 0, 0, 0, 0, 0, 0, 0, 0, 0, 0, 0])).set 44 (.inl [x3, 0, 0, 0, 0, 0, 0, 0, 0, 0, 0, 0, 0])).set 45 (.inl [x4, 0, 0, 0, 0, 0, 0, 0, 0, 0, 0, 0, 0])).set 46 (.inl [x5, 0, 0, 0, 0, 0, 0, 0, 0, 0, 0, 0, 0])).set 47 (.inl [x6, 0, 0, 0, 0, 0, 0, 0, 0, 0, 0, 0, 0])).set 48 (.inl [x7, 0, 0, 0, 0, 0, 0, 0, 0, 0, 0, 0, 0])).set 49 (.inl [(-1), 0, 0, 0, 0, 0, 0, 0, 0, 0, 0, 0, 0])) ++ [.inr (.inr (2, [.int x1, .int x2, .int x3, .int x4, .int x5, .int x6, .int x7, .int ((1 <<< (x4 &&& 31) : Int32) ||| (1 <<< (x5 &&& 31) : Int32)), .int (1 <<< (x6 &&& 31) : Int32), .int (-1)])), .inr (.inl [some 61, none, none, none, none, none, none, none, none, none])]))) ?_
    refine rr rfl (s_iinc (v := 7) rfl (by decide) rfl) ?_
    refine rr rfl s_goto ?_
    refine rr rfl (s_iload_n rfl) ?_
    refine rr rfl (s_bipush (v := 8) (by decide)) ?_
    refine rr rfl (s_icF (by decide)) ?_
    refine rr rfl (s_aload_n rfl) ?_
    refine rr rfl (s_getf rfl rfl) ?_
    refine rr rfl (s_iload_n rfl) ?_
    refine rr rfl (s_iconst (v := 0) (by decide)) ?_
    refine rr rfl (s_iastore (j := 7) (f' := (List.replicate 8 0)) rfl rfl (Nat.le_of_ble_eq_true rfl) rfl (Nat.le_of_ble_eq_true rfl) rfl (h' := ((((((((((((((hF.set 3 (.inr (.inr (0, [.int 1, .ref 62, .int 1])))).set 4 (.inl ((List.replicate 8 (0 : Int32)).set (Int32.toNatClampNeg x3) 1))).set 5 (.inl ((List.replicate 8 (0 : Int32)).set (Int32.toNatClampNeg x3) 1))).set 6 (.inr (.inr (6, [.ref 2, .ref 7, .ref 8, .ref 9, .int 1])))).set 41 (.inr (.inr (9, [.int 4, .int 1, .ref 42, .ref 43, .ref 44, .ref 45, .ref 46, .ref 47, .ref 48, .ref 49, .ref 50, .ref 51, .int 0, .int 0, .int 0, .int 0, .int 0, .int 0, .int 0, .int 0, .ref 52, .int 0, .ref 53, .int 0, .ref 54, .int 0, .ref 55, .ref 56, .ref 57, .ref 58, .int 0, .ref 59, .ref 60])))).set 42 (.inl [x1, 0, 0, 0, 0, 0, 0, 0, 0, 0, 0, 0, 0])).set 43 (.inl [x2, 0, 0, 0, 0, 0, 0, 0, 0, 0, 0, 0, 0])).set 44 (.inl [x3, 0, 0, 0, 0, 0, 0, 0, 0, 0, 0, 0, 0])).set 45 (.inl [x4, 0, 0, 0, 0, 0, 0, 0, 0, 0, 0, 0, 0])).set 46 (.inl [x5, 0, 0, 0, 0, 0, 0, 0, 0, 0, 0, 0, 0])).set 47 (.inl [x6, 0, 0, 0, 0, 0, 0, 0, 0, 0, 0, 0, 0])).set 48 (.inl [x7, 0, 0, 0, 0, 0, 0, 0, 0, 0, 0, 0, 0])).set 49 (.inl [(-1), 0, 0, 0, 0, 0, 0, 0, 0, 0, 0, 0, 0])) ++ [.inr (.inr (2, [.int x1, .int x2, .int x3, .int x4, .int x5, .int x6, .int x7, .int ((1 <<< (x4 &&& 31) : Int32) ||| (1 <<< (x5 &&& 31) : Int32)), .int (1 <<< (x6 &&& 31) : Int32), .int (-1)])), .inr (.inl [some 61, none, none, none, none, none, none, none, none, none])]))) ?_
    refine rr rfl (s_iinc (v := 8) rfl (by decide) rfl) ?_
    refine rr rfl s_goto ?_
    refine rr rfl (s_iload_n rfl) ?_
    refine rr rfl (s_bipush (v := 8) (by decide)) ?_
    refine rr rfl (s_icT (by decide)) ?_
    refine rr rfl (s_iconst (v := 1) (by decide)) ?_
    refine rr rfl (s_istore_n rfl) ?_
    refine rr rfl (s_iconst (v := 1) (by decide)) ?_
    refine rr rfl (s_istore_n rfl) ?_
    refine rr rfl (s_iload_n rfl) ?_
    refine rr rfl (s_ifF (by decide)) ?_
    refine rr rfl (s_iload_n rfl) ?_
    refine rr rfl (s_ifF (by decide)) ?_
    refine rr rfl (s_iconst (v := 0) (by decide)) ?_
    refine rr rfl (s_istore_n rfl) ?_
    refine rr rfl (s_iconst (v := 0) (by decide)) ?_
    refine rr rfl (s_istore_n rfl) ?_
    refine rr rfl (s_iload_n rfl) ?_
    refine rr rfl (s_aload_n rfl) ?_
    refine rr rfl (s_getf rfl rfl) ?_
    refine rr rfl (s_icF (by decide)) ?_
    refine rr rfl (s_iconst (v := 0) (by decide)) ?_
    refine rr rfl (s_istore rfl) ?_
    refine rr rfl (s_aload_n rfl) ?_
    refine rr rfl (s_getf rfl rfl) ?_
    refine rr rfl (s_iload_n rfl) ?_
    refine rr rfl (s_iaload (j := 0) rfl rfl rfl) ?_
    refine rr rfl (s_ifF (ic_nne g1)) ?_
    refine rr rfl (s_aload_n rfl) ?_
    refine rr rfl (s_getf rfl rfl) ?_
    refine rr rfl (s_aload_n rfl) ?_
    refine rr rfl (s_getf rfl rfl) ?_
    refine rr rfl (s_iload_n rfl) ?_
    refine rr rfl (s_iaload (j := 0) rfl rfl rfl) ?_
    refine rr rfl (s_ialdR (n := 8) (x := 0) rfl g2 g3) ?_
    refine rr rfl (s_istore rfl) ?_
    refine rr rfl (s_aload_n rfl) ?_
    refine rr rfl (s_getf rfl rfl) ?_
    refine rr rfl (s_iload_n rfl) ?_
    refine rr rfl (s_iaload (j := 0) rfl rfl rfl) ?_
    refine rr rfl (s_iconst (v := (-1)) (by decide)) ?_
    refine rr rfl (s_icF (ic_neq g4)) ?_
    refine rr rfl (s_aload_n rfl) ?_
    refine rr rfl (s_getf rfl rfl) ?_
    refine rr rfl (s_aload_n rfl) ?_
    refine rr rfl (s_getf rfl rfl) ?_
    refine rr rfl (s_iload_n rfl) ?_
    refine rr rfl (s_iaload (j := 0) rfl rfl rfl) ?_
    refine rr rfl (s_ialdR (n := 8) (x := 0) rfl g5 g6) ?_
    refine rr rfl (s_iload rfl) ?_
    refine rr rfl (s_icT (by decide)) ?_
    refine rr rfl (s_iload rfl) ?_
    refine rr rfl (s_istore rfl) ?_
    refine rr rfl (s_aload_n rfl) ?_
    refine rr rfl (s_getf rfl rfl) ?_
    refine rr rfl (s_iload_n rfl) ?_
    refine rr rfl (s_iaload (j := 0) rfl rfl rfl) ?_
    refine rr rfl (s_iconst (v := (-1)) (by decide)) ?_
    refine rr rfl (s_icF (ic_neq g7)) ?_
    refine rr rfl (s_aload_n rfl) ?_
    refine rr rfl (s_getf rfl rfl) ?_
    refine rr rfl (s_aload_n rfl) ?_
    refine rr rfl (s_getf rfl rfl) ?_
    refine rr rfl (s_iload_n rfl) ?_
    refine rr rfl (s_iaload (j := 0) rfl rfl rfl) ?_
    refine rr rfl (s_ialdR (n := 8) (x := 0) rfl g8 g9) ?_
    refine rr rfl (s_iconst (v := 1) (by decide)) ?_
    refine rr rfl (s_iadd (v := 1) (by decide)) ?_
    refine rr rfl (s_iload rfl) ?_
    refine rr rfl (s_icF (by decide)) ?_
    refine rr rfl (s_aload_n rfl) ?_
    refine rr rfl (s_getf rfl rfl) ?_
    refine rr rfl (s_aload_n rfl) ?_
    refine rr rfl (s_getf rfl rfl) ?_
    refine rr rfl (s_iload_n rfl) ?_
    refine rr rfl (s_iaload (j := 0) rfl rfl rfl) ?_
    refine rr rfl (s_ialdR (n := 8) (x := 0) rfl g8 g9) ?_
    refine rr rfl (s_iconst (v := 1) (by decide)) ?_
    refine rr rfl (s_iadd (v := 1) (by decide)) ?_
    refine rr rfl s_goto ?_
    refine rr rfl (s_istore rfl) ?_
    refine rr rfl (s_iload rfl) ?_
    refine rr rfl (s_aload_n rfl) ?_
    refine rr rfl (s_getf rfl rfl) ?_
    refine rr rfl (s_aload_n rfl) ?_
    refine rr rfl (s_getf rfl rfl) ?_
    refine rr rfl (s_iload_n rfl) ?_
    refine rr rfl (s_iaload (j := 0) rfl rfl rfl) ?_
    refine rr rfl (s_ialdR (n := 8) (x := 0) rfl g10 g11) ?_
    refine rr rfl (s_icF (by decide)) ?_
    refine rr rfl (s_aload_n rfl) ?_
    refine rr rfl (s_getf rfl rfl) ?_
    refine rr rfl (s_aload_n rfl) ?_
    refine rr rfl (s_getf rfl rfl) ?_
    refine rr rfl (s_iload_n rfl) ?_
    refine rr rfl (s_iaload (j := 0) rfl rfl rfl) ?_
    refine rr rfl (s_iload rfl) ?_
    refine rr rfl (s_iastR (n := 8) rfl g10 g11 (Nat.le_of_ble_eq_true rfl) rfl (h' := (((((((((((((((hF.set 3 (.inr (.inr (0, [.int 1, .ref 62, .int 1])))).set 4 (.inl ((List.replicate 8 (0 : Int32)).set (Int32.toNatClampNeg x3) 1))).set 5 (.inl ((List.replicate 8 (0 : Int32)).set (Int32.toNatClampNeg x3) 1))).set 6 (.inr (.inr (6, [.ref 2, .ref 7, .ref 8, .ref 9, .int 1])))).set 41 (.inr (.inr (9, [.int 4, .int 1, .ref 42, .ref 43, .ref 44, .ref 45, .ref 46, .ref 47, .ref 48, .ref 49, .ref 50, .ref 51, .int 0, .int 0, .int 0, .int 0, .int 0, .int 0, .int 0, .int 0, .ref 52, .int 0, .ref 53, .int 0, .ref 54, .int 0, .ref 55, .ref 56, .ref 57, .ref 58, .int 0, .ref 59, .ref 60])))).set 42 (.inl [x1, 0, 0, 0, 0, 0, 0, 0, 0, 0, 0, 0, 0])).set 43 (.inl [x2, 0, 0, 0, 0, 0, 0, 0, 0, 0, 0, 0, 0])).set 44 (.inl [x3, 0, 0, 0, 0, 0, 0, 0, 0, 0, 0, 0, 0])).set 45 (.inl [x4, 0, 0, 0, 0, 0, 0, 0, 0, 0, 0, 0, 0])).set 46 (.inl [x5, 0, 0, 0, 0, 0, 0, 0, 0, 0, 0, 0, 0])).set 47 (.inl [x6, 0, 0, 0, 0, 0, 0, 0, 0, 0, 0, 0, 0])).set 48 (.inl [x7, 0, 0, 0, 0, 0, 0, 0, 0, 0, 0, 0, 0])).set 49 (.inl [(-1), 0, 0, 0, 0, 0, 0, 0, 0, 0, 0, 0, 0])).set 51 (.inl ((List.replicate 8 (0 : Int32)).set (Int32.toNatClampNeg x3) 1))) ++ [.inr (.inr (2, [.int x1, .int x2, .int x3, .int x4, .int x5, .int x6, .int x7, .int ((1 <<< (x4 &&& 31) : Int32) ||| (1 <<< (x5 &&& 31) : Int32)), .int (1 <<< (x6 &&& 31) : Int32), .int (-1)])), .inr (.inl [some 61, none, none, none, none, none, none, none, none, none])]))) ?_
    refine rr rfl (s_iconst (v := 1) (by decide)) ?_
    refine rr rfl (s_istore_n rfl) ?_
    refine rr rfl (s_iload_n rfl) ?_
    refine rr rfl (s_ifF (by decide)) ?_
    refine rr rfl (s_iload rfl) ?_
    refine rr rfl (s_bipush (v := 8) (by decide)) ?_
    refine rr rfl (s_icF (by decide)) ?_
    refine rr rfl (s_iconst (v := 1) (by decide)) ?_
    refine rr rfl s_goto ?_
    refine rr rfl (s_istore_n rfl) ?_
    refine rr rfl (s_iinc (v := 1) rfl (by decide) rfl) ?_
    refine rr rfl s_goto ?_
    refine rr rfl (s_iload_n rfl) ?_
    refine rr rfl (s_aload_n rfl) ?_
    refine rr rfl (s_getf rfl rfl) ?_
    refine rr rfl (s_icT (by decide)) ?_
    refine rr rfl s_goto ?_
    refine rr rfl (s_iload_n rfl) ?_
    refine rr rfl (s_ifF (by decide)) ?_
    refine rr rfl (s_iload_n rfl) ?_
    refine rr rfl (s_ifF (by decide)) ?_
    refine rr rfl (s_iconst (v := 0) (by decide)) ?_
    refine rr rfl (s_istore_n rfl) ?_
    refine rr rfl (s_iconst (v := 0) (by decide)) ?_
    refine rr rfl (s_istore_n rfl) ?_
    refine rr rfl (s_iload_n rfl) ?_
    refine rr rfl (s_aload_n rfl) ?_
    refine rr rfl (s_getf rfl rfl) ?_
    refine rr rfl (s_icF (by decide)) ?_
    refine rr rfl (s_iconst (v := 0) (by decide)) ?_
    refine rr rfl (s_istore rfl) ?_
    refine rr rfl (s_aload_n rfl) ?_
    refine rr rfl (s_getf rfl rfl) ?_
    refine rr rfl (s_iload_n rfl) ?_
    refine rr rfl (s_iaload (j := 0) rfl rfl rfl) ?_
    refine rr rfl (s_ifF (ic_nne g1)) ?_
    refine rr rfl (s_aload_n rfl) ?_
    refine rr rfl (s_getf rfl rfl) ?_
    refine rr rfl (s_aload_n rfl) ?_
    refine rr rfl (s_getf rfl rfl) ?_
    refine rr rfl (s_iload_n rfl) ?_
    refine rr rfl (s_iaload (j := 0) rfl rfl rfl) ?_
    refine rr rfl (s_ialdN rfl g12 g2 g3 g10) ?_
    refine rr rfl (s_istore rfl) ?_
    refine rr rfl (s_aload_n rfl) ?_
    refine rr rfl (s_getf rfl rfl) ?_
    refine rr rfl (s_iload_n rfl) ?_
    refine rr rfl (s_iaload (j := 0) rfl rfl rfl) ?_
    refine rr rfl (s_iconst (v := (-1)) (by decide)) ?_
    refine rr rfl (s_icF (ic_neq g4)) ?_
    refine rr rfl (s_aload_n rfl) ?_
    refine rr rfl (s_getf rfl rfl) ?_
    refine rr rfl (s_aload_n rfl) ?_
    refine rr rfl (s_getf rfl rfl) ?_
    refine rr rfl (s_iload_n rfl) ?_
    refine rr rfl (s_iaload (j := 0) rfl rfl rfl) ?_
    refine rr rfl (s_ialdH rfl g13 g10 g11) ?_
    refine rr rfl (s_iload rfl) ?_
    refine rr rfl (s_icF (by decide)) ?_
    refine rr rfl (s_aload_n rfl) ?_
    refine rr rfl (s_getf rfl rfl) ?_
    refine rr rfl (s_aload_n rfl) ?_
    refine rr rfl (s_getf rfl rfl) ?_
    refine rr rfl (s_iload_n rfl) ?_
    refine rr rfl (s_iaload (j := 0) rfl rfl rfl) ?_
    refine rr rfl (s_ialdH rfl g13 g10 g11) ?_
    refine rr rfl s_goto ?_
    refine rr rfl (s_istore rfl) ?_
    refine rr rfl (s_aload_n rfl) ?_
    refine rr rfl (s_getf rfl rfl) ?_
    refine rr rfl (s_iload_n rfl) ?_
    refine rr rfl (s_iaload (j := 0) rfl rfl rfl) ?_
    refine rr rfl (s_iconst (v := (-1)) (by decide)) ?_
    refine rr rfl (s_icF (ic_neq g7)) ?_
    refine rr rfl (s_aload_n rfl) ?_
    refine rr rfl (s_getf rfl rfl) ?_
    refine rr rfl (s_aload_n rfl) ?_
    refine rr rfl (s_getf rfl rfl) ?_
    refine rr rfl (s_iload_n rfl) ?_
    refine rr rfl (s_iaload (j := 0) rfl rfl rfl) ?_
    refine rr rfl (s_ialdN rfl g14 g8 g9 g10) ?_
    refine rr rfl (s_iconst (v := 1) (by decide)) ?_
    refine rr rfl (s_iadd (v := 1) (by decide)) ?_
    refine rr rfl (s_iload rfl) ?_
    refine rr rfl (s_icT (by decide)) ?_
    refine rr rfl (s_iload rfl) ?_
    refine rr rfl (s_istore rfl) ?_
    refine rr rfl (s_iload rfl) ?_
    refine rr rfl (s_aload_n rfl) ?_
    refine rr rfl (s_getf rfl rfl) ?_
    refine rr rfl (s_aload_n rfl) ?_
    refine rr rfl (s_getf rfl rfl) ?_
    refine rr rfl (s_iload_n rfl) ?_
    refine rr rfl (s_iaload (j := 0) rfl rfl rfl) ?_
    refine rr rfl (s_ialdH rfl rfl g10 g11) ?_
    refine rr rfl (s_icT (by decide)) ?_
    refine rr rfl (s_iinc (v := 1) rfl (by decide) rfl) ?_
    refine rr rfl s_goto ?_
    refine rr rfl (s_iload_n rfl) ?_
    refine rr rfl (s_aload_n rfl) ?_
    refine rr rfl (s_getf rfl rfl) ?_
    refine rr rfl (s_icT (by decide)) ?_
    refine rr rfl s_goto ?_
    refine rr rfl (s_iload_n rfl) ?_
    refine rr rfl (s_ifT (by decide)) ?_
    refine rr rfl (s_iload_n rfl) ?_
    exact rrt rfl rfl rfl rfl
  refine rrc rfl rfl rfl (do_of g_X9_lays rfl rfl e2) ?_
  refine rr rfl (s_istore rfl) ?_
  refine rr rfl (s_iload rfl) ?_
  refine rr rfl (s_ifF (by decide)) ?_
  refine rr rfl (s_aload_n rfl) ?_
  refine rr rfl (s_getf rfl rfl) ?_
  refine rr rfl (s_bipush (v := 12) (by decide)) ?_
  refine rr rfl (s_icT (by decide)) ?_
  refine rr rfl (s_aload_n rfl) ?_
  refine rr rfl (s_getf rfl rfl) ?_
  refine rr rfl (s_iconst (v := 1) (by decide)) ?_
  refine rr rfl (s_isub (v := 0) (by decide)) ?_
  exact rrt rfl rfl rfl rfl
set_option maxHeartbeats 4000000 in
set_option maxRecDepth 10000 in
theorem rm_Nmoh {x1 x2 x3 x4 x5 x6 x7 : Int32} (g1 : x2 = 0) (g2 : ¬ x4 < 0) (g3 : x4 < nI 8) (g4 : x5 = (-1)) (g5 : ¬ x6 = (-1)) (g6 : ¬ x6 < 0) (g7 : x6 < nI 8) (g8 : ¬ x3 < 0) (g9 : x3 < nI 8) (g10 : x4 = x3) (g11 : ¬ x6 = x3) : a_run MT [] (a_m MT [] 100000 10) 11 (some .int) tabX9_rule 90000 95 (alQ x1 x2 x3 x4 x5 x6 x7) [] (((((hF.set 3 (.inr (.inr (0, [.int 1, .ref 62, .int 1])))).set 4 (.inl ((List.replicate 8 (0 : Int32)).set (Int32.toNatClampNeg x3) 1))).set 5 (.inl ((List.replicate 8 (0 : Int32)).set (Int32.toNatClampNeg x3) 1))).set 6 (.inr (.inr (6, [.ref 2, .ref 7, .ref 8, .ref 9, .int 1])))) ++ [.inr (.inr (2, [.int x1, .int x2, .int x3, .int x4, .int x4, .int x6, .int x7, .int ((1 <<< (x4 &&& 31) : Int32) ||| (1 <<< (x4 &&& 31) : Int32)), .int (1 <<< (x6 &&& 31) : Int32), .int (-1)])), .inr (.inl [some 61, none, none, none, none, none, none, none, none, none])]) 0 0 = some (some (.int 0), (((((((((((((((hF.set 3 (.inr (.inr (0, [.int 1, .ref 62, .int 1])))).set 4 (.inl ((List.replicate 8 (0 : Int32)).set (Int32.toNatClampNeg x3) 1))).set 5 (.inl ((List.replicate 8 (0 : Int32)).set (Int32.toNatClampNeg x3) 1))).set 6 (.inr (.inr (6, [.ref 2, .ref 7, .ref 8, .ref 9, .int 1])))).set 41 (.inr (.inr (9, [.int 4, .int 1, .ref 42, .ref 43, .ref 44, .ref 45, .ref 46, .ref 47, .ref 48, .ref 49, .ref 50, .ref 51, .int 0, .int 0, .int 0, .int 0, .int 0, .int 0, .int 0, .int 0, .ref 52, .int 0, .ref 53, .int 0, .ref 54, .int 0, .ref 55, .ref 56, .ref 57, .ref 58, .int 0, .ref 59, .ref 60])))).set 42 (.inl [x1, 0, 0, 0, 0, 0, 0, 0, 0, 0, 0, 0, 0])).set 43 (.inl [x2, 0, 0, 0, 0, 0, 0, 0, 0, 0, 0, 0, 0])).set 44 (.inl [x3, 0, 0, 0, 0, 0, 0, 0, 0, 0, 0, 0, 0])).set 45 (.inl [x4, 0, 0, 0, 0, 0, 0, 0, 0, 0, 0, 0, 0])).set 46 (.inl [x5, 0, 0, 0, 0, 0, 0, 0, 0, 0, 0, 0, 0])).set 47 (.inl [x6, 0, 0, 0, 0, 0, 0, 0, 0, 0, 0, 0, 0])).set 48 (.inl [x7, 0, 0, 0, 0, 0, 0, 0, 0, 0, 0, 0, 0])).set 49 (.inl [(-1), 0, 0, 0, 0, 0, 0, 0, 0, 0, 0, 0, 0])).set 51 (.inl ((List.replicate 8 (0 : Int32)).set (Int32.toNatClampNeg x3) 1))) ++ [.inr (.inr (2, [.int x1, .int x2, .int x3, .int x4, .int x4, .int x6, .int x7, .int ((1 <<< (x4 &&& 31) : Int32) ||| (1 <<< (x4 &&& 31) : Int32)), .int (1 <<< (x6 &&& 31) : Int32), .int (-1)])), .inr (.inl [some 61, none, none, none, none, none, none, none, none, none])]), 0, 0) := by
  refine rr rfl (s_aload_n rfl) ?_
  refine rr rfl (s_aload_n rfl) ?_
  refine rr rfl (s_getf rfl rfl) ?_
  refine rr rfl (s_iload_n rfl) ?_
  refine rr rfl (s_iload_n rfl) ?_
  refine rr rfl (s_iload_n rfl) ?_
  refine rr rfl (s_iload rfl) ?_
  refine rr rfl (s_iload rfl) ?_
  refine rr rfl (s_iload rfl) ?_
  refine rr rfl (s_iload rfl) ?_
  have e1 : a_m MT [] 100000 10 miX9_sets [.ref 41, .int 0, .int x1, .int x2, .int x3, .int x4, .int x5, .int x6, .int x7] (((((hF.set 3 (.inr (.inr (0, [.int 1, .ref 62, .int 1])))).set 4 (.inl ((List.replicate 8 (0 : Int32)).set (Int32.toNatClampNeg x3) 1))).set 5 (.inl ((List.replicate 8 (0 : Int32)).set (Int32.toNatClampNeg x3) 1))).set 6 (.inr (.inr (6, [.ref 2, .ref 7, .ref 8, .ref 9, .int 1])))) ++ [.inr (.inr (2, [.int x1, .int x2, .int x3, .int x4, .int x4, .int x6, .int x7, .int ((1 <<< (x4 &&& 31) : Int32) ||| (1 <<< (x4 &&& 31) : Int32)), .int (1 <<< (x6 &&& 31) : Int32), .int (-1)])), .inr (.inl [some 61, none, none, none, none, none, none, none, none, none])]) = some (none, (((((((((((((hF.set 3 (.inr (.inr (0, [.int 1, .ref 62, .int 1])))).set 4 (.inl ((List.replicate 8 (0 : Int32)).set (Int32.toNatClampNeg x3) 1))).set 5 (.inl ((List.replicate 8 (0 : Int32)).set (Int32.toNatClampNeg x3) 1))).set 6 (.inr (.inr (6, [.ref 2, .ref 7, .ref 8, .ref 9, .int 1])))).set 42 (.inl [x1, 0, 0, 0, 0, 0, 0, 0, 0, 0, 0, 0, 0])).set 43 (.inl [x2, 0, 0, 0, 0, 0, 0, 0, 0, 0, 0, 0, 0])).set 44 (.inl [x3, 0, 0, 0, 0, 0, 0, 0, 0, 0, 0, 0, 0])).set 45 (.inl [x4, 0, 0, 0, 0, 0, 0, 0, 0, 0, 0, 0, 0])).set 46 (.inl [x5, 0, 0, 0, 0, 0, 0, 0, 0, 0, 0, 0, 0])).set 47 (.inl [x6, 0, 0, 0, 0, 0, 0, 0, 0, 0, 0, 0, 0])).set 48 (.inl [x7, 0, 0, 0, 0, 0, 0, 0, 0, 0, 0, 0, 0])).set 49 (.inl [(-1), 0, 0, 0, 0, 0, 0, 0, 0, 0, 0, 0, 0])) ++ [.inr (.inr (2, [.int x1, .int x2, .int x3, .int x4, .int x4, .int x6, .int x7, .int ((1 <<< (x4 &&& 31) : Int32) ||| (1 <<< (x4 &&& 31) : Int32)), .int (1 <<< (x6 &&& 31) : Int32), .int (-1)])), .inr (.inl [some 61, none, none, none, none, none, none, none, none, none])]), 0, 0) := by
    refine me (d := 9) g_X9_sets (Nat.le_of_ble_eq_true rfl) ?_
    refine rr rfl (s_aload_n rfl) ?_
    refine rr rfl (s_getf rfl rfl) ?_
    refine rr rfl (s_iload_n rfl) ?_
    refine rr rfl (s_iload_n rfl) ?_
    refine rr rfl (s_iastore (j := 0) (f' := [x1, 0, 0, 0, 0, 0, 0, 0, 0, 0, 0, 0, 0]) rfl rfl (Nat.le_of_ble_eq_true rfl) rfl (Nat.le_of_ble_eq_true rfl) rfl (h' := ((((((hF.set 3 (.inr (.inr (0, [.int 1, .ref 62, .int 1])))).set 4 (.inl ((List.replicate 8 (0 : Int32)).set (Int32.toNatClampNeg x3) 1))).set 5 (.inl ((List.replicate 8 (0 : Int32)).set (Int32.toNatClampNeg x3) 1))).set 6 (.inr (.inr (6, [.ref 2, .ref 7, .ref 8, .ref 9, .int 1])))).set 42 (.inl [x1, 0, 0, 0, 0, 0, 0, 0, 0, 0, 0, 0, 0])) ++ [.inr (.inr (2, [.int x1, .int x2, .int x3, .int x4, .int x4, .int x6, .int x7, .int ((1 <<< (x4 &&& 31) : Int32) ||| (1 <<< (x4 &&& 31) : Int32)), .int (1 <<< (x6 &&& 31) : Int32), .int (-1)])), .inr (.inl [some 61, none, none, none, none, none, none, none, none, none])]))) ?_
    refine rr rfl (s_aload_n rfl) ?_
    refine rr rfl (s_getf rfl rfl) ?_
    refine rr rfl (s_iload_n rfl) ?_
    refine rr rfl (s_iload_n rfl) ?_
    refine rr rfl (s_iastore (j := 0) (f' := [x2, 0, 0, 0, 0, 0, 0, 0, 0, 0, 0, 0, 0]) rfl rfl (Nat.le_of_ble_eq_true rfl) rfl (Nat.le_of_ble_eq_true rfl) rfl (h' := (((((((hF.set 3 (.inr (.inr (0, [.int 1, .ref 62, .int 1])))).set 4 (.inl ((List.replicate 8 (0 : Int32)).set (Int32.toNatClampNeg x3) 1))).set 5 (.inl ((List.replicate 8 (0 : Int32)).set (Int32.toNatClampNeg x3) 1))).set 6 (.inr (.inr (6, [.ref 2, .ref 7, .ref 8, .ref 9, .int 1])))).set 42 (.inl [x1, 0, 0, 0, 0, 0, 0, 0, 0, 0, 0, 0, 0])).set 43 (.inl [x2, 0, 0, 0, 0, 0, 0, 0, 0, 0, 0, 0, 0])) ++ [.inr (.inr (2, [.int x1, .int x2, .int x3, .int x4, .int x4, .int x6, .int x7, .int ((1 <<< (x4 &&& 31) : Int32) ||| (1 <<< (x4 &&& 31) : Int32)), .int (1 <<< (x6 &&& 31) : Int32), .int (-1)])), .inr (.inl [some 61, none, none, none, none, none, none, none, none, none])]))) ?_
    refine rr rfl (s_aload_n rfl) ?_
    refine rr rfl (s_getf rfl rfl) ?_
    refine rr rfl (s_iload_n rfl) ?_
    refine rr rfl (s_iload rfl) ?_
    refine rr rfl (s_iastore (j := 0) (f' := [x3, 0, 0, 0, 0, 0, 0, 0, 0, 0, 0, 0, 0]) rfl rfl (Nat.le_of_ble_eq_true rfl) rfl (Nat.le_of_ble_eq_true rfl) rfl (h' := ((((((((hF.set 3 (.inr (.inr (0, [.int 1, .ref 62, .int 1])))).set 4 (.inl ((List.replicate 8 (0 : Int32)).set (Int32.toNatClampNeg x3) 1))).set 5 (.inl ((List.replicate 8 (0 : Int32)).set (Int32.toNatClampNeg x3) 1))).set 6 (.inr (.inr (6, [.ref 2, .ref 7, .ref 8, .ref 9, .int 1])))).set 42 (.inl [x1, 0, 0, 0, 0, 0, 0, 0, 0, 0, 0, 0, 0])).set 43 (.inl [x2, 0, 0, 0, 0, 0, 0, 0, 0, 0, 0, 0, 0])).set 44 (.inl [x3, 0, 0, 0, 0, 0, 0, 0, 0, 0, 0, 0, 0])) ++ [.inr (.inr (2, [.int x1, .int x2, .int x3, .int x4, .int x4, .int x6, .int x7, .int ((1 <<< (x4 &&& 31) : Int32) ||| (1 <<< (x4 &&& 31) : Int32)), .int (1 <<< (x6 &&& 31) : Int32), .int (-1)])), .inr (.inl [some 61, none, none, none, none, none, none, none, none, none])]))) ?_
    refine rr rfl (s_aload_n rfl) ?_
    refine rr rfl (s_getf rfl rfl) ?_
    refine rr rfl (s_iload_n rfl) ?_
    refine rr rfl (s_iload rfl) ?_
    refine rr rfl (s_iastore (j := 0) (f' := [x4, 0, 0, 0, 0, 0, 0, 0, 0, 0, 0, 0, 0]) rfl rfl (Nat.le_of_ble_eq_true rfl) rfl (Nat.le_of_ble_eq_true rfl) rfl (h' := (((((((((hF.set 3 (.inr (.inr (0, [.int 1, .ref 62, .int 1])))).set 4 (.inl ((List.replicate 8 (0 : Int32)).set (Int32.toNatClampNeg x3) 1))).set 5 (.inl ((List.replicate 8 (0 : Int32)).set (Int32.toNatClampNeg x3) 1))).set 6 (.inr (.inr (6, [.ref 2, .ref 7, .ref 8, .ref 9, .int 1])))).set 42 (.inl [x1, 0, 0, 0, 0, 0, 0, 0, 0, 0, 0, 0, 0])).set 43 (.inl [x2, 0, 0, 0, 0, 0, 0, 0, 0, 0, 0, 0, 0])).set 44 (.inl [x3, 0, 0, 0, 0, 0, 0, 0, 0, 0, 0, 0, 0])).set 45 (.inl [x4, 0, 0, 0, 0, 0, 0, 0, 0, 0, 0, 0, 0])) ++ [.inr (.inr (2, [.int x1, .int x2, .int x3, .int x4, .int x4, .int x6, .int x7, .int ((1 <<< (x4 &&& 31) : Int32) ||| (1 <<< (x4 &&& 31) : Int32)), .int (1 <<< (x6 &&& 31) : Int32), .int (-1)])), .inr (.inl [some 61, none, none, none, none, none, none, none, none, none])]))) ?_
    refine rr rfl (s_aload_n rfl) ?_
    refine rr rfl (s_getf rfl rfl) ?_
    refine rr rfl (s_iload_n rfl) ?_
    refine rr rfl (s_iload rfl) ?_
    refine rr rfl (s_iastore (j := 0) (f' := [x5, 0, 0, 0, 0, 0, 0, 0, 0, 0, 0, 0, 0]) rfl rfl (Nat.le_of_ble_eq_true rfl) rfl (Nat.le_of_ble_eq_true rfl) rfl (h' := ((((((((((hF.set 3 (.inr (.inr (0, [.int 1, .ref 62, .int 1])))).set 4 (.inl ((List.replicate 8 (0 : Int32)).set (Int32.toNatClampNeg x3) 1))).set 5 (.inl ((List.replicate 8 (0 : Int32)).set (Int32.toNatClampNeg x3) 1))).set 6 (.inr (.inr (6, [.ref 2, .ref 7, .ref 8, .ref 9, .int 1])))).set 42 (.inl [x1, 0, 0, 0, 0, 0, 0, 0, 0, 0, 0, 0, 0])).set 43 (.inl [x2, 0, 0, 0, 0, 0, 0, 0, 0, 0, 0, 0, 0])).set 44 (.inl [x3, 0, 0, 0, 0, 0, 0, 0, 0, 0, 0, 0, 0])).set 45 (.inl [x4, 0, 0, 0, 0, 0, 0, 0, 0, 0, 0, 0, 0])).set 46 (.inl [x5, 0, 0, 0, 0, 0, 0, 0, 0, 0, 0, 0, 0])) ++ [.inr (.inr (2, [.int x1, .int x2, .int x3, .int x4, .int x4, .int x6, .int x7, .int ((1 <<< (x4 &&& 31) : Int32) ||| (1 <<< (x4 &&& 31) : Int32)), .int (1 <<< (x6 &&& 31) : Int32), .int (-1)])), .inr (.inl [some 61, none, none, none, none, none, none, none, none, none])]))) ?_
    refine rr rfl (s_aload_n rfl) ?_
    refine rr rfl (s_getf rfl rfl) ?_
    refine rr rfl (s_iload_n rfl) ?_
    refine rr rfl (s_iload rfl) ?_
    refine rr rfl (s_iastore (j := 0) (f' := [x6, 0, 0, 0, 0, 0, 0, 0, 0, 0, 0, 0, 0]) rfl rfl (Nat.le_of_ble_eq_true rfl) rfl (Nat.le_of_ble_eq_true rfl) rfl (h' := (((((((((((hF.set 3 (.inr (.inr (0, [.int 1, .ref 62, .int 1])))).set 4 (.inl ((List.replicate 8 (0 : Int32)).set (Int32.toNatClampNeg x3) 1))).set 5 (.inl ((List.replicate 8 (0 : Int32)).set (Int32.toNatClampNeg x3) 1))).set 6 (.inr (.inr (6, [.ref 2, .ref 7, .ref 8, .ref 9, .int 1])))).set 42 (.inl [x1, 0, 0, 0, 0, 0, 0, 0, 0, 0, 0, 0, 0])).set 43 (.inl [x2, 0, 0, 0, 0, 0, 0, 0, 0, 0, 0, 0, 0])).set 44 (.inl [x3, 0, 0, 0, 0, 0, 0, 0, 0, 0, 0, 0, 0])).set 45 (.inl [x4, 0, 0, 0, 0, 0, 0, 0, 0, 0, 0, 0, 0])).set 46 (.inl [x5, 0, 0, 0, 0, 0, 0, 0, 0, 0, 0, 0, 0])).set 47 (.inl [x6, 0, 0, 0, 0, 0, 0, 0, 0, 0, 0, 0, 0])) ++ [.inr (.inr (2, [.int x1, .int x2, .int x3, .int x4, .int x4, .int x6, .int x7, .int ((1 <<< (x4 &&& 31) : Int32) ||| (1 <<< (x4 &&& 31) : Int32)), .int (1 <<< (x6 &&& 31) : Int32), .int (-1)])), .inr (.inl [some 61, none, none, none, none, none, none, none, none, none])]))) ?_
    refine rr rfl (s_aload_n rfl) ?_
    refine rr rfl (s_getf rfl rfl) ?_
    refine rr rfl (s_iload_n rfl) ?_
    refine rr rfl (s_iload rfl) ?_
    refine rr rfl (s_iastore (j := 0) (f' := [x7, 0, 0, 0, 0, 0, 0, 0, 0, 0, 0, 0, 0]) rfl rfl (Nat.le_of_ble_eq_true rfl) rfl (Nat.le_of_ble_eq_true rfl) rfl (h' := ((((((((((((hF.set 3 (.inr (.inr (0, [.int 1, .ref 62, .int 1])))).set 4 (.inl ((List.replicate 8 (0 : Int32)).set (Int32.toNatClampNeg x3) 1))).set 5 (.inl ((List.replicate 8 (0 : Int32)).set (Int32.toNatClampNeg x3) 1))).set 6 (.inr (.inr (6, [.ref 2, .ref 7, .ref 8, .ref 9, .int 1])))).set 42 (.inl [x1, 0, 0, 0, 0, 0, 0, 0, 0, 0, 0, 0, 0])).set 43 (.inl [x2, 0, 0, 0, 0, 0, 0, 0, 0, 0, 0, 0, 0])).set 44 (.inl [x3, 0, 0, 0, 0, 0, 0, 0, 0, 0, 0, 0, 0])).set 45 (.inl [x4, 0, 0, 0, 0, 0, 0, 0, 0, 0, 0, 0, 0])).set 46 (.inl [x5, 0, 0, 0, 0, 0, 0, 0, 0, 0, 0, 0, 0])).set 47 (.inl [x6, 0, 0, 0, 0, 0, 0, 0, 0, 0, 0, 0, 0])).set 48 (.inl [x7, 0, 0, 0, 0, 0, 0, 0, 0, 0, 0, 0, 0])) ++ [.inr (.inr (2, [.int x1, .int x2, .int x3, .int x4, .int x4, .int x6, .int x7, .int ((1 <<< (x4 &&& 31) : Int32) ||| (1 <<< (x4 &&& 31) : Int32)), .int (1 <<< (x6 &&& 31) : Int32), .int (-1)])), .inr (.inl [some 61, none, none, none, none, none, none, none, none, none])]))) ?_
    refine rr rfl (s_aload_n rfl) ?_
    refine rr rfl (s_getf rfl rfl) ?_
    refine rr rfl (s_iload_n rfl) ?_
    refine rr rfl (s_iconst (v := (-1)) (by decide)) ?_
    refine rr rfl (s_iastore (j := 0) (f' := [(-1), 0, 0, 0, 0, 0, 0, 0, 0, 0, 0, 0, 0]) rfl rfl (Nat.le_of_ble_eq_true rfl) rfl (Nat.le_of_ble_eq_true rfl) rfl (h' := (((((((((((((hF.set 3 (.inr (.inr (0, [.int 1, .ref 62, .int 1])))).set 4 (.inl ((List.replicate 8 (0 : Int32)).set (Int32.toNatClampNeg x3) 1))).set 5 (.inl ((List.replicate 8 (0 : Int32)).set (Int32.toNatClampNeg x3) 1))).set 6 (.inr (.inr (6, [.ref 2, .ref 7, .ref 8, .ref 9, .int 1])))).set 42 (.inl [x1, 0, 0, 0, 0, 0, 0, 0, 0, 0, 0, 0, 0])).set 43 (.inl [x2, 0, 0, 0, 0, 0, 0, 0, 0, 0, 0, 0, 0])).set 44 (.inl [x3, 0, 0, 0, 0, 0, 0, 0, 0, 0, 0, 0, 0])).set 45 (.inl [x4, 0, 0, 0, 0, 0, 0, 0, 0, 0, 0, 0, 0])).set 46 (.inl [x5, 0, 0, 0, 0, 0, 0, 0, 0, 0, 0, 0, 0])).set 47 (.inl [x6, 0, 0, 0, 0, 0, 0, 0, 0, 0, 0, 0, 0])).set 48 (.inl [x7, 0, 0, 0, 0, 0, 0, 0, 0, 0, 0, 0, 0])).set 49 (.inl [(-1), 0, 0, 0, 0, 0, 0, 0, 0, 0, 0, 0, 0])) ++ [.inr (.inr (2, [.int x1, .int x2, .int x3, .int x4, .int x4, .int x6, .int x7, .int ((1 <<< (x4 &&& 31) : Int32) ||| (1 <<< (x4 &&& 31) : Int32)), .int (1 <<< (x6 &&& 31) : Int32), .int (-1)])), .inr (.inl [some 61, none, none, none, none, none, none, none, none, none])]))) ?_
    exact rrt rfl rfl rfl rfl
  refine rrc rfl rfl rfl (do_of g_X9_sets rfl rfl e1) ?_
  refine rr rfl (s_aload_n rfl) ?_
  refine rr rfl rfl ?_
  refine rr rfl (s_getf rfl rfl) ?_
  refine rr rfl (s_iconst (v := 1) (by decide)) ?_
  refine rr rfl (s_iadd (v := 1) (by decide)) ?_
  refine rr rfl (s_putf rfl rfl (Nat.le_of_ble_eq_true rfl) rfl (Nat.le_of_ble_eq_true rfl) rfl (h' := ((((((((((((((hF.set 3 (.inr (.inr (0, [.int 1, .ref 62, .int 1])))).set 4 (.inl ((List.replicate 8 (0 : Int32)).set (Int32.toNatClampNeg x3) 1))).set 5 (.inl ((List.replicate 8 (0 : Int32)).set (Int32.toNatClampNeg x3) 1))).set 6 (.inr (.inr (6, [.ref 2, .ref 7, .ref 8, .ref 9, .int 1])))).set 41 (.inr (.inr (9, [.int 4, .int 1, .ref 42, .ref 43, .ref 44, .ref 45, .ref 46, .ref 47, .ref 48, .ref 49, .ref 50, .ref 51, .int 0, .int 0, .int 0, .int 0, .int 0, .int 0, .int 0, .int 0, .ref 52, .int 0, .ref 53, .int 0, .ref 54, .int 0, .ref 55, .ref 56, .ref 57, .ref 58, .int 0, .ref 59, .ref 60])))).set 42 (.inl [x1, 0, 0, 0, 0, 0, 0, 0, 0, 0, 0, 0, 0])).set 43 (.inl [x2, 0, 0, 0, 0, 0, 0, 0, 0, 0, 0, 0, 0])).set 44 (.inl [x3, 0, 0, 0, 0, 0, 0, 0, 0, 0, 0, 0, 0])).set 45 (.inl [x4, 0, 0, 0, 0, 0, 0, 0, 0, 0, 0, 0, 0])).set 46 (.inl [x5, 0, 0, 0, 0, 0, 0, 0, 0, 0, 0, 0, 0])).set 47 (.inl [x6, 0, 0, 0, 0, 0, 0, 0, 0, 0, 0, 0, 0])).set 48 (.inl [x7, 0, 0, 0, 0, 0, 0, 0, 0, 0, 0, 0, 0])).set 49 (.inl [(-1), 0, 0, 0, 0, 0, 0, 0, 0, 0, 0, 0, 0])) ++ [.inr (.inr (2, [.int x1, .int x2, .int x3, .int x4, .int x4, .int x6, .int x7, .int ((1 <<< (x4 &&& 31) : Int32) ||| (1 <<< (x4 &&& 31) : Int32)), .int (1 <<< (x6 &&& 31) : Int32), .int (-1)])), .inr (.inl [some 61, none, none, none, none, none, none, none, none, none])]))) ?_
  refine rr rfl (s_aload_n rfl) ?_
  have e2 : a_m MT [] 100000 10 miX9_lays [.ref 41] ((((((((((((((hF.set 3 (.inr (.inr (0, [.int 1, .ref 62, .int 1])))).set 4 (.inl ((List.replicate 8 (0 : Int32)).set (Int32.toNatClampNeg x3) 1))).set 5 (.inl ((List.replicate 8 (0 : Int32)).set (Int32.toNatClampNeg x3) 1))).set 6 (.inr (.inr (6, [.ref 2, .ref 7, .ref 8, .ref 9, .int 1])))).set 41 (.inr (.inr (9, [.int 4, .int 1, .ref 42, .ref 43, .ref 44, .ref 45, .ref 46, .ref 47, .ref 48, .ref 49, .ref 50, .ref 51, .int 0, .int 0, .int 0, .int 0, .int 0, .int 0, .int 0, .int 0, .ref 52, .int 0, .ref 53, .int 0, .ref 54, .int 0, .ref 55, .ref 56, .ref 57, .ref 58, .int 0, .ref 59, .ref 60])))).set 42 (.inl [x1, 0, 0, 0, 0, 0, 0, 0, 0, 0, 0, 0, 0])).set 43 (.inl [x2, 0, 0, 0, 0, 0, 0, 0, 0, 0, 0, 0, 0])).set 44 (.inl [x3, 0, 0, 0, 0, 0, 0, 0, 0, 0, 0, 0, 0])).set 45 (.inl [x4, 0, 0, 0, 0, 0, 0, 0, 0, 0, 0, 0, 0])).set 46 (.inl [x5, 0, 0, 0, 0, 0, 0, 0, 0, 0, 0, 0, 0])).set 47 (.inl [x6, 0, 0, 0, 0, 0, 0, 0, 0, 0, 0, 0, 0])).set 48 (.inl [x7, 0, 0, 0, 0, 0, 0, 0, 0, 0, 0, 0, 0])).set 49 (.inl [(-1), 0, 0, 0, 0, 0, 0, 0, 0, 0, 0, 0, 0])) ++ [.inr (.inr (2, [.int x1, .int x2, .int x3, .int x4, .int x4, .int x6, .int x7, .int ((1 <<< (x4 &&& 31) : Int32) ||| (1 <<< (x4 &&& 31) : Int32)), .int (1 <<< (x6 &&& 31) : Int32), .int (-1)])), .inr (.inl [some 61, none, none, none, none, none, none, none, none, none])]) = some ((some (.int 1)), (((((((((((((((hF.set 3 (.inr (.inr (0, [.int 1, .ref 62, .int 1])))).set 4 (.inl ((List.replicate 8 (0 : Int32)).set (Int32.toNatClampNeg x3) 1))).set 5 (.inl ((List.replicate 8 (0 : Int32)).set (Int32.toNatClampNeg x3) 1))).set 6 (.inr (.inr (6, [.ref 2, .ref 7, .ref 8, .ref 9, .int 1])))).set 41 (.inr (.inr (9, [.int 4, .int 1, .ref 42, .ref 43, .ref 44, .ref 45, .ref 46, .ref 47, .ref 48, .ref 49, .ref 50, .ref 51, .int 0, .int 0, .int 0, .int 0, .int 0, .int 0, .int 0, .int 0, .ref 52, .int 0, .ref 53, .int 0, .ref 54, .int 0, .ref 55, .ref 56, .ref 57, .ref 58, .int 0, .ref 59, .ref 60])))).set 42 (.inl [x1, 0, 0, 0, 0, 0, 0, 0, 0, 0, 0, 0, 0])).set 43 (.inl [x2, 0, 0, 0, 0, 0, 0, 0, 0, 0, 0, 0, 0])).set 44 (.inl [x3, 0, 0, 0, 0, 0, 0, 0, 0, 0, 0, 0, 0])).set 45 (.inl [x4, 0, 0, 0, 0, 0, 0, 0, 0, 0, 0, 0, 0])).set 46 (.inl [x5, 0, 0, 0, 0, 0, 0, 0, 0, 0, 0, 0, 0])).set 47 (.inl [x6, 0, 0, 0, 0, 0, 0, 0, 0, 0, 0, 0, 0])).set 48 (.inl [x7, 0, 0, 0, 0, 0, 0, 0, 0, 0, 0, 0, 0])).set 49 (.inl [(-1), 0, 0, 0, 0, 0, 0, 0, 0, 0, 0, 0, 0])).set 51 (.inl ((List.replicate 8 (0 : Int32)).set (Int32.toNatClampNeg x3) 1))) ++ [.inr (.inr (2, [.int x1, .int x2, .int x3, .int x4, .int x4, .int x6, .int x7, .int ((1 <<< (x4 &&& 31) : Int32) ||| (1 <<< (x4 &&& 31) : Int32)), .int (1 <<< (x6 &&& 31) : Int32), .int (-1)])), .inr (.inl [some 61, none, none, none, none, none, none, none, none, none])]), 0, 0) := by
    refine me (d := 9) g_X9_lays (Nat.le_of_ble_eq_true rfl) ?_
    refine rr rfl (s_iconst (v := 0) (by decide)) ?_
    refine rr rfl (s_istore_n rfl) ?_
    refine rr rfl (s_iload_n rfl) ?_
    refine rr rfl (s_bipush (v := 8) (by decide)) ?_
    refine rr rfl (s_icF (by decide)) ?_
    refine rr rfl (s_aload_n rfl) ?_
    refine rr rfl (s_getf rfl rfl) ?_
    refine rr rfl (s_iload_n rfl) ?_
    refine rr rfl (s_iconst (v := 0) (by decide)) ?_
    refine rr rfl (s_iastore (j := 0) (f' := (List.replicate 8 0)) rfl rfl (Nat.le_of_ble_eq_true rfl) rfl (Nat.le_of_ble_eq_true rfl) rfl (h' := ((((((((((((((hF.set 3 (.inr (.inr (0, [.int 1, .ref 62, .int 1])))).set 4 (.inl ((List.replicate 8 (0 : Int32)).set (Int32.toNatClampNeg x3) 1))).set 5 (.inl ((List.replicate 8 (0 : Int32)).set (Int32.toNatClampNeg x3) 1))).set 6 (.inr (.inr (6, [.ref 2, .ref 7, .ref 8, .ref 9, .int 1])))).set 41 (.inr (.inr (9, [.int 4, .int 1, .ref 42, .ref 43, .ref 44, .ref 45, .ref 46, .ref 47, .ref 48, .ref 49, .ref 50, .ref 51, .int 0, .int 0, .int 0, .int 0, .int 0, .int 0, .int 0, .int 0, .ref 52, .int 0, .ref 53, .int 0, .ref 54, .int 0, .ref 55, .ref 56, .ref 57, .ref 58, .int 0, .ref 59, .ref 60])))).set 42 (.inl [x1, 0, 0, 0, 0, 0, 0, 0, 0, 0, 0, 0, 0])).set 43 (.inl [x2, 0, 0, 0, 0, 0, 0, 0, 0, 0, 0, 0, 0])).set 44 (.inl [x3, 0, 0, 0, 0, 0, 0, 0, 0, 0, 0, 0, 0])).set 45 (.inl [x4, 0, 0, 0, 0, 0, 0, 0, 0, 0, 0, 0, 0])).set 46 (.inl [x5, 0, 0, 0, 0, 0, 0, 0, 0, 0, 0, 0, 0])).set 47 (.inl [x6, 0, 0, 0, 0, 0, 0, 0, 0, 0, 0, 0, 0])).set 48 (.inl [x7, 0, 0, 0, 0, 0, 0, 0, 0, 0, 0, 0, 0])).set 49 (.inl [(-1), 0, 0, 0, 0, 0, 0, 0, 0, 0, 0, 0, 0])) ++ [.inr (.inr (2, [.int x1, .int x2, .int x3, .int x4, .int x4, .int x6, .int x7, .int ((1 <<< (x4 &&& 31) : Int32) ||| (1 <<< (x4 &&& 31) : Int32)), .int (1 <<< (x6 &&& 31) : Int32), .int (-1)])), .inr (.inl [some 61, none, none, none, none, none, none, none, none, none])]))) ?_
    refine rr rfl (s_iinc (v := 1) rfl (by decide) rfl) ?_
    refine rr rfl s_goto ?_
    refine rr rfl (s_iload_n rfl) ?_
    refine rr rfl (s_bipush (v := 8) (by decide)) ?_
    refine rr rfl (s_icF (by decide)) ?_
    refine rr rfl (s_aload_n rfl) ?_
    refine rr rfl (s_getf rfl rfl) ?_
    refine rr rfl (s_iload_n rfl) ?_
    refine rr rfl (s_iconst (v := 0) (by decide)) ?_
    refine rr rfl (s_iastore (j := 1) (f' := (List.replicate 8 0)) rfl rfl (Nat.le_of_ble_eq_true rfl) rfl (Nat.le_of_ble_eq_true rfl) rfl (h' := ((((((((((((((hF.set 3 (.inr (.inr (0, [.int 1, .ref 62, .int 1])))).set 4 (.inl ((List.replicate 8 (0 : Int32)).set (Int32.toNatClampNeg x3) 1))).set 5 (.inl ((List.replicate 8 (0 : Int32)).set (Int32.toNatClampNeg x3) 1))).set 6 (.inr (.inr (6, [.ref 2, .ref 7, .ref 8, .ref 9, .int 1])))).set 41 (.inr (.inr (9, [.int 4, .int 1, .ref 42, .ref 43, .ref 44, .ref 45, .ref 46, .ref 47, .ref 48, .ref 49, .ref 50, .ref 51, .int 0, .int 0, .int 0, .int 0, .int 0, .int 0, .int 0, .int 0, .ref 52, .int 0, .ref 53, .int 0, .ref 54, .int 0, .ref 55, .ref 56, .ref 57, .ref 58, .int 0, .ref 59, .ref 60])))).set 42 (.inl [x1, 0, 0, 0, 0, 0, 0, 0, 0, 0, 0, 0, 0])).set 43 (.inl [x2, 0, 0, 0, 0, 0, 0, 0, 0, 0, 0, 0, 0])).set 44 (.inl [x3, 0, 0, 0, 0, 0, 0, 0, 0, 0, 0, 0, 0])).set 45 (.inl [x4, 0, 0, 0, 0, 0, 0, 0, 0, 0, 0, 0, 0])).set 46 (.inl [x5, 0, 0, 0, 0, 0, 0, 0, 0, 0, 0, 0, 0])).set 47 (.inl [x6, 0, 0, 0, 0, 0, 0, 0, 0, 0, 0, 0, 0])).set 48 (.inl [x7, 0, 0, 0, 0, 0, 0, 0, 0, 0, 0, 0, 0])).set 49 (.inl [(-1), 0, 0, 0, 0, 0, 0, 0, 0, 0, 0, 0, 0])) ++ [.inr (.inr (2, [.int x1, .int x2, .int x3, .int x4, .int x4, .int x6, .int x7, .int ((1 <<< (x4 &&& 31) : Int32) ||| (1 <<< (x4 &&& 31) : Int32)), .int (1 <<< (x6 &&& 31) : Int32), .int (-1)])), .inr (.inl [some 61, none, none, none, none, none, none, none, none, none])]))) ?_
    refine rr rfl (s_iinc (v := 2) rfl (by decide) rfl) ?_
    refine rr rfl s_goto ?_
    refine rr rfl (s_iload_n rfl) ?_
    refine rr rfl (s_bipush (v := 8) (by decide)) ?_
    refine rr rfl (s_icF (by decide)) ?_
    refine rr rfl (s_aload_n rfl) ?_
    refine rr rfl (s_getf rfl rfl) ?_
    refine rr rfl (s_iload_n rfl) ?_
    refine rr rfl (s_iconst (v := 0) (by decide)) ?_
    refine rr rfl (s_iastore (j := 2) (f' := (List.replicate 8 0)) rfl rfl (Nat.le_of_ble_eq_true rfl) rfl (Nat.le_of_ble_eq_true rfl) rfl (h' := ((((((((((((((hF.set 3 (.inr (.inr (0, [.int 1, .ref 62, .int 1])))).set 4 (.inl ((List.replicate 8 (0 : Int32)).set (Int32.toNatClampNeg x3) 1))).set 5 (.inl ((List.replicate 8 (0 : Int32)).set (Int32.toNatClampNeg x3) 1))).set 6 (.inr (.inr (6, [.ref 2, .ref 7, .ref 8, .ref 9, .int 1])))).set 41 (.inr (.inr (9, [.int 4, .int 1, .ref 42, .ref 43, .ref 44, .ref 45, .ref 46, .ref 47, .ref 48, .ref 49, .ref 50, .ref 51, .int 0, .int 0, .int 0, .int 0, .int 0, .int 0, .int 0, .int 0, .ref 52, .int 0, .ref 53, .int 0, .ref 54, .int 0, .ref 55, .ref 56, .ref 57, .ref 58, .int 0, .ref 59, .ref 60])))).set 42 (.inl [x1, 0, 0, 0, 0, 0, 0, 0, 0, 0, 0, 0, 0])).set 43 (.inl [x2, 0, 0, 0, 0, 0, 0, 0, 0, 0, 0, 0, 0])).set 44 (.inl [x3, 0, 0, 0, 0, 0, 0, 0, 0, 0, 0, 0, 0])).set 45 (.inl [x4, 0, 0, 0, 0, 0, 0, 0, 0, 0, 0, 0, 0])).set 46 (.inl [x5, 0, 0, 0, 0, 0, 0, 0, 0, 0, 0, 0, 0])).set 47 (.inl [x6, 0, 0, 0, 0, 0, 0, 0, 0, 0, 0, 0, 0])).set 48 (.inl [x7, 0, 0, 0, 0, 0, 0, 0, 0, 0, 0, 0, 0])).set 49 (.inl [(-1), 0, 0, 0, 0, 0, 0, 0, 0, 0, 0, 0, 0])) ++ [.inr (.inr (2, [.int x1, .int x2, .int x3, .int x4, .int x4, .int x6, .int x7, .int ((1 <<< (x4 &&& 31) : Int32) ||| (1 <<< (x4 &&& 31) : Int32)), .int (1 <<< (x6 &&& 31) : Int32), .int (-1)])), .inr (.inl [some 61, none, none, none, none, none, none, none, none, none])]))) ?_
    refine rr rfl (s_iinc (v := 3) rfl (by decide) rfl) ?_
    refine rr rfl s_goto ?_
    refine rr rfl (s_iload_n rfl) ?_
    refine rr rfl (s_bipush (v := 8) (by decide)) ?_
    refine rr rfl (s_icF (by decide)) ?_
    refine rr rfl (s_aload_n rfl) ?_
    refine rr rfl (s_getf rfl rfl) ?_
    refine rr rfl (s_iload_n rfl) ?_
    refine rr rfl (s_iconst (v := 0) (by decide)) ?_
    refine rr rfl (s_iastore (j := 3) (f' := (List.replicate 8 0)) rfl rfl (Nat.le_of_ble_eq_true rfl) rfl (Nat.le_of_ble_eq_true rfl) rfl (h' := ((((((((((((((hF.set 3 (.inr (.inr (0, [.int 1, .ref 62, .int 1])))).set 4 (.inl ((List.replicate 8 (0 : Int32)).set (Int32.toNatClampNeg x3) 1))).set 5 (.inl ((List.replicate 8 (0 : Int32)).set (Int32.toNatClampNeg x3) 1))).set 6 (.inr (.inr (6, [.ref 2, .ref 7, .ref 8, .ref 9, .int 1])))).set 41 (.inr (.inr (9, [.int 4, .int 1, .ref 42, .ref 43, .ref 44, .ref 45, .ref 46, .ref 47, .ref 48, .ref 49, .ref 50, .ref 51, .int 0, .int 0, .int 0, .int 0, .int 0, .int 0, .int 0, .int 0, .ref 52, .int 0, .ref 53, .int 0, .ref 54, .int 0, .ref 55, .ref 56, .ref 57, .ref 58, .int 0, .ref 59, .ref 60])))).set 42 (.inl [x1, 0, 0, 0, 0, 0, 0, 0, 0, 0, 0, 0, 0])).set 43 (.inl [x2, 0, 0, 0, 0, 0, 0, 0, 0, 0, 0, 0, 0])).set 44 (.inl [x3, 0, 0, 0, 0, 0, 0, 0, 0, 0, 0, 0, 0])).set 45 (.inl [x4, 0, 0, 0, 0, 0, 0, 0, 0, 0, 0, 0, 0])).set 46 (.inl [x5, 0, 0, 0, 0, 0, 0, 0, 0, 0, 0, 0, 0])).set 47 (.inl [x6, 0, 0, 0, 0, 0, 0, 0, 0, 0, 0, 0, 0])).set 48 (.inl [x7, 0, 0, 0, 0, 0, 0, 0, 0, 0, 0, 0, 0])).set 49 (.inl [(-1), 0, 0, 0, 0, 0, 0, 0, 0, 0, 0, 0, 0])) ++ [.inr (.inr (2, [.int x1, .int x2, .int x3, .int x4, .int x4, .int x6, .int x7, .int ((1 <<< (x4 &&& 31) : Int32) ||| (1 <<< (x4 &&& 31) : Int32)), .int (1 <<< (x6 &&& 31) : Int32), .int (-1)])), .inr (.inl [some 61, none, none, none, none, none, none, none, none, none])]))) ?_
    refine rr rfl (s_iinc (v := 4) rfl (by decide) rfl) ?_
    refine rr rfl s_goto ?_
    refine rr rfl (s_iload_n rfl) ?_
    refine rr rfl (s_bipush (v := 8) (by decide)) ?_
    refine rr rfl (s_icF (by decide)) ?_
    refine rr rfl (s_aload_n rfl) ?_
    refine rr rfl (s_getf rfl rfl) ?_
    refine rr rfl (s_iload_n rfl) ?_
    refine rr rfl (s_iconst (v := 0) (by decide)) ?_
    refine rr rfl (s_iastore (j := 4) (f' := (List.replicate 8 0)) rfl rfl (Nat.le_of_ble_eq_true rfl) rfl (Nat.le_of_ble_eq_true rfl) rfl (h' := ((((((((((((((hF.set 3 (.inr (.inr (0, [.int 1, .ref 62, .int 1])))).set 4 (.inl ((List.replicate 8 (0 : Int32)).set (Int32.toNatClampNeg x3) 1))).set 5 (.inl ((List.replicate 8 (0 : Int32)).set (Int32.toNatClampNeg x3) 1))).set 6 (.inr (.inr (6, [.ref 2, .ref 7, .ref 8, .ref 9, .int 1])))).set 41 (.inr (.inr (9, [.int 4, .int 1, .ref 42, .ref 43, .ref 44, .ref 45, .ref 46, .ref 47, .ref 48, .ref 49, .ref 50, .ref 51, .int 0, .int 0, .int 0, .int 0, .int 0, .int 0, .int 0, .int 0, .ref 52, .int 0, .ref 53, .int 0, .ref 54, .int 0, .ref 55, .ref 56, .ref 57, .ref 58, .int 0, .ref 59, .ref 60])))).set 42 (.inl [x1, 0, 0, 0, 0, 0, 0, 0, 0, 0, 0, 0, 0])).set 43 (.inl [x2, 0, 0, 0, 0, 0, 0, 0, 0, 0, 0, 0, 0])).set 44 (.inl [x3, 0, 0, 0, 0, 0, 0, 0, 0, 0, 0, 0, 0])).set 45 (.inl [x4, 0, 0, 0, 0, 0, 0, 0, 0, 0, 0, 0, 0])).set 46 (.inl [x5, 0, 0, 0, 0, 0, 0, 0, 0, 0, 0, 0, 0])).set 47 (.inl [x6, 0, 0, 0, 0, 0, 0, 0, 0, 0, 0, 0, 0])).set 48 (.inl [x7, 0, 0, 0, 0, 0, 0, 0, 0, 0, 0, 0, 0])).set 49 (.inl [(-1), 0, 0, 0, 0, 0, 0, 0, 0, 0, 0, 0, 0])) ++ [.inr (.inr (2, [.int x1, .int x2, .int x3, .int x4, .int x4, .int x6, .int x7, .int ((1 <<< (x4 &&& 31) : Int32) ||| (1 <<< (x4 &&& 31) : Int32)), .int (1 <<< (x6 &&& 31) : Int32), .int (-1)])), .inr (.inl [some 61, none, none, none, none, none, none, none, none, none])]))) ?_
    refine rr rfl (s_iinc (v := 5) rfl (by decide) rfl) ?_
    refine rr rfl s_goto ?_
    refine rr rfl (s_iload_n rfl) ?_
    refine rr rfl (s_bipush (v := 8) (by decide)) ?_
    refine rr rfl (s_icF (by decide)) ?_
    refine rr rfl (s_aload_n rfl) ?_
    refine rr rfl (s_getf rfl rfl) ?_
    refine rr rfl (s_iload_n rfl) ?_
    refine rr rfl (s_iconst (v := 0) (by decide)) ?_
    refine rr rfl (s_iastore (j := 5) (f' := (List.replicate 8 0)) rfl rfl (Nat.le_of_ble_eq_true rfl) rfl (Nat.le_of_ble_eq_true rfl) rfl (h' := ((((((((((((((hF.set 3 (.inr (.inr (0, [.int 1, .ref 62, .int 1])))).set 4 (.inl ((List.replicate 8 (0 : Int32)).set (Int32.toNatClampNeg x3) 1))).set 5 (.inl ((List.replicate 8 (0 : Int32)).set (Int32.toNatClampNeg x3) 1))).set 6 (.inr (.inr (6, [.ref 2, .ref 7, .ref 8, .ref 9, .int 1])))).set 41 (.inr (.inr (9, [.int 4, .int 1, .ref 42, .ref 43, .ref 44, .ref 45, .ref 46, .ref 47, .ref 48, .ref 49, .ref 50, .ref 51, .int 0, .int 0, .int 0, .int 0, .int 0, .int 0, .int 0, .int 0, .ref 52, .int 0, .ref 53, .int 0, .ref 54, .int 0, .ref 55, .ref 56, .ref 57, .ref 58, .int 0, .ref 59, .ref 60])))).set 42 (.inl [x1, 0, 0, 0, 0, 0, 0, 0, 0, 0, 0, 0, 0])).set 43 (.inl [x2, 0, 0, 0, 0, 0, 0, 0, 0, 0, 0, 0, 0])).set 44 (.inl [x3, 0, 0, 0, 0, 0, 0, 0, 0, 0, 0, 0, 0])).set 45 (.inl [x4, 0, 0, 0, 0, 0, 0, 0, 0, 0, 0, 0, 0])).set 46 (.inl [x5, 0, 0, 0, 0, 0, 0, 0, 0, 0, 0, 0, 0])).set 47 (.inl [x6, 0, 0, 0, 0, 0, 0, 0, 0, 0, 0, 0, 0])).set 48 (.inl [x7, 0, 0, 0, 0, 0, 0, 0, 0, 0, 0, 0, 0])).set 49 (.inl [(-1), 0, 0, 0, 0, 0, 0, 0, 0, 0, 0, 0, 0])) ++ [.inr (.inr (2, [.int x1, .int x2, .int x3, .int x4, .int x4, .int x6, .int x7, .int ((1 <<< (x4 &&& 31) : Int32) ||| (1 <<< (x4 &&& 31) : Int32)), .int (1 <<< (x6 &&& 31) : Int32), .int (-1)])), .inr (.inl [some 61, none, none, none, none, none, none, none, none, none])]))) ?_
    refine rr rfl (s_iinc (v := 6) rfl (by decide) rfl) ?_
    refine rr rfl s_goto ?_
    refine rr rfl (s_iload_n rfl) ?_
    refine rr rfl (s_bipush (v := 8) (by decide)) ?_
    refine rr rfl (s_icF (by decide)) ?_
    refine rr rfl (s_aload_n rfl) ?_
    refine rr rfl (s_getf rfl rfl) ?_
    refine rr rfl (s_iload_n rfl) ?_
    refine rr rfl (s_iconst (v := 0) (by decide)) ?_
    refine rr rfl (s_iastore (j := 6) (f' := (List.replicate 8 0)) rfl rfl (Nat.le_of_ble_eq_true rfl) rfl (Nat.le_of_ble_eq_true rfl) rfl (h' := ((((((((((((((hF.set 3 (.inr (.inr (0, [.int 1, .ref 62, .int 1])))).set 4 (.inl ((List.replicate 8 (0 : Int32)).set (Int32.toNatClampNeg x3) 1))).set 5 (.inl ((List.replicate 8 (0 : Int32)).set (Int32.toNatClampNeg x3) 1))).set 6 (.inr (.inr (6, [.ref 2, .ref 7, .ref 8, .ref 9, .int 1])))).set 41 (.inr (.inr (9, [.int 4, .int 1, .ref 42, .ref 43, .ref 44, .ref 45, .ref 46, .ref 47, .ref 48, .ref 49, .ref 50, .ref 51, .int 0, .int 0, .int 0, .int 0, .int 0, .int 0, .int 0, .int 0, .ref 52, .int 0, .ref 53, .int 0, .ref 54, .int 0, .ref 55, .ref 56, .ref 57, .ref 58, .int 0, .ref 59, .ref 60])))).set 42 (.inl [x1, 0, 0, 0, 0, 0, 0, 0, 0, 0, 0, 0, 0])).set 43 (.inl [x2, 0, 0, 0, 0, 0, 0, 0, 0, 0, 0, 0, 0])).set 44 (.inl [x3, 0, 0, 0, 0, 0, 0, 0, 0, 0, 0, 0, 0])).set 45 (.inl [x4, 0, 0, 0, 0, 0, 0, 0, 0, 0, 0, 0, 0])).set 46 (.inl [x5, 0, 0, 0, 0, 0, 0, 0, 0, 0, 0, 0, 0])).set 47 (.inl [x6, 0, 0, 0, 0, 0, 0, 0, 0, 0, 0, 0, 0])).set 48 (.inl [x7, 0, 0, 0, 0, 0, 0, 0, 0, 0, 0, 0, 0])).set 49 (.inl [(-1), 0, 0, 0, 0, 0, 0, 0, 0, 0, 0, 0, 0])) ++ [.inr (.inr (2, [.int x1, .int x2, .int x3, .int x4, .int x4, .int x6, .int x7, .int ((1 <<< (x4 &&& 31) : Int32) ||| (1 <<< (x4 &&& 31) : Int32)), .int (1 <<< (x6 &&& 31) : Int32), .int (-1)])), .inr (.inl [some 61, none, none, none, none, none, none, none, none, none])]))) ?_
    refine rr rfl (s_iinc (v := 7) rfl (by decide) rfl) ?_
    refine rr rfl s_goto ?_
    refine rr rfl (s_iload_n rfl) ?_
    refine rr rfl (s_bipush (v := 8) (by decide)) ?_
    refine rr rfl (s_icF (by decide)) ?_
    refine rr rfl (s_aload_n rfl) ?_
    refine rr rfl (s_getf rfl rfl) ?_
    refine rr rfl (s_iload_n rfl) ?_
    refine rr rfl (s_iconst (v := 0) (by decide)) ?_
    refine rr rfl (s_iastore (j := 7) (f' := (List.replicate 8 0)) rfl rfl (Nat.le_of_ble_eq_true rfl) rfl (Nat.le_of_ble_eq_true rfl) rfl (h' := ((((((((((((((hF.set 3 (.inr (.inr (0, [.int 1, .ref 62, .int 1])))).set 4 (.inl ((List.replicate 8 (0 : Int32)).set (Int32.toNatClampNeg x3) 1))).set 5 (.inl ((List.replicate 8 (0 : Int32)).set (Int32.toNatClampNeg x3) 1))).set 6 (.inr (.inr (6, [.ref 2, .ref 7, .ref 8, .ref 9, .int 1])))).set 41 (.inr (.inr (9, [.int 4, .int 1, .ref 42, .ref 43, .ref 44, .ref 45, .ref 46, .ref 47, .ref 48, .ref 49, .ref 50, .ref 51, .int 0, .int 0, .int 0, .int 0, .int 0, .int 0, .int 0, .int 0, .ref 52, .int 0, .ref 53, .int 0, .ref 54, .int 0, .ref 55, .ref 56, .ref 57, .ref 58, .int 0, .ref 59, .ref 60])))).set 42 (.inl [x1, 0, 0, 0, 0, 0, 0, 0, 0, 0, 0, 0, 0])).set 43 (.inl [x2, 0, 0, 0, 0, 0, 0, 0, 0, 0, 0, 0, 0])).set 44 (.inl [x3, 0, 0, 0, 0, 0, 0, 0, 0, 0, 0, 0, 0])).set 45 (.inl [x4, 0, 0, 0, 0, 0, 0, 0, 0, 0, 0, 0, 0])).set 46 (.inl [x5, 0, 0, 0, 0, 0, 0, 0, 0, 0, 0, 0, 0])).set 47 (.inl [x6, 0, 0, 0, 0, 0, 0, 0, 0, 0, 0, 0, 0])).set 48 (.inl [x7, 0, 0, 0, 0, 0, 0, 0, 0, 0, 0, 0, 0])).set 49 (.inl [(-1), 0, 0, 0, 0, 0, 0, 0, 0, 0, 0, 0, 0])) ++ [.inr (.inr (2, [.int x1, .int x2, .int x3, .int x4, .int x4, .int x6, .int x7, .int ((1 <<< (x4 &&& 31) : Int32) ||| (1 <<< (x4 &&& 31) : Int32)), .int (1 <<< (x6 &&& 31) : Int32), .int (-1)])), .inr (.inl [some 61, none, none, none, none, none, none, none, none, none])]))) ?_
    refine rr rfl (s_iinc (v := 8) rfl (by decide) rfl) ?_
    refine rr rfl s_goto ?_
    refine rr rfl (s_iload_n rfl) ?_
    refine rr rfl (s_bipush (v := 8) (by decide)) ?_
    refine rr rfl (s_icT (by decide)) ?_
    refine rr rfl (s_iconst (v := 1) (by decide)) ?_
    refine rr rfl (s_istore_n rfl) ?_
    refine rr rfl (s_iconst (v := 1) (by decide)) ?_
    refine rr rfl (s_istore_n rfl) ?_
    refine rr rfl (s_iload_n rfl) ?_
    refine rr rfl (s_ifF (by decide)) ?_
    refine rr rfl (s_iload_n rfl) ?_
    refine rr rfl (s_ifF (by decide)) ?_
    refine rr rfl (s_iconst (v := 0) (by decide)) ?_
    refine rr rfl (s_istore_n rfl) ?_
    refine rr rfl (s_iconst (v := 0) (by decide)) ?_
    refine rr rfl (s_istore_n rfl) ?_
    refine rr rfl (s_iload_n rfl) ?_
    refine rr rfl (s_aload_n rfl) ?_
    refine rr rfl (s_getf rfl rfl) ?_
    refine rr rfl (s_icF (by decide)) ?_
    refine rr rfl (s_iconst (v := 0) (by decide)) ?_
    refine rr rfl (s_istore rfl) ?_
    refine rr rfl (s_aload_n rfl) ?_
    refine rr rfl (s_getf rfl rfl) ?_
    refine rr rfl (s_iload_n rfl) ?_
    refine rr rfl (s_iaload (j := 0) rfl rfl rfl) ?_
    refine rr rfl (s_ifF (ic_nne g1)) ?_
    refine rr rfl (s_aload_n rfl) ?_
    refine rr rfl (s_getf rfl rfl) ?_
    refine rr rfl (s_aload_n rfl) ?_
    refine rr rfl (s_getf rfl rfl) ?_
    refine rr rfl (s_iload_n rfl) ?_
    refine rr rfl (s_iaload (j := 0) rfl rfl rfl) ?_
    refine rr rfl (s_ialdR (n := 8) (x := 0) rfl g2 g3) ?_
    refine rr rfl (s_istore rfl) ?_
    refine rr rfl (s_aload_n rfl) ?_
    refine rr rfl (s_getf rfl rfl) ?_
    refine rr rfl (s_iload_n rfl) ?_
    refine rr rfl (s_iaload (j := 0) rfl rfl rfl) ?_
    refine rr rfl (s_iconst (v := (-1)) (by decide)) ?_
    refine rr rfl (s_icT (ic_eq g4)) ?_
    refine rr rfl (s_iload rfl) ?_
    refine rr rfl (s_istore rfl) ?_
    refine rr rfl (s_aload_n rfl) ?_
    refine rr rfl (s_getf rfl rfl) ?_
    refine rr rfl (s_iload_n rfl) ?_
    refine rr rfl (s_iaload (j := 0) rfl rfl rfl) ?_
    refine rr rfl (s_iconst (v := (-1)) (by decide)) ?_
    refine rr rfl (s_icF (ic_neq g5)) ?_
    refine rr rfl (s_aload_n rfl) ?_
    refine rr rfl (s_getf rfl rfl) ?_
    refine rr rfl (s_aload_n rfl) ?_
    refine rr rfl (s_getf rfl rfl) ?_
    refine rr rfl (s_iload_n rfl) ?_
    refine rr rfl (s_iaload (j := 0) rfl rfl rfl) ?_
    refine rr rfl (s_ialdR (n := 8) (x := 0) rfl g6 g7) ?_
    refine rr rfl (s_iconst (v := 1) (by decide)) ?_
    refine rr rfl (s_iadd (v := 1) (by decide)) ?_
    refine rr rfl (s_iload rfl) ?_
    refine rr rfl (s_icF (by decide)) ?_
    refine rr rfl (s_aload_n rfl) ?_
    refine rr rfl (s_getf rfl rfl) ?_
    refine rr rfl (s_aload_n rfl) ?_
    refine rr rfl (s_getf rfl rfl) ?_
    refine rr rfl (s_iload_n rfl) ?_
    refine rr rfl (s_iaload (j := 0) rfl rfl rfl) ?_
    refine rr rfl (s_ialdR (n := 8) (x := 0) rfl g6 g7) ?_
    refine rr rfl (s_iconst (v := 1) (by decide)) ?_
    refine rr rfl (s_iadd (v := 1) (by decide)) ?_
    refine rr rfl s_goto ?_
    refine rr rfl (s_istore rfl) ?_
    refine rr rfl (s_iload rfl) ?_
    refine rr rfl (s_aload_n rfl) ?_
    refine rr rfl (s_getf rfl rfl) ?_
    refine rr rfl (s_aload_n rfl) ?_
    refine rr rfl (s_getf rfl rfl) ?_
    refine rr rfl (s_iload_n rfl) ?_
    refine rr rfl (s_iaload (j := 0) rfl rfl rfl) ?_
    refine rr rfl (s_ialdR (n := 8) (x := 0) rfl g8 g9) ?_
    refine rr rfl (s_icF (by decide)) ?_
    refine rr rfl (s_aload_n rfl) ?_
    refine rr rfl (s_getf rfl rfl) ?_
    refine rr rfl (s_aload_n rfl) ?_
    refine rr rfl (s_getf rfl rfl) ?_
    refine rr rfl (s_iload_n rfl) ?_
    refine rr rfl (s_iaload (j := 0) rfl rfl rfl) ?_
    refine rr rfl (s_iload rfl) ?_
    refine rr rfl (s_iastR (n := 8) rfl g8 g9 (Nat.le_of_ble_eq_true rfl) rfl (h' := (((((((((((((((hF.set 3 (.inr (.inr (0, [.int 1, .ref 62, .int 1])))).set 4 (.inl ((List.replicate 8 (0 : Int32)).set (Int32.toNatClampNeg x3) 1))).set 5 (.inl ((List.replicate 8 (0 : Int32)).set (Int32.toNatClampNeg x3) 1))).set 6 (.inr (.inr (6, [.ref 2, .ref 7, .ref 8, .ref 9, .int 1])))).set 41 (.inr (.inr (9, [.int 4, .int 1, .ref 42, .ref 43, .ref 44, .ref 45, .ref 46, .ref 47, .ref 48, .ref 49, .ref 50, .ref 51, .int 0, .int 0, .int 0, .int 0, .int 0, .int 0, .int 0, .int 0, .ref 52, .int 0, .ref 53, .int 0, .ref 54, .int 0, .ref 55, .ref 56, .ref 57, .ref 58, .int 0, .ref 59, .ref 60])))).set 42 (.inl [x1, 0, 0, 0, 0, 0, 0, 0, 0, 0, 0, 0, 0])).set 43 (.inl [x2, 0, 0, 0, 0, 0, 0, 0, 0, 0, 0, 0, 0])).set 44 (.inl [x3, 0, 0, 0, 0, 0, 0, 0, 0, 0, 0, 0, 0])).set 45 (.inl [x4, 0, 0, 0, 0, 0, 0, 0, 0, 0, 0, 0, 0])).set 46 (.inl [x5, 0, 0, 0, 0, 0, 0, 0, 0, 0, 0, 0, 0])).set 47 (.inl [x6, 0, 0, 0, 0, 0, 0, 0, 0, 0, 0, 0, 0])).set 48 (.inl [x7, 0, 0, 0, 0, 0, 0, 0, 0, 0, 0, 0, 0])).set 49 (.inl [(-1), 0, 0, 0, 0, 0, 0, 0, 0, 0, 0, 0, 0])).set 51 (.inl ((List.replicate 8 (0 : Int32)).set (Int32.toNatClampNeg x3) 1))) ++ [.inr (.inr (2, [.int x1, .int x2, .int x3, .int x4, .int x4, .int x6, .int x7, .int ((1 <<< (x4 &&& 31) : Int32) ||| (1 <<< (x4 &&& 31) : Int32)), .int (1 <<< (x6 &&& 31) : Int32), .int (-1)])), .inr (.inl [some 61, none, none, none, none, none, none, none, none, none])]))) ?_
    refine rr rfl (s_iconst (v := 1) (by decide)) ?_
    refine rr rfl (s_istore_n rfl) ?_
    refine rr rfl (s_iload_n rfl) ?_
    refine rr rfl (s_ifF (by decide)) ?_
    refine rr rfl (s_iload rfl) ?_
    refine rr rfl (s_bipush (v := 8) (by decide)) ?_
    refine rr rfl (s_icF (by decide)) ?_
    refine rr rfl (s_iconst (v := 1) (by decide)) ?_
    refine rr rfl s_goto ?_
    refine rr rfl (s_istore_n rfl) ?_
    refine rr rfl (s_iinc (v := 1) rfl (by decide) rfl) ?_
    refine rr rfl s_goto ?_
    refine rr rfl (s_iload_n rfl) ?_
    refine rr rfl (s_aload_n rfl) ?_
    refine rr rfl (s_getf rfl rfl) ?_
    refine rr rfl (s_icT (by decide)) ?_
    refine rr rfl s_goto ?_
    refine rr rfl (s_iload_n rfl) ?_
    refine rr rfl (s_ifF (by decide)) ?_
    refine rr rfl (s_iload_n rfl) ?_
    refine rr rfl (s_ifF (by decide)) ?_
    refine rr rfl (s_iconst (v := 0) (by decide)) ?_
    refine rr rfl (s_istore_n rfl) ?_
    refine rr rfl (s_iconst (v := 0) (by decide)) ?_
    refine rr rfl (s_istore_n rfl) ?_
    refine rr rfl (s_iload_n rfl) ?_
    refine rr rfl (s_aload_n rfl) ?_
    refine rr rfl (s_getf rfl rfl) ?_
    refine rr rfl (s_icF (by decide)) ?_
    refine rr rfl (s_iconst (v := 0) (by decide)) ?_
    refine rr rfl (s_istore rfl) ?_
    refine rr rfl (s_aload_n rfl) ?_
    refine rr rfl (s_getf rfl rfl) ?_
    refine rr rfl (s_iload_n rfl) ?_
    refine rr rfl (s_iaload (j := 0) rfl rfl rfl) ?_
    refine rr rfl (s_ifF (ic_nne g1)) ?_
    refine rr rfl (s_aload_n rfl) ?_
    refine rr rfl (s_getf rfl rfl) ?_
    refine rr rfl (s_aload_n rfl) ?_
    refine rr rfl (s_getf rfl rfl) ?_
    refine rr rfl (s_iload_n rfl) ?_
    refine rr rfl (s_iaload (j := 0) rfl rfl rfl) ?_
    refine rr rfl (s_ialdH rfl g10 g8 g9) ?_
    refine rr rfl (s_istore rfl) ?_
    refine rr rfl (s_aload_n rfl) ?_
    refine rr rfl (s_getf rfl rfl) ?_
    refine rr rfl (s_iload_n rfl) ?_
    refine rr rfl (s_iaload (j := 0) rfl rfl rfl) ?_
    refine rr rfl (s_iconst (v := (-1)) (by decide)) ?_
    refine rr rfl (s_icT (ic_eq g4)) ?_
    refine rr rfl (s_iload rfl) ?_
    refine rr rfl (s_istore rfl) ?_
    refine rr rfl (s_aload_n rfl) ?_
    refine rr rfl (s_getf rfl rfl) ?_
    refine rr rfl (s_iload_n rfl) ?_
    refine rr rfl (s_iaload (j := 0) rfl rfl rfl) ?_
    refine rr rfl (s_iconst (v := (-1)) (by decide)) ?_
    refine rr rfl (s_icF (ic_neq g5)) ?_
    refine rr rfl (s_aload_n rfl) ?_
    refine rr rfl (s_getf rfl rfl) ?_
    refine rr rfl (s_aload_n rfl) ?_
    refine rr rfl (s_getf rfl rfl) ?_
    refine rr rfl (s_iload_n rfl) ?_
    refine rr rfl (s_iaload (j := 0) rfl rfl rfl) ?_
    refine rr rfl (s_ialdN rfl g11 g6 g7 g8) ?_
    refine rr rfl (s_iconst (v := 1) (by decide)) ?_
    refine rr rfl (s_iadd (v := 1) (by decide)) ?_
    refine rr rfl (s_iload rfl) ?_
    refine rr rfl (s_icT (by decide)) ?_
    refine rr rfl (s_iload rfl) ?_
    refine rr rfl (s_istore rfl) ?_
    refine rr rfl (s_iload rfl) ?_
    refine rr rfl (s_aload_n rfl) ?_
    refine rr rfl (s_getf rfl rfl) ?_
    refine rr rfl (s_aload_n rfl) ?_
    refine rr rfl (s_getf rfl rfl) ?_
    refine rr rfl (s_iload_n rfl) ?_
    refine rr rfl (s_iaload (j := 0) rfl rfl rfl) ?_
    refine rr rfl (s_ialdH rfl rfl g8 g9) ?_
    refine rr rfl (s_icT (by decide)) ?_
    refine rr rfl (s_iinc (v := 1) rfl (by decide) rfl) ?_
    refine rr rfl s_goto ?_
    refine rr rfl (s_iload_n rfl) ?_
    refine rr rfl (s_aload_n rfl) ?_
    refine rr rfl (s_getf rfl rfl) ?_
    refine rr rfl (s_icT (by decide)) ?_
    refine rr rfl s_goto ?_
    refine rr rfl (s_iload_n rfl) ?_
    refine rr rfl (s_ifT (by decide)) ?_
    refine rr rfl (s_iload_n rfl) ?_
    exact rrt rfl rfl rfl rfl
  refine rrc rfl rfl rfl (do_of g_X9_lays rfl rfl e2) ?_
  refine rr rfl (s_istore rfl) ?_
  refine rr rfl (s_iload rfl) ?_
  refine rr rfl (s_ifF (by decide)) ?_
  refine rr rfl (s_aload_n rfl) ?_
  refine rr rfl (s_getf rfl rfl) ?_
  refine rr rfl (s_bipush (v := 12) (by decide)) ?_
  refine rr rfl (s_icT (by decide)) ?_
  refine rr rfl (s_aload_n rfl) ?_
  refine rr rfl (s_getf rfl rfl) ?_
  refine rr rfl (s_iconst (v := 1) (by decide)) ?_
  refine rr rfl (s_isub (v := 0) (by decide)) ?_
  exact rrt rfl rfl rfl rfl
set_option maxHeartbeats 4000000 in
set_option maxRecDepth 10000 in
theorem rm_Nooh {x1 x2 x3 x4 x5 x6 x7 : Int32} (g1 : x2 = 0) (g2 : ¬ x4 < 0) (g3 : x4 < nI 8) (g4 : ¬ x5 = (-1)) (g5 : ¬ x5 < 0) (g6 : x5 < nI 8) (g7 : ¬ x6 = (-1)) (g8 : ¬ x6 < 0) (g9 : x6 < nI 8) (g10 : ¬ x3 < 0) (g11 : x3 < nI 8) (g12 : x4 = x3) (g13 : ¬ x5 = x3) (g14 : ¬ x6 = x3) : a_run MT [] (a_m MT [] 100000 10) 11 (some .int) tabX9_rule 90000 95 (alQ x1 x2 x3 x4 x5 x6 x7) [] (((((hF.set 3 (.inr (.inr (0, [.int 1, .ref 62, .int 1])))).set 4 (.inl ((List.replicate 8 (0 : Int32)).set (Int32.toNatClampNeg x3) 1))).set 5 (.inl ((List.replicate 8 (0 : Int32)).set (Int32.toNatClampNeg x3) 1))).set 6 (.inr (.inr (6, [.ref 2, .ref 7, .ref 8, .ref 9, .int 1])))) ++ [.inr (.inr (2, [.int x1, .int x2, .int x3, .int x4, .int x5, .int x6, .int x7, .int ((1 <<< (x4 &&& 31) : Int32) ||| (1 <<< (x5 &&& 31) : Int32)), .int (1 <<< (x6 &&& 31) : Int32), .int (-1)])), .inr (.inl [some 61, none, none, none, none, none, none, none, none, none])]) 0 0 = some (some (.int 0), (((((((((((((((hF.set 3 (.inr (.inr (0, [.int 1, .ref 62, .int 1])))).set 4 (.inl ((List.replicate 8 (0 : Int32)).set (Int32.toNatClampNeg x3) 1))).set 5 (.inl ((List.replicate 8 (0 : Int32)).set (Int32.toNatClampNeg x3) 1))).set 6 (.inr (.inr (6, [.ref 2, .ref 7, .ref 8, .ref 9, .int 1])))).set 41 (.inr (.inr (9, [.int 4, .int 1, .ref 42, .ref 43, .ref 44, .ref 45, .ref 46, .ref 47, .ref 48, .ref 49, .ref 50, .ref 51, .int 0, .int 0, .int 0, .int 0, .int 0, .int 0, .int 0, .int 0, .ref 52, .int 0, .ref 53, .int 0, .ref 54, .int 0, .ref 55, .ref 56, .ref 57, .ref 58, .int 0, .ref 59, .ref 60])))).set 42 (.inl [x1, 0, 0, 0, 0, 0, 0, 0, 0, 0, 0, 0, 0])).set 43 (.inl [x2, 0, 0, 0, 0, 0, 0, 0, 0, 0, 0, 0, 0])).set 44 (.inl [x3, 0, 0, 0, 0, 0, 0, 0, 0, 0, 0, 0, 0])).set 45 (.inl [x4, 0, 0, 0, 0, 0, 0, 0, 0, 0, 0, 0, 0])).set 46 (.inl [x5, 0, 0, 0, 0, 0, 0, 0, 0, 0, 0, 0, 0])).set 47 (.inl [x6, 0, 0, 0, 0, 0, 0, 0, 0, 0, 0, 0, 0])).set 48 (.inl [x7, 0, 0, 0, 0, 0, 0, 0, 0, 0, 0, 0, 0])).set 49 (.inl [(-1), 0, 0, 0, 0, 0, 0, 0, 0, 0, 0, 0, 0])).set 51 (.inl ((List.replicate 8 (0 : Int32)).set (Int32.toNatClampNeg x3) 1))) ++ [.inr (.inr (2, [.int x1, .int x2, .int x3, .int x4, .int x5, .int x6, .int x7, .int ((1 <<< (x4 &&& 31) : Int32) ||| (1 <<< (x5 &&& 31) : Int32)), .int (1 <<< (x6 &&& 31) : Int32), .int (-1)])), .inr (.inl [some 61, none, none, none, none, none, none, none, none, none])]), 0, 0) := by
  refine rr rfl (s_aload_n rfl) ?_
  refine rr rfl (s_aload_n rfl) ?_
  refine rr rfl (s_getf rfl rfl) ?_
  refine rr rfl (s_iload_n rfl) ?_
  refine rr rfl (s_iload_n rfl) ?_
  refine rr rfl (s_iload_n rfl) ?_
  refine rr rfl (s_iload rfl) ?_
  refine rr rfl (s_iload rfl) ?_
  refine rr rfl (s_iload rfl) ?_
  refine rr rfl (s_iload rfl) ?_
  have e1 : a_m MT [] 100000 10 miX9_sets [.ref 41, .int 0, .int x1, .int x2, .int x3, .int x4, .int x5, .int x6, .int x7] (((((hF.set 3 (.inr (.inr (0, [.int 1, .ref 62, .int 1])))).set 4 (.inl ((List.replicate 8 (0 : Int32)).set (Int32.toNatClampNeg x3) 1))).set 5 (.inl ((List.replicate 8 (0 : Int32)).set (Int32.toNatClampNeg x3) 1))).set 6 (.inr (.inr (6, [.ref 2, .ref 7, .ref 8, .ref 9, .int 1])))) ++ [.inr (.inr (2, [.int x1, .int x2, .int x3, .int x4, .int x5, .int x6, .int x7, .int ((1 <<< (x4 &&& 31) : Int32) ||| (1 <<< (x5 &&& 31) : Int32)), .int (1 <<< (x6 &&& 31) : Int32), .int (-1)])), .inr (.inl [some 61, none, none, none, none, none, none, none, none, none])]) = some (none, (((((((((((((hF.set 3 (.inr (.inr (0, [.int 1, .ref 62, .int 1])))).set 4 (.inl ((List.replicate 8 (0 : Int32)).set (Int32.toNatClampNeg x3) 1))).set 5 (.inl ((List.replicate 8 (0 : Int32)).set (Int32.toNatClampNeg x3) 1))).set 6 (.inr (.inr (6, [.ref 2, .ref 7, .ref 8, .ref 9, .int 1])))).set 42 (.inl [x1, 0, 0, 0, 0, 0, 0, 0, 0, 0, 0, 0, 0])).set 43 (.inl [x2, 0, 0, 0, 0, 0, 0, 0, 0, 0, 0, 0, 0])).set 44 (.inl [x3, 0, 0, 0, 0, 0, 0, 0, 0, 0, 0, 0, 0])).set 45 (.inl [x4, 0, 0, 0, 0, 0, 0, 0, 0, 0, 0, 0, 0])).set 46 (.inl [x5, 0, 0, 0, 0, 0, 0, 0, 0, 0, 0, 0, 0])).set 47 (.inl [x6, 0, 0, 0, 0, 0, 0, 0, 0, 0, 0, 0, 0])).set 48 (.inl [x7, 0, 0, 0, 0, 0, 0, 0, 0, 0, 0, 0, 0])).set 49 (.inl [(-1), 0, 0, 0, 0, 0, 0, 0, 0, 0, 0, 0, 0])) ++ [.inr (.inr (2, [.int x1, .int x2, .int x3, .int x4, .int x5, .int x6, .int x7, .int ((1 <<< (x4 &&& 31) : Int32) ||| (1 <<< (x5 &&& 31) : Int32)), .int (1 <<< (x6 &&& 31) : Int32), .int (-1)])), .inr (.inl [some 61, none, none, none, none, none, none, none, none, none])]), 0, 0) := by
    refine me (d := 9) g_X9_sets (Nat.le_of_ble_eq_true rfl) ?_
    refine rr rfl (s_aload_n rfl) ?_
    refine rr rfl (s_getf rfl rfl) ?_
    refine rr rfl (s_iload_n rfl) ?_
    refine rr rfl (s_iload_n rfl) ?_
    refine rr rfl (s_iastore (j := 0) (f' := [x1, 0, 0, 0, 0, 0, 0, 0, 0, 0, 0, 0, 0]) rfl rfl (Nat.le_of_ble_eq_true rfl) rfl (Nat.le_of_ble_eq_true rfl) rfl (h' := ((((((hF.set 3 (.inr (.inr (0, [.int 1, .ref 62, .int 1])))).set 4 (.inl ((List.replicate 8 (0 : Int32)).set (Int32.toNatClampNeg x3) 1))).set 5 (.inl ((List.replicate 8 (0 : Int32)).set (Int32.toNatClampNeg x3) 1))).set 6 (.inr (.inr (6, [.ref 2, .ref 7, .ref 8, .ref 9, .int 1])))).set 42 (.inl [x1, 0, 0, 0, 0, 0, 0, 0, 0, 0, 0, 0, 0])) ++ [.inr (.inr (2, [.int x1, .int x2, .int x3, .int x4, .int x5, .int x6, .int x7, .int ((1 <<< (x4 &&& 31) : Int32) ||| (1 <<< (x5 &&& 31) : Int32)), .int (1 <<< (x6 &&& 31) : Int32), .int (-1)])), .inr (.inl [some 61, none, none, none, none, none, none, none, none, none])]))) ?_
    refine rr rfl (s_aload_n rfl) ?_
    refine rr rfl (s_getf rfl rfl) ?_
    refine rr rfl (s_iload_n rfl) ?_
    refine rr rfl (s_iload_n rfl) ?_
    refine rr rfl (s_iastore (j := 0) (f' := [x2, 0, 0, 0, 0, 0, 0, 0, 0, 0, 0, 0, 0]) rfl rfl (Nat.le_of_ble_eq_true rfl) rfl (Nat.le_of_ble_eq_true rfl) rfl (h' := (((((((hF.set 3 (.inr (.inr (0, [.int 1, .ref 62, .int 1])))).set 4 (.inl ((List.replicate 8 (0 : Int32)).set (Int32.toNatClampNeg x3) 1))).set 5 (.inl ((List.replicate 8 (0 : Int32)).set (Int32.toNatClampNeg x3) 1))).set 6 (.inr (.inr (6, [.ref 2, .ref 7, .ref 8, .ref 9, .int 1])))).set 42 (.inl [x1, 0, 0, 0, 0, 0, 0, 0, 0, 0, 0, 0, 0])).set 43 (.inl [x2, 0, 0, 0, 0, 0, 0, 0, 0, 0, 0, 0, 0])) ++ [.inr (.inr (2, [.int x1, .int x2, .int x3, .int x4, .int x5, .int x6, .int x7, .int ((1 <<< (x4 &&& 31) : Int32) ||| (1 <<< (x5 &&& 31) : Int32)), .int (1 <<< (x6 &&& 31) : Int32), .int (-1)])), .inr (.inl [some 61, none, none, none, none, none, none, none, none, none])]))) ?_
    refine rr rfl (s_aload_n rfl) ?_
    refine rr rfl (s_getf rfl rfl) ?_
    refine rr rfl (s_iload_n rfl) ?_
    refine rr rfl (s_iload rfl) ?_
    refine rr rfl (s_iastore (j := 0) (f' := [x3, 0, 0, 0, 0, 0, 0, 0, 0, 0, 0, 0, 0]) rfl rfl (Nat.le_of_ble_eq_true rfl) rfl (Nat.le_of_ble_eq_true rfl) rfl (h' := ((((((((hF.set 3 (.inr (.inr (0, [.int 1, .ref 62, .int 1])))).set 4 (.inl ((List.replicate 8 (0 : Int32)).set (Int32.toNatClampNeg x3) 1))).set 5 (.inl ((List.replicate 8 (0 : Int32)).set (Int32.toNatClampNeg x3) 1))).set 6 (.inr (.inr (6, [.ref 2, .ref 7, .ref 8, .ref 9, .int 1])))).set 42 (.inl [x1, 0, 0, 0, 0, 0, 0, 0, 0, 0, 0, 0, 0])).set 43 (.inl [x2, 0, 0, 0, 0, 0, 0, 0, 0, 0, 0, 0, 0])).set 44 (.inl [x3, 0, 0, 0, 0, 0, 0, 0, 0, 0, 0, 0, 0])) ++ [.inr (.inr (2, [.int x1, .int x2, .int x3, .int x4, .int x5, .int x6, .int x7, .int ((1 <<< (x4 &&& 31) : Int32) ||| (1 <<< (x5 &&& 31) : Int32)), .int (1 <<< (x6 &&& 31) : Int32), .int (-1)])), .inr (.inl [some 61, none, none, none, none, none, none, none, none, none])]))) ?_
    refine rr rfl (s_aload_n rfl) ?_
    refine rr rfl (s_getf rfl rfl) ?_
    refine rr rfl (s_iload_n rfl) ?_
    refine rr rfl (s_iload rfl) ?_
    refine rr rfl (s_iastore (j := 0) (f' := [x4, 0, 0, 0, 0, 0, 0, 0, 0, 0, 0, 0, 0]) rfl rfl (Nat.le_of_ble_eq_true rfl) rfl (Nat.le_of_ble_eq_true rfl) rfl (h' := (((((((((hF.set 3 (.inr (.inr (0, [.int 1, .ref 62, .int 1])))).set 4 (.inl ((List.replicate 8 (0 : Int32)).set (Int32.toNatClampNeg x3) 1))).set 5 (.inl ((List.replicate 8 (0 : Int32)).set (Int32.toNatClampNeg x3) 1))).set 6 (.inr (.inr (6, [.ref 2, .ref 7, .ref 8, .ref 9, .int 1])))).set 42 (.inl [x1, 0, 0, 0, 0, 0, 0, 0, 0, 0, 0, 0, 0])).set 43 (.inl [x2, 0, 0, 0, 0, 0, 0, 0, 0, 0, 0, 0, 0])).set 44 (.inl [x3, 0, 0, 0, 0, 0, 0, 0, 0, 0, 0, 0, 0])).set 45 (.inl [x4, 0, 0, 0, 0, 0, 0, 0, 0, 0, 0, 0, 0])) ++ [.inr (.inr (2, [.int x1, .int x2, .int x3, .int x4, .int x5, .int x6, .int x7, .int ((1 <<< (x4 &&& 31) : Int32) ||| (1 <<< (x5 &&& 31) : Int32)), .int (1 <<< (x6 &&& 31) : Int32), .int (-1)])), .inr (.inl [some 61, none, none, none, none, none, none, none, none, none])]))) ?_
    refine rr rfl (s_aload_n rfl) ?_
    refine rr rfl (s_getf rfl rfl) ?_
    refine rr rfl (s_iload_n rfl) ?_
    refine rr rfl (s_iload rfl) ?_
    refine rr rfl (s_iastore (j := 0) (f' := [x5, 0, 0, 0, 0, 0, 0, 0, 0, 0, 0, 0, 0]) rfl rfl (Nat.le_of_ble_eq_true rfl) rfl (Nat.le_of_ble_eq_true rfl) rfl (h' := ((((((((((hF.set 3 (.inr (.inr (0, [.int 1, .ref 62, .int 1])))).set 4 (.inl ((List.replicate 8 (0 : Int32)).set (Int32.toNatClampNeg x3) 1))).set 5 (.inl ((List.replicate 8 (0 : Int32)).set (Int32.toNatClampNeg x3) 1))).set 6 (.inr (.inr (6, [.ref 2, .ref 7, .ref 8, .ref 9, .int 1])))).set 42 (.inl [x1, 0, 0, 0, 0, 0, 0, 0, 0, 0, 0, 0, 0])).set 43 (.inl [x2, 0, 0, 0, 0, 0, 0, 0, 0, 0, 0, 0, 0])).set 44 (.inl [x3, 0, 0, 0, 0, 0, 0, 0, 0, 0, 0, 0, 0])).set 45 (.inl [x4, 0, 0, 0, 0, 0, 0, 0, 0, 0, 0, 0, 0])).set 46 (.inl [x5, 0, 0, 0, 0, 0, 0, 0, 0, 0, 0, 0, 0])) ++ [.inr (.inr (2, [.int x1, .int x2, .int x3, .int x4, .int x5, .int x6, .int x7, .int ((1 <<< (x4 &&& 31) : Int32) ||| (1 <<< (x5 &&& 31) : Int32)), .int (1 <<< (x6 &&& 31) : Int32), .int (-1)])), .inr (.inl [some 61, none, none, none, none, none, none, none, none, none])]))) ?_
    refine rr rfl (s_aload_n rfl) ?_
    refine rr rfl (s_getf rfl rfl) ?_
    refine rr rfl (s_iload_n rfl) ?_
    refine rr rfl (s_iload rfl) ?_
    refine rr rfl (s_iastore (j := 0) (f' := [x6, 0, 0, 0, 0, 0, 0, 0, 0, 0, 0, 0, 0]) rfl rfl (Nat.le_of_ble_eq_true rfl) rfl (Nat.le_of_ble_eq_true rfl) rfl (h' := (((((((((((hF.set 3 (.inr (.inr (0, [.int 1, .ref 62, .int 1])))).set 4 (.inl ((List.replicate 8 (0 : Int32)).set (Int32.toNatClampNeg x3) 1))).set 5 (.inl ((List.replicate 8 (0 : Int32)).set (Int32.toNatClampNeg x3) 1))).set 6 (.inr (.inr (6, [.ref 2, .ref 7, .ref 8, .ref 9, .int 1])))).set 42 (.inl [x1, 0, 0, 0, 0, 0, 0, 0, 0, 0, 0, 0, 0])).set 43 (.inl [x2, 0, 0, 0, 0, 0, 0, 0, 0, 0, 0, 0, 0])).set 44 (.inl [x3, 0, 0, 0, 0, 0, 0, 0, 0, 0, 0, 0, 0])).set 45 (.inl [x4, 0, 0, 0, 0, 0, 0, 0, 0, 0, 0, 0, 0])).set 46 (.inl [x5, 0, 0, 0, 0, 0, 0, 0, 0, 0, 0, 0, 0])).set 47 (.inl [x6, 0, 0, 0, 0, 0, 0, 0, 0, 0, 0, 0, 0])) ++ [.inr (.inr (2, [.int x1, .int x2, .int x3, .int x4, .int x5, .int x6, .int x7, .int ((1 <<< (x4 &&& 31) : Int32) ||| (1 <<< (x5 &&& 31) : Int32)), .int (1 <<< (x6 &&& 31) : Int32), .int (-1)])), .inr (.inl [some 61, none, none, none, none, none, none, none, none, none])]))) ?_
    refine rr rfl (s_aload_n rfl) ?_
    refine rr rfl (s_getf rfl rfl) ?_
    refine rr rfl (s_iload_n rfl) ?_
    refine rr rfl (s_iload rfl) ?_
    refine rr rfl (s_iastore (j := 0) (f' := [x7, 0, 0, 0, 0, 0, 0, 0, 0, 0, 0, 0, 0]) rfl rfl (Nat.le_of_ble_eq_true rfl) rfl (Nat.le_of_ble_eq_true rfl) rfl (h' := ((((((((((((hF.set 3 (.inr (.inr (0, [.int 1, .ref 62, .int 1])))).set 4 (.inl ((List.replicate 8 (0 : Int32)).set (Int32.toNatClampNeg x3) 1))).set 5 (.inl ((List.replicate 8 (0 : Int32)).set (Int32.toNatClampNeg x3) 1))).set 6 (.inr (.inr (6, [.ref 2, .ref 7, .ref 8, .ref 9, .int 1])))).set 42 (.inl [x1, 0, 0, 0, 0, 0, 0, 0, 0, 0, 0, 0, 0])).set 43 (.inl [x2, 0, 0, 0, 0, 0, 0, 0, 0, 0, 0, 0, 0])).set 44 (.inl [x3, 0, 0, 0, 0, 0, 0, 0, 0, 0, 0, 0, 0])).set 45 (.inl [x4, 0, 0, 0, 0, 0, 0, 0, 0, 0, 0, 0, 0])).set 46 (.inl [x5, 0, 0, 0, 0, 0, 0, 0, 0, 0, 0, 0, 0])).set 47 (.inl [x6, 0, 0, 0, 0, 0, 0, 0, 0, 0, 0, 0, 0])).set 48 (.inl [x7, 0, 0, 0, 0, 0, 0, 0, 0, 0, 0, 0, 0])) ++ [.inr (.inr (2, [.int x1, .int x2, .int x3, .int x4, .int x5, .int x6, .int x7, .int ((1 <<< (x4 &&& 31) : Int32) ||| (1 <<< (x5 &&& 31) : Int32)), .int (1 <<< (x6 &&& 31) : Int32), .int (-1)])), .inr (.inl [some 61, none, none, none, none, none, none, none, none, none])]))) ?_
    refine rr rfl (s_aload_n rfl) ?_
    refine rr rfl (s_getf rfl rfl) ?_
    refine rr rfl (s_iload_n rfl) ?_
    refine rr rfl (s_iconst (v := (-1)) (by decide)) ?_
    refine rr rfl (s_iastore (j := 0) (f' := [(-1), 0, 0, 0, 0, 0, 0, 0, 0, 0, 0, 0, 0]) rfl rfl (Nat.le_of_ble_eq_true rfl) rfl (Nat.le_of_ble_eq_true rfl) rfl (h' := (((((((((((((hF.set 3 (.inr (.inr (0, [.int 1, .ref 62, .int 1])))).set 4 (.inl ((List.replicate 8 (0 : Int32)).set (Int32.toNatClampNeg x3) 1))).set 5 (.inl ((List.replicate 8 (0 : Int32)).set (Int32.toNatClampNeg x3) 1))).set 6 (.inr (.inr (6, [.ref 2, .ref 7, .ref 8, .ref 9, .int 1])))).set 42 (.inl [x1, 0, 0, 0, 0, 0, 0, 0, 0, 0, 0, 0, 0])).set 43 (.inl [x2, 0, 0, 0, 0, 0, 0, 0, 0, 0, 0, 0, 0])).set 44 (.inl [x3, 0, 0, 0, 0, 0, 0, 0, 0, 0, 0, 0, 0])).set 45 (.inl [x4, 0, 0, 0, 0, 0, 0, 0, 0, 0, 0, 0, 0])).set 46 (.inl [x5, 0, 0, 0, 0, 0, 0, 0, 0, 0, 0, 0, 0])).set 47 (.inl [x6, 0, 0, 0, 0, 0, 0, 0, 0, 0, 0, 0, 0])).set 48 (.inl [x7, 0, 0, 0, 0, 0, 0, 0, 0, 0, 0, 0, 0])).set 49 (.inl [(-1), 0, 0, 0, 0, 0, 0, 0, 0, 0, 0, 0, 0])) ++ [.inr (.inr (2, [.int x1, .int x2, .int x3, .int x4, .int x5, .int x6, .int x7, .int ((1 <<< (x4 &&& 31) : Int32) ||| (1 <<< (x5 &&& 31) : Int32)), .int (1 <<< (x6 &&& 31) : Int32), .int (-1)])), .inr (.inl [some 61, none, none, none, none, none, none, none, none, none])]))) ?_
    exact rrt rfl rfl rfl rfl
  refine rrc rfl rfl rfl (do_of g_X9_sets rfl rfl e1) ?_
  refine rr rfl (s_aload_n rfl) ?_
  refine rr rfl rfl ?_
  refine rr rfl (s_getf rfl rfl) ?_
  refine rr rfl (s_iconst (v := 1) (by decide)) ?_
  refine rr rfl (s_iadd (v := 1) (by decide)) ?_
  refine rr rfl (s_putf rfl rfl (Nat.le_of_ble_eq_true rfl) rfl (Nat.le_of_ble_eq_true rfl) rfl (h' := ((((((((((((((hF.set 3 (.inr (.inr (0, [.int 1, .ref 62, .int 1])))).set 4 (.inl ((List.replicate 8 (0 : Int32)).set (Int32.toNatClampNeg x3) 1))).set 5 (.inl ((List.replicate 8 (0 : Int32)).set (Int32.toNatClampNeg x3) 1))).set 6 (.inr (.inr (6, [.ref 2, .ref 7, .ref 8, .ref 9, .int 1])))).set 41 (.inr (.inr (9, [.int 4, .int 1, .ref 42, .ref 43, .ref 44, .ref 45, .ref 46, .ref 47, .ref 48, .ref 49, .ref 50, .ref 51, .int 0, .int 0, .int 0, .int 0, .int 0, .int 0, .int 0, .int 0, .ref 52, .int 0, .ref 53, .int 0, .ref 54, .int 0, .ref 55, .ref 56, .ref 57, .ref 58, .int 0, .ref 59, .ref 60])))).set 42 (.inl [x1, 0, 0, 0, 0, 0, 0, 0, 0, 0, 0, 0, 0])).set 43 (.inl [x2, 0, 0, 0, 0, 0, 0, 0, 0, 0, 0, 0, 0])).set 44 (.inl [x3, 0, 0, 0, 0, 0, 0, 0, 0, 0, 0, 0, 0])).set 45 (.inl [x4, 0, 0, 0, 0, 0, 0, 0, 0, 0, 0, 0, 0])).set 46 (.inl [x5, 0, 0, 0, 0, 0, 0, 0, 0, 0, 0, 0, 0])).set 47 (.inl [x6, 0, 0, 0, 0, 0, 0, 0, 0, 0, 0, 0, 0])).set 48 (.inl [x7, 0, 0, 0, 0, 0, 0, 0, 0, 0, 0, 0, 0])).set 49 (.inl [(-1), 0, 0, 0, 0, 0, 0, 0, 0, 0, 0, 0, 0])) ++ [.inr (.inr (2, [.int x1, .int x2, .int x3, .int x4, .int x5, .int x6, .int x7, .int ((1 <<< (x4 &&& 31) : Int32) ||| (1 <<< (x5 &&& 31) : Int32)), .int (1 <<< (x6 &&& 31) : Int32), .int (-1)])), .inr (.inl [some 61, none, none, none, none, none, none, none, none, none])]))) ?_
  refine rr rfl (s_aload_n rfl) ?_
  have e2 : a_m MT [] 100000 10 miX9_lays [.ref 41] ((((((((((((((hF.set 3 (.inr (.inr (0, [.int 1, .ref 62, .int 1])))).set 4 (.inl ((List.replicate 8 (0 : Int32)).set (Int32.toNatClampNeg x3) 1))).set 5 (.inl ((List.replicate 8 (0 : Int32)).set (Int32.toNatClampNeg x3) 1))).set 6 (.inr (.inr (6, [.ref 2, .ref 7, .ref 8, .ref 9, .int 1])))).set 41 (.inr (.inr (9, [.int 4, .int 1, .ref 42, .ref 43, .ref 44, .ref 45, .ref 46, .ref 47, .ref 48, .ref 49, .ref 50, .ref 51, .int 0, .int 0, .int 0, .int 0, .int 0, .int 0, .int 0, .int 0, .ref 52, .int 0, .ref 53, .int 0, .ref 54, .int 0, .ref 55, .ref 56, .ref 57, .ref 58, .int 0, .ref 59, .ref 60])))).set 42 (.inl [x1, 0, 0, 0, 0, 0, 0, 0, 0, 0, 0, 0, 0])).set 43 (.inl [x2, 0, 0, 0, 0, 0, 0, 0, 0, 0, 0, 0, 0])).set 44 (.inl [x3, 0, 0, 0, 0, 0, 0, 0, 0, 0, 0, 0, 0])).set 45 (.inl [x4, 0, 0, 0, 0, 0, 0, 0, 0, 0, 0, 0, 0])).set 46 (.inl [x5, 0, 0, 0, 0, 0, 0, 0, 0, 0, 0, 0, 0])).set 47 (.inl [x6, 0, 0, 0, 0, 0, 0, 0, 0, 0, 0, 0, 0])).set 48 (.inl [x7, 0, 0, 0, 0, 0, 0, 0, 0, 0, 0, 0, 0])).set 49 (.inl [(-1), 0, 0, 0, 0, 0, 0, 0, 0, 0, 0, 0, 0])) ++ [.inr (.inr (2, [.int x1, .int x2, .int x3, .int x4, .int x5, .int x6, .int x7, .int ((1 <<< (x4 &&& 31) : Int32) ||| (1 <<< (x5 &&& 31) : Int32)), .int (1 <<< (x6 &&& 31) : Int32), .int (-1)])), .inr (.inl [some 61, none, none, none, none, none, none, none, none, none])]) = some ((some (.int 1)), (((((((((((((((hF.set 3 (.inr (.inr (0, [.int 1, .ref 62, .int 1])))).set 4 (.inl ((List.replicate 8 (0 : Int32)).set (Int32.toNatClampNeg x3) 1))).set 5 (.inl ((List.replicate 8 (0 : Int32)).set (Int32.toNatClampNeg x3) 1))).set 6 (.inr (.inr (6, [.ref 2, .ref 7, .ref 8, .ref 9, .int 1])))).set 41 (.inr (.inr (9, [.int 4, .int 1, .ref 42, .ref 43, .ref 44, .ref 45, .ref 46, .ref 47, .ref 48, .ref 49, .ref 50, .ref 51, .int 0, .int 0, .int 0, .int 0, .int 0, .int 0, .int 0, .int 0, .ref 52, .int 0, .ref 53, .int 0, .ref 54, .int 0, .ref 55, .ref 56, .ref 57, .ref 58, .int 0, .ref 59, .ref 60])))).set 42 (.inl [x1, 0, 0, 0, 0, 0, 0, 0, 0, 0, 0, 0, 0])).set 43 (.inl [x2, 0, 0, 0, 0, 0, 0, 0, 0, 0, 0, 0, 0])).set 44 (.inl [x3, 0, 0, 0, 0, 0, 0, 0, 0, 0, 0, 0, 0])).set 45 (.inl [x4, 0, 0, 0, 0, 0, 0, 0, 0, 0, 0, 0, 0])).set 46 (.inl [x5, 0, 0, 0, 0, 0, 0, 0, 0, 0, 0, 0, 0])).set 47 (.inl [x6, 0, 0, 0, 0, 0, 0, 0, 0, 0, 0, 0, 0])).set 48 (.inl [x7, 0, 0, 0, 0, 0, 0, 0, 0, 0, 0, 0, 0])).set 49 (.inl [(-1), 0, 0, 0, 0, 0, 0, 0, 0, 0, 0, 0, 0])).set 51 (.inl ((List.replicate 8 (0 : Int32)).set (Int32.toNatClampNeg x3) 1))) ++ [.inr (.inr (2, [.int x1, .int x2, .int x3, .int x4, .int x5, .int x6, .int x7, .int ((1 <<< (x4 &&& 31) : Int32) ||| (1 <<< (x5 &&& 31) : Int32)), .int (1 <<< (x6 &&& 31) : Int32), .int (-1)])), .inr (.inl [some 61, none, none, none, none, none, none, none, none, none])]), 0, 0) := by
    refine me (d := 9) g_X9_lays (Nat.le_of_ble_eq_true rfl) ?_
    refine rr rfl (s_iconst (v := 0) (by decide)) ?_
    refine rr rfl (s_istore_n rfl) ?_
    refine rr rfl (s_iload_n rfl) ?_
    refine rr rfl (s_bipush (v := 8) (by decide)) ?_
    refine rr rfl (s_icF (by decide)) ?_
    refine rr rfl (s_aload_n rfl) ?_
    refine rr rfl (s_getf rfl rfl) ?_
    refine rr rfl (s_iload_n rfl) ?_
    refine rr rfl (s_iconst (v := 0) (by decide)) ?_
    refine rr rfl (s_iastore (j := 0) (f' := (List.replicate 8 0)) rfl rfl (Nat.le_of_ble_eq_true rfl) rfl (Nat.le_of_ble_eq_true rfl) rfl (h' := ((((((((((((((hF.set 3 (.inr (.inr (0, [.int 1, .ref 62, .int 1])))).set 4 (.inl ((List.replicate 8 (0 : Int32)).set (Int32.toNatClampNeg x3) 1))).set 5 (.inl ((List.replicate 8 (0 : Int32)).set (Int32.toNatClampNeg x3) 1))).set 6 (.inr (.inr (6, [.ref 2, .ref 7, .ref 8, .ref 9, .int 1])))).set 41 (.inr (.inr (9, [.int 4, .int 1, .ref 42, .ref 43, .ref 44, .ref 45, .ref 46, .ref 47, .ref 48, .ref 49, .ref 50, .ref 51, .int 0, .int 0, .int 0, .int 0, .int 0, .int 0, .int 0, .int 0, .ref 52, .int 0, .ref 53, .int 0, .ref 54, .int 0, .ref 55, .ref 56, .ref 57, .ref 58, .int 0, .ref 59, .ref 60])))).set 42 (.inl [x1, 0, 0, 0, 0, 0, 0, 0, 0, 0, 0, 0, 0])).set 43 (.inl [x2, 0, 0, 0, 0, 0, 0, 0, 0, 0, 0, 0, 0])).set 44 (.inl [x3, 0, 0, 0, 0, 0, 0, 0, 0, 0, 0, 0, 0])).set 45 (.inl [x4, 0, 0, 0, 0, 0, 0, 0, 0, 0, 0, 0, 0])).set 46 (.inl [x5, 0, 0, 0, 0, 0, 0, 0, 0, 0, 0, 0, 0])).set 47 (.inl [x6, 0, 0, 0, 0, 0, 0, 0, 0, 0, 0, 0, 0])).set 48 (.inl [x7, 0, 0, 0, 0, 0, 0, 0, 0, 0, 0, 0, 0])).set 49 (.inl [(-1), 0, 0, 0, 0, 0, 0, 0, 0, 0, 0, 0, 0])) ++ [.inr (.inr (2, [.int x1, .int x2, .int x3, .int x4, .int x5, .int x6, .int x7, .int ((1 <<< (x4 &&& 31) : Int32) ||| (1 <<< (x5 &&& 31) : Int32)), .int (1 <<< (x6 &&& 31) : Int32), .int (-1)])), .inr (.inl [some 61, none, none, none, none, none, none, none, none, none])]))) ?_
    refine rr rfl (s_iinc (v := 1) rfl (by decide) rfl) ?_
    refine rr rfl s_goto ?_
    refine rr rfl (s_iload_n rfl) ?_
    refine rr rfl (s_bipush (v := 8) (by decide)) ?_
    refine rr rfl (s_icF (by decide)) ?_
    refine rr rfl (s_aload_n rfl) ?_
    refine rr rfl (s_getf rfl rfl) ?_
    refine rr rfl (s_iload_n rfl) ?_
    refine rr rfl (s_iconst (v := 0) (by decide)) ?_
    refine rr rfl (s_iastore (j := 1) (f' := (List.replicate 8 0)) rfl rfl (Nat.le_of_ble_eq_true rfl) rfl (Nat.le_of_ble_eq_true rfl) rfl (h' := ((((((((((((((hF.set 3 (.inr (.inr (0, [.int 1, .ref 62, .int 1])))).set 4 (.inl ((List.replicate 8 (0 : Int32)).set (Int32.toNatClampNeg x3) 1))).set 5 (.inl ((List.replicate 8 (0 : Int32)).set (Int32.toNatClampNeg x3) 1))).set 6 (.inr (.inr (6, [.ref 2, .ref 7, .ref 8, .ref 9, .int 1])))).set 41 (.inr (.inr (9, [.int 4, .int 1, .ref 42, .ref 43, .ref 44, .ref 45, .ref 46, .ref 47, .ref 48, .ref 49, .ref 50, .ref 51, .int 0, .int 0, .int 0, .int 0, .int 0, .int 0, .int 0, .int 0, .ref 52, .int 0, .ref 53, .int 0, .ref 54, .int 0, .ref 55, .ref 56, .ref 57, .ref 58, .int 0, .ref 59, .ref 60])))).set 42 (.inl [x1, 0, 0, 0, 0, 0, 0, 0, 0, 0, 0, 0, 0])).set 43 (.inl [x2, 0, 0, 0, 0, 0, 0, 0, 0, 0, 0, 0, 0])).set 44 (.inl [x3, 0, 0, 0, 0, 0, 0, 0, 0, 0, 0, 0, 0])).set 45 (.inl [x4, 0, 0, 0, 0, 0, 0, 0, 0, 0, 0, 0, 0])).set 46 (.inl [x5, 0, 0, 0, 0, 0, 0, 0, 0, 0, 0, 0, 0])).set 47 (.inl [x6, 0, 0, 0, 0, 0, 0, 0, 0, 0, 0, 0, 0])).set 48 (.inl [x7, 0, 0, 0, 0, 0, 0, 0, 0, 0, 0, 0, 0])).set 49 (.inl [(-1), 0, 0, 0, 0, 0, 0, 0, 0, 0, 0, 0, 0])) ++ [.inr (.inr (2, [.int x1, .int x2, .int x3, .int x4, .int x5, .int x6, .int x7, .int ((1 <<< (x4 &&& 31) : Int32) ||| (1 <<< (x5 &&& 31) : Int32)), .int (1 <<< (x6 &&& 31) : Int32), .int (-1)])), .inr (.inl [some 61, none, none, none, none, none, none, none, none, none])]))) ?_
    refine rr rfl (s_iinc (v := 2) rfl (by decide) rfl) ?_
    refine rr rfl s_goto ?_
    refine rr rfl (s_iload_n rfl) ?_
    refine rr rfl (s_bipush (v := 8) (by decide)) ?_
    refine rr rfl (s_icF (by decide)) ?_
    refine rr rfl (s_aload_n rfl) ?_
    refine rr rfl (s_getf rfl rfl) ?_
    refine rr rfl (s_iload_n rfl) ?_
    refine rr rfl (s_iconst (v := 0) (by decide)) ?_
    refine rr rfl (s_iastore (j := 2) (f' := (List.replicate 8 0)) rfl rfl (Nat.le_of_ble_eq_true rfl) rfl (Nat.le_of_ble_eq_true rfl) rfl (h' := ((((((((((((((hF.set 3 (.inr (.inr (0, [.int 1, .ref 62, .int 1])))).set 4 (.inl ((List.replicate 8 (0 : Int32)).set (Int32.toNatClampNeg x3) 1))).set 5 (.inl ((List.replicate 8 (0 : Int32)).set (Int32.toNatClampNeg x3) 1))).set 6 (.inr (.inr (6, [.ref 2, .ref 7, .ref 8, .ref 9, .int 1])))).set 41 (.inr (.inr (9, [.int 4, .int 1, .ref 42, .ref 43, .ref 44, .ref 45, .ref 46, .ref 47, .ref 48, .ref 49, .ref 50, .ref 51, .int 0, .int 0, .int 0, .int 0, .int 0, .int 0, .int 0, .int 0, .ref 52, .int 0, .ref 53, .int 0, .ref 54, .int 0, .ref 55, .ref 56, .ref 57, .ref 58, .int 0, .ref 59, .ref 60])))).set 42 (.inl [x1, 0, 0, 0, 0, 0, 0, 0, 0, 0, 0, 0, 0])).set 43 (.inl [x2, 0, 0, 0, 0, 0, 0, 0, 0, 0, 0, 0, 0])).set 44 (.inl [x3, 0, 0, 0, 0, 0, 0, 0, 0, 0, 0, 0, 0])).set 45 (.inl [x4, 0, 0, 0, 0, 0, 0, 0, 0, 0, 0, 0, 0])).set 46 (.inl [x5, 0, 0, 0, 0, 0, 0, 0, 0, 0, 0, 0, 0])).set 47 (.inl [x6, 0, 0, 0, 0, 0, 0, 0, 0, 0, 0, 0, 0])).set 48 (.inl [x7, 0, 0, 0, 0, 0, 0, 0, 0, 0, 0, 0, 0])).set 49 (.inl [(-1), 0, 0, 0, 0, 0, 0, 0, 0, 0, 0, 0, 0])) ++ [.inr (.inr (2, [.int x1, .int x2, .int x3, .int x4, .int x5, .int x6, .int x7, .int ((1 <<< (x4 &&& 31) : Int32) ||| (1 <<< (x5 &&& 31) : Int32)), .int (1 <<< (x6 &&& 31) : Int32), .int (-1)])), .inr (.inl [some 61, none, none, none, none, none, none, none, none, none])]))) ?_
    refine rr rfl (s_iinc (v := 3) rfl (by decide) rfl) ?_
    refine rr rfl s_goto ?_
    refine rr rfl (s_iload_n rfl) ?_
    refine rr rfl (s_bipush (v := 8) (by decide)) ?_
    refine rr rfl (s_icF (by decide)) ?_
    refine rr rfl (s_aload_n rfl) ?_
    refine rr rfl (s_getf rfl rfl) ?_
    refine rr rfl (s_iload_n rfl) ?_
    refine rr rfl (s_iconst (v := 0) (by decide)) ?_
    refine rr rfl (s_iastore (j := 3) (f' := (List.replicate 8 0)) rfl rfl (Nat.le_of_ble_eq_true rfl) rfl (Nat.le_of_ble_eq_true rfl) rfl (h' := ((((((((((((((hF.set 3 (.inr (.inr (0, [.int 1, .ref 62, .int 1])))).set 4 (.inl ((List.replicate 8 (0 : Int32)).set (Int32.toNatClampNeg x3) 1))).set 5 (.inl ((List.replicate 8 (0 : Int32)).set (Int32.toNatClampNeg x3) 1))).set 6 (.inr (.inr (6, [.ref 2, .ref 7, .ref 8, .ref 9, .int 1])))).set 41 (.inr (.inr (9, [.int 4, .int 1, .ref 42, .ref 43, .ref 44, .ref 45, .ref 46, .ref 47, .ref 48, .ref 49, .ref 50, .ref 51, .int 0, .int 0, .int 0, .int 0, .int 0, .int 0, .int 0, .int 0, .ref 52, .int 0, .ref 53, .int 0, .ref 54, .int 0, .ref 55, .ref 56, .ref 57, .ref 58, .int 0, .ref 59, .ref 60])))).set 42 (.inl [x1, 0, 0, 0, 0, 0, 0, 0, 0, 0, 0, 0, 0])).set 43 (.inl [x2, 0, 0, 0, 0, 0, 0, 0, 0, 0, 0, 0, 0])).set 44 (.inl [x3, 0, 0, 0, 0, 0, 0, 0, 0, 0, 0, 0, 0])).set 45 (.inl [x4, 0, 0, 0, 0, 0, 0, 0, 0, 0, 0, 0, 0])).set 46 (.inl [x5, 0, 0, 0, 0, 0, 0, 0, 0, 0, 0, 0, 0])).set 47 (.inl [x6, 0, 0, 0, 0, 0, 0, 0, 0, 0, 0, 0, 0])).set 48 (.inl [x7, 0, 0, 0, 0, 0, 0, 0, 0, 0, 0, 0, 0])).set 49 (.inl [(-1), 0, 0, 0, 0, 0, 0, 0, 0, 0, 0, 0, 0])) ++ [.inr (.inr (2, [.int x1, .int x2, .int x3, .int x4, .int x5, .int x6, .int x7, .int ((1 <<< (x4 &&& 31) : Int32) ||| (1 <<< (x5 &&& 31) : Int32)), .int (1 <<< (x6 &&& 31) : Int32), .int (-1)])), .inr (.inl [some 61, none, none, none, none, none, none, none, none, none])]))) ?_
    refine rr rfl (s_iinc (v := 4) rfl (by decide) rfl) ?_
    refine rr rfl s_goto ?_
    refine rr rfl (s_iload_n rfl) ?_
    refine rr rfl (s_bipush (v := 8) (by decide)) ?_
    refine rr rfl (s_icF (by decide)) ?_
    refine rr rfl (s_aload_n rfl) ?_
    refine rr rfl (s_getf rfl rfl) ?_
    refine rr rfl (s_iload_n rfl) ?_
    refine rr rfl (s_iconst (v := 0) (by decide)) ?_
    refine rr rfl (s_iastore (j := 4) (f' := (List.replicate 8 0)) rfl rfl (Nat.le_of_ble_eq_true rfl) rfl (Nat.le_of_ble_eq_true rfl) rfl (h' := ((((((((((((((hF.set 3 (.inr (.inr (0, [.int 1, .ref 62, .int 1])))).set 4 (.inl ((List.replicate 8 (0 : Int32)).set (Int32.toNatClampNeg x3) 1))).set 5 (.inl ((List.replicate 8 (0 : Int32)).set (Int32.toNatClampNeg x3) 1))).set 6 (.inr (.inr (6, [.ref 2, .ref 7, .ref 8, .ref 9, .int 1])))).set 41 (.inr (.inr (9, [.int 4, .int 1, .ref 42, .ref 43, .ref 44, .ref 45, .ref 46, .ref 47, .ref 48, .ref 49, .ref 50, .ref 51, .int 0, .int 0, .int 0, .int 0, .int 0, .int 0, .int 0, .int 0, .ref 52, .int 0, .ref 53, .int 0, .ref 54, .int 0, .ref 55, .ref 56, .ref 57, .ref 58, .int 0, .ref 59, .ref 60])))).set 42 (.inl [x1, 0, 0, 0, 0, 0, 0, 0, 0, 0, 0, 0, 0])).set 43 (.inl [x2, 0, 0, 0, 0, 0, 0, 0, 0, 0, 0, 0, 0])).set 44 (.inl [x3, 0, 0, 0, 0, 0, 0, 0, 0, 0, 0, 0, 0])).set 45 (.inl [x4, 0, 0, 0, 0, 0, 0, 0, 0, 0, 0, 0, 0])).set 46 (.inl [x5, 0, 0, 0, 0, 0, 0, 0, 0, 0, 0, 0, 0])).set 47 (.inl [x6, 0, 0, 0, 0, 0, 0, 0, 0, 0, 0, 0, 0])).set 48 (.inl [x7, 0, 0, 0, 0, 0, 0, 0, 0, 0, 0, 0, 0])).set 49 (.inl [(-1), 0, 0, 0, 0, 0, 0, 0, 0, 0, 0, 0, 0])) ++ [.inr (.inr (2, [.int x1, .int x2, .int x3, .int x4, .int x5, .int x6, .int x7, .int ((1 <<< (x4 &&& 31) : Int32) ||| (1 <<< (x5 &&& 31) : Int32)), .int (1 <<< (x6 &&& 31) : Int32), .int (-1)])), .inr (.inl [some 61, none, none, none, none, none, none, none, none, none])]))) ?_
    refine rr rfl (s_iinc (v := 5) rfl (by decide) rfl) ?_
    refine rr rfl s_goto ?_
    refine rr rfl (s_iload_n rfl) ?_
    refine rr rfl (s_bipush (v := 8) (by decide)) ?_
    refine rr rfl (s_icF (by decide)) ?_
    refine rr rfl (s_aload_n rfl) ?_
    refine rr rfl (s_getf rfl rfl) ?_
    refine rr rfl (s_iload_n rfl) ?_
    refine rr rfl (s_iconst (v := 0) (by decide)) ?_
    refine rr rfl (s_iastore (j := 5) (f' := (List.replicate 8 0)) rfl rfl (Nat.le_of_ble_eq_true rfl) rfl (Nat.le_of_ble_eq_true rfl) rfl (h' := ((((((((((((((hF.set 3 (.inr (.inr (0, [.int 1, .ref 62, .int 1])))).set 4 (.inl ((List.replicate 8 (0 : Int32)).set (Int32.toNatClampNeg x3) 1))).set 5 (.inl ((List.replicate 8 (0 : Int32)).set (Int32.toNatClampNeg x3) 1))).set 6 (.inr (.inr (6, [.ref 2, .ref 7, .ref 8, .ref 9, .int 1])))).set 41 (.inr (.inr (9, [.int 4, .int 1, .ref 42, .ref 43, .ref 44, .ref 45, .ref 46, .ref 47, .ref 48, .ref 49, .ref 50, .ref 51, .int 0, .int 0, .int 0, .int 0, .int 0, .int 0, .int 0, .int 0, .ref 52, .int 0, .ref 53, .int 0, .ref 54, .int 0, .ref 55, .ref 56, .ref 57, .ref 58, .int 0, .ref 59, .ref 60])))).set 42 (.inl [x1, 0, 0, 0, 0, 0, 0, 0, 0, 0, 0, 0, 0])).set 43 (.inl [x2, 0, 0, 0, 0, 0, 0, 0, 0, 0, 0, 0, 0])).set 44 (.inl [x3, 0, 0, 0, 0, 0, 0, 0, 0, 0, 0, 0, 0])).set 45 (.inl [x4, 0, 0, 0, 0, 0, 0, 0, 0, 0, 0, 0, 0])).set 46 (.inl [x5, 0, 0, 0, 0, 0, 0, 0, 0, 0, 0, 0, 0])).set 47 (.inl [x6, 0, 0, 0, 0, 0, 0, 0, 0, 0, 0, 0, 0])).set 48 (.inl [x7, 0, 0, 0, 0, 0, 0, 0, 0, 0, 0, 0, 0])).set 49 (.inl [(-1), 0, 0, 0, 0, 0, 0, 0, 0, 0, 0, 0, 0])) ++ [.inr (.inr (2, [.int x1, .int x2, .int x3, .int x4, .int x5, .int x6, .int x7, .int ((1 <<< (x4 &&& 31) : Int32) ||| (1 <<< (x5 &&& 31) : Int32)), .int (1 <<< (x6 &&& 31) : Int32), .int (-1)])), .inr (.inl [some 61, none, none, none, none, none, none, none, none, none])]))) ?_
    refine rr rfl (s_iinc (v := 6) rfl (by decide) rfl) ?_
    refine rr rfl s_goto ?_
    refine rr rfl (s_iload_n rfl) ?_
    refine rr rfl (s_bipush (v := 8) (by decide)) ?_
    refine rr rfl (s_icF (by decide)) ?_
    refine rr rfl (s_aload_n rfl) ?_
    refine rr rfl (s_getf rfl rfl) ?_
    refine rr rfl (s_iload_n rfl) ?_
    refine rr rfl (s_iconst (v := 0) (by decide)) ?_
    refine rr rfl (s_iastore (j := 6) (f' := (List.replicate 8 0)) rfl rfl (Nat.le_of_ble_eq_true rfl) rfl (Nat.le_of_ble_eq_true rfl) rfl (h' := ((((((((((((((hF.set 3 (.inr (.inr (0, [.int 1, .ref 62, .int 1])))).set 4 (.inl ((List.replicate 8 (0 : Int32)).set (Int32.toNatClampNeg x3) 1))).set 5 (.inl ((List.replicate 8 (0 : Int32)).set (Int32.toNatClampNeg x3) 1))).set 6 (.inr (.inr (6, [.ref 2, .ref 7, .ref 8, .ref 9, .int 1])))).set 41 (.inr (.inr (9, [.int 4, .int 1, .ref 42, .ref 43, .ref 44, .ref 45, .ref 46, .ref 47, .ref 48, .ref 49, .ref 50, .ref 51, .int 0, .int 0, .int 0, .int 0, .int 0, .int 0, .int 0, .int 0, .ref 52, .int 0, .ref 53, .int 0, .ref 54, .int 0, .ref 55, .ref 56, .ref 57, .ref 58, .int 0, .ref 59, .ref 60])))).set 42 (.inl [x1, 0, 0, 0, 0, 0, 0, 0, 0, 0, 0, 0, 0])).set 43 (.inl [x2, 0, 0, 0, 0, 0, 0, 0, 0, 0, 0, 0, 0])).set 44 (.inl [x3, 0, 0, 0, 0, 0, 0, 0, 0, 0, 0, 0, 0])).set 45 (.inl [x4, 0, 0, 0, 0, 0, 0, 0, 0, 0, 0, 0, 0])).set 46 (.inl [x5, 0, 0, 0, 0, 0, 0, 0, 0, 0, 0, 0, 0])).set 47 (.inl [x6, 0, 0, 0, 0, 0, 0, 0, 0, 0, 0, 0, 0])).set 48 (.inl [x7, 0, 0, 0, 0, 0, 0, 0, 0, 0, 0, 0, 0])).set 49 (.inl [(-1), 0, 0, 0, 0, 0, 0, 0, 0, 0, 0, 0, 0])) ++ [.inr (.inr (2, [.int x1, .int x2, .int x3, .int x4, .int x5, .int x6, .int x7, .int ((1 <<< (x4 &&& 31) : Int32) ||| (1 <<< (x5 &&& 31) : Int32)), .int (1 <<< (x6 &&& 31) : Int32), .int (-1)])), .inr (.inl [some 61, none, none, none, none, none, none, none, none, none])]))) ?_
    refine rr rfl (s_iinc (v := 7) rfl (by decide) rfl) ?_
    refine rr rfl s_goto ?_
    refine rr rfl (s_iload_n rfl) ?_
    refine rr rfl (s_bipush (v := 8) (by decide)) ?_
    refine rr rfl (s_icF (by decide)) ?_
    refine rr rfl (s_aload_n rfl) ?_
    refine rr rfl (s_getf rfl rfl) ?_
    refine rr rfl (s_iload_n rfl) ?_
    refine rr rfl (s_iconst (v := 0) (by decide)) ?_
    refine rr rfl (s_iastore (j := 7) (f' := (List.replicate 8 0)) rfl rfl (Nat.le_of_ble_eq_true rfl) rfl (Nat.le_of_ble_eq_true rfl) rfl (h' := ((((((((((((((hF.set 3 (.inr (.inr (0, [.int 1, .ref 62, .int 1])))).set 4 (.inl ((List.replicate 8 (0 : Int32)).set (Int32.toNatClampNeg x3) 1))).set 5 (.inl ((List.replicate 8 (0 : Int32)).set (Int32.toNatClampNeg x3) 1))).set 6 (.inr (.inr (6, [.ref 2, .ref 7, .ref 8, .ref 9, .int 1])))).set 41 (.inr (.inr (9, [.int 4, .int 1, .ref 42, .ref 43, .ref 44, .ref 45, .ref 46, .ref 47, .ref 48, .ref 49, .ref 50, .ref 51, .int 0, .int 0, .int 0, .int 0, .int 0, .int 0, .int 0, .int 0, .ref 52, .int 0, .ref 53, .int 0, .ref 54, .int 0, .ref 55, .ref 56, .ref 57, .ref 58, .int 0, .ref 59, .ref 60])))).set 42 (.inl [x1, 0, 0, 0, 0, 0, 0, 0, 0, 0, 0, 0, 0])).set 43 (.inl [x2, 0, 0, 0, 0, 0, 0, 0, 0, 0, 0, 0, 0])).set 44 (.inl [x3, 0, 0, 0, 0, 0, 0, 0, 0, 0, 0, 0, 0])).set 45 (.inl [x4, 0, 0, 0, 0, 0, 0, 0, 0, 0, 0, 0, 0])).set 46 (.inl [x5, 0, 0, 0, 0, 0, 0, 0, 0, 0, 0, 0, 0])).set 47 (.inl [x6, 0, 0, 0, 0, 0, 0, 0, 0, 0, 0, 0, 0])).set 48 (.inl [x7, 0, 0, 0, 0, 0, 0, 0, 0, 0, 0, 0, 0])).set 49 (.inl [(-1), 0, 0, 0, 0, 0, 0, 0, 0, 0, 0, 0, 0])) ++ [.inr (.inr (2, [.int x1, .int x2, .int x3, .int x4, .int x5, .int x6, .int x7, .int ((1 <<< (x4 &&& 31) : Int32) ||| (1 <<< (x5 &&& 31) : Int32)), .int (1 <<< (x6 &&& 31) : Int32), .int (-1)])), .inr (.inl [some 61, none, none, none, none, none, none, none, none, none])]))) ?_
    refine rr rfl (s_iinc (v := 8) rfl (by decide) rfl) ?_
    refine rr rfl s_goto ?_
    refine rr rfl (s_iload_n rfl) ?_
    refine rr rfl (s_bipush (v := 8) (by decide)) ?_
    refine rr rfl (s_icT (by decide)) ?_
    refine rr rfl (s_iconst (v := 1) (by decide)) ?_
    refine rr rfl (s_istore_n rfl) ?_
    refine rr rfl (s_iconst (v := 1) (by decide)) ?_
    refine rr rfl (s_istore_n rfl) ?_
    refine rr rfl (s_iload_n rfl) ?_
    refine rr rfl (s_ifF (by decide)) ?_
    refine rr rfl (s_iload_n rfl) ?_
    refine rr rfl (s_ifF (by decide)) ?_
    refine rr rfl (s_iconst (v := 0) (by decide)) ?_
    refine rr rfl (s_istore_n rfl) ?_
    refine rr rfl (s_iconst (v := 0) (by decide)) ?_
    refine rr rfl (s_istore_n rfl) ?_
    refine rr rfl (s_iload_n rfl) ?_
    refine rr rfl (s_aload_n rfl) ?_
    refine rr rfl (s_getf rfl rfl) ?_
    refine rr rfl (s_icF (by decide)) ?_
    refine rr rfl (s_iconst (v := 0) (by decide)) ?_
    refine rr rfl (s_istore rfl) ?_
    refine rr rfl (s_aload_n rfl) ?_
    refine rr rfl (s_getf rfl rfl) ?_
    refine rr rfl (s_iload_n rfl) ?_
    refine rr rfl (s_iaload (j := 0) rfl rfl rfl) ?_
    refine rr rfl (s_ifF (ic_nne g1)) ?_
    refine rr rfl (s_aload_n rfl) ?_
    refine rr rfl (s_getf rfl rfl) ?_
    refine rr rfl (s_aload_n rfl) ?_
    refine rr rfl (s_getf rfl rfl) ?_
    refine rr rfl (s_iload_n rfl) ?_
    refine rr rfl (s_iaload (j := 0) rfl rfl rfl) ?_
    refine rr rfl (s_ialdR (n := 8) (x := 0) rfl g2 g3) ?_
    refine rr rfl (s_istore rfl) ?_
    refine rr rfl (s_aload_n rfl) ?_
    refine rr rfl (s_getf rfl rfl) ?_
    refine rr rfl (s_iload_n rfl) ?_
    refine rr rfl (s_iaload (j := 0) rfl rfl rfl) ?_
    refine rr rfl (s_iconst (v := (-1)) (by decide)) ?_
    refine rr rfl (s_icF (ic_neq g4)) ?_
    refine rr rfl (s_aload_n rfl) ?_
    refine rr rfl (s_getf rfl rfl) ?_
    refine rr rfl (s_aload_n rfl) ?_
    refine rr rfl (s_getf rfl rfl) ?_
    refine rr rfl (s_iload_n rfl) ?_
    refine rr rfl (s_iaload (j := 0) rfl rfl rfl) ?_
    refine rr rfl (s_ialdR (n := 8) (x := 0) rfl g5 g6) ?_
    refine rr rfl (s_iload rfl) ?_
    refine rr rfl (s_icT (by decide)) ?_
    refine rr rfl (s_iload rfl) ?_
    refine rr rfl (s_istore rfl) ?_
    refine rr rfl (s_aload_n rfl) ?_
    refine rr rfl (s_getf rfl rfl) ?_
    refine rr rfl (s_iload_n rfl) ?_
    refine rr rfl (s_iaload (j := 0) rfl rfl rfl) ?_
    refine rr rfl (s_iconst (v := (-1)) (by decide)) ?_
    refine rr rfl (s_icF (ic_neq g7)) ?_
    refine rr rfl (s_aload_n rfl) ?_
    refine rr rfl (s_getf rfl rfl) ?_
    refine rr rfl (s_aload_n rfl) ?_
    refine rr rfl (s_getf rfl rfl) ?_
    refine rr rfl (s_iload_n rfl) ?_
    refine rr rfl (s_iaload (j := 0) rfl rfl rfl) ?_
    refine rr rfl (s_ialdR (n := 8) (x := 0) rfl g8 g9) ?_
    refine rr rfl (s_iconst (v := 1) (by decide)) ?_
    refine rr rfl (s_iadd (v := 1) (by decide)) ?_
    refine rr rfl (s_iload rfl) ?_
    refine rr rfl (s_icF (by decide)) ?_
    refine rr rfl (s_aload_n rfl) ?_
    refine rr rfl (s_getf rfl rfl) ?_
    refine rr rfl (s_aload_n rfl) ?_
    refine rr rfl (s_getf rfl rfl) ?_
    refine rr rfl (s_iload_n rfl) ?_
    refine rr rfl (s_iaload (j := 0) rfl rfl rfl) ?_
    refine rr rfl (s_ialdR (n := 8) (x := 0) rfl g8 g9) ?_
    refine rr rfl (s_iconst (v := 1) (by decide)) ?_
    refine rr rfl (s_iadd (v := 1) (by decide)) ?_
    refine rr rfl s_goto ?_
    refine rr rfl (s_istore rfl) ?_
    refine rr rfl (s_iload rfl) ?_
    refine rr rfl (s_aload_n rfl) ?_
    refine rr rfl (s_getf rfl rfl) ?_
    refine rr rfl (s_aload_n rfl) ?_
    refine rr rfl (s_getf rfl rfl) ?_
    refine rr rfl (s_iload_n rfl) ?_
    refine rr rfl (s_iaload (j := 0) rfl rfl rfl) ?_
    refine rr rfl (s_ialdR (n := 8) (x := 0) rfl g10 g11) ?_
    refine rr rfl (s_icF (by decide)) ?_
    refine rr rfl (s_aload_n rfl) ?_
    refine rr rfl (s_getf rfl rfl) ?_
    refine rr rfl (s_aload_n rfl) ?_
    refine rr rfl (s_getf rfl rfl) ?_
    refine rr rfl (s_iload_n rfl) ?_
    refine rr rfl (s_iaload (j := 0) rfl rfl rfl) ?_
    refine rr rfl (s_iload rfl) ?_
    refine rr rfl (s_iastR (n := 8) rfl g10 g11 (Nat.le_of_ble_eq_true rfl) rfl (h' := (((((((((((((((hF.set 3 (.inr (.inr (0, [.int 1, .ref 62, .int 1])))).set 4 (.inl ((List.replicate 8 (0 : Int32)).set (Int32.toNatClampNeg x3) 1))).set 5 (.inl ((List.replicate 8 (0 : Int32)).set (Int32.toNatClampNeg x3) 1))).set 6 (.inr (.inr (6, [.ref 2, .ref 7, .ref 8, .ref 9, .int 1])))).set 41 (.inr (.inr (9, [.int 4, .int 1, .ref 42, .ref 43, .ref 44, .ref 45, .ref 46, .ref 47, .ref 48, .ref 49, .ref 50, .ref 51, .int 0, .int 0, .int 0, .int 0, .int 0, .int 0, .int 0, .int 0, .ref 52, .int 0, .ref 53, .int 0, .ref 54, .int 0, .ref 55, .ref 56, .ref 57, .ref 58, .int 0, .ref 59, .ref 60])))).set 42 (.inl [x1, 0, 0, 0, 0, 0, 0, 0, 0, 0, 0, 0, 0])).set 43 (.inl [x2, 0, 0, 0, 0, 0, 0, 0, 0, 0, 0, 0, 0])).set 44 (.inl [x3, 0, 0, 0, 0, 0, 0, 0, 0, 0, 0, 0, 0])).set 45 (.inl [x4, 0, 0, 0, 0, 0, 0, 0, 0, 0, 0, 0, 0])).set 46 (.inl [x5, 0, 0, 0, 0, 0, 0, 0, 0, 0, 0, 0, 0])).set 47 (.inl [x6, 0, 0, 0, 0, 0, 0, 0, 0, 0, 0, 0, 0])).set 48 (.inl [x7, 0, 0, 0, 0, 0, 0, 0, 0, 0, 0, 0, 0])).set 49 (.inl [(-1), 0, 0, 0, 0, 0, 0, 0, 0, 0, 0, 0, 0])).set 51 (.inl ((List.replicate 8 (0 : Int32)).set (Int32.toNatClampNeg x3) 1))) ++ [.inr (.inr (2, [.int x1, .int x2, .int x3, .int x4, .int x5, .int x6, .int x7, .int ((1 <<< (x4 &&& 31) : Int32) ||| (1 <<< (x5 &&& 31) : Int32)), .int (1 <<< (x6 &&& 31) : Int32), .int (-1)])), .inr (.inl [some 61, none, none, none, none, none, none, none, none, none])]))) ?_
    refine rr rfl (s_iconst (v := 1) (by decide)) ?_
    refine rr rfl (s_istore_n rfl) ?_
    refine rr rfl (s_iload_n rfl) ?_
    refine rr rfl (s_ifF (by decide)) ?_
    refine rr rfl (s_iload rfl) ?_
    refine rr rfl (s_bipush (v := 8) (by decide)) ?_
    refine rr rfl (s_icF (by decide)) ?_
    refine rr rfl (s_iconst (v := 1) (by decide)) ?_
    refine rr rfl s_goto ?_
    refine rr rfl (s_istore_n rfl) ?_
    refine rr rfl (s_iinc (v := 1) rfl (by decide) rfl) ?_
    refine rr rfl s_goto ?_
    refine rr rfl (s_iload_n rfl) ?_
    refine rr rfl (s_aload_n rfl) ?_
    refine rr rfl (s_getf rfl rfl) ?_
    refine rr rfl (s_icT (by decide)) ?_
    refine rr rfl s_goto ?_
    refine rr rfl (s_iload_n rfl) ?_
    refine rr rfl (s_ifF (by decide)) ?_
    refine rr rfl (s_iload_n rfl) ?_
    refine rr rfl (s_ifF (by decide)) ?_
    refine rr rfl (s_iconst (v := 0) (by decide)) ?_
    refine rr rfl (s_istore_n rfl) ?_
    refine rr rfl (s_iconst (v := 0) (by decide)) ?_
    refine rr rfl (s_istore_n rfl) ?_
    refine rr rfl (s_iload_n rfl) ?_
    refine rr rfl (s_aload_n rfl) ?_
    refine rr rfl (s_getf rfl rfl) ?_
    refine rr rfl (s_icF (by decide)) ?_
    refine rr rfl (s_iconst (v := 0) (by decide)) ?_
    refine rr rfl (s_istore rfl) ?_
    refine rr rfl (s_aload_n rfl) ?_
    refine rr rfl (s_getf rfl rfl) ?_
    refine rr rfl (s_iload_n rfl) ?_
    refine rr rfl (s_iaload (j := 0) rfl rfl rfl) ?_
    refine rr rfl (s_ifF (ic_nne g1)) ?_
    refine rr rfl (s_aload_n rfl) ?_
    refine rr rfl (s_getf rfl rfl) ?_
    refine rr rfl (s_aload_n rfl) ?_
    refine rr rfl (s_getf rfl rfl) ?_
    refine rr rfl (s_iload_n rfl) ?_
    refine rr rfl (s_iaload (j := 0) rfl rfl rfl) ?_
    refine rr rfl (s_ialdH rfl g12 g10 g11) ?_
    refine rr rfl (s_istore rfl) ?_
    refine rr rfl (s_aload_n rfl) ?_
    refine rr rfl (s_getf rfl rfl) ?_
    refine rr rfl (s_iload_n rfl) ?_
    refine rr rfl (s_iaload (j := 0) rfl rfl rfl) ?_
    refine rr rfl (s_iconst (v := (-1)) (by decide)) ?_
    refine rr rfl (s_icF (ic_neq g4)) ?_
    refine rr rfl (s_aload_n rfl) ?_
    refine rr rfl (s_getf rfl rfl) ?_
    refine rr rfl (s_aload_n rfl) ?_
    refine rr rfl (s_getf rfl rfl) ?_
    refine rr rfl (s_iload_n rfl) ?_
    refine rr rfl (s_iaload (j := 0) rfl rfl rfl) ?_
    refine rr rfl (s_ialdN rfl g13 g5 g6 g10) ?_
    refine rr rfl (s_iload rfl) ?_
    refine rr rfl (s_icT (by decide)) ?_
    refine rr rfl (s_iload rfl) ?_
    refine rr rfl (s_istore rfl) ?_
    refine rr rfl (s_aload_n rfl) ?_
    refine rr rfl (s_getf rfl rfl) ?_
    refine rr rfl (s_iload_n rfl) ?_
    refine rr rfl (s_iaload (j := 0) rfl rfl rfl) ?_
    refine rr rfl (s_iconst (v := (-1)) (by decide)) ?_
    refine rr rfl (s_icF (ic_neq g7)) ?_
    refine rr rfl (s_aload_n rfl) ?_
    refine rr rfl (s_getf rfl rfl) ?_
    refine rr rfl (s_aload_n rfl) ?_
    refine rr rfl (s_getf rfl rfl) ?_
    refine rr rfl (s_iload_n rfl) ?_
    refine rr rfl (s_iaload (j := 0) rfl rfl rfl) ?_
    refine rr rfl (s_ialdN rfl g14 g8 g9 g10) ?_
    refine rr rfl (s_iconst (v := 1) (by decide)) ?_
    refine rr rfl (s_iadd (v := 1) (by decide)) ?_
    refine rr rfl (s_iload rfl) ?_
    refine rr rfl (s_icT (by decide)) ?_
    refine rr rfl (s_iload rfl) ?_
    refine rr rfl (s_istore rfl) ?_
    refine rr rfl (s_iload rfl) ?_
    refine rr rfl (s_aload_n rfl) ?_
    refine rr rfl (s_getf rfl rfl) ?_
    refine rr rfl (s_aload_n rfl) ?_
    refine rr rfl (s_getf rfl rfl) ?_
    refine rr rfl (s_iload_n rfl) ?_
    refine rr rfl (s_iaload (j := 0) rfl rfl rfl) ?_
    refine rr rfl (s_ialdH rfl rfl g10 g11) ?_
    refine rr rfl (s_icT (by decide)) ?_
    refine rr rfl (s_iinc (v := 1) rfl (by decide) rfl) ?_
    refine rr rfl s_goto ?_
    refine rr rfl (s_iload_n rfl) ?_
    refine rr rfl (s_aload_n rfl) ?_
    refine rr rfl (s_getf rfl rfl) ?_
    refine rr rfl (s_icT (by decide)) ?_
    refine rr rfl s_goto ?_
    refine rr rfl (s_iload_n rfl) ?_
    refine rr rfl (s_ifT (by decide)) ?_
    refine rr rfl (s_iload_n rfl) ?_
    exact rrt rfl rfl rfl rfl
  refine rrc rfl rfl rfl (do_of g_X9_lays rfl rfl e2) ?_
  refine rr rfl (s_istore rfl) ?_
  refine rr rfl (s_iload rfl) ?_
  refine rr rfl (s_ifF (by decide)) ?_
  refine rr rfl (s_aload_n rfl) ?_
  refine rr rfl (s_getf rfl rfl) ?_
  refine rr rfl (s_bipush (v := 12) (by decide)) ?_
  refine rr rfl (s_icT (by decide)) ?_
  refine rr rfl (s_aload_n rfl) ?_
  refine rr rfl (s_getf rfl rfl) ?_
  refine rr rfl (s_iconst (v := 1) (by decide)) ?_
  refine rr rfl (s_isub (v := 0) (by decide)) ?_
  exact rrt rfl rfl rfl rfl
set_option maxHeartbeats 4000000 in
set_option maxRecDepth 10000 in
theorem rm_Nhoh {x1 x2 x3 x4 x5 x6 x7 : Int32} (g1 : x2 = 0) (g2 : ¬ x4 < 0) (g3 : x4 < nI 8) (g4 : ¬ x5 = (-1)) (g5 : ¬ x5 < 0) (g6 : x5 < nI 8) (g7 : ¬ x6 = (-1)) (g8 : ¬ x6 < 0) (g9 : x6 < nI 8) (g10 : ¬ x3 < 0) (g11 : x3 < nI 8) (g12 : x4 = x3) (g13 : x5 = x3) (g14 : ¬ x6 = x3) : a_run MT [] (a_m MT [] 100000 10) 11 (some .int) tabX9_rule 90000 95 (alQ x1 x2 x3 x4 x5 x6 x7) [] (((((hF.set 3 (.inr (.inr (0, [.int 1, .ref 62, .int 1])))).set 4 (.inl ((List.replicate 8 (0 : Int32)).set (Int32.toNatClampNeg x3) 1))).set 5 (.inl ((List.replicate 8 (0 : Int32)).set (Int32.toNatClampNeg x3) 1))).set 6 (.inr (.inr (6, [.ref 2, .ref 7, .ref 8, .ref 9, .int 1])))) ++ [.inr (.inr (2, [.int x1, .int x2, .int x3, .int x4, .int x5, .int x6, .int x7, .int ((1 <<< (x4 &&& 31) : Int32) ||| (1 <<< (x5 &&& 31) : Int32)), .int (1 <<< (x6 &&& 31) : Int32), .int (-1)])), .inr (.inl [some 61, none, none, none, none, none, none, none, none, none])]) 0 0 = some (some (.int 0), (((((((((((((((hF.set 3 (.inr (.inr (0, [.int 1, .ref 62, .int 1])))).set 4 (.inl ((List.replicate 8 (0 : Int32)).set (Int32.toNatClampNeg x3) 1))).set 5 (.inl ((List.replicate 8 (0 : Int32)).set (Int32.toNatClampNeg x3) 1))).set 6 (.inr (.inr (6, [.ref 2, .ref 7, .ref 8, .ref 9, .int 1])))).set 41 (.inr (.inr (9, [.int 4, .int 1, .ref 42, .ref 43, .ref 44, .ref 45, .ref 46, .ref 47, .ref 48, .ref 49, .ref 50, .ref 51, .int 0, .int 0, .int 0, .int 0, .int 0, .int 0, .int 0, .int 0, .ref 52, .int 0, .ref 53, .int 0, .ref 54, .int 0, .ref 55, .ref 56, .ref 57, .ref 58, .int 0, .ref 59, .ref 60])))).set 42 (.inl [x1, 0, 0, 0, 0, 0, 0, 0, 0, 0, 0, 0, 0])).set 43 (.inl [x2, 0, 0, 0, 0, 0, 0, 0, 0, 0, 0, 0, 0])).set 44 (.inl [x3, 0, 0, 0, 0, 0, 0, 0, 0, 0, 0, 0, 0])).set 45 (.inl [x4, 0, 0, 0, 0, 0, 0, 0, 0, 0, 0, 0, 0])).set 46 (.inl [x5, 0, 0, 0, 0, 0, 0, 0, 0, 0, 0, 0, 0])).set 47 (.inl [x6, 0, 0, 0, 0, 0, 0, 0, 0, 0, 0, 0, 0])).set 48 (.inl [x7, 0, 0, 0, 0, 0, 0, 0, 0, 0, 0, 0, 0])).set 49 (.inl [(-1), 0, 0, 0, 0, 0, 0, 0, 0, 0, 0, 0, 0])).set 51 (.inl ((List.replicate 8 (0 : Int32)).set (Int32.toNatClampNeg x3) 1))) ++ [.inr (.inr (2, [.int x1, .int x2, .int x3, .int x4, .int x5, .int x6, .int x7, .int ((1 <<< (x4 &&& 31) : Int32) ||| (1 <<< (x5 &&& 31) : Int32)), .int (1 <<< (x6 &&& 31) : Int32), .int (-1)])), .inr (.inl [some 61, none, none, none, none, none, none, none, none, none])]), 0, 0) := by
  refine rr rfl (s_aload_n rfl) ?_
  refine rr rfl (s_aload_n rfl) ?_
  refine rr rfl (s_getf rfl rfl) ?_
  refine rr rfl (s_iload_n rfl) ?_
  refine rr rfl (s_iload_n rfl) ?_
  refine rr rfl (s_iload_n rfl) ?_
  refine rr rfl (s_iload rfl) ?_
  refine rr rfl (s_iload rfl) ?_
  refine rr rfl (s_iload rfl) ?_
  refine rr rfl (s_iload rfl) ?_
  have e1 : a_m MT [] 100000 10 miX9_sets [.ref 41, .int 0, .int x1, .int x2, .int x3, .int x4, .int x5, .int x6, .int x7] (((((hF.set 3 (.inr (.inr (0, [.int 1, .ref 62, .int 1])))).set 4 (.inl ((List.replicate 8 (0 : Int32)).set (Int32.toNatClampNeg x3) 1))).set 5 (.inl ((List.replicate 8 (0 : Int32)).set (Int32.toNatClampNeg x3) 1))).set 6 (.inr (.inr (6, [.ref 2, .ref 7, .ref 8, .ref 9, .int 1])))) ++ [.inr (.inr (2, [.int x1, .int x2, .int x3, .int x4, .int x5, .int x6, .int x7, .int ((1 <<< (x4 &&& 31) : Int32) ||| (1 <<< (x5 &&& 31) : Int32)), .int (1 <<< (x6 &&& 31) : Int32), .int (-1)])), .inr (.inl [some 61, none, none, none, none, none, none, none, none, none])]) = some (none, (((((((((((((hF.set 3 (.inr (.inr (0, [.int 1, .ref 62, .int 1])))).set 4 (.inl ((List.replicate 8 (0 : Int32)).set (Int32.toNatClampNeg x3) 1))).set 5 (.inl ((List.replicate 8 (0 : Int32)).set (Int32.toNatClampNeg x3) 1))).set 6 (.inr (.inr (6, [.ref 2, .ref 7, .ref 8, .ref 9, .int 1])))).set 42 (.inl [x1, 0, 0, 0, 0, 0, 0, 0, 0, 0, 0, 0, 0])).set 43 (.inl [x2, 0, 0, 0, 0, 0, 0, 0, 0, 0, 0, 0, 0])).set 44 (.inl [x3, 0, 0, 0, 0, 0, 0, 0, 0, 0, 0, 0, 0])).set 45 (.inl [x4, 0, 0, 0, 0, 0, 0, 0, 0, 0, 0, 0, 0])).set 46 (.inl [x5, 0, 0, 0, 0, 0, 0, 0, 0, 0, 0, 0, 0])).set 47 (.inl [x6, 0, 0, 0, 0, 0, 0, 0, 0, 0, 0, 0, 0])).set 48 (.inl [x7, 0, 0, 0, 0, 0, 0, 0, 0, 0, 0, 0, 0])).set 49 (.inl [(-1), 0, 0, 0, 0, 0, 0, 0, 0, 0, 0, 0, 0])) ++ [.inr (.inr (2, [.int x1, .int x2, .int x3, .int x4, .int x5, .int x6, .int x7, .int ((1 <<< (x4 &&& 31) : Int32) ||| (1 <<< (x5 &&& 31) : Int32)), .int (1 <<< (x6 &&& 31) : Int32), .int (-1)])), .inr (.inl [some 61, none, none, none, none, none, none, none, none, none])]), 0, 0) := by
    refine me (d := 9) g_X9_sets (Nat.le_of_ble_eq_true rfl) ?_
    refine rr rfl (s_aload_n rfl) ?_
    refine rr rfl (s_getf rfl rfl) ?_
    refine rr rfl (s_iload_n rfl) ?_
    refine rr rfl (s_iload_n rfl) ?_
    refine rr rfl (s_iastore (j := 0) (f' := [x1, 0, 0, 0, 0, 0, 0, 0, 0, 0, 0, 0, 0]) rfl rfl (Nat.le_of_ble_eq_true rfl) rfl (Nat.le_of_ble_eq_true rfl) rfl (h' := ((((((hF.set 3 (.inr (.inr (0, [.int 1, .ref 62, .int 1])))).set 4 (.inl ((List.replicate 8 (0 : Int32)).set (Int32.toNatClampNeg x3) 1))).set 5 (.inl ((List.replicate 8 (0 : Int32)).set (Int32.toNatClampNeg x3) 1))).set 6 (.inr (.inr (6, [.ref 2, .ref 7, .ref 8, .ref 9, .int 1])))).set 42 (.inl [x1, 0, 0, 0, 0, 0, 0, 0, 0, 0, 0, 0, 0])) ++ [.inr (.inr (2, [.int x1, .int x2, .int x3, .int x4, .int x5, .int x6, .int x7, .int ((1 <<< (x4 &&& 31) : Int32) ||| (1 <<< (x5 &&& 31) : Int32)), .int (1 <<< (x6 &&& 31) : Int32), .int (-1)])), .inr (.inl [some 61, none, none, none, none, none, none, none, none, none])]))) ?_
    refine rr rfl (s_aload_n rfl) ?_
    refine rr rfl (s_getf rfl rfl) ?_
    refine rr rfl (s_iload_n rfl) ?_
    refine rr rfl (s_iload_n rfl) ?_
    refine rr rfl (s_iastore (j := 0) (f' := [x2, 0, 0, 0, 0, 0, 0, 0, 0, 0, 0, 0, 0]) rfl rfl (Nat.le_of_ble_eq_true rfl) rfl (Nat.le_of_ble_eq_true rfl) rfl (h' := (((((((hF.set 3 (.inr (.inr (0, [.int 1, .ref 62, .int 1])))).set 4 (.inl ((List.replicate 8 (0 : Int32)).set (Int32.toNatClampNeg x3) 1))).set 5 (.inl ((List.replicate 8 (0 : Int32)).set (Int32.toNatClampNeg x3) 1))).set 6 (.inr (.inr (6, [.ref 2, .ref 7, .ref 8, .ref 9, .int 1])))).set 42 (.inl [x1, 0, 0, 0, 0, 0, 0, 0, 0, 0, 0, 0, 0])).set 43 (.inl [x2, 0, 0, 0, 0, 0, 0, 0, 0, 0, 0, 0, 0])) ++ [.inr (.inr (2, [.int x1, .int x2, .int x3, .int x4, .int x5, .int x6, .int x7, .int ((1 <<< (x4 &&& 31) : Int32) ||| (1 <<< (x5 &&& 31) : Int32)), .int (1 <<< (x6 &&& 31) : Int32), .int (-1)])), .inr (.inl [some 61, none, none, none, none, none, none, none, none, none])]))) ?_
    refine rr rfl (s_aload_n rfl) ?_
    refine rr rfl (s_getf rfl rfl) ?_
    refine rr rfl (s_iload_n rfl) ?_
    refine rr rfl (s_iload rfl) ?_
    refine rr rfl (s_iastore (j := 0) (f' := [x3, 0, 0, 0, 0, 0, 0, 0, 0, 0, 0, 0, 0]) rfl rfl (Nat.le_of_ble_eq_true rfl) rfl (Nat.le_of_ble_eq_true rfl) rfl (h' := ((((((((hF.set 3 (.inr (.inr (0, [.int 1, .ref 62, .int 1])))).set 4 (.inl ((List.replicate 8 (0 : Int32)).set (Int32.toNatClampNeg x3) 1))).set 5 (.inl ((List.replicate 8 (0 : Int32)).set (Int32.toNatClampNeg x3) 1))).set 6 (.inr (.inr (6, [.ref 2, .ref 7, .ref 8, .ref 9, .int 1])))).set 42 (.inl [x1, 0, 0, 0, 0, 0, 0, 0, 0, 0, 0, 0, 0])).set 43 (.inl [x2, 0, 0, 0, 0, 0, 0, 0, 0, 0, 0, 0, 0])).set 44 (.inl [x3, 0, 0, 0, 0, 0, 0, 0, 0, 0, 0, 0, 0])) ++ [.inr (.inr (2, [.int x1, .int x2, .int x3, .int x4, .int x5, .int x6, .int x7, .int ((1 <<< (x4 &&& 31) : Int32) ||| (1 <<< (x5 &&& 31) : Int32)), .int (1 <<< (x6 &&& 31) : Int32), .int (-1)])), .inr (.inl [some 61, none, none, none, none, none, none, none, none, none])]))) ?_
    refine rr rfl (s_aload_n rfl) ?_
    refine rr rfl (s_getf rfl rfl) ?_
    refine rr rfl (s_iload_n rfl) ?_
    refine rr rfl (s_iload rfl) ?_
    refine rr rfl (s_iastore (j := 0) (f' := [x4, 0, 0, 0, 0, 0, 0, 0, 0, 0, 0, 0, 0]) rfl rfl (Nat.le_of_ble_eq_true rfl) rfl (Nat.le_of_ble_eq_true rfl) rfl (h' := (((((((((hF.set 3 (.inr (.inr (0, [.int 1, .ref 62, .int 1])))).set 4 (.inl ((List.replicate 8 (0 : Int32)).set (Int32.toNatClampNeg x3) 1))).set 5 (.inl ((List.replicate 8 (0 : Int32)).set (Int32.toNatClampNeg x3) 1))).set 6 (.inr (.inr (6, [.ref 2, .ref 7, .ref 8, .ref 9, .int 1])))).set 42 (.inl [x1, 0, 0, 0, 0, 0, 0, 0, 0, 0, 0, 0, 0])).set 43 (.inl [x2, 0, 0, 0, 0, 0, 0, 0, 0, 0, 0, 0, 0])).set 44 (.inl [x3, 0, 0, 0, 0, 0, 0, 0, 0, 0, 0, 0, 0])).set 45 (.inl [x4, 0, 0, 0, 0, 0, 0, 0, 0, 0, 0, 0, 0])) ++ [.inr (.inr (2, [.int x1, .int x2, .int x3, .int x4, .int x5, .int x6, .int x7, .int ((1 <<< (x4 &&& 31) : Int32) ||| (1 <<< (x5 &&& 31) : Int32)), .int (1 <<< (x6 &&& 31) : Int32), .int (-1)])), .inr (.inl [some 61, none, none, none, none, none, none, none, none, none])]))) ?_
    refine rr rfl (s_aload_n rfl) ?_
    refine rr rfl (s_getf rfl rfl) ?_
    refine rr rfl (s_iload_n rfl) ?_
    refine rr rfl (s_iload rfl) ?_
    refine rr rfl (s_iastore (j := 0) (f' := [x5, 0, 0, 0, 0, 0, 0, 0, 0, 0, 0, 0, 0]) rfl rfl (Nat.le_of_ble_eq_true rfl) rfl (Nat.le_of_ble_eq_true rfl) rfl (h' := ((((((((((hF.set 3 (.inr (.inr (0, [.int 1, .ref 62, .int 1])))).set 4 (.inl ((List.replicate 8 (0 : Int32)).set (Int32.toNatClampNeg x3) 1))).set 5 (.inl ((List.replicate 8 (0 : Int32)).set (Int32.toNatClampNeg x3) 1))).set 6 (.inr (.inr (6, [.ref 2, .ref 7, .ref 8, .ref 9, .int 1])))).set 42 (.inl [x1, 0, 0, 0, 0, 0, 0, 0, 0, 0, 0, 0, 0])).set 43 (.inl [x2, 0, 0, 0, 0, 0, 0, 0, 0, 0, 0, 0, 0])).set 44 (.inl [x3, 0, 0, 0, 0, 0, 0, 0, 0, 0, 0, 0, 0])).set 45 (.inl [x4, 0, 0, 0, 0, 0, 0, 0, 0, 0, 0, 0, 0])).set 46 (.inl [x5, 0, 0, 0, 0, 0, 0, 0, 0, 0, 0, 0, 0])) ++ [.inr (.inr (2, [.int x1, .int x2, .int x3, .int x4, .int x5, .int x6, .int x7, .int ((1 <<< (x4 &&& 31) : Int32) ||| (1 <<< (x5 &&& 31) : Int32)), .int (1 <<< (x6 &&& 31) : Int32), .int (-1)])), .inr (.inl [some 61, none, none, none, none, none, none, none, none, none])]))) ?_
    refine rr rfl (s_aload_n rfl) ?_
    refine rr rfl (s_getf rfl rfl) ?_
    refine rr rfl (s_iload_n rfl) ?_
    refine rr rfl (s_iload rfl) ?_
    refine rr rfl (s_iastore (j := 0) (f' := [x6, 0, 0, 0, 0, 0, 0, 0, 0, 0, 0, 0, 0]) rfl rfl (Nat.le_of_ble_eq_true rfl) rfl (Nat.le_of_ble_eq_true rfl) rfl (h' := (((((((((((hF.set 3 (.inr (.inr (0, [.int 1, .ref 62, .int 1])))).set 4 (.inl ((List.replicate 8 (0 : Int32)).set (Int32.toNatClampNeg x3) 1))).set 5 (.inl ((List.replicate 8 (0 : Int32)).set (Int32.toNatClampNeg x3) 1))).set 6 (.inr (.inr (6, [.ref 2, .ref 7, .ref 8, .ref 9, .int 1])))).set 42 (.inl [x1, 0, 0, 0, 0, 0, 0, 0, 0, 0, 0, 0, 0])).set 43 (.inl [x2, 0, 0, 0, 0, 0, 0, 0, 0, 0, 0, 0, 0])).set 44 (.inl [x3, 0, 0, 0, 0, 0, 0, 0, 0, 0, 0, 0, 0])).set 45 (.inl [x4, 0, 0, 0, 0, 0, 0, 0, 0, 0, 0, 0, 0])).set 46 (.inl [x5, 0, 0, 0, 0, 0, 0, 0, 0, 0, 0, 0, 0])).set 47 (.inl [x6, 0, 0, 0, 0, 0, 0, 0, 0, 0, 0, 0, 0])) ++ [.inr (.inr (2, [.int x1, .int x2, .int x3, .int x4, .int x5, .int x6, .int x7, .int ((1 <<< (x4 &&& 31) : Int32) ||| (1 <<< (x5 &&& 31) : Int32)), .int (1 <<< (x6 &&& 31) : Int32), .int (-1)])), .inr (.inl [some 61, none, none, none, none, none, none, none, none, none])]))) ?_
    refine rr rfl (s_aload_n rfl) ?_
    refine rr rfl (s_getf rfl rfl) ?_
    refine rr rfl (s_iload_n rfl) ?_
    refine rr rfl (s_iload rfl) ?_
    refine rr rfl (s_iastore (j := 0) (f' := [x7, 0, 0, 0, 0, 0, 0, 0, 0, 0, 0, 0, 0]) rfl rfl (Nat.le_of_ble_eq_true rfl) rfl (Nat.le_of_ble_eq_true rfl) rfl (h' := ((((((((((((hF.set 3 (.inr (.inr (0, [.int 1, .ref 62, .int 1])))).set 4 (.inl ((List.replicate 8 (0 : Int32)).set (Int32.toNatClampNeg x3) 1))).set 5 (.inl ((List.replicate 8 (0 : Int32)).set (Int32.toNatClampNeg x3) 1))).set 6 (.inr (.inr (6, [.ref 2, .ref 7, .ref 8, .ref 9, .int 1])))).set 42 (.inl [x1, 0, 0, 0, 0, 0, 0, 0, 0, 0, 0, 0, 0])).set 43 (.inl [x2, 0, 0, 0, 0, 0, 0, 0, 0, 0, 0, 0, 0])).set 44 (.inl [x3, 0, 0, 0, 0, 0, 0, 0, 0, 0, 0, 0, 0])).set 45 (.inl [x4, 0, 0, 0, 0, 0, 0, 0, 0, 0, 0, 0, 0])).set 46 (.inl [x5, 0, 0, 0, 0, 0, 0, 0, 0, 0, 0, 0, 0])).set 47 (.inl [x6, 0, 0, 0, 0, 0, 0, 0, 0, 0, 0, 0, 0])).set 48 (.inl [x7, 0, 0, 0, 0, 0, 0, 0, 0, 0, 0, 0, 0])) ++ [.inr (.inr (2, [.int x1, .int x2, .int x3, .int x4, .int x5, .int x6, .int x7, .int ((1 <<< (x4 &&& 31) : Int32) ||| (1 <<< (x5 &&& 31) : Int32)), .int (1 <<< (x6 &&& 31) : Int32), .int (-1)])), .inr (.inl [some 61, none, none, none, none, none, none, none, none, none])]))) ?_
    refine rr rfl (s_aload_n rfl) ?_
    refine rr rfl (s_getf rfl rfl) ?_
    refine rr rfl (s_iload_n rfl) ?_
    refine rr rfl (s_iconst (v := (-1)) (by decide)) ?_
    refine rr rfl (s_iastore (j := 0) (f' := [(-1), 0, 0, 0, 0, 0, 0, 0, 0, 0, 0, 0, 0]) rfl rfl (Nat.le_of_ble_eq_true rfl) rfl (Nat.le_of_ble_eq_true rfl) rfl (h' := (((((((((((((hF.set 3 (.inr (.inr (0, [.int 1, .ref 62, .int 1])))).set 4 (.inl ((List.replicate 8 (0 : Int32)).set (Int32.toNatClampNeg x3) 1))).set 5 (.inl ((List.replicate 8 (0 : Int32)).set (Int32.toNatClampNeg x3) 1))).set 6 (.inr (.inr (6, [.ref 2, .ref 7, .ref 8, .ref 9, .int 1])))).set 42 (.inl [x1, 0, 0, 0, 0, 0, 0, 0, 0, 0, 0, 0, 0])).set 43 (.inl [x2, 0, 0, 0, 0, 0, 0, 0, 0, 0, 0, 0, 0])).set 44 (.inl [x3, 0, 0, 0, 0, 0, 0, 0, 0, 0, 0, 0, 0])).set 45 (.inl [x4, 0, 0, 0, 0, 0, 0, 0, 0, 0, 0, 0, 0])).set 46 (.inl [x5, 0, 0, 0, 0, 0, 0, 0, 0, 0, 0, 0, 0])).set 47 (.inl [x6, 0, 0, 0, 0, 0, 0, 0, 0, 0, 0, 0, 0])).set 48 (.inl [x7, 0, 0, 0, 0, 0, 0, 0, 0, 0, 0, 0, 0])).set 49 (.inl [(-1), 0, 0, 0, 0, 0, 0, 0, 0, 0, 0, 0, 0])) ++ [.inr (.inr (2, [.int x1, .int x2, .int x3, .int x4, .int x5, .int x6, .int x7, .int ((1 <<< (x4 &&& 31) : Int32) ||| (1 <<< (x5 &&& 31) : Int32)), .int (1 <<< (x6 &&& 31) : Int32), .int (-1)])), .inr (.inl [some 61, none, none, none, none, none, none, none, none, none])]))) ?_
    exact rrt rfl rfl rfl rfl
  refine rrc rfl rfl rfl (do_of g_X9_sets rfl rfl e1) ?_
  refine rr rfl (s_aload_n rfl) ?_
  refine rr rfl rfl ?_
  refine rr rfl (s_getf rfl rfl) ?_
  refine rr rfl (s_iconst (v := 1) (by decide)) ?_
  refine rr rfl (s_iadd (v := 1) (by decide)) ?_
  refine rr rfl (s_putf rfl rfl (Nat.le_of_ble_eq_true rfl) rfl (Nat.le_of_ble_eq_true rfl) rfl (h' := ((((((((((((((hF.set 3 (.inr (.inr (0, [.int 1, .ref 62, .int 1])))).set 4 (.inl ((List.replicate 8 (0 : Int32)).set (Int32.toNatClampNeg x3) 1))).set 5 (.inl ((List.replicate 8 (0 : Int32)).set (Int32.toNatClampNeg x3) 1))).set 6 (.inr (.inr (6, [.ref 2, .ref 7, .ref 8, .ref 9, .int 1])))).set 41 (.inr (.inr (9, [.int 4, .int 1, .ref 42, .ref 43, .ref 44, .ref 45, .ref 46, .ref 47, .ref 48, .ref 49, .ref 50, .ref 51, .int 0, .int 0, .int 0, .int 0, .int 0, .int 0, .int 0, .int 0, .ref 52, .int 0, .ref 53, .int 0, .ref 54, .int 0, .ref 55, .ref 56, .ref 57, .ref 58, .int 0, .ref 59, .ref 60])))).set 42 (.inl [x1, 0, 0, 0, 0, 0, 0, 0, 0, 0, 0, 0, 0])).set 43 (.inl [x2, 0, 0, 0, 0, 0, 0, 0, 0, 0, 0, 0, 0])).set 44 (.inl [x3, 0, 0, 0, 0, 0, 0, 0, 0, 0, 0, 0, 0])).set 45 (.inl [x4, 0, 0, 0, 0, 0, 0, 0, 0, 0, 0, 0, 0])).set 46 (.inl [x5, 0, 0, 0, 0, 0, 0, 0, 0, 0, 0, 0, 0])).set 47 (.inl [x6, 0, 0, 0, 0, 0, 0, 0, 0, 0, 0, 0, 0])).set 48 (.inl [x7, 0, 0, 0, 0, 0, 0, 0, 0, 0, 0, 0, 0])).set 49 (.inl [(-1), 0, 0, 0, 0, 0, 0, 0, 0, 0, 0, 0, 0])) ++ [.inr (.inr (2, [.int x1, .int x2, .int x3, .int x4, .int x5, .int x6, .int x7, .int ((1 <<< (x4 &&& 31) : Int32) ||| (1 <<< (x5 &&& 31) : Int32)), .int (1 <<< (x6 &&& 31) : Int32), .int (-1)])), .inr (.inl [some 61, none, none, none, none, none, none, none, none, none])]))) ?_
  refine rr rfl (s_aload_n rfl) ?_
  have e2 : a_m MT [] 100000 10 miX9_lays [.ref 41] ((((((((((((((hF.set 3 (.inr (.inr (0, [.int 1, .ref 62, .int 1])))).set 4 (.inl ((List.replicate 8 (0 : Int32)).set (Int32.toNatClampNeg x3) 1))).set 5 (.inl ((List.replicate 8 (0 : Int32)).set (Int32.toNatClampNeg x3) 1))).set 6 (.inr (.inr (6, [.ref 2, .ref 7, .ref 8, .ref 9, .int 1])))).set 41 (.inr (.inr (9, [.int 4, .int 1, .ref 42, .ref 43, .ref 44, .ref 45, .ref 46, .ref 47, .ref 48, .ref 49, .ref 50, .ref 51, .int 0, .int 0, .int 0, .int 0, .int 0, .int 0, .int 0, .int 0, .ref 52, .int 0, .ref 53, .int 0, .ref 54, .int 0, .ref 55, .ref 56, .ref 57, .ref 58, .int 0, .ref 59, .ref 60])))).set 42 (.inl [x1, 0, 0, 0, 0, 0, 0, 0, 0, 0, 0, 0, 0])).set 43 (.inl [x2, 0, 0, 0, 0, 0, 0, 0, 0, 0, 0, 0, 0])).set 44 (.inl [x3, 0, 0, 0, 0, 0, 0, 0, 0, 0, 0, 0, 0])).set 45 (.inl [x4, 0, 0, 0, 0, 0, 0, 0, 0, 0, 0, 0, 0])).set 46 (.inl [x5, 0, 0, 0, 0, 0, 0, 0, 0, 0, 0, 0, 0])).set 47 (.inl [x6, 0, 0, 0, 0, 0, 0, 0, 0, 0, 0, 0, 0])).set 48 (.inl [x7, 0, 0, 0, 0, 0, 0, 0, 0, 0, 0, 0, 0])).set 49 (.inl [(-1), 0, 0, 0, 0, 0, 0, 0, 0, 0, 0, 0, 0])) ++ [.inr (.inr (2, [.int x1, .int x2, .int x3, .int x4, .int x5, .int x6, .int x7, .int ((1 <<< (x4 &&& 31) : Int32) ||| (1 <<< (x5 &&& 31) : Int32)), .int (1 <<< (x6 &&& 31) : Int32), .int (-1)])), .inr (.inl [some 61, none, none, none, none, none, none, none, none, none])]) = some ((some (.int 1)), (((((((((((((((hF.set 3 (.inr (.inr (0, [.int 1, .ref 62, .int 1])))).set 4 (.inl ((List.replicate 8 (0 : Int32)).set (Int32.toNatClampNeg x3) 1))).set 5 (.inl ((List.replicate 8 (0 : Int32)).set (Int32.toNatClampNeg x3) 1))).set 6 (.inr (.inr (6, [.ref 2, .ref 7, .ref 8, .ref 9, .int 1])))).set 41 (.inr (.inr (9, [.int 4, .int 1, .ref 42, .ref 43, .ref 44, .ref 45, .ref 46, .ref 47, .ref 48, .ref 49, .ref 50, .ref 51, .int 0, .int 0, .int 0, .int 0, .int 0, .int 0, .int 0, .int 0, .ref 52, .int 0, .ref 53, .int 0, .ref 54, .int 0, .ref 55, .ref 56, .ref 57, .ref 58, .int 0, .ref 59, .ref 60])))).set 42 (.inl [x1, 0, 0, 0, 0, 0, 0, 0, 0, 0, 0, 0, 0])).set 43 (.inl [x2, 0, 0, 0, 0, 0, 0, 0, 0, 0, 0, 0, 0])).set 44 (.inl [x3, 0, 0, 0, 0, 0, 0, 0, 0, 0, 0, 0, 0])).set 45 (.inl [x4, 0, 0, 0, 0, 0, 0, 0, 0, 0, 0, 0, 0])).set 46 (.inl [x5, 0, 0, 0, 0, 0, 0, 0, 0, 0, 0, 0, 0])).set 47 (.inl [x6, 0, 0, 0, 0, 0, 0, 0, 0, 0, 0, 0, 0])).set 48 (.inl [x7, 0, 0, 0, 0, 0, 0, 0, 0, 0, 0, 0, 0])).set 49 (.inl [(-1), 0, 0, 0, 0, 0, 0, 0, 0, 0, 0, 0, 0])).set 51 (.inl ((List.replicate 8 (0 : Int32)).set (Int32.toNatClampNeg x3) 1))) ++ [.inr (.inr (2, [.int x1, .int x2, .int x3, .int x4, .int x5, .int x6, .int x7, .int ((1 <<< (x4 &&& 31) : Int32) ||| (1 <<< (x5 &&& 31) : Int32)), .int (1 <<< (x6 &&& 31) : Int32), .int (-1)])), .inr (.inl [some 61, none, none, none, none, none, none, none, none, none])]), 0, 0) := by
    refine me (d := 9) g_X9_lays (Nat.le_of_ble_eq_true rfl) ?_
    refine rr rfl (s_iconst (v := 0) (by decide)) ?_
    refine rr rfl (s_istore_n rfl) ?_
    refine rr rfl (s_iload_n rfl) ?_
    refine rr rfl (s_bipush (v := 8) (by decide)) ?_
    refine rr rfl (s_icF (by decide)) ?_
    refine rr rfl (s_aload_n rfl) ?_
    refine rr rfl (s_getf rfl rfl) ?_
    refine rr rfl (s_iload_n rfl) ?_
    refine rr rfl (s_iconst (v := 0) (by decide)) ?_
    refine rr rfl (s_iastore (j := 0) (f' := (List.replicate 8 0)) rfl rfl (Nat.le_of_ble_eq_true rfl) rfl (Nat.le_of_ble_eq_true rfl) rfl (h' := ((((((((((((((hF.set 3 (.inr (.inr (0, [.int 1, .ref 62, .int 1])))).set 4 (.inl ((List.replicate 8 (0 : Int32)).set (Int32.toNatClampNeg x3) 1))).set 5 (.inl ((List.replicate 8 (0 : Int32)).set (Int32.toNatClampNeg x3) 1))).set 6 (.inr (.inr (6, [.ref 2, .ref 7, .ref 8, .ref 9, .int 1])))).set 41 (.inr (.inr (9, [.int 4, .int 1, .ref 42, .ref 43, .ref 44, .ref 45, .ref 46, .ref 47, .ref 48, .ref 49, .ref 50, .ref 51, .int 0, .int 0, .int 0, .int 0, .int 0, .int 0, .int 0, .int 0, .ref 52, .int 0, .ref 53, .int 0, .ref 54, .int 0, .ref 55, .ref 56, .ref 57, .ref 58, .int 0, .ref 59, .ref 60])))).set 42 (.inl [x1, 0, 0, 0, 0, 0, 0, 0, 0, 0, 0, 0, 0])).set 43 (.inl [x2, 0, 0, 0, 0, 0, 0, 0, 0, 0, 0, 0, 0])).set 44 (.inl [x3, 0, 0, 0, 0, 0, 0, 0, 0, 0, 0, 0, 0])).set 45 (.inl [x4, 0, 0, 0, 0, 0, 0, 0, 0, 0, 0, 0, 0])).set 46 (.inl [x5, 0, 0, 0, 0, 0, 0, 0, 0, 0, 0, 0, 0])).set 47 (.inl [x6, 0, 0, 0, 0, 0, 0, 0, 0, 0, 0, 0, 0])).set 48 (.inl [x7, 0, 0, 0, 0, 0, 0, 0, 0, 0, 0, 0, 0])).set 49 (.inl [(-1), 0, 0, 0, 0, 0, 0, 0, 0, 0, 0, 0, 0])) ++ [.inr (.inr (2, [.int x1, .int x2, .int x3, .int x4, .int x5, .int x6, .int x7, .int ((1 <<< (x4 &&& 31) : Int32) ||| (1 <<< (x5 &&& 31) : Int32)), .int (1 <<< (x6 &&& 31) : Int32), .int (-1)])), .inr (.inl [some 61, none, none, none, none, none, none, none, none, none])]))) ?_
    refine rr rfl (s_iinc (v := 1) rfl (by decide) rfl) ?_
    refine rr rfl s_goto ?_
    refine rr rfl (s_iload_n rfl) ?_
    refine rr rfl (s_bipush (v := 8) (by decide)) ?_
    refine rr rfl (s_icF (by decide)) ?_
    refine rr rfl (s_aload_n rfl) ?_
    refine rr rfl (s_getf rfl rfl) ?_
    refine rr rfl (s_iload_n rfl) ?_
    refine rr rfl (s_iconst (v := 0) (by decide)) ?_
    refine rr rfl (s_iastore (j := 1) (f' := (List.replicate 8 0)) rfl rfl (Nat.le_of_ble_eq_true rfl) rfl (Nat.le_of_ble_eq_true rfl) rfl (h' := ((((((((((((((hF.set 3 (.inr (.inr (0, [.int 1, .ref 62, .int 1])))).set 4 (.inl ((List.replicate 8 (0 : Int32)).set (Int32.toNatClampNeg x3) 1))).set 5 (.inl ((List.replicate 8 (0 : Int32)).set (Int32.toNatClampNeg x3) 1))).set 6 (.inr (.inr (6, [.ref 2, .ref 7, .ref 8, .ref 9, .int 1])))).set 41 (.inr (.inr (9, [.int 4, .int 1, .ref 42, .ref 43, .ref 44, .ref 45, .ref 46, .ref 47, .ref 48, .ref 49, .ref 50, .ref 51, .int 0, .int 0, .int 0, .int 0, .int 0, .int 0, .int 0, .int 0, .ref 52, .int 0, .ref 53, .int 0, .ref 54, .int 0, .ref 55, .ref 56, .ref 57, .ref 58, .int 0, .ref 59, .ref 60])))).set 42 (.inl [x1, 0, 0, 0, 0, 0, 0, 0, 0, 0, 0, 0, 0])).set 43 (.inl [x2, 0, 0, 0, 0, 0, 0, 0, 0, 0, 0, 0, 0])).set 44 (.inl [x3, 0, 0, 0, 0, 0, 0, 0, 0, 0, 0, 0, 0])).set 45 (.inl [x4, 0, 0, 0, 0, 0, 0, 0, 0, 0, 0, 0, 0])).set 46 (.inl [x5, 0, 0, 0, 0, 0, 0, 0, 0, 0, 0, 0, 0])).set 47 (.inl [x6, 0, 0, 0, 0, 0, 0, 0, 0, 0, 0, 0, 0])).set 48 (.inl [x7, 0, 0, 0, 0, 0, 0, 0, 0, 0, 0, 0, 0])).set 49 (.inl [(-1), 0, 0, 0, 0, 0, 0, 0, 0, 0, 0, 0, 0])) ++ [.inr (.inr (2, [.int x1, .int x2, .int x3, .int x4, .int x5, .int x6, .int x7, .int ((1 <<< (x4 &&& 31) : Int32) ||| (1 <<< (x5 &&& 31) : Int32)), .int (1 <<< (x6 &&& 31) : Int32), .int (-1)])), .inr (.inl [some 61, none, none, none, none, none, none, none, none, none])]))) ?_
    refine rr rfl (s_iinc (v := 2) rfl (by decide) rfl) ?_
    refine rr rfl s_goto ?_
    refine rr rfl (s_iload_n rfl) ?_
    refine rr rfl (s_bipush (v := 8) (by decide)) ?_
    refine rr rfl (s_icF (by decide)) ?_
    refine rr rfl (s_aload_n rfl) ?_
    refine rr rfl (s_getf rfl rfl) ?_
    refine rr rfl (s_iload_n rfl) ?_
    refine rr rfl (s_iconst (v := 0) (by decide)) ?_
    refine rr rfl (s_iastore (j := 2) (f' := (List.replicate 8 0)) rfl rfl (Nat.le_of_ble_eq_true rfl) rfl (Nat.le_of_ble_eq_true rfl) rfl (h' := ((((((((((((((hF.set 3 (.inr (.inr (0, [.int 1, .ref 62, .int 1])))).set 4 (.inl ((List.replicate 8 (0 : Int32)).set (Int32.toNatClampNeg x3) 1))).set 5 (.inl ((List.replicate 8 (0 : Int32)).set (Int32.toNatClampNeg x3) 1))).set 6 (.inr (.inr (6, [.ref 2, .ref 7, .ref 8, .ref 9, .int 1])))).set 41 (.inr (.inr (9, [.int 4, .int 1, .ref 42, .ref 43, .ref 44, .ref 45, .ref 46, .ref 47, .ref 48, .ref 49, .ref 50, .ref 51, .int 0, .int 0, .int 0, .int 0, .int 0, .int 0, .int 0, .int 0, .ref 52, .int 0, .ref 53, .int 0, .ref 54, .int 0, .ref 55, .ref 56, .ref 57, .ref 58, .int 0, .ref 59, .ref 60])))).set 42 (.inl [x1, 0, 0, 0, 0, 0, 0, 0, 0, 0, 0, 0, 0])).set 43 (.inl [x2, 0, 0, 0, 0, 0, 0, 0, 0, 0, 0, 0, 0])).set 44 (.inl [x3, 0, 0, 0, 0, 0, 0, 0, 0, 0, 0, 0, 0])).set 45 (.inl [x4, 0, 0, 0, 0, 0, 0, 0, 0, 0, 0, 0, 0])).set 46 (.inl [x5, 0, 0, 0, 0, 0, 0, 0, 0, 0, 0, 0, 0])).set 47 (.inl [x6, 0, 0, 0, 0, 0, 0, 0, 0, 0, 0, 0, 0])).set 48 (.inl [x7, 0, 0, 0, 0, 0, 0, 0, 0, 0, 0, 0, 0])).set 49 (.inl [(-1), 0, 0, 0, 0, 0, 0, 0, 0, 0, 0, 0, 0])) ++ [.inr (.inr (2, [.int x1, .int x2, .int x3, .int x4, .int x5, .int x6, .int x7, .int ((1 <<< (x4 &&& 31) : Int32) ||| (1 <<< (x5 &&& 31) : Int32)), .int (1 <<< (x6 &&& 31) : Int32), .int (-1)])), .inr (.inl [some 61, none, none, none, none, none, none, none, none, none])]))) ?_
    refine rr rfl (s_iinc (v := 3) rfl (by decide) rfl) ?_
    refine rr rfl s_goto ?_
    refine rr rfl (s_iload_n rfl) ?_
    refine rr rfl (s_bipush (v := 8) (by decide)) ?_
    refine rr rfl (s_icF (by decide)) ?_
    refine rr rfl (s_aload_n rfl) ?_
    refine rr rfl (s_getf rfl rfl) ?_
    refine rr rfl (s_iload_n rfl) ?_
    refine rr rfl (s_iconst (v := 0) (by decide)) ?_
    refine rr rfl (s_iastore (j := 3) (f' := (List.replicate 8 0)) rfl rfl (Nat.le_of_ble_eq_true rfl) rfl (Nat.le_of_ble_eq_true rfl) rfl (h' := ((((((((((((((hF.set 3 (.inr (.inr (0, [.int 1, .ref 62, .int 1])))).set 4 (.inl ((List.replicate 8 (0 : Int32)).set (Int32.toNatClampNeg x3) 1))).set 5 (.inl ((List.replicate 8 (0 : Int32)).set (Int32.toNatClampNeg x3) 1))).set 6 (.inr (.inr (6, [.ref 2, .ref 7, .ref 8, .ref 9, .int 1])))).set 41 (.inr (.inr (9, [.int 4, .int 1, .ref 42, .ref 43, .ref 44, .ref 45, .ref 46, .ref 47, .ref 48, .ref 49, .ref 50, .ref 51, .int 0, .int 0, .int 0, .int 0, .int 0, .int 0, .int 0, .int 0, .ref 52, .int 0, .ref 53, .int 0, .ref 54, .int 0, .ref 55, .ref 56, .ref 57, .ref 58, .int 0, .ref 59, .ref 60])))).set 42 (.inl [x1, 0, 0, 0, 0, 0, 0, 0, 0, 0, 0, 0, 0])).set 43 (.inl [x2, 0, 0, 0, 0, 0, 0, 0, 0, 0, 0, 0, 0])).set 44 (.inl [x3, 0, 0, 0, 0, 0, 0, 0, 0, 0, 0, 0, 0])).set 45 (.inl [x4, 0, 0, 0, 0, 0, 0, 0, 0, 0, 0, 0, 0])).set 46 (.inl [x5, 0, 0, 0, 0, 0, 0, 0, 0, 0, 0, 0, 0])).set 47 (.inl [x6, 0, 0, 0, 0, 0, 0, 0, 0, 0, 0, 0, 0])).set 48 (.inl [x7, 0, 0, 0, 0, 0, 0, 0, 0, 0, 0, 0, 0])).set 49 (.inl [(-1), 0, 0, 0, 0, 0, 0, 0, 0, 0, 0, 0, 0])) ++ [.inr (.inr (2, [.int x1, .int x2, .int x3, .int x4, .int x5, .int x6, .int x7, .int ((1 <<< (x4 &&& 31) : Int32) ||| (1 <<< (x5 &&& 31) : Int32)), .int (1 <<< (x6 &&& 31) : Int32), .int (-1)])), .inr (.inl [some 61, none, none, none, none, none, none, none, none, none])]))) ?_
    refine rr rfl (s_iinc (v := 4) rfl (by decide) rfl) ?_
    refine rr rfl s_goto ?_
    refine rr rfl (s_iload_n rfl) ?_
    refine rr rfl (s_bipush (v := 8) (by decide)) ?_
    refine rr rfl (s_icF (by decide)) ?_
    refine rr rfl (s_aload_n rfl) ?_
    refine rr rfl (s_getf rfl rfl) ?_
    refine rr rfl (s_iload_n rfl) ?_
    refine rr rfl (s_iconst (v := 0) (by decide)) ?_
    refine rr rfl (s_iastore (j := 4) (f' := (List.replicate 8 0)) rfl rfl (Nat.le_of_ble_eq_true rfl) rfl (Nat.le_of_ble_eq_true rfl) rfl (h' := ((((((((((((((hF.set 3 (.inr (.inr (0, [.int 1, .ref 62, .int 1])))).set 4 (.inl ((List.replicate 8 (0 : Int32)).set (Int32.toNatClampNeg x3) 1))).set 5 (.inl ((List.replicate 8 (0 : Int32)).set (Int32.toNatClampNeg x3) 1))).set 6 (.inr (.inr (6, [.ref 2, .ref 7, .ref 8, .ref 9, .int 1])))).set 41 (.inr (.inr (9, [.int 4, .int 1, .ref 42, .ref 43, .ref 44, .ref 45, .ref 46, .ref 47, .ref 48, .ref 49, .ref 50, .ref 51, .int 0, .int 0, .int 0, .int 0, .int 0, .int 0, .int 0, .int 0, .ref 52, .int 0, .ref 53, .int 0, .ref 54, .int 0, .ref 55, .ref 56, .ref 57, .ref 58, .int 0, .ref 59, .ref 60])))).set 42 (.inl [x1, 0, 0, 0, 0, 0, 0, 0, 0, 0, 0, 0, 0])).set 43 (.inl [x2, 0, 0, 0, 0, 0, 0, 0, 0, 0, 0, 0, 0])).set 44 (.inl [x3, 0, 0, 0, 0, 0, 0, 0, 0, 0, 0, 0, 0])).set 45 (.inl [x4, 0, 0, 0, 0, 0, 0, 0, 0, 0, 0, 0, 0])).set 46 (.inl [x5, 0, 0, 0, 0, 0, 0, 0, 0, 0, 0, 0, 0])).set 47 (.inl [x6, 0, 0, 0, 0, 0, 0, 0, 0, 0, 0, 0, 0])).set 48 (.inl [x7, 0, 0, 0, 0, 0, 0, 0, 0, 0, 0, 0, 0])).set 49 (.inl [(-1), 0, 0, 0, 0, 0, 0, 0, 0, 0, 0, 0, 0])) ++ [.inr (.inr (2, [.int x1, .int x2, .int x3, .int x4, .int x5, .int x6, .int x7, .int ((1 <<< (x4 &&& 31) : Int32) ||| (1 <<< (x5 &&& 31) : Int32)), .int (1 <<< (x6 &&& 31) : Int32), .int (-1)])), .inr (.inl [some 61, none, none, none, none, none, none, none, none, none])]))) ?_
    refine rr rfl (s_iinc (v := 5) rfl (by decide) rfl) ?_
    refine rr rfl s_goto ?_
    refine rr rfl (s_iload_n rfl) ?_
    refine rr rfl (s_bipush (v := 8) (by decide)) ?_
    refine rr rfl (s_icF (by decide)) ?_
    refine rr rfl (s_aload_n rfl) ?_
    refine rr rfl (s_getf rfl rfl) ?_
    refine rr rfl (s_iload_n rfl) ?_
    refine rr rfl (s_iconst (v := 0) (by decide)) ?_
    refine rr rfl (s_iastore (j := 5) (f' := (List.replicate 8 0)) rfl rfl (Nat.le_of_ble_eq_true rfl) rfl (Nat.le_of_ble_eq_true rfl) rfl (h' := ((((((((((((((hF.set 3 (.inr (.inr (0, [.int 1, .ref 62, .int 1])))).set 4 (.inl ((List.replicate 8 (0 : Int32)).set (Int32.toNatClampNeg x3) 1))).set 5 (.inl ((List.replicate 8 (0 : Int32)).set (Int32.toNatClampNeg x3) 1))).set 6 (.inr (.inr (6, [.ref 2, .ref 7, .ref 8, .ref 9, .int 1])))).set 41 (.inr (.inr (9, [.int 4, .int 1, .ref 42, .ref 43, .ref 44, .ref 45, .ref 46, .ref 47, .ref 48, .ref 49, .ref 50, .ref 51, .int 0, .int 0, .int 0, .int 0, .int 0, .int 0, .int 0, .int 0, .ref 52, .int 0, .ref 53, .int 0, .ref 54, .int 0, .ref 55, .ref 56, .ref 57, .ref 58, .int 0, .ref 59, .ref 60])))).set 42 (.inl [x1, 0, 0, 0, 0, 0, 0, 0, 0, 0, 0, 0, 0])).set 43 (.inl [x2, 0, 0, 0, 0, 0, 0, 0, 0, 0, 0, 0, 0])).set 44 (.inl [x3, 0, 0, 0, 0, 0, 0, 0, 0, 0, 0, 0, 0])).set 45 (.inl [x4, 0, 0, 0, 0, 0, 0, 0, 0, 0, 0, 0, 0])).set 46 (.inl [x5, 0, 0, 0, 0, 0, 0, 0, 0, 0, 0, 0, 0])).set 47 (.inl [x6, 0, 0, 0, 0, 0, 0, 0, 0, 0, 0, 0, 0])).set 48 (.inl [x7, 0, 0, 0, 0, 0, 0, 0, 0, 0, 0, 0, 0])).set 49 (.inl [(-1), 0, 0, 0, 0, 0, 0, 0, 0, 0, 0, 0, 0])) ++ [.inr (.inr (2, [.int x1, .int x2, .int x3, .int x4, .int x5, .int x6, .int x7, .int ((1 <<< (x4 &&& 31) : Int32) ||| (1 <<< (x5 &&& 31) : Int32)), .int (1 <<< (x6 &&& 31) : Int32), .int (-1)])), .inr (.inl [some 61, none, none, none, none, none, none, none, none, none])]))) ?_
    refine rr rfl (s_iinc (v := 6) rfl (by decide) rfl) ?_
    refine rr rfl s_goto ?_
    refine rr rfl (s_iload_n rfl) ?_
    refine rr rfl (s_bipush (v := 8) (by decide)) ?_
    refine rr rfl (s_icF (by decide)) ?_
    refine rr rfl (s_aload_n rfl) ?_
    refine rr rfl (s_getf rfl rfl) ?_
    refine rr rfl (s_iload_n rfl) ?_
    refine rr rfl (s_iconst (v := 0) (by decide)) ?_
    refine rr rfl (s_iastore (j := 6) (f' := (List.replicate 8 0)) rfl rfl (Nat.le_of_ble_eq_true rfl) rfl (Nat.le_of_ble_eq_true rfl) rfl (h' := ((((((((((((((hF.set 3 (.inr (.inr (0, [.int 1, .ref 62, .int 1])))).set 4 (.inl ((List.replicate 8 (0 : Int32)).set (Int32.toNatClampNeg x3) 1))).set 5 (.inl ((List.replicate 8 (0 : Int32)).set (Int32.toNatClampNeg x3) 1))).set 6 (.inr (.inr (6, [.ref 2, .ref 7, .ref 8, .ref 9, .int 1])))).set 41 (.inr (.inr (9, [.int 4, .int 1, .ref 42, .ref 43, .ref 44, .ref 45, .ref 46, .ref 47, .ref 48, .ref 49, .ref 50, .ref 51, .int 0, .int 0, .int 0, .int 0, .int 0, .int 0, .int 0, .int 0, .ref 52, .int 0, .ref 53, .int 0, .ref 54, .int 0, .ref 55, .ref 56, .ref 57, .ref 58, .int 0, .ref 59, .ref 60])))).set 42 (.inl [x1, 0, 0, 0, 0, 0, 0, 0, 0, 0, 0, 0, 0])).set 43 (.inl [x2, 0, 0, 0, 0, 0, 0, 0, 0, 0, 0, 0, 0])).set 44 (.inl [x3, 0, 0, 0, 0, 0, 0, 0, 0, 0, 0, 0, 0])).set 45 (.inl [x4, 0, 0, 0, 0, 0, 0, 0, 0, 0, 0, 0, 0])).set 46 (.inl [x5, 0, 0, 0, 0, 0, 0, 0, 0, 0, 0, 0, 0])).set 47 (.inl [x6, 0, 0, 0, 0, 0, 0, 0, 0, 0, 0, 0, 0])).set 48 (.inl [x7, 0, 0, 0, 0, 0, 0, 0, 0, 0, 0, 0, 0])).set 49 (.inl [(-1), 0, 0, 0, 0, 0, 0, 0, 0, 0, 0, 0, 0])) ++ [.inr (.inr (2, [.int x1, .int x2, .int x3, .int x4, .int x5, .int x6, .int x7, .int ((1 <<< (x4 &&& 31) : Int32) ||| (1 <<< (x5 &&& 31) : Int32)), .int (1 <<< (x6 &&& 31) : Int32), .int (-1)])), .inr (.inl [some 61, none, none, none, none, none, none, none, none, none])]))) ?_
    refine rr rfl (s_iinc (v := 7) rfl (by decide) rfl) ?_
    refine rr rfl s_goto ?_
    refine rr rfl (s_iload_n rfl) ?_
    refine rr rfl (s_bipush (v := 8) (by decide)) ?_
    refine rr rfl (s_icF (by decide)) ?_
    refine rr rfl (s_aload_n rfl) ?_
    refine rr rfl (s_getf rfl rfl) ?_
    refine rr rfl (s_iload_n rfl) ?_
    refine rr rfl (s_iconst (v := 0) (by decide)) ?_
    refine rr rfl (s_iastore (j := 7) (f' := (List.replicate 8 0)) rfl rfl (Nat.le_of_ble_eq_true rfl) rfl (Nat.le_of_ble_eq_true rfl) rfl (h' := ((((((((((((((hF.set 3 (.inr (.inr (0, [.int 1, .ref 62, .int 1])))).set 4 (.inl ((List.replicate 8 (0 : Int32)).set (Int32.toNatClampNeg x3) 1))).set 5 (.inl ((List.replicate 8 (0 : Int32)).set (Int32.toNatClampNeg x3) 1))).set 6 (.inr (.inr (6, [.ref 2, .ref 7, .ref 8, .ref 9, .int 1])))).set 41 (.inr (.inr (9, [.int 4, .int 1, .ref 42, .ref 43, .ref 44, .ref 45, .ref 46, .ref 47, .ref 48, .ref 49, .ref 50, .ref 51, .int 0, .int 0, .int 0, .int 0, .int 0, .int 0, .int 0, .int 0, .ref 52, .int 0, .ref 53, .int 0, .ref 54, .int 0, .ref 55, .ref 56, .ref 57, .ref 58, .int 0, .ref 59, .ref 60])))).set 42 (.inl [x1, 0, 0, 0, 0, 0, 0, 0, 0, 0, 0, 0, 0])).set 43 (.inl [x2, 0, 0, 0, 0, 0, 0, 0, 0, 0, 0, 0, 0])).set 44 (.inl [x3, 0, 0, 0, 0, 0, 0, 0, 0, 0, 0, 0, 0])).set 45 (.inl [x4, 0, 0, 0, 0, 0, 0, 0, 0, 0, 0, 0, 0])).set 46 (.inl [x5, 0, 0, 0, 0, 0, 0, 0, 0, 0, 0, 0, 0])).set 47 (.inl [x6, 0, 0, 0, 0, 0, 0, 0, 0, 0, 0, 0, 0])).set 48 (.inl [x7, 0, 0, 0, 0, 0, 0, 0, 0, 0, 0, 0, 0])).set 49 (.inl [(-1), 0, 0, 0, 0, 0, 0, 0, 0, 0, 0, 0, 0])) ++ [.inr (.inr (2, [.int x1, .int x2, .int x3, .int x4, .int x5, .int x6, .int x7, .int ((1 <<< (x4 &&& 31) : Int32) ||| (1 <<< (x5 &&& 31) : Int32)), .int (1 <<< (x6 &&& 31) : Int32), .int (-1)])), .inr (.inl [some 61, none, none, none, none, none, none, none, none, none])]))) ?_
    refine rr rfl (s_iinc (v := 8) rfl (by decide) rfl) ?_
    refine rr rfl s_goto ?_
    refine rr rfl (s_iload_n rfl) ?_
    refine rr rfl (s_bipush (v := 8) (by decide)) ?_
    refine rr rfl (s_icT (by decide)) ?_
    refine rr rfl (s_iconst (v := 1) (by decide)) ?_
    refine rr rfl (s_istore_n rfl) ?_
    refine rr rfl (s_iconst (v := 1) (by decide)) ?_
    refine rr rfl (s_istore_n rfl) ?_
    refine rr rfl (s_iload_n rfl) ?_
    refine rr rfl (s_ifF (by decide)) ?_
    refine rr rfl (s_iload_n rfl) ?_
    refine rr rfl (s_ifF (by decide)) ?_
    refine rr rfl (s_iconst (v := 0) (by decide)) ?_
    refine rr rfl (s_istore_n rfl) ?_
    refine rr rfl (s_iconst (v := 0) (by decide)) ?_
    refine rr rfl (s_istore_n rfl) ?_
    refine rr rfl (s_iload_n rfl) ?_
    refine rr rfl (s_aload_n rfl) ?_
    refine rr rfl (s_getf rfl rfl) ?_
    refine rr rfl (s_icF (by decide)) ?_
    refine rr rfl (s_iconst (v := 0) (by decide)) ?_
    refine rr rfl (s_istore rfl) ?_
    refine rr rfl (s_aload_n rfl) ?_
    refine rr rfl (s_getf rfl rfl) ?_
    refine rr rfl (s_iload_n rfl) ?_
    refine rr rfl (s_iaload (j := 0) rfl rfl rfl) ?_
    refine rr rfl (s_ifF (ic_nne g1)) ?_
    refine rr rfl (s_aload_n rfl) ?_
    refine rr rfl (s_getf rfl rfl) ?_
    refine rr rfl (s_aload_n rfl) ?_
    refine rr rfl (s_getf rfl rfl) ?_
    refine rr rfl (s_iload_n rfl) ?_
    refine rr rfl (s_iaload (j := 0) rfl rfl rfl) ?_
    refine rr rfl (s_ialdR (n := 8) (x := 0) rfl g2 g3) ?_
    refine rr rfl (s_istore rfl) ?_
    refine rr rfl (s_aload_n rfl) ?_
    refine rr rfl (s_getf rfl rfl) ?_
    refine rr rfl (s_iload_n rfl) ?_
    refine rr rfl (s_iaload (j := 0) rfl rfl rfl) ?_
    refine rr rfl (s_iconst (v := (-1)) (by decide)) ?_
    refine rr rfl (s_icF (ic_neq g4)) ?_
    refine rr rfl (s_aload_n rfl) ?_
    refine rr rfl (s_getf rfl rfl) ?_
    refine rr rfl (s_aload_n rfl) ?_
    refine rr rfl (s_getf rfl rfl) ?_
    refine rr rfl (s_iload_n rfl) ?_
    refine rr rfl (s_iaload (j := 0) rfl rfl rfl) ?_
    refine rr rfl (s_ialdR (n := 8) (x := 0) rfl g5 g6) ?_
    refine rr rfl (s_iload rfl) ?_
    refine rr rfl (s_icT (by decide)) ?_
    refine rr rfl (s_iload rfl) ?_
    refine rr rfl (s_istore rfl) ?_
    refine rr rfl (s_aload_n rfl) ?_
    refine rr rfl (s_getf rfl rfl) ?_
    refine rr rfl (s_iload_n rfl) ?_
    refine rr rfl (s_iaload (j := 0) rfl rfl rfl) ?_
    refine rr rfl (s_iconst (v := (-1)) (by decide)) ?_
    refine rr rfl (s_icF (ic_neq g7)) ?_
    refine rr rfl (s_aload_n rfl) ?_
    refine rr rfl (s_getf rfl rfl) ?_
    refine rr rfl (s_aload_n rfl) ?_
    refine rr rfl (s_getf rfl rfl) ?_
    refine rr rfl (s_iload_n rfl) ?_
    refine rr rfl (s_iaload (j := 0) rfl rfl rfl) ?_
    refine rr rfl (s_ialdR (n := 8) (x := 0) rfl g8 g9) ?_
    refine rr rfl (s_iconst (v := 1) (by decide)) ?_
    refine rr rfl (s_iadd (v := 1) (by decide)) ?_
    refine rr rfl (s_iload rfl) ?_
    refine rr rfl (s_icF (by decide)) ?_
    refine rr rfl (s_aload_n rfl) ?_
    refine rr rfl (s_getf rfl rfl) ?_
    refine rr rfl (s_aload_n rfl) ?_
    refine rr rfl (s_getf rfl rfl) ?_
    refine rr rfl (s_iload_n rfl) ?_
    refine rr rfl (s_iaload (j := 0) rfl rfl rfl) ?_
    refine rr rfl (s_ialdR (n := 8) (x := 0) rfl g8 g9) ?_
    refine rr rfl (s_iconst (v := 1) (by decide)) ?_
    refine rr rfl (s_iadd (v := 1) (by decide)) ?_
    refine rr rfl s_goto ?_
    refine rr rfl (s_istore rfl) ?_
    refine rr rfl (s_iload rfl) ?_
    refine rr rfl (s_aload_n rfl) ?_
    refine rr rfl (s_getf rfl rfl) ?_
    refine rr rfl (s_aload_n rfl) ?_
    refine rr rfl (s_getf rfl rfl) ?_
    refine rr rfl (s_iload_n rfl) ?_
    refine rr rfl (s_iaload (j := 0) rfl rfl rfl) ?_
    refine rr rfl (s_ialdR (n := 8) (x := 0) rfl g10 g11) ?_
    refine rr rfl (s_icF (by decide)) ?_
    refine rr rfl (s_aload_n rfl) ?_
    refine rr rfl (s_getf rfl rfl) ?_
    refine rr rfl (s_aload_n rfl) ?_
    refine rr rfl (s_getf rfl rfl) ?_
    refine rr rfl (s_iload_n rfl) ?_
    refine rr rfl (s_iaload (j := 0) rfl rfl rfl) ?_
    refine rr rfl (s_iload rfl) ?_
    refine rr rfl (s_iastR (n := 8) rfl g10 g11 (Nat.le_of_ble_eq_true rfl) rfl (h' := (((((((((((((((hF.set 3 (.inr (.inr (0, [.int 1, .ref 62, .int 1])))).set 4 (.inl ((List.replicate 8 (0 : Int32)).set (Int32.toNatClampNeg x3) 1))).set 5 (.inl ((List.replicate 8 (0 : Int32)).set (Int32.toNatClampNeg x3) 1))).set 6 (.inr (.inr (6, [.ref 2, .ref 7, .ref 8, .ref 9, .int 1])))).set 41 (.inr (.inr (9, [.int 4, .int 1, .ref 42, .ref 43, .ref 44, .ref 45, .ref 46, .ref 47, .ref 48, .ref 49, .ref 50, .ref 51, .int 0, .int 0, .int 0, .int 0, .int 0, .int 0, .int 0, .int 0, .ref 52, .int 0, .ref 53, .int 0, .ref 54, .int 0, .ref 55, .ref 56, .ref 57, .ref 58, .int 0, .ref 59, .ref 60])))).set 42 (.inl [x1, 0, 0, 0, 0, 0, 0, 0, 0, 0, 0, 0, 0])).set 43 (.inl [x2, 0, 0, 0, 0, 0, 0, 0, 0, 0, 0, 0, 0])).set 44 (.inl [x3, 0, 0, 0, 0, 0, 0, 0, 0, 0, 0, 0, 0])).set 45 (.inl [x4, 0, 0, 0, 0, 0, 0, 0, 0, 0, 0, 0, 0])).set 46 (.inl [x5, 0, 0, 0, 0, 0, 0, 0, 0, 0, 0, 0, 0])).set 47 (.inl [x6, 0, 0, 0, 0, 0, 0, 0, 0, 0, 0, 0, 0])).set 48 (.inl [x7, 0, 0, 0, 0, 0, 0, 0, 0, 0, 0, 0, 0])).set 49 (.inl [(-1), 0, 0, 0, 0, 0, 0, 0, 0, 0, 0, 0, 0])).set 51 (.inl ((List.replicate 8 (0 : Int32)).set (Int32.toNatClampNeg x3) 1))) ++ [.inr (.inr (2, [.int x1, .int x2, .int x3, .int x4, .int x5, .int x6, .int x7, .int ((1 <<< (x4 &&& 31) : Int32) ||| (1 <<< (x5 &&& 31) : Int32)), .int (1 <<< (x6 &&& 31) : Int32), .int (-1)])), .inr (.inl [some 61, none, none, none, none, none, none, none, none, none])]))) ?_
    refine rr rfl (s_iconst (v := 1) (by decide)) ?_
    refine rr rfl (s_istore_n rfl) ?_
    refine rr rfl (s_iload_n rfl) ?_
    refine rr rfl (s_ifF (by decide)) ?_
    refine rr rfl (s_iload rfl) ?_
    refine rr rfl (s_bipush (v := 8) (by decide)) ?_
    refine rr rfl (s_icF (by decide)) ?_
    refine rr rfl (s_iconst (v := 1) (by decide)) ?_
    refine rr rfl s_goto ?_
    refine rr rfl (s_istore_n rfl) ?_
    refine rr rfl (s_iinc (v := 1) rfl (by decide) rfl) ?_
    refine rr rfl s_goto ?_
    refine rr rfl (s_iload_n rfl) ?_
    refine rr rfl (s_aload_n rfl) ?_
    refine rr rfl (s_getf rfl rfl) ?_
    refine rr rfl (s_icT (by decide)) ?_
    refine rr rfl s_goto ?_
    refine rr rfl (s_iload_n rfl) ?_
    refine rr rfl (s_ifF (by decide)) ?_
    refine rr rfl (s_iload_n rfl) ?_
    refine rr rfl (s_ifF (by decide)) ?_
    refine rr rfl (s_iconst (v := 0) (by decide)) ?_
    refine rr rfl (s_istore_n rfl) ?_
    refine rr rfl (s_iconst (v := 0) (by decide)) ?_
    refine rr rfl (s_istore_n rfl) ?_
    refine rr rfl (s_iload_n rfl) ?_
    refine rr rfl (s_aload_n rfl) ?_
    refine rr rfl (s_getf rfl rfl) ?_
    refine rr rfl (s_icF (by decide)) ?_
    refine rr rfl (s_iconst (v := 0) (by decide)) ?_
    refine rr rfl (s_istore rfl) ?_
    refine rr rfl (s_aload_n rfl) ?_
    refine rr rfl (s_getf rfl rfl) ?_
    refine rr rfl (s_iload_n rfl) ?_
    refine rr rfl (s_iaload (j := 0) rfl rfl rfl) ?_
    refine rr rfl (s_ifF (ic_nne g1)) ?_
    refine rr rfl (s_aload_n rfl) ?_
    refine rr rfl (s_getf rfl rfl) ?_
    refine rr rfl (s_aload_n rfl) ?_
    refine rr rfl (s_getf rfl rfl) ?_
    refine rr rfl (s_iload_n rfl) ?_
    refine rr rfl (s_iaload (j := 0) rfl rfl rfl) ?_
    refine rr rfl (s_ialdH rfl g12 g10 g11) ?_
    refine rr rfl (s_istore rfl) ?_
    refine rr rfl (s_aload_n rfl) ?_
    refine rr rfl (s_getf rfl rfl) ?_
    refine rr rfl (s_iload_n rfl) ?_
    refine rr rfl (s_iaload (j := 0) rfl rfl rfl) ?_
    refine rr rfl (s_iconst (v := (-1)) (by decide)) ?_
    refine rr rfl (s_icF (ic_neq g4)) ?_
    refine rr rfl (s_aload_n rfl) ?_
    refine rr rfl (s_getf rfl rfl) ?_
    refine rr rfl (s_aload_n rfl) ?_
    refine rr rfl (s_getf rfl rfl) ?_
    refine rr rfl (s_iload_n rfl) ?_
    refine rr rfl (s_iaload (j := 0) rfl rfl rfl) ?_
    refine rr rfl (s_ialdH rfl g13 g10 g11) ?_
    refine rr rfl (s_iload rfl) ?_
    refine rr rfl (s_icT (by decide)) ?_
    refine rr rfl (s_iload rfl) ?_
    refine rr rfl (s_istore rfl) ?_
    refine rr rfl (s_aload_n rfl) ?_
    refine rr rfl (s_getf rfl rfl) ?_
    refine rr rfl (s_iload_n rfl) ?_
    refine rr rfl (s_iaload (j := 0) rfl rfl rfl) ?_
    refine rr rfl (s_iconst (v := (-1)) (by decide)) ?_
    refine rr rfl (s_icF (ic_neq g7)) ?_
    refine rr rfl (s_aload_n rfl) ?_
    refine rr rfl (s_getf rfl rfl) ?_
    refine rr rfl (s_aload_n rfl) ?_
    refine rr rfl (s_getf rfl rfl) ?_
    refine rr rfl (s_iload_n rfl) ?_
    refine rr rfl (s_iaload (j := 0) rfl rfl rfl) ?_
    refine rr rfl (s_ialdN rfl g14 g8 g9 g10) ?_
    refine rr rfl (s_iconst (v := 1) (by decide)) ?_
    refine rr rfl (s_iadd (v := 1) (by decide)) ?_
    refine rr rfl (s_iload rfl) ?_
    refine rr rfl (s_icT (by decide)) ?_
    refine rr rfl (s_iload rfl) ?_
    refine rr rfl (s_istore rfl) ?_
    refine rr rfl (s_iload rfl) ?_
    refine rr rfl (s_aload_n rfl) ?_
    refine rr rfl (s_getf rfl rfl) ?_
    refine rr rfl (s_aload_n rfl) ?_
    refine rr rfl (s_getf rfl rfl) ?_
    refine rr rfl (s_iload_n rfl) ?_
    refine rr rfl (s_iaload (j := 0) rfl rfl rfl) ?_
    refine rr rfl (s_ialdH rfl rfl g10 g11) ?_
    refine rr rfl (s_icT (by decide)) ?_
    refine rr rfl (s_iinc (v := 1) rfl (by decide) rfl) ?_
    refine rr rfl s_goto ?_
    refine rr rfl (s_iload_n rfl) ?_
    refine rr rfl (s_aload_n rfl) ?_
    refine rr rfl (s_getf rfl rfl) ?_
    refine rr rfl (s_icT (by decide)) ?_
    refine rr rfl s_goto ?_
    refine rr rfl (s_iload_n rfl) ?_
    refine rr rfl (s_ifT (by decide)) ?_
    refine rr rfl (s_iload_n rfl) ?_
    exact rrt rfl rfl rfl rfl
  refine rrc rfl rfl rfl (do_of g_X9_lays rfl rfl e2) ?_
  refine rr rfl (s_istore rfl) ?_
  refine rr rfl (s_iload rfl) ?_
  refine rr rfl (s_ifF (by decide)) ?_
  refine rr rfl (s_aload_n rfl) ?_
  refine rr rfl (s_getf rfl rfl) ?_
  refine rr rfl (s_bipush (v := 12) (by decide)) ?_
  refine rr rfl (s_icT (by decide)) ?_
  refine rr rfl (s_aload_n rfl) ?_
  refine rr rfl (s_getf rfl rfl) ?_
  refine rr rfl (s_iconst (v := 1) (by decide)) ?_
  refine rr rfl (s_isub (v := 0) (by decide)) ?_
  exact rrt rfl rfl rfl rfl
set_option maxHeartbeats 4000000 in
set_option maxRecDepth 10000 in
theorem rm_Nmho {x1 x2 x3 x4 x5 x6 x7 : Int32} (g1 : x2 = 0) (g2 : ¬ x4 < 0) (g3 : x4 < nI 8) (g4 : x5 = (-1)) (g5 : ¬ x6 = (-1)) (g6 : ¬ x6 < 0) (g7 : x6 < nI 8) (g8 : ¬ x3 < 0) (g9 : x3 < nI 8) (g10 : ¬ x4 = x3) (g11 : x6 = x3) : a_run MT [] (a_m MT [] 100000 10) 11 (some .int) tabX9_rule 90000 95 (alQ x1 x2 x3 x4 x5 x6 x7) [] ((hF.set 5 (.inl ((List.replicate 8 (0 : Int32)).set (Int32.toNatClampNeg x3) 8))) ++ [.inr (.inr (2, [.int x1, .int x2, .int x3, .int x4, .int x4, .int x6, .int x7, .int ((1 <<< (x4 &&& 31) : Int32) ||| (1 <<< (x4 &&& 31) : Int32)), .int (1 <<< (x6 &&& 31) : Int32), .int (-1)]))]) 0 0 = some (some (.int (-3)), ((((((((((hF.set 5 (.inl ((List.replicate 8 (0 : Int32)).set (Int32.toNatClampNeg x3) 8))).set 42 (.inl [x1, 0, 0, 0, 0, 0, 0, 0, 0, 0, 0, 0, 0])).set 43 (.inl [x2, 0, 0, 0, 0, 0, 0, 0, 0, 0, 0, 0, 0])).set 44 (.inl [x3, 0, 0, 0, 0, 0, 0, 0, 0, 0, 0, 0, 0])).set 45 (.inl [x4, 0, 0, 0, 0, 0, 0, 0, 0, 0, 0, 0, 0])).set 46 (.inl [x5, 0, 0, 0, 0, 0, 0, 0, 0, 0, 0, 0, 0])).set 47 (.inl [x6, 0, 0, 0, 0, 0, 0, 0, 0, 0, 0, 0, 0])).set 48 (.inl [x7, 0, 0, 0, 0, 0, 0, 0, 0, 0, 0, 0, 0])).set 49 (.inl [(-1), 0, 0, 0, 0, 0, 0, 0, 0, 0, 0, 0, 0])) ++ [.inr (.inr (2, [.int x1, .int x2, .int x3, .int x4, .int x4, .int x6, .int x7, .int ((1 <<< (x4 &&& 31) : Int32) ||| (1 <<< (x4 &&& 31) : Int32)), .int (1 <<< (x6 &&& 31) : Int32), .int (-1)]))]), 0, 0) := by
  refine rr rfl (s_aload_n rfl) ?_
  refine rr rfl (s_aload_n rfl) ?_
  refine rr rfl (s_getf rfl rfl) ?_
  refine rr rfl (s_iload_n rfl) ?_
  refine rr rfl (s_iload_n rfl) ?_
  refine rr rfl (s_iload_n rfl) ?_
  refine rr rfl (s_iload rfl) ?_
  refine rr rfl (s_iload rfl) ?_
  refine rr rfl (s_iload rfl) ?_
  refine rr rfl (s_iload rfl) ?_
  have e1 : a_m MT [] 100000 10 miX9_sets [.ref 41, .int 0, .int x1, .int x2, .int x3, .int x4, .int x5, .int x6, .int x7] ((hF.set 5 (.inl ((List.replicate 8 (0 : Int32)).set (Int32.toNatClampNeg x3) 8))) ++ [.inr (.inr (2, [.int x1, .int x2, .int x3, .int x4, .int x4, .int x6, .int x7, .int ((1 <<< (x4 &&& 31) : Int32) ||| (1 <<< (x4 &&& 31) : Int32)), .int (1 <<< (x6 &&& 31) : Int32), .int (-1)]))]) = some (none, ((((((((((hF.set 5 (.inl ((List.replicate 8 (0 : Int32)).set (Int32.toNatClampNeg x3) 8))).set 42 (.inl [x1, 0, 0, 0, 0, 0, 0, 0, 0, 0, 0, 0, 0])).set 43 (.inl [x2, 0, 0, 0, 0, 0, 0, 0, 0, 0, 0, 0, 0])).set 44 (.inl [x3, 0, 0, 0, 0, 0, 0, 0, 0, 0, 0, 0, 0])).set 45 (.inl [x4, 0, 0, 0, 0, 0, 0, 0, 0, 0, 0, 0, 0])).set 46 (.inl [x5, 0, 0, 0, 0, 0, 0, 0, 0, 0, 0, 0, 0])).set 47 (.inl [x6, 0, 0, 0, 0, 0, 0, 0, 0, 0, 0, 0, 0])).set 48 (.inl [x7, 0, 0, 0, 0, 0, 0, 0, 0, 0, 0, 0, 0])).set 49 (.inl [(-1), 0, 0, 0, 0, 0, 0, 0, 0, 0, 0, 0, 0])) ++ [.inr (.inr (2, [.int x1, .int x2, .int x3, .int x4, .int x4, .int x6, .int x7, .int ((1 <<< (x4 &&& 31) : Int32) ||| (1 <<< (x4 &&& 31) : Int32)), .int (1 <<< (x6 &&& 31) : Int32), .int (-1)]))]), 0, 0) := by
    refine me (d := 9) g_X9_sets (Nat.le_of_ble_eq_true rfl) ?_
    refine rr rfl (s_aload_n rfl) ?_
    refine rr rfl (s_getf rfl rfl) ?_
    refine rr rfl (s_iload_n rfl) ?_
    refine rr rfl (s_iload_n rfl) ?_
    refine rr rfl (s_iastore (j := 0) (f' := [x1, 0, 0, 0, 0, 0, 0, 0, 0, 0, 0, 0, 0]) rfl rfl (Nat.le_of_ble_eq_true rfl) rfl (Nat.le_of_ble_eq_true rfl) rfl (h' := (((hF.set 5 (.inl ((List.replicate 8 (0 : Int32)).set (Int32.toNatClampNeg x3) 8))).set 42 (.inl [x1, 0, 0, 0, 0, 0, 0, 0, 0, 0, 0, 0, 0])) ++ [.inr (.inr (2, [.int x1, .int x2, .int x3, .int x4, .int x4, .int x6, .int x7, .int ((1 <<< (x4 &&& 31) : Int32) ||| (1 <<< (x4 &&& 31) : Int32)), .int (1 <<< (x6 &&& 31) : Int32), .int (-1)]))]))) ?_
    refine rr rfl (s_aload_n rfl) ?_
    refine rr rfl (s_getf rfl rfl) ?_
    refine rr rfl (s_iload_n rfl) ?_
    refine rr rfl (s_iload_n rfl) ?_
    refine rr rfl (s_iastore (j := 0) (f' := [x2, 0, 0, 0, 0, 0, 0, 0, 0, 0, 0, 0, 0]) rfl rfl (Nat.le_of_ble_eq_true rfl) rfl (Nat.le_of_ble_eq_true rfl) rfl (h' := ((((hF.set 5 (.inl ((List.replicate 8 (0 : Int32)).set (Int32.toNatClampNeg x3) 8))).set 42 (.inl [x1, 0, 0, 0, 0, 0, 0, 0, 0, 0, 0, 0, 0])).set 43 (.inl [x2, 0, 0, 0, 0, 0, 0, 0, 0, 0, 0, 0, 0])) ++ [.inr (.inr (2, [.int x1, .int x2, .int x3, .int x4, .int x4, .int x6, .int x7, .int ((1 <<< (x4 &&& 31) : Int32) ||| (1 <<< (x4 &&& 31) : Int32)), .int (1 <<< (x6 &&& 31) : Int32), .int (-1)]))]))) ?_
    refine rr rfl (s_aload_n rfl) ?_
    refine rr rfl (s_getf rfl rfl) ?_
    refine rr rfl (s_iload_n rfl) ?_
    refine rr rfl (s_iload rfl) ?_
    refine rr rfl (s_iastore (j := 0) (f' := [x3, 0, 0, 0, 0, 0, 0, 0, 0, 0, 0, 0, 0]) rfl rfl (Nat.le_of_ble_eq_true rfl) rfl (Nat.le_of_ble_eq_true rfl) rfl (h' := (((((hF.set 5 (.inl ((List.replicate 8 (0 : Int32)).set (Int32.toNatClampNeg x3) 8))).set 42 (.inl [x1, 0, 0, 0, 0, 0, 0, 0, 0, 0, 0, 0, 0])).set 43 (.inl [x2, 0, 0, 0, 0, 0, 0, 0, 0, 0, 0, 0, 0])).set 44 (.inl [x3, 0, 0, 0, 0, 0, 0, 0, 0, 0, 0, 0, 0])) ++ [.inr (.inr (2, [.int x1, .int x2, .int x3, .int x4, .int x4, .int x6, .int x7, .int ((1 <<< (x4 &&& 31) : Int32) ||| (1 <<< (x4 &&& 31) : Int32)), .int (1 <<< (x6 &&& 31) : Int32), .int (-1)]))]))) ?_
    refine rr rfl (s_aload_n rfl) ?_
    refine rr rfl (s_getf rfl rfl) ?_
    refine rr rfl (s_iload_n rfl) ?_
    refine rr rfl (s_iload rfl) ?_
    refine rr rfl (s_iastore (j := 0) (f' := [x4, 0, 0, 0, 0, 0, 0, 0, 0, 0, 0, 0, 0]) rfl rfl (Nat.le_of_ble_eq_true rfl) rfl (Nat.le_of_ble_eq_true rfl) rfl (h' := ((((((hF.set 5 (.inl ((List.replicate 8 (0 : Int32)).set (Int32.toNatClampNeg x3) 8))).set 42 (.inl [x1, 0, 0, 0, 0, 0, 0, 0, 0, 0, 0, 0, 0])).set 43 (.inl [x2, 0, 0, 0, 0, 0, 0, 0, 0, 0, 0, 0, 0])).set 44 (.inl [x3, 0, 0, 0, 0, 0, 0, 0, 0, 0, 0, 0, 0])).set 45 (.inl [x4, 0, 0, 0, 0, 0, 0, 0, 0, 0, 0, 0, 0])) ++ [.inr (.inr (2, [.int x1, .int x2, .int x3, .int x4, .int x4, .int x6, .int x7, .int ((1 <<< (x4 &&& 31) : Int32) ||| (1 <<< (x4 &&& 31) : Int32)), .int (1 <<< (x6 &&& 31) : Int32), .int (-1)]))]))) ?_
    refine rr rfl (s_aload_n rfl) ?_
    refine rr rfl (s_getf rfl rfl) ?_
    refine rr rfl (s_iload_n rfl) ?_
    refine rr rfl (s_iload rfl) ?_
    refine rr rfl (s_iastore (j := 0) (f' := [x5, 0, 0, 0, 0, 0, 0, 0, 0, 0, 0, 0, 0]) rfl rfl (Nat.le_of_ble_eq_true rfl) rfl (Nat.le_of_ble_eq_true rfl) rfl (h' := (((((((hF.set 5 (.inl ((List.replicate 8 (0 : Int32)).set (Int32.toNatClampNeg x3) 8))).set 42 (.inl [x1, 0, 0, 0, 0, 0, 0, 0, 0, 0, 0, 0, 0])).set 43 (.inl [x2, 0, 0, 0, 0, 0, 0, 0, 0, 0, 0, 0, 0])).set 44 (.inl [x3, 0, 0, 0, 0, 0, 0, 0, 0, 0, 0, 0, 0])).set 45 (.inl [x4, 0, 0, 0, 0, 0, 0, 0, 0, 0, 0, 0, 0])).set 46 (.inl [x5, 0, 0, 0, 0, 0, 0, 0, 0, 0, 0, 0, 0])) ++ [.inr (.inr (2, [.int x1, .int x2, .int x3, .int x4, .int x4, .int x6, .int x7, .int ((1 <<< (x4 &&& 31) : Int32) ||| (1 <<< (x4 &&& 31) : Int32)), .int (1 <<< (x6 &&& 31) : Int32), .int (-1)]))]))) ?_
    refine rr rfl (s_aload_n rfl) ?_
    refine rr rfl (s_getf rfl rfl) ?_
    refine rr rfl (s_iload_n rfl) ?_
    refine rr rfl (s_iload rfl) ?_
    refine rr rfl (s_iastore (j := 0) (f' := [x6, 0, 0, 0, 0, 0, 0, 0, 0, 0, 0, 0, 0]) rfl rfl (Nat.le_of_ble_eq_true rfl) rfl (Nat.le_of_ble_eq_true rfl) rfl (h' := ((((((((hF.set 5 (.inl ((List.replicate 8 (0 : Int32)).set (Int32.toNatClampNeg x3) 8))).set 42 (.inl [x1, 0, 0, 0, 0, 0, 0, 0, 0, 0, 0, 0, 0])).set 43 (.inl [x2, 0, 0, 0, 0, 0, 0, 0, 0, 0, 0, 0, 0])).set 44 (.inl [x3, 0, 0, 0, 0, 0, 0, 0, 0, 0, 0, 0, 0])).set 45 (.inl [x4, 0, 0, 0, 0, 0, 0, 0, 0, 0, 0, 0, 0])).set 46 (.inl [x5, 0, 0, 0, 0, 0, 0, 0, 0, 0, 0, 0, 0])).set 47 (.inl [x6, 0, 0, 0, 0, 0, 0, 0, 0, 0, 0, 0, 0])) ++ [.inr (.inr (2, [.int x1, .int x2, .int x3, .int x4, .int x4, .int x6, .int x7, .int ((1 <<< (x4 &&& 31) : Int32) ||| (1 <<< (x4 &&& 31) : Int32)), .int (1 <<< (x6 &&& 31) : Int32), .int (-1)]))]))) ?_
    refine rr rfl (s_aload_n rfl) ?_
    refine rr rfl (s_getf rfl rfl) ?_
    refine rr rfl (s_iload_n rfl) ?_
    refine rr rfl (s_iload rfl) ?_
    refine rr rfl (s_iastore (j := 0) (f' := [x7, 0, 0, 0, 0, 0, 0, 0, 0, 0, 0, 0, 0]) rfl rfl (Nat.le_of_ble_eq_true rfl) rfl (Nat.le_of_ble_eq_true rfl) rfl (h' := (((((((((hF.set 5 (.inl ((List.replicate 8 (0 : Int32)).set (Int32.toNatClampNeg x3) 8))).set 42 (.inl [x1, 0, 0, 0, 0, 0, 0, 0, 0, 0, 0, 0, 0])).set 43 (.inl [x2, 0, 0, 0, 0, 0, 0, 0, 0, 0, 0, 0, 0])).set 44 (.inl [x3, 0, 0, 0, 0, 0, 0, 0, 0, 0, 0, 0, 0])).set 45 (.inl [x4, 0, 0, 0, 0, 0, 0, 0, 0, 0, 0, 0, 0])).set 46 (.inl [x5, 0, 0, 0, 0, 0, 0, 0, 0, 0, 0, 0, 0])).set 47 (.inl [x6, 0, 0, 0, 0, 0, 0, 0, 0, 0, 0, 0, 0])).set 48 (.inl [x7, 0, 0, 0, 0, 0, 0, 0, 0, 0, 0, 0, 0])) ++ [.inr (.inr (2, [.int x1, .int x2, .int x3, .int x4, .int x4, .int x6, .int x7, .int ((1 <<< (x4 &&& 31) : Int32) ||| (1 <<< (x4 &&& 31) : Int32)), .int (1 <<< (x6 &&& 31) : Int32), .int (-1)]))]))) ?_
    refine rr rfl (s_aload_n rfl) ?_
    refine rr rfl (s_getf rfl rfl) ?_
    refine rr rfl (s_iload_n rfl) ?_
    refine rr rfl (s_iconst (v := (-1)) (by decide)) ?_
    refine rr rfl (s_iastore (j := 0) (f' := [(-1), 0, 0, 0, 0, 0, 0, 0, 0, 0, 0, 0, 0]) rfl rfl (Nat.le_of_ble_eq_true rfl) rfl (Nat.le_of_ble_eq_true rfl) rfl (h' := ((((((((((hF.set 5 (.inl ((List.replicate 8 (0 : Int32)).set (Int32.toNatClampNeg x3) 8))).set 42 (.inl [x1, 0, 0, 0, 0, 0, 0, 0, 0, 0, 0, 0, 0])).set 43 (.inl [x2, 0, 0, 0, 0, 0, 0, 0, 0, 0, 0, 0, 0])).set 44 (.inl [x3, 0, 0, 0, 0, 0, 0, 0, 0, 0, 0, 0, 0])).set 45 (.inl [x4, 0, 0, 0, 0, 0, 0, 0, 0, 0, 0, 0, 0])).set 46 (.inl [x5, 0, 0, 0, 0, 0, 0, 0, 0, 0, 0, 0, 0])).set 47 (.inl [x6, 0, 0, 0, 0, 0, 0, 0, 0, 0, 0, 0, 0])).set 48 (.inl [x7, 0, 0, 0, 0, 0, 0, 0, 0, 0, 0, 0, 0])).set 49 (.inl [(-1), 0, 0, 0, 0, 0, 0, 0, 0, 0, 0, 0, 0])) ++ [.inr (.inr (2, [.int x1, .int x2, .int x3, .int x4, .int x4, .int x6, .int x7, .int ((1 <<< (x4 &&& 31) : Int32) ||| (1 <<< (x4 &&& 31) : Int32)), .int (1 <<< (x6 &&& 31) : Int32), .int (-1)]))]))) ?_
    exact rrt rfl rfl rfl rfl
  refine rrc rfl rfl rfl (do_of g_X9_sets rfl rfl e1) ?_
  refine rr rfl (s_aload_n rfl) ?_
  refine rr rfl rfl ?_
  refine rr rfl (s_getf rfl rfl) ?_
  refine rr rfl (s_iconst (v := 1) (by decide)) ?_
  refine rr rfl (s_iadd (v := 1) (by decide)) ?_
  refine rr rfl (s_putf rfl rfl (Nat.le_of_ble_eq_true rfl) rfl (Nat.le_of_ble_eq_true rfl) rfl (h' := (((((((((((hF.set 5 (.inl ((List.replicate 8 (0 : Int32)).set (Int32.toNatClampNeg x3) 8))).set 41 (.inr (.inr (9, [.int 4, .int 1, .ref 42, .ref 43, .ref 44, .ref 45, .ref 46, .ref 47, .ref 48, .ref 49, .ref 50, .ref 51, .int 0, .int 0, .int 0, .int 0, .int 0, .int 0, .int 0, .int 0, .ref 52, .int 0, .ref 53, .int 0, .ref 54, .int 0, .ref 55, .ref 56, .ref 57, .ref 58, .int 0, .ref 59, .ref 60])))).set 42 (.inl [x1, 0, 0, 0, 0, 0, 0, 0, 0, 0, 0, 0, 0])).set 43 (.inl [x2, 0, 0, 0, 0, 0, 0, 0, 0, 0, 0, 0, 0])).set 44 (.inl [x3, 0, 0, 0, 0, 0, 0, 0, 0, 0, 0, 0, 0])).set 45 (.inl [x4, 0, 0, 0, 0, 0, 0, 0, 0, 0, 0, 0, 0])).set 46 (.inl [x5, 0, 0, 0, 0, 0, 0, 0, 0, 0, 0, 0, 0])).set 47 (.inl [x6, 0, 0, 0, 0, 0, 0, 0, 0, 0, 0, 0, 0])).set 48 (.inl [x7, 0, 0, 0, 0, 0, 0, 0, 0, 0, 0, 0, 0])).set 49 (.inl [(-1), 0, 0, 0, 0, 0, 0, 0, 0, 0, 0, 0, 0])) ++ [.inr (.inr (2, [.int x1, .int x2, .int x3, .int x4, .int x4, .int x6, .int x7, .int ((1 <<< (x4 &&& 31) : Int32) ||| (1 <<< (x4 &&& 31) : Int32)), .int (1 <<< (x6 &&& 31) : Int32), .int (-1)]))]))) ?_
  refine rr rfl (s_aload_n rfl) ?_
  have e2 : a_m MT [] 100000 10 miX9_lays [.ref 41] (((((((((((hF.set 5 (.inl ((List.replicate 8 (0 : Int32)).set (Int32.toNatClampNeg x3) 8))).set 41 (.inr (.inr (9, [.int 4, .int 1, .ref 42, .ref 43, .ref 44, .ref 45, .ref 46, .ref 47, .ref 48, .ref 49, .ref 50, .ref 51, .int 0, .int 0, .int 0, .int 0, .int 0, .int 0, .int 0, .int 0, .ref 52, .int 0, .ref 53, .int 0, .ref 54, .int 0, .ref 55, .ref 56, .ref 57, .ref 58, .int 0, .ref 59, .ref 60])))).set 42 (.inl [x1, 0, 0, 0, 0, 0, 0, 0, 0, 0, 0, 0, 0])).set 43 (.inl [x2, 0, 0, 0, 0, 0, 0, 0, 0, 0, 0, 0, 0])).set 44 (.inl [x3, 0, 0, 0, 0, 0, 0, 0, 0, 0, 0, 0, 0])).set 45 (.inl [x4, 0, 0, 0, 0, 0, 0, 0, 0, 0, 0, 0, 0])).set 46 (.inl [x5, 0, 0, 0, 0, 0, 0, 0, 0, 0, 0, 0, 0])).set 47 (.inl [x6, 0, 0, 0, 0, 0, 0, 0, 0, 0, 0, 0, 0])).set 48 (.inl [x7, 0, 0, 0, 0, 0, 0, 0, 0, 0, 0, 0, 0])).set 49 (.inl [(-1), 0, 0, 0, 0, 0, 0, 0, 0, 0, 0, 0, 0])) ++ [.inr (.inr (2, [.int x1, .int x2, .int x3, .int x4, .int x4, .int x6, .int x7, .int ((1 <<< (x4 &&& 31) : Int32) ||| (1 <<< (x4 &&& 31) : Int32)), .int (1 <<< (x6 &&& 31) : Int32), .int (-1)]))]) = some ((some (.int 0)), ((((((((((((hF.set 5 (.inl ((List.replicate 8 (0 : Int32)).set (Int32.toNatClampNeg x3) 8))).set 41 (.inr (.inr (9, [.int 4, .int 1, .ref 42, .ref 43, .ref 44, .ref 45, .ref 46, .ref 47, .ref 48, .ref 49, .ref 50, .ref 51, .int 0, .int 0, .int 0, .int 0, .int 0, .int 0, .int 0, .int 0, .ref 52, .int 0, .ref 53, .int 0, .ref 54, .int 0, .ref 55, .ref 56, .ref 57, .ref 58, .int 0, .ref 59, .ref 60])))).set 42 (.inl [x1, 0, 0, 0, 0, 0, 0, 0, 0, 0, 0, 0, 0])).set 43 (.inl [x2, 0, 0, 0, 0, 0, 0, 0, 0, 0, 0, 0, 0])).set 44 (.inl [x3, 0, 0, 0, 0, 0, 0, 0, 0, 0, 0, 0, 0])).set 45 (.inl [x4, 0, 0, 0, 0, 0, 0, 0, 0, 0, 0, 0, 0])).set 46 (.inl [x5, 0, 0, 0, 0, 0, 0, 0, 0, 0, 0, 0, 0])).set 47 (.inl [x6, 0, 0, 0, 0, 0, 0, 0, 0, 0, 0, 0, 0])).set 48 (.inl [x7, 0, 0, 0, 0, 0, 0, 0, 0, 0, 0, 0, 0])).set 49 (.inl [(-1), 0, 0, 0, 0, 0, 0, 0, 0, 0, 0, 0, 0])).set 51 (.inl ((List.replicate 8 (0 : Int32)).set (Int32.toNatClampNeg x3) 8))) ++ [.inr (.inr (2, [.int x1, .int x2, .int x3, .int x4, .int x4, .int x6, .int x7, .int ((1 <<< (x4 &&& 31) : Int32) ||| (1 <<< (x4 &&& 31) : Int32)), .int (1 <<< (x6 &&& 31) : Int32), .int (-1)]))]), 0, 0) := by
    refine me (d := 9) g_X9_lays (Nat.le_of_ble_eq_true rfl) ?_
    refine rr rfl (s_iconst (v := 0) (by decide)) ?_
    refine rr rfl (s_istore_n rfl) ?_
    refine rr rfl (s_iload_n rfl) ?_
    refine rr rfl (s_bipush (v := 8) (by decide)) ?_
    refine rr rfl (s_icF (by decide)) ?_
    refine rr rfl (s_aload_n rfl) ?_
    refine rr rfl (s_getf rfl rfl) ?_
    refine rr rfl (s_iload_n rfl) ?_
    refine rr rfl (s_iconst (v := 0) (by decide)) ?_
    refine rr rfl (s_iastore (j := 0) (f' := (List.replicate 8 0)) rfl rfl (Nat.le_of_ble_eq_true rfl) rfl (Nat.le_of_ble_eq_true rfl) rfl (h' := (((((((((((hF.set 5 (.inl ((List.replicate 8 (0 : Int32)).set (Int32.toNatClampNeg x3) 8))).set 41 (.inr (.inr (9, [.int 4, .int 1, .ref 42, .ref 43, .ref 44, .ref 45, .ref 46, .ref 47, .ref 48, .ref 49, .ref 50, .ref 51, .int 0, .int 0, .int 0, .int 0, .int 0, .int 0, .int 0, .int 0, .ref 52, .int 0, .ref 53, .int 0, .ref 54, .int 0, .ref 55, .ref 56, .ref 57, .ref 58, .int 0, .ref 59, .ref 60])))).set 42 (.inl [x1, 0, 0, 0, 0, 0, 0, 0, 0, 0, 0, 0, 0])).set 43 (.inl [x2, 0, 0, 0, 0, 0, 0, 0, 0, 0, 0, 0, 0])).set 44 (.inl [x3, 0, 0, 0, 0, 0, 0, 0, 0, 0, 0, 0, 0])).set 45 (.inl [x4, 0, 0, 0, 0, 0, 0, 0, 0, 0, 0, 0, 0])).set 46 (.inl [x5, 0, 0, 0, 0, 0, 0, 0, 0, 0, 0, 0, 0])).set 47 (.inl [x6, 0, 0, 0, 0, 0, 0, 0, 0, 0, 0, 0, 0])).set 48 (.inl [x7, 0, 0, 0, 0, 0, 0, 0, 0, 0, 0, 0, 0])).set 49 (.inl [(-1), 0, 0, 0, 0, 0, 0, 0, 0, 0, 0, 0, 0])) ++ [.inr (.inr (2, [.int x1, .int x2, .int x3, .int x4, .int x4, .int x6, .int x7, .int ((1 <<< (x4 &&& 31) : Int32) ||| (1 <<< (x4 &&& 31) : Int32)), .int (1 <<< (x6 &&& 31) : Int32), .int (-1)]))]))) ?_
    refine rr rfl (s_iinc (v := 1) rfl (by decide) rfl) ?_
    refine rr rfl s_goto ?_
    refine rr rfl (s_iload_n rfl) ?_
    refine rr rfl (s_bipush (v := 8) (by decide)) ?_
    refine rr rfl (s_icF (by decide)) ?_
    refine rr rfl (s_aload_n rfl) ?_
    refine rr rfl (s_getf rfl rfl) ?_
    refine rr rfl (s_iload_n rfl) ?_
    refine rr rfl (s_iconst (v := 0) (by decide)) ?_
    refine rr rfl (s_iastore (j := 1) (f' := (List.replicate 8 0)) rfl rfl (Nat.le_of_ble_eq_true rfl) rfl (Nat.le_of_ble_eq_true rfl) rfl (h' := (((((((((((hF.set 5 (.inl ((List.replicate 8 (0 : Int32)).set (Int32.toNatClampNeg x3) 8))).set 41 (.inr (.inr (9, [.int 4, .int 1, .ref 42, .ref 43, .ref 44, .ref 45, .ref 46, .ref 47, .ref 48, .ref 49, .ref 50, .ref 51, .int 0, .int 0, .int 0, .int 0, .int 0, .int 0, .int 0, .int 0, .ref 52, .int 0, .ref 53, .int 0, .ref 54, .int 0, .ref 55, .ref 56, .ref 57, .ref 58, .int 0, .ref 59, .ref 60])))).set 42 (.inl [x1, 0, 0, 0, 0, 0, 0, 0, 0, 0, 0, 0, 0])).set 43 (.inl [x2, 0, 0, 0, 0, 0, 0, 0, 0, 0, 0, 0, 0])).set 44 (.inl [x3, 0, 0, 0, 0, 0, 0, 0, 0, 0, 0, 0, 0])).set 45 (.inl [x4, 0, 0, 0, 0, 0, 0, 0, 0, 0, 0, 0, 0])).set 46 (.inl [x5, 0, 0, 0, 0, 0, 0, 0, 0, 0, 0, 0, 0])).set 47 (.inl [x6, 0, 0, 0, 0, 0, 0, 0, 0, 0, 0, 0, 0])).set 48 (.inl [x7, 0, 0, 0, 0, 0, 0, 0, 0, 0, 0, 0, 0])).set 49 (.inl [(-1), 0, 0, 0, 0, 0, 0, 0, 0, 0, 0, 0, 0])) ++ [.inr (.inr (2, [.int x1, .int x2, .int x3, .int x4, .int x4, .int x6, .int x7, .int ((1 <<< (x4 &&& 31) : Int32) ||| (1 <<< (x4 &&& 31) : Int32)), .int (1 <<< (x6 &&& 31) : Int32), .int (-1)]))]))) ?_
    refine rr rfl (s_iinc (v := 2) rfl (by decide) rfl) ?_
    refine rr rfl s_goto ?_
    refine rr rfl (s_iload_n rfl) ?_
    refine rr rfl (s_bipush (v := 8) (by decide)) ?_
    refine rr rfl (s_icF (by decide)) ?_
    refine rr rfl (s_aload_n rfl) ?_
    refine rr rfl (s_getf rfl rfl) ?_
    refine rr rfl (s_iload_n rfl) ?_
    refine rr rfl (s_iconst (v := 0) (by decide)) ?_
    refine rr rfl (s_iastore (j := 2) (f' := (List.replicate 8 0)) rfl rfl (Nat.le_of_ble_eq_true rfl) rfl (Nat.le_of_ble_eq_true rfl) rfl (h' := (((((((((((hF.set 5 (.inl ((List.replicate 8 (0 : Int32)).set (Int32.toNatClampNeg x3) 8))).set 41 (.inr (.inr (9, [.int 4, .int 1, .ref 42, .ref 43, .ref 44, .ref 45, .ref 46, .ref 47, .ref 48, .ref 49, .ref 50, .ref 51, .int 0, .int 0, .int 0, .int 0, .int 0, .int 0, .int 0, .int 0, .ref 52, .int 0, .ref 53, .int 0, .ref 54, .int 0, .ref 55, .ref 56, .ref 57, .ref 58, .int 0, .ref 59, .ref 60])))).set 42 (.inl [x1, 0, 0, 0, 0, 0, 0, 0, 0, 0, 0, 0, 0])).set 43 (.inl [x2, 0, 0, 0, 0, 0, 0, 0, 0, 0, 0, 0, 0])).set 44 (.inl [x3, 0, 0, 0, 0, 0, 0, 0, 0, 0, 0, 0, 0])).set 45 (.inl [x4, 0, 0, 0, 0, 0, 0, 0, 0, 0, 0, 0, 0])).set 46 (.inl [x5, 0, 0, 0, 0, 0, 0, 0, 0, 0, 0, 0, 0])).set 47 (.inl [x6, 0, 0, 0, 0, 0, 0, 0, 0, 0, 0, 0, 0])).set 48 (.inl [x7, 0, 0, 0, 0, 0, 0, 0, 0, 0, 0, 0, 0])).set 49 (.inl [(-1), 0, 0, 0, 0, 0, 0, 0, 0, 0, 0, 0, 0])) ++ [.inr (.inr (2, [.int x1, .int x2, .int x3, .int x4, .int x4, .int x6, .int x7, .int ((1 <<< (x4 &&& 31) : Int32) ||| (1 <<< (x4 &&& 31) : Int32)), .int (1 <<< (x6 &&& 31) : Int32), .int (-1)]))]))) ?_
    refine rr rfl (s_iinc (v := 3) rfl (by decide) rfl) ?_
    refine rr rfl s_goto ?_
    refine rr rfl (s_iload_n rfl) ?_
    refine rr rfl (s_bipush (v := 8) (by decide)) ?_
    refine rr rfl (s_icF (by decide)) ?_
    refine rr rfl (s_aload_n rfl) ?_
    refine rr rfl (s_getf rfl rfl) ?_
    refine rr rfl (s_iload_n rfl) ?_
    refine rr rfl (s_iconst (v := 0) (by decide)) ?_
    refine rr rfl (s_iastore (j := 3) (f' := (List.replicate 8 0)) rfl rfl (Nat.le_of_ble_eq_true rfl) rfl (Nat.le_of_ble_eq_true rfl) rfl (h' := (((((((((((hF.set 5 (.inl ((List.replicate 8 (0 : Int32)).set (Int32.toNatClampNeg x3) 8))).set 41 (.inr (.inr (9, [.int 4, .int 1, .ref 42, .ref 43, .ref 44, .ref 45, .ref 46, .ref 47, .ref 48, .ref 49, .ref 50, .ref 51, .int 0, .int 0, .int 0, .int 0, .int 0, .int 0, .int 0, .int 0, .ref 52, .int 0, .ref 53, .int 0, .ref 54, .int 0, .ref 55, .ref 56, .ref 57, .ref 58, .int 0, .ref 59, .ref 60])))).set 42 (.inl [x1, 0, 0, 0, 0, 0, 0, 0, 0, 0, 0, 0, 0])).set 43 (.inl [x2, 0, 0, 0, 0, 0, 0, 0, 0, 0, 0, 0, 0])).set 44 (.inl [x3, 0, 0, 0, 0, 0, 0, 0, 0, 0, 0, 0, 0])).set 45 (.inl [x4, 0, 0, 0, 0, 0, 0, 0, 0, 0, 0, 0, 0])).set 46 (.inl [x5, 0, 0, 0, 0, 0, 0, 0, 0, 0, 0, 0, 0])).set 47 (.inl [x6, 0, 0, 0, 0, 0, 0, 0, 0, 0, 0, 0, 0])).set 48 (.inl [x7, 0, 0, 0, 0, 0, 0, 0, 0, 0, 0, 0, 0])).set 49 (.inl [(-1), 0, 0, 0, 0, 0, 0, 0, 0, 0, 0, 0, 0])) ++ [.inr (.inr (2, [.int x1, .int x2, .int x3, .int x4, .int x4, .int x6, .int x7, .int ((1 <<< (x4 &&& 31) : Int32) ||| (1 <<< (x4 &&& 31) : Int32)), .int (1 <<< (x6 &&& 31) : Int32), .int (-1)]))]))) ?_
    refine rr rfl (s_iinc (v := 4) rfl (by decide) rfl) ?_
    refine rr rfl s_goto ?_
    refine rr rfl (s_iload_n rfl) ?_
    refine rr rfl (s_bipush (v := 8) (by decide)) ?_
    refine rr rfl (s_icF (by decide)) ?_
    refine rr rfl (s_aload_n rfl) ?_
    refine rr rfl (s_getf rfl rfl) ?_
    refine rr rfl (s_iload_n rfl) ?_
    refine rr rfl (s_iconst (v := 0) (by decide)) ?_
    refine rr rfl (s_iastore (j := 4) (f' := (List.replicate 8 0)) rfl rfl (Nat.le_of_ble_eq_true rfl) rfl (Nat.le_of_ble_eq_true rfl) rfl (h' := (((((((((((hF.set 5 (.inl ((List.replicate 8 (0 : Int32)).set (Int32.toNatClampNeg x3) 8))).set 41 (.inr (.inr (9, [.int 4, .int 1, .ref 42, .ref 43, .ref 44, .ref 45, .ref 46, .ref 47, .ref 48, .ref 49, .ref 50, .ref 51, .int 0, .int 0, .int 0, .int 0, .int 0, .int 0, .int 0, .int 0, .ref 52, .int 0, .ref 53, .int 0, .ref 54, .int 0, .ref 55, .ref 56, .ref 57, .ref 58, .int 0, .ref 59, .ref 60])))).set 42 (.inl [x1, 0, 0, 0, 0, 0, 0, 0, 0, 0, 0, 0, 0])).set 43 (.inl [x2, 0, 0, 0, 0, 0, 0, 0, 0, 0, 0, 0, 0])).set 44 (.inl [x3, 0, 0, 0, 0, 0, 0, 0, 0, 0, 0, 0, 0])).set 45 (.inl [x4, 0, 0, 0, 0, 0, 0, 0, 0, 0, 0, 0, 0])).set 46 (.inl [x5, 0, 0, 0, 0, 0, 0, 0, 0, 0, 0, 0, 0])).set 47 (.inl [x6, 0, 0, 0, 0, 0, 0, 0, 0, 0, 0, 0, 0])).set 48 (.inl [x7, 0, 0, 0, 0, 0, 0, 0, 0, 0, 0, 0, 0])).set 49 (.inl [(-1), 0, 0, 0, 0, 0, 0, 0, 0, 0, 0, 0, 0])) ++ [.inr (.inr (2, [.int x1, .int x2, .int x3, .int x4, .int x4, .int x6, .int x7, .int ((1 <<< (x4 &&& 31) : Int32) ||| (1 <<< (x4 &&& 31) : Int32)), .int (1 <<< (x6 &&& 31) : Int32), .int (-1)]))]))) ?_
    refine rr rfl (s_iinc (v := 5) rfl (by decide) rfl) ?_
    refine rr rfl s_goto ?_
    refine rr rfl (s_iload_n rfl) ?_
    refine rr rfl (s_bipush (v := 8) (by decide)) ?_
    refine rr rfl (s_icF (by decide)) ?_
    refine rr rfl (s_aload_n rfl) ?_
    refine rr rfl (s_getf rfl rfl) ?_
    refine rr rfl (s_iload_n rfl) ?_
    refine rr rfl (s_iconst (v := 0) (by decide)) ?_
    refine rr rfl (s_iastore (j := 5) (f' := (List.replicate 8 0)) rfl rfl (Nat.le_of_ble_eq_true rfl) rfl (Nat.le_of_ble_eq_true rfl) rfl (h' := (((((((((((hF.set 5 (.inl ((List.replicate 8 (0 : Int32)).set (Int32.toNatClampNeg x3) 8))).set 41 (.inr (.inr (9, [.int 4, .int 1, .ref 42, .ref 43, .ref 44, .ref 45, .ref 46, .ref 47, .ref 48, .ref 49, .ref 50, .ref 51, .int 0, .int 0, .int 0, .int 0, .int 0, .int 0, .int 0, .int 0, .ref 52, .int 0, .ref 53, .int 0, .ref 54, .int 0, .ref 55, .ref 56, .ref 57, .ref 58, .int 0, .ref 59, .ref 60])))).set 42 (.inl [x1, 0, 0, 0, 0, 0, 0, 0, 0, 0, 0, 0, 0])).set 43 (.inl [x2, 0, 0, 0, 0, 0, 0, 0, 0, 0, 0, 0, 0])).set 44 (.inl [x3, 0, 0, 0, 0, 0, 0, 0, 0, 0, 0, 0, 0])).set 45 (.inl [x4, 0, 0, 0, 0, 0, 0, 0, 0, 0, 0, 0, 0])).set 46 (.inl [x5, 0, 0, 0, 0, 0, 0, 0, 0, 0, 0, 0, 0])).set 47 (.inl [x6, 0, 0, 0, 0, 0, 0, 0, 0, 0, 0, 0, 0])).set 48 (.inl [x7, 0, 0, 0, 0, 0, 0, 0, 0, 0, 0, 0, 0])).set 49 (.inl [(-1), 0, 0, 0, 0, 0, 0, 0, 0, 0, 0, 0, 0])) ++ [.inr (.inr (2, [.int x1, .int x2, .int x3, .int x4, .int x4, .int x6, .int x7, .int ((1 <<< (x4 &&& 31) : Int32) ||| (1 <<< (x4 &&& 31) : Int32)), .int (1 <<< (x6 &&& 31) : Int32), .int (-1)]))]))) ?_
    refine rr rfl (s_iinc (v := 6) rfl (by decide) rfl) ?_
    refine rr rfl s_goto ?_
    refine rr rfl (s_iload_n rfl) ?_
    refine rr rfl (s_bipush (v := 8) (by decide)) ?_
    refine rr rfl (s_icF (by decide)) ?_
    refine rr rfl (s_aload_n rfl) ?_
    refine rr rfl (s_getf rfl rfl) ?_
    refine rr rfl (s_iload_n rfl) ?_
    refine rr rfl (s_iconst (v := 0) (by decide)) ?_
    refine rr rfl (s_iastore (j := 6) (f' := (List.replicate 8 0)) rfl rfl (Nat.le_of_ble_eq_true rfl) rfl (Nat.le_of_ble_eq_true rfl) rfl (h' := (((((((((((hF.set 5 (.inl ((List.replicate 8 (0 : Int32)).set (Int32.toNatClampNeg x3) 8))).set 41 (.inr (.inr (9, [.int 4, .int 1, .ref 42, .ref 43, .ref 44, .ref 45, .ref 46, .ref 47, .ref 48, .ref 49, .ref 50, .ref 51, .int 0, .int 0, .int 0, .int 0, .int 0, .int 0, .int 0, .int 0, .ref 52, .int 0, .ref 53, .int 0, .ref 54, .int 0, .ref 55, .ref 56, .ref 57, .ref 58, .int 0, .ref 59, .ref 60])))).set 42 (.inl [x1, 0, 0, 0, 0, 0, 0, 0, 0, 0, 0, 0, 0])).set 43 (.inl [x2, 0, 0, 0, 0, 0, 0, 0, 0, 0, 0, 0, 0])).set 44 (.inl [x3, 0, 0, 0, 0, 0, 0, 0, 0, 0, 0, 0, 0])).set 45 (.inl [x4, 0, 0, 0, 0, 0, 0, 0, 0, 0, 0, 0, 0])).set 46 (.inl [x5, 0, 0, 0, 0, 0, 0, 0, 0, 0, 0, 0, 0])).set 47 (.inl [x6, 0, 0, 0, 0, 0, 0, 0, 0, 0, 0, 0, 0])).set 48 (.inl [x7, 0, 0, 0, 0, 0, 0, 0, 0, 0, 0, 0, 0])).set 49 (.inl [(-1), 0, 0, 0, 0, 0, 0, 0, 0, 0, 0, 0, 0])) ++ [.inr (.inr (2, [.int x1, .int x2, .int x3, .int x4, .int x4, .int x6, .int x7, .int ((1 <<< (x4 &&& 31) : Int32) ||| (1 <<< (x4 &&& 31) : Int32)), .int (1 <<< (x6 &&& 31) : Int32), .int (-1)]))]))) ?_
    refine rr rfl (s_iinc (v := 7) rfl (by decide) rfl) ?_
    refine rr rfl s_goto ?_
    refine rr rfl (s_iload_n rfl) ?_
    refine rr rfl (s_bipush (v := 8) (by decide)) ?_
    refine rr rfl (s_icF (by decide)) ?_
    refine rr rfl (s_aload_n rfl) ?_
    refine rr rfl (s_getf rfl rfl) ?_
    refine rr rfl (s_iload_n rfl) ?_
    refine rr rfl (s_iconst (v := 0) (by decide)) ?_
    refine rr rfl (s_iastore (j := 7) (f' := (List.replicate 8 0)) rfl rfl (Nat.le_of_ble_eq_true rfl) rfl (Nat.le_of_ble_eq_true rfl) rfl (h' := (((((((((((hF.set 5 (.inl ((List.replicate 8 (0 : Int32)).set (Int32.toNatClampNeg x3) 8))).set 41 (.inr (.inr (9, [.int 4, .int 1, .ref 42, .ref 43, .ref 44, .ref 45, .ref 46, .ref 47, .ref 48, .ref 49, .ref 50, .ref 51, .int 0, .int 0, .int 0, .int 0, .int 0, .int 0, .int 0, .int 0, .ref 52, .int 0, .ref 53, .int 0, .ref 54, .int 0, .ref 55, .ref 56, .ref 57, .ref 58, .int 0, .ref 59, .ref 60])))).set 42 (.inl [x1, 0, 0, 0, 0, 0, 0, 0, 0, 0, 0, 0, 0])).set 43 (.inl [x2, 0, 0, 0, 0, 0, 0, 0, 0, 0, 0, 0, 0])).set 44 (.inl [x3, 0, 0, 0, 0, 0, 0, 0, 0, 0, 0, 0, 0])).set 45 (.inl [x4, 0, 0, 0, 0, 0, 0, 0, 0, 0, 0, 0, 0])).set 46 (.inl [x5, 0, 0, 0, 0, 0, 0, 0, 0, 0, 0, 0, 0])).set 47 (.inl [x6, 0, 0, 0, 0, 0, 0, 0, 0, 0, 0, 0, 0])).set 48 (.inl [x7, 0, 0, 0, 0, 0, 0, 0, 0, 0, 0, 0, 0])).set 49 (.inl [(-1), 0, 0, 0, 0, 0, 0, 0, 0, 0, 0, 0, 0])) ++ [.inr (.inr (2, [.int x1, .int x2, .int x3, .int x4, .int x4, .int x6, .int x7, .int ((1 <<< (x4 &&& 31) : Int32) ||| (1 <<< (x4 &&& 31) : Int32)), .int (1 <<< (x6 &&& 31) : Int32), .int (-1)]))]))) ?_
    refine rr rfl (s_iinc (v := 8) rfl (by decide) rfl) ?_
    refine rr rfl s_goto ?_
    refine rr rfl (s_iload_n rfl) ?_
    refine rr rfl (s_bipush (v := 8) (by decide)) ?_
    refine rr rfl (s_icT (by decide)) ?_
    refine rr rfl (s_iconst (v := 1) (by decide)) ?_
    refine rr rfl (s_istore_n rfl) ?_
    refine rr rfl (s_iconst (v := 1) (by decide)) ?_
    refine rr rfl (s_istore_n rfl) ?_
    refine rr rfl (s_iload_n rfl) ?_
    refine rr rfl (s_ifF (by decide)) ?_
    refine rr rfl (s_iload_n rfl) ?_
    refine rr rfl (s_ifF (by decide)) ?_
    refine rr rfl (s_iconst (v := 0) (by decide)) ?_
    refine rr rfl (s_istore_n rfl) ?_
    refine rr rfl (s_iconst (v := 0) (by decide)) ?_
    refine rr rfl (s_istore_n rfl) ?_
    refine rr rfl (s_iload_n rfl) ?_
    refine rr rfl (s_aload_n rfl) ?_
    refine rr rfl (s_getf rfl rfl) ?_
    refine rr rfl (s_icF (by decide)) ?_
    refine rr rfl (s_iconst (v := 0) (by decide)) ?_
    refine rr rfl (s_istore rfl) ?_
    refine rr rfl (s_aload_n rfl) ?_
    refine rr rfl (s_getf rfl rfl) ?_
    refine rr rfl (s_iload_n rfl) ?_
    refine rr rfl (s_iaload (j := 0) rfl rfl rfl) ?_
    refine rr rfl (s_ifF (ic_nne g1)) ?_
    refine rr rfl (s_aload_n rfl) ?_
    refine rr rfl (s_getf rfl rfl) ?_
    refine rr rfl (s_aload_n rfl) ?_
    refine rr rfl (s_getf rfl rfl) ?_
    refine rr rfl (s_iload_n rfl) ?_
    refine rr rfl (s_iaload (j := 0) rfl rfl rfl) ?_
    refine rr rfl (s_ialdR (n := 8) (x := 0) rfl g2 g3) ?_
    refine rr rfl (s_istore rfl) ?_
    refine rr rfl (s_aload_n rfl) ?_
    refine rr rfl (s_getf rfl rfl) ?_
    refine rr rfl (s_iload_n rfl) ?_
    refine rr rfl (s_iaload (j := 0) rfl rfl rfl) ?_
    refine rr rfl (s_iconst (v := (-1)) (by decide)) ?_
    refine rr rfl (s_icT (ic_eq g4)) ?_
    refine rr rfl (s_iload rfl) ?_
    refine rr rfl (s_istore rfl) ?_
    refine rr rfl (s_aload_n rfl) ?_
    refine rr rfl (s_getf rfl rfl) ?_
    refine rr rfl (s_iload_n rfl) ?_
    refine rr rfl (s_iaload (j := 0) rfl rfl rfl) ?_
    refine rr rfl (s_iconst (v := (-1)) (by decide)) ?_
    refine rr rfl (s_icF (ic_neq g5)) ?_
    refine rr rfl (s_aload_n rfl) ?_
    refine rr rfl (s_getf rfl rfl) ?_
    refine rr rfl (s_aload_n rfl) ?_
    refine rr rfl (s_getf rfl rfl) ?_
    refine rr rfl (s_iload_n rfl) ?_
    refine rr rfl (s_iaload (j := 0) rfl rfl rfl) ?_
    refine rr rfl (s_ialdR (n := 8) (x := 0) rfl g6 g7) ?_
    refine rr rfl (s_iconst (v := 1) (by decide)) ?_
    refine rr rfl (s_iadd (v := 1) (by decide)) ?_
    refine rr rfl (s_iload rfl) ?_
    refine rr rfl (s_icF (by decide)) ?_
    refine rr rfl (s_aload_n rfl) ?_
    refine rr rfl (s_getf rfl rfl) ?_
    refine rr rfl (s_aload_n rfl) ?_
    refine rr rfl (s_getf rfl rfl) ?_
    refine rr rfl (s_iload_n rfl) ?_
    refine rr rfl (s_iaload (j := 0) rfl rfl rfl) ?_
    refine rr rfl (s_ialdR (n := 8) (x := 0) rfl g6 g7) ?_
    refine rr rfl (s_iconst (v := 1) (by decide)) ?_
    refine rr rfl (s_iadd (v := 1) (by decide)) ?_
    refine rr rfl s_goto ?_
    refine rr rfl (s_istore rfl) ?_
    refine rr rfl (s_iload rfl) ?_
    refine rr rfl (s_aload_n rfl) ?_
    refine rr rfl (s_getf rfl rfl) ?_
    refine rr rfl (s_aload_n rfl) ?_
    refine rr rfl (s_getf rfl rfl) ?_
    refine rr rfl (s_iload_n rfl) ?_
    refine rr rfl (s_iaload (j := 0) rfl rfl rfl) ?_
    refine rr rfl (s_ialdR (n := 8) (x := 0) rfl g8 g9) ?_
    refine rr rfl (s_icF (by decide)) ?_
    refine rr rfl (s_aload_n rfl) ?_
    refine rr rfl (s_getf rfl rfl) ?_
    refine rr rfl (s_aload_n rfl) ?_
    refine rr rfl (s_getf rfl rfl) ?_
    refine rr rfl (s_iload_n rfl) ?_
    refine rr rfl (s_iaload (j := 0) rfl rfl rfl) ?_
    refine rr rfl (s_iload rfl) ?_
    refine rr rfl (s_iastR (n := 8) rfl g8 g9 (Nat.le_of_ble_eq_true rfl) rfl (h' := ((((((((((((hF.set 5 (.inl ((List.replicate 8 (0 : Int32)).set (Int32.toNatClampNeg x3) 8))).set 41 (.inr (.inr (9, [.int 4, .int 1, .ref 42, .ref 43, .ref 44, .ref 45, .ref 46, .ref 47, .ref 48, .ref 49, .ref 50, .ref 51, .int 0, .int 0, .int 0, .int 0, .int 0, .int 0, .int 0, .int 0, .ref 52, .int 0, .ref 53, .int 0, .ref 54, .int 0, .ref 55, .ref 56, .ref 57, .ref 58, .int 0, .ref 59, .ref 60])))).set 42 (.inl [x1, 0, 0, 0, 0, 0, 0, 0, 0, 0, 0, 0, 0])).set 43 (.inl [x2, 0, 0, 0, 0, 0, 0, 0, 0, 0, 0, 0, 0])).set 44 (.inl [x3, 0, 0, 0, 0, 0, 0, 0, 0, 0, 0, 0, 0])).set 45 (.inl [x4, 0, 0, 0, 0, 0, 0, 0, 0, 0, 0, 0, 0])).set 46 (.inl [x5, 0, 0, 0, 0, 0, 0, 0, 0, 0, 0, 0, 0])).set 47 (.inl [x6, 0, 0, 0, 0, 0, 0, 0, 0, 0, 0, 0, 0])).set 48 (.inl [x7, 0, 0, 0, 0, 0, 0, 0, 0, 0, 0, 0, 0])).set 49 (.inl [(-1), 0, 0, 0, 0, 0, 0, 0, 0, 0, 0, 0, 0])).set 51 (.inl ((List.replicate 8 (0 : Int32)).set (Int32.toNatClampNeg x3) 1))) ++ [.inr (.inr (2, [.int x1, .int x2, .int x3, .int x4, .int x4, .int x6, .int x7, .int ((1 <<< (x4 &&& 31) : Int32) ||| (1 <<< (x4 &&& 31) : Int32)), .int (1 <<< (x6 &&& 31) : Int32), .int (-1)]))]))) ?_
    refine rr rfl (s_iconst (v := 1) (by decide)) ?_
    refine rr rfl (s_istore_n rfl) ?_
    refine rr rfl (s_iload_n rfl) ?_
    refine rr rfl (s_ifF (by decide)) ?_
    refine rr rfl (s_iload rfl) ?_
    refine rr rfl (s_bipush (v := 8) (by decide)) ?_
    refine rr rfl (s_icF (by decide)) ?_
    refine rr rfl (s_iconst (v := 1) (by decide)) ?_
    refine rr rfl s_goto ?_
    refine rr rfl (s_istore_n rfl) ?_
    refine rr rfl (s_iinc (v := 1) rfl (by decide) rfl) ?_
    refine rr rfl s_goto ?_
    refine rr rfl (s_iload_n rfl) ?_
    refine rr rfl (s_aload_n rfl) ?_
    refine rr rfl (s_getf rfl rfl) ?_
    refine rr rfl (s_icT (by decide)) ?_
    refine rr rfl s_goto ?_
    refine rr rfl (s_iload_n rfl) ?_
    refine rr rfl (s_ifF (by decide)) ?_
    refine rr rfl (s_iload_n rfl) ?_
    refine rr rfl (s_ifF (by decide)) ?_
    refine rr rfl (s_iconst (v := 0) (by decide)) ?_
    refine rr rfl (s_istore_n rfl) ?_
    refine rr rfl (s_iconst (v := 0) (by decide)) ?_
    refine rr rfl (s_istore_n rfl) ?_
    refine rr rfl (s_iload_n rfl) ?_
    refine rr rfl (s_aload_n rfl) ?_
    refine rr rfl (s_getf rfl rfl) ?_
    refine rr rfl (s_icF (by decide)) ?_
    refine rr rfl (s_iconst (v := 0) (by decide)) ?_
    refine rr rfl (s_istore rfl) ?_
    refine rr rfl (s_aload_n rfl) ?_
    refine rr rfl (s_getf rfl rfl) ?_
    refine rr rfl (s_iload_n rfl) ?_
    refine rr rfl (s_iaload (j := 0) rfl rfl rfl) ?_
    refine rr rfl (s_ifF (ic_nne g1)) ?_
    refine rr rfl (s_aload_n rfl) ?_
    refine rr rfl (s_getf rfl rfl) ?_
    refine rr rfl (s_aload_n rfl) ?_
    refine rr rfl (s_getf rfl rfl) ?_
    refine rr rfl (s_iload_n rfl) ?_
    refine rr rfl (s_iaload (j := 0) rfl rfl rfl) ?_
    refine rr rfl (s_ialdN rfl g10 g2 g3 g8) ?_
    refine rr rfl (s_istore rfl) ?_
    refine rr rfl (s_aload_n rfl) ?_
    refine rr rfl (s_getf rfl rfl) ?_
    refine rr rfl (s_iload_n rfl) ?_
    refine rr rfl (s_iaload (j := 0) rfl rfl rfl) ?_
    refine rr rfl (s_iconst (v := (-1)) (by decide)) ?_
    refine rr rfl (s_icT (ic_eq g4)) ?_
    refine rr rfl (s_iload rfl) ?_
    refine rr rfl (s_istore rfl) ?_
    refine rr rfl (s_aload_n rfl) ?_
    refine rr rfl (s_getf rfl rfl) ?_
    refine rr rfl (s_iload_n rfl) ?_
    refine rr rfl (s_iaload (j := 0) rfl rfl rfl) ?_
    refine rr rfl (s_iconst (v := (-1)) (by decide)) ?_
    refine rr rfl (s_icF (ic_neq g5)) ?_
    refine rr rfl (s_aload_n rfl) ?_
    refine rr rfl (s_getf rfl rfl) ?_
    refine rr rfl (s_aload_n rfl) ?_
    refine rr rfl (s_getf rfl rfl) ?_
    refine rr rfl (s_iload_n rfl) ?_
    refine rr rfl (s_iaload (j := 0) rfl rfl rfl) ?_
    refine rr rfl (s_ialdH rfl g11 g8 g9) ?_
    refine rr rfl (s_iconst (v := 1) (by decide)) ?_
    refine rr rfl (s_iadd (v := 2) (by decide)) ?_
    refine rr rfl (s_iload rfl) ?_
    refine rr rfl (s_icF (by decide)) ?_
    refine rr rfl (s_aload_n rfl) ?_
    refine rr rfl (s_getf rfl rfl) ?_
    refine rr rfl (s_aload_n rfl) ?_
    refine rr rfl (s_getf rfl rfl) ?_
    refine rr rfl (s_iload_n rfl) ?_
    refine rr rfl (s_iaload (j := 0) rfl rfl rfl) ?_
    refine rr rfl (s_ialdH rfl g11 g8 g9) ?_
    refine rr rfl (s_iconst (v := 1) (by decide)) ?_
    refine rr rfl (s_iadd (v := 2) (by decide)) ?_
    refine rr rfl s_goto ?_
    refine rr rfl (s_istore rfl) ?_
    refine rr rfl (s_iload rfl) ?_
    refine rr rfl (s_aload_n rfl) ?_
    refine rr rfl (s_getf rfl rfl) ?_
    refine rr rfl (s_aload_n rfl) ?_
    refine rr rfl (s_getf rfl rfl) ?_
    refine rr rfl (s_iload_n rfl) ?_
    refine rr rfl (s_iaload (j := 0) rfl rfl rfl) ?_
    refine rr rfl (s_ialdH rfl rfl g8 g9) ?_
    refine rr rfl (s_icF (by decide)) ?_
    refine rr rfl (s_aload_n rfl) ?_
    refine rr rfl (s_getf rfl rfl) ?_
    refine rr rfl (s_aload_n rfl) ?_
    refine rr rfl (s_getf rfl rfl) ?_
    refine rr rfl (s_iload_n rfl) ?_
    refine rr rfl (s_iaload (j := 0) rfl rfl rfl) ?_
    refine rr rfl (s_iload rfl) ?_
    refine rr rfl (s_iastH (v := 2) rfl rfl g8 g9 (Nat.le_of_ble_eq_true rfl) rfl (h' := ((((((((((((hF.set 5 (.inl ((List.replicate 8 (0 : Int32)).set (Int32.toNatClampNeg x3) 8))).set 41 (.inr (.inr (9, [.int 4, .int 1, .ref 42, .ref 43, .ref 44, .ref 45, .ref 46, .ref 47, .ref 48, .ref 49, .ref 50, .ref 51, .int 0, .int 0, .int 0, .int 0, .int 0, .int 0, .int 0, .int 0, .ref 52, .int 0, .ref 53, .int 0, .ref 54, .int 0, .ref 55, .ref 56, .ref 57, .ref 58, .int 0, .ref 59, .ref 60])))).set 42 (.inl [x1, 0, 0, 0, 0, 0, 0, 0, 0, 0, 0, 0, 0])).set 43 (.inl [x2, 0, 0, 0, 0, 0, 0, 0, 0, 0, 0, 0, 0])).set 44 (.inl [x3, 0, 0, 0, 0, 0, 0, 0, 0, 0, 0, 0, 0])).set 45 (.inl [x4, 0, 0, 0, 0, 0, 0, 0, 0, 0, 0, 0, 0])).set 46 (.inl [x5, 0, 0, 0, 0, 0, 0, 0, 0, 0, 0, 0, 0])).set 47 (.inl [x6, 0, 0, 0, 0, 0, 0, 0, 0, 0, 0, 0, 0])).set 48 (.inl [x7, 0, 0, 0, 0, 0, 0, 0, 0, 0, 0, 0, 0])).set 49 (.inl [(-1), 0, 0, 0, 0, 0, 0, 0, 0, 0, 0, 0, 0])).set 51 (.inl ((List.replicate 8 (0 : Int32)).set (Int32.toNatClampNeg x3) 2))) ++ [.inr (.inr (2, [.int x1, .int x2, .int x3, .int x4, .int x4, .int x6, .int x7, .int ((1 <<< (x4 &&& 31) : Int32) ||| (1 <<< (x4 &&& 31) : Int32)), .int (1 <<< (x6 &&& 31) : Int32), .int (-1)]))]))) ?_
    refine rr rfl (s_iconst (v := 1) (by decide)) ?_
    refine rr rfl (s_istore_n rfl) ?_
    refine rr rfl (s_iload_n rfl) ?_
    refine rr rfl (s_ifF (by decide)) ?_
    refine rr rfl (s_iload rfl) ?_
    refine rr rfl (s_bipush (v := 8) (by decide)) ?_
    refine rr rfl (s_icF (by decide)) ?_
    refine rr rfl (s_iconst (v := 1) (by decide)) ?_
    refine rr rfl s_goto ?_
    refine rr rfl (s_istore_n rfl) ?_
    refine rr rfl (s_iinc (v := 1) rfl (by decide) rfl) ?_
    refine rr rfl s_goto ?_
    refine rr rfl (s_iload_n rfl) ?_
    refine rr rfl (s_aload_n rfl) ?_
    refine rr rfl (s_getf rfl rfl) ?_
    refine rr rfl (s_icT (by decide)) ?_
    refine rr rfl s_goto ?_
    refine rr rfl (s_iload_n rfl) ?_
    refine rr rfl (s_ifF (by decide)) ?_
    refine rr rfl (s_iload_n rfl) ?_
    refine rr rfl (s_ifF (by decide)) ?_
    refine rr rfl (s_iconst (v := 0) (by decide)) ?_
    refine rr rfl (s_istore_n rfl) ?_
    refine rr rfl (s_iconst (v := 0) (by decide)) ?_
    refine rr rfl (s_istore_n rfl) ?_
    refine rr rfl (s_iload_n rfl) ?_
    refine rr rfl (s_aload_n rfl) ?_
    refine rr rfl (s_getf rfl rfl) ?_
    refine rr rfl (s_icF (by decide)) ?_
    refine rr rfl (s_iconst (v := 0) (by decide)) ?_
    refine rr rfl (s_istore rfl) ?_
    refine rr rfl (s_aload_n rfl) ?_
    refine rr rfl (s_getf rfl rfl) ?_
    refine rr rfl (s_iload_n rfl) ?_
    refine rr rfl (s_iaload (j := 0) rfl rfl rfl) ?_
    refine rr rfl (s_ifF (ic_nne g1)) ?_
    refine rr rfl (s_aload_n rfl) ?_
    refine rr rfl (s_getf rfl rfl) ?_
    refine rr rfl (s_aload_n rfl) ?_
    refine rr rfl (s_getf rfl rfl) ?_
    refine rr rfl (s_iload_n rfl) ?_
    refine rr rfl (s_iaload (j := 0) rfl rfl rfl) ?_
    refine rr rfl (s_ialdN rfl g10 g2 g3 g8) ?_
    refine rr rfl (s_istore rfl) ?_
    refine rr rfl (s_aload_n rfl) ?_
    refine rr rfl (s_getf rfl rfl) ?_
    refine rr rfl (s_iload_n rfl) ?_
    refine rr rfl (s_iaload (j := 0) rfl rfl rfl) ?_
    refine rr rfl (s_iconst (v := (-1)) (by decide)) ?_
    refine rr rfl (s_icT (ic_eq g4)) ?_
    refine rr rfl (s_iload rfl) ?_
    refine rr rfl (s_istore rfl) ?_
    refine rr rfl (s_aload_n rfl) ?_
    refine rr rfl (s_getf rfl rfl) ?_
    refine rr rfl (s_iload_n rfl) ?_
    refine rr rfl (s_iaload (j := 0) rfl rfl rfl) ?_
    refine rr rfl (s_iconst (v := (-1)) (by decide)) ?_
    refine rr rfl (s_icF (ic_neq g5)) ?_
    refine rr rfl (s_aload_n rfl) ?_
    refine rr rfl (s_getf rfl rfl) ?_
    refine rr rfl (s_aload_n rfl) ?_
    refine rr rfl (s_getf rfl rfl) ?_
    refine rr rfl (s_iload_n rfl) ?_
    refine rr rfl (s_iaload (j := 0) rfl rfl rfl) ?_
    refine rr rfl (s_ialdH rfl g11 g8 g9) ?_
    refine rr rfl (s_iconst (v := 1) (by decide)) ?_
    refine rr rfl (s_iadd (v := 3) (by decide)) ?_
    refine rr rfl (s_iload rfl) ?_
    refine rr rfl (s_icF (by decide)) ?_
    refine rr rfl (s_aload_n rfl) ?_
    refine rr rfl (s_getf rfl rfl) ?_
    refine rr rfl (s_aload_n rfl) ?_
    refine rr rfl (s_getf rfl rfl) ?_
    refine rr rfl (s_iload_n rfl) ?_
    refine rr rfl (s_iaload (j := 0) rfl rfl rfl) ?_
    refine rr rfl (s_ialdH rfl g11 g8 g9) ?_
    refine rr rfl (s_iconst (v := 1) (by decide)) ?_
    refine rr rfl (s_iadd (v := 3) (by decide)) ?_
    refine rr rfl s_goto ?_
    refine rr rfl (s_istore rfl) ?_
    refine rr rfl (s_iload rfl) ?_
    refine rr rfl (s_aload_n rfl) ?_
    refine rr rfl (s_getf rfl rfl) ?_
    refine rr rfl (s_aload_n rfl) ?_
    refine rr rfl (s_getf rfl rfl) ?_
    refine rr rfl (s_iload_n rfl) ?_
    refine rr rfl (s_iaload (j := 0) rfl rfl rfl) ?_
    refine rr rfl (s_ialdH rfl rfl g8 g9) ?_
    refine rr rfl (s_icF (by decide)) ?_
    refine rr rfl (s_aload_n rfl) ?_
    refine rr rfl (s_getf rfl rfl) ?_
    refine rr rfl (s_aload_n rfl) ?_
    refine rr rfl (s_getf rfl rfl) ?_
    refine rr rfl (s_iload_n rfl) ?_
    refine rr rfl (s_iaload (j := 0) rfl rfl rfl) ?_
    refine rr rfl (s_iload rfl) ?_
    refine rr rfl (s_iastH (v := 3) rfl rfl g8 g9 (Nat.le_of_ble_eq_true rfl) rfl (h' := ((((((((((((hF.set 5 (.inl ((List.replicate 8 (0 : Int32)).set (Int32.toNatClampNeg x3) 8))).set 41 (.inr (.inr (9, [.int 4, .int 1, .ref 42, .ref 43, .ref 44, .ref 45, .ref 46, .ref 47, .ref 48, .ref 49, .ref 50, .ref 51, .int 0, .int 0, .int 0, .int 0, .int 0, .int 0, .int 0, .int 0, .ref 52, .int 0, .ref 53, .int 0, .ref 54, .int 0, .ref 55, .ref 56, .ref 57, .ref 58, .int 0, .ref 59, .ref 60])))).set 42 (.inl [x1, 0, 0, 0, 0, 0, 0, 0, 0, 0, 0, 0, 0])).set 43 (.inl [x2, 0, 0, 0, 0, 0, 0, 0, 0, 0, 0, 0, 0])).set 44 (.inl [x3, 0, 0, 0, 0, 0, 0, 0, 0, 0, 0, 0, 0])).set 45 (.inl [x4, 0, 0, 0, 0, 0, 0, 0, 0, 0, 0, 0, 0])).set 46 (.inl [x5, 0, 0, 0, 0, 0, 0, 0, 0, 0, 0, 0, 0])).set 47 (.inl [x6, 0, 0, 0, 0, 0, 0, 0, 0, 0, 0, 0, 0])).set 48 (.inl [x7, 0, 0, 0, 0, 0, 0, 0, 0, 0, 0, 0, 0])).set 49 (.inl [(-1), 0, 0, 0, 0, 0, 0, 0, 0, 0, 0, 0, 0])).set 51 (.inl ((List.replicate 8 (0 : Int32)).set (Int32.toNatClampNeg x3) 3))) ++ [.inr (.inr (2, [.int x1, .int x2, .int x3, .int x4, .int x4, .int x6, .int x7, .int ((1 <<< (x4 &&& 31) : Int32) ||| (1 <<< (x4 &&& 31) : Int32)), .int (1 <<< (x6 &&& 31) : Int32), .int (-1)]))]))) ?_
    refine rr rfl (s_iconst (v := 1) (by decide)) ?_
    refine rr rfl (s_istore_n rfl) ?_
    refine rr rfl (s_iload_n rfl) ?_
    refine rr rfl (s_ifF (by decide)) ?_
    refine rr rfl (s_iload rfl) ?_
    refine rr rfl (s_bipush (v := 8) (by decide)) ?_
    refine rr rfl (s_icF (by decide)) ?_
    refine rr rfl (s_iconst (v := 1) (by decide)) ?_
    refine rr rfl s_goto ?_
    refine rr rfl (s_istore_n rfl) ?_
    refine rr rfl (s_iinc (v := 1) rfl (by decide) rfl) ?_
    refine rr rfl s_goto ?_
    refine rr rfl (s_iload_n rfl) ?_
    refine rr rfl (s_aload_n rfl) ?_
    refine rr rfl (s_getf rfl rfl) ?_
    refine rr rfl (s_icT (by decide)) ?_
    refine rr rfl s_goto ?_
    refine rr rfl (s_iload_n rfl) ?_
    refine rr rfl (s_ifF (by decide)) ?_
    refine rr rfl (s_iload_n rfl) ?_
    refine rr rfl (s_ifF (by decide)) ?_
    refine rr rfl (s_iconst (v := 0) (by decide)) ?_
    refine rr rfl (s_istore_n rfl) ?_
    refine rr rfl (s_iconst (v := 0) (by decide)) ?_
    refine rr rfl (s_istore_n rfl) ?_
    refine rr rfl (s_iload_n rfl) ?_
    refine rr rfl (s_aload_n rfl) ?_
    refine rr rfl (s_getf rfl rfl) ?_
    refine rr rfl (s_icF (by decide)) ?_
    refine rr rfl (s_iconst (v := 0) (by decide)) ?_
    refine rr rfl (s_istore rfl) ?_
    refine rr rfl (s_aload_n rfl) ?_
    refine rr rfl (s_getf rfl rfl) ?_
    refine rr rfl (s_iload_n rfl) ?_
    refine rr rfl (s_iaload (j := 0) rfl rfl rfl) ?_
    refine rr rfl (s_ifF (ic_nne g1)) ?_
    refine rr rfl (s_aload_n rfl) ?_
    refine rr rfl (s_getf rfl rfl) ?_
    refine rr rfl (s_aload_n rfl) ?_
    refine rr rfl (s_getf rfl rfl) ?_
    refine rr rfl (s_iload_n rfl) ?_
    refine rr rfl (s_iaload (j := 0) rfl rfl rfl) ?_
    refine rr rfl (s_ialdN rfl g10 g2 g3 g8) ?_
    refine rr rfl (s_istore rfl) ?_
    refine rr rfl (s_aload_n rfl) ?_
    refine rr rfl (s_getf rfl rfl) ?_
    refine rr rfl (s_iload_n rfl) ?_
    refine rr rfl (s_iaload (j := 0) rfl rfl rfl) ?_
    refine rr rfl (s_iconst (v := (-1)) (by decide)) ?_
    refine rr rfl (s_icT (ic_eq g4)) ?_
    refine rr rfl (s_iload rfl) ?_
    refine rr rfl (s_istore rfl) ?_
    refine rr rfl (s_aload_n rfl) ?_
    refine rr rfl (s_getf rfl rfl) ?_
    refine rr rfl (s_iload_n rfl) ?_
    refine rr rfl (s_iaload (j := 0) rfl rfl rfl) ?_
    refine rr rfl (s_iconst (v := (-1)) (by decide)) ?_
    refine rr rfl (s_icF (ic_neq g5)) ?_
    refine rr rfl (s_aload_n rfl) ?_
    refine rr rfl (s_getf rfl rfl) ?_
    refine rr rfl (s_aload_n rfl) ?_
    refine rr rfl (s_getf rfl rfl) ?_
    refine rr rfl (s_iload_n rfl) ?_
    refine rr rfl (s_iaload (j := 0) rfl rfl rfl) ?_
    refine rr rfl (s_ialdH rfl g11 g8 g9) ?_
    refine rr rfl (s_iconst (v := 1) (by decide)) ?_
    refine rr rfl (s_iadd (v := 4) (by decide)) ?_
    refine rr rfl (s_iload rfl) ?_
    refine rr rfl (s_icF (by decide)) ?_
    refine rr rfl (s_aload_n rfl) ?_
    refine rr rfl (s_getf rfl rfl) ?_
    refine rr rfl (s_aload_n rfl) ?_
    refine rr rfl (s_getf rfl rfl) ?_
    refine rr rfl (s_iload_n rfl) ?_
    refine rr rfl (s_iaload (j := 0) rfl rfl rfl) ?_
    refine rr rfl (s_ialdH rfl g11 g8 g9) ?_
    refine rr rfl (s_iconst (v := 1) (by decide)) ?_
    refine rr rfl (s_iadd (v := 4) (by decide)) ?_
    refine rr rfl s_goto ?_
    refine rr rfl (s_istore rfl) ?_
    refine rr rfl (s_iload rfl) ?_
    refine rr rfl (s_aload_n rfl) ?_
    refine rr rfl (s_getf rfl rfl) ?_
    refine rr rfl (s_aload_n rfl) ?_
    refine rr rfl (s_getf rfl rfl) ?_
    refine rr rfl (s_iload_n rfl) ?_
    refine rr rfl (s_iaload (j := 0) rfl rfl rfl) ?_
    refine rr rfl (s_ialdH rfl rfl g8 g9) ?_
    refine rr rfl (s_icF (by decide)) ?_
    refine rr rfl (s_aload_n rfl) ?_
    refine rr rfl (s_getf rfl rfl) ?_
    refine rr rfl (s_aload_n rfl) ?_
    refine rr rfl (s_getf rfl rfl) ?_
    refine rr rfl (s_iload_n rfl) ?_
    refine rr rfl (s_iaload (j := 0) rfl rfl rfl) ?_
    refine rr rfl (s_iload rfl) ?_
    refine rr rfl (s_iastH (v := 4) rfl rfl g8 g9 (Nat.le_of_ble_eq_true rfl) rfl (h' := ((((((((((((hF.set 5 (.inl ((List.replicate 8 (0 : Int32)).set (Int32.toNatClampNeg x3) 8))).set 41 (.inr (.inr (9, [.int 4, .int 1, .ref 42, .ref 43, .ref 44, .ref 45, .ref 46, .ref 47, .ref 48, .ref 49, .ref 50, .ref 51, .int 0, .int 0, .int 0, .int 0, .int 0, .int 0, .int 0, .int 0, .ref 52, .int 0, .ref 53, .int 0, .ref 54, .int 0, .ref 55, .ref 56, .ref 57, .ref 58, .int 0, .ref 59, .ref 60])))).set 42 (.inl [x1, 0, 0, 0, 0, 0, 0, 0, 0, 0, 0, 0, 0])).set 43 (.inl [x2, 0, 0, 0, 0, 0, 0, 0, 0, 0, 0, 0, 0])).set 44 (.inl [x3, 0, 0, 0, 0, 0, 0, 0, 0, 0, 0, 0, 0])).set 45 (.inl [x4, 0, 0, 0, 0, 0, 0, 0, 0, 0, 0, 0, 0])).set 46 (.inl [x5, 0, 0, 0, 0, 0, 0, 0, 0, 0, 0, 0, 0])).set 47 (.inl [x6, 0, 0, 0, 0, 0, 0, 0, 0, 0, 0, 0, 0])).set 48 (.inl [x7, 0, 0, 0, 0, 0, 0, 0, 0, 0, 0, 0, 0])).set 49 (.inl [(-1), 0, 0, 0, 0, 0, 0, 0, 0, 0, 0, 0, 0])).set 51 (.inl ((List.replicate 8 (0 : Int32)).set (Int32.toNatClampNeg x3) 4))) ++ [.inr (.inr (2, [.int x1, .int x2, .int x3, .int x4, .int x4, .int x6, .int x7, .int ((1 <<< (x4 &&& 31) : Int32) ||| (1 <<< (x4 &&& 31) : Int32)), .int (1 <<< (x6 &&& 31) : Int32), .int (-1)]))]))) ?_
    refine rr rfl (s_iconst (v := 1) (by decide)) ?_
    refine rr rfl (s_istore_n rfl) ?_
    refine rr rfl (s_iload_n rfl) ?_
    refine rr rfl (s_ifF (by decide)) ?_
    refine rr rfl (s_iload rfl) ?_
    refine rr rfl (s_bipush (v := 8) (by decide)) ?_
    refine rr rfl (s_icF (by decide)) ?_
    refine rr rfl (s_iconst (v := 1) (by decide)) ?_
    refine rr rfl s_goto ?_
    refine rr rfl (s_istore_n rfl) ?_
    refine rr rfl (s_iinc (v := 1) rfl (by decide) rfl) ?_
    refine rr rfl s_goto ?_
    refine rr rfl (s_iload_n rfl) ?_
    refine rr rfl (s_aload_n rfl) ?_
    refine rr rfl (s_getf rfl rfl) ?_
    refine rr rfl (s_icT (by decide)) ?_
    refine rr rfl s_goto ?_
    refine rr rfl (s_iload_n rfl) ?_
    refine rr rfl (s_ifF (by decide)) ?_
    refine rr rfl (s_iload_n rfl) ?_
    refine rr rfl (s_ifF (by decide)) ?_
    refine rr rfl (s_iconst (v := 0) (by decide)) ?_
    refine rr rfl (s_istore_n rfl) ?_
    refine rr rfl (s_iconst (v := 0) (by decide)) ?_
    refine rr rfl (s_istore_n rfl) ?_
    refine rr rfl (s_iload_n rfl) ?_
    refine rr rfl (s_aload_n rfl) ?_
    refine rr rfl (s_getf rfl rfl) ?_
    refine rr rfl (s_icF (by decide)) ?_
    refine rr rfl (s_iconst (v := 0) (by decide)) ?_
    refine rr rfl (s_istore rfl) ?_
    refine rr rfl (s_aload_n rfl) ?_
    refine rr rfl (s_getf rfl rfl) ?_
    refine rr rfl (s_iload_n rfl) ?_
    refine rr rfl (s_iaload (j := 0) rfl rfl rfl) ?_
    refine rr rfl (s_ifF (ic_nne g1)) ?_
    refine rr rfl (s_aload_n rfl) ?_
    refine rr rfl (s_getf rfl rfl) ?_
    refine rr rfl (s_aload_n rfl) ?_
    refine rr rfl (s_getf rfl rfl) ?_
    refine rr rfl (s_iload_n rfl) ?_
    refine rr rfl (s_iaload (j := 0) rfl rfl rfl) ?_
    refine rr rfl (s_ialdN rfl g10 g2 g3 g8) ?_
    refine rr rfl (s_istore rfl) ?_
    refine rr rfl (s_aload_n rfl) ?_
    refine rr rfl (s_getf rfl rfl) ?_
    refine rr rfl (s_iload_n rfl) ?_
    refine rr rfl (s_iaload (j := 0) rfl rfl rfl) ?_
    refine rr rfl (s_iconst (v := (-1)) (by decide)) ?_
    refine rr rfl (s_icT (ic_eq g4)) ?_
    refine rr rfl (s_iload rfl) ?_
    refine rr rfl (s_istore rfl) ?_
    refine rr rfl (s_aload_n rfl) ?_
    refine rr rfl (s_getf rfl rfl) ?_
    refine rr rfl (s_iload_n rfl) ?_
    refine rr rfl (s_iaload (j := 0) rfl rfl rfl) ?_
    refine rr rfl (s_iconst (v := (-1)) (by decide)) ?_
    refine rr rfl (s_icF (ic_neq g5)) ?_
    refine rr rfl (s_aload_n rfl) ?_
    refine rr rfl (s_getf rfl rfl) ?_
    refine rr rfl (s_aload_n rfl) ?_
    refine rr rfl (s_getf rfl rfl) ?_
    refine rr rfl (s_iload_n rfl) ?_
    refine rr rfl (s_iaload (j := 0) rfl rfl rfl) ?_
    refine rr rfl (s_ialdH rfl g11 g8 g9) ?_
    refine rr rfl (s_iconst (v := 1) (by decide)) ?_
    refine rr rfl (s_iadd (v := 5) (by decide)) ?_
    refine rr rfl (s_iload rfl) ?_
    refine rr rfl (s_icF (by decide)) ?_
    refine rr rfl (s_aload_n rfl) ?_
    refine rr rfl (s_getf rfl rfl) ?_
    refine rr rfl (s_aload_n rfl) ?_
    refine rr rfl (s_getf rfl rfl) ?_
    refine rr rfl (s_iload_n rfl) ?_
    refine rr rfl (s_iaload (j := 0) rfl rfl rfl) ?_
    refine rr rfl (s_ialdH rfl g11 g8 g9) ?_
    refine rr rfl (s_iconst (v := 1) (by decide)) ?_
    refine rr rfl (s_iadd (v := 5) (by decide)) ?_
    refine rr rfl s_goto ?_
    refine rr rfl (s_istore rfl) ?_
    refine rr rfl (s_iload rfl) ?_
    refine rr rfl (s_aload_n rfl) ?_
    refine rr rfl (s_getf rfl rfl) ?_
    refine rr rfl (s_aload_n rfl) ?_
    refine rr rfl (s_getf rfl rfl) ?_
    refine rr rfl (s_iload_n rfl) ?_
    refine rr rfl (s_iaload (j := 0) rfl rfl rfl) ?_
    refine rr rfl (s_ialdH rfl rfl g8 g9) ?_
    refine rr rfl (s_icF (by decide)) ?_
    refine rr rfl (s_aload_n rfl) ?_
    refine rr rfl (s_getf rfl rfl) ?_
    refine rr rfl (s_aload_n rfl) ?_
    refine rr rfl (s_getf rfl rfl) ?_
    refine rr rfl (s_iload_n rfl) ?_
    refine rr rfl (s_iaload (j := 0) rfl rfl rfl) ?_
    refine rr rfl (s_iload rfl) ?_
    refine rr rfl (s_iastH (v := 5) rfl rfl g8 g9 (Nat.le_of_ble_eq_true rfl) rfl (h' := ((((((((((((hF.set 5 (.inl ((List.replicate 8 (0 : Int32)).set (Int32.toNatClampNeg x3) 8))).set 41 (.inr (.inr (9, [.int 4, .int 1, .ref 42, .ref 43, .ref 44, .ref 45, .ref 46, .ref 47, .ref 48, .ref 49, .ref 50, .ref 51, .int 0, .int 0, .int 0, .int 0, .int 0, .int 0, .int 0, .int 0, .ref 52, .int 0, .ref 53, .int 0, .ref 54, .int 0, .ref 55, .ref 56, .ref 57, .ref 58, .int 0, .ref 59, .ref 60])))).set 42 (.inl [x1, 0, 0, 0, 0, 0, 0, 0, 0, 0, 0, 0, 0])).set 43 (.inl [x2, 0, 0, 0, 0, 0, 0, 0, 0, 0, 0, 0, 0])).set 44 (.inl [x3, 0, 0, 0, 0, 0, 0, 0, 0, 0, 0, 0, 0])).set 45 (.inl [x4, 0, 0, 0, 0, 0, 0, 0, 0, 0, 0, 0, 0])).set 46 (.inl [x5, 0, 0, 0, 0, 0, 0, 0, 0, 0, 0, 0, 0])).set 47 (.inl [x6, 0, 0, 0, 0, 0, 0, 0, 0, 0, 0, 0, 0])).set 48 (.inl [x7, 0, 0, 0, 0, 0, 0, 0, 0, 0, 0, 0, 0])).set 49 (.inl [(-1), 0, 0, 0, 0, 0, 0, 0, 0, 0, 0, 0, 0])).set 51 (.inl ((List.replicate 8 (0 : Int32)).set (Int32.toNatClampNeg x3) 5))) ++ [.inr (.inr (2, [.int x1, .int x2, .int x3, .int x4, .int x4, .int x6, .int x7, .int ((1 <<< (x4 &&& 31) : Int32) ||| (1 <<< (x4 &&& 31) : Int32)), .int (1 <<< (x6 &&& 31) : Int32), .int (-1)]))]))) ?_
    refine rr rfl (s_iconst (v := 1) (by decide)) ?_
    refine rr rfl (s_istore_n rfl) ?_
    refine rr rfl (s_iload_n rfl) ?_
    refine rr rfl (s_ifF (by decide)) ?_
    refine rr rfl (s_iload rfl) ?_
    refine rr rfl (s_bipush (v := 8) (by decide)) ?_
    refine rr rfl (s_icF (by decide)) ?_
    refine rr rfl (s_iconst (v := 1) (by decide)) ?_
    refine rr rfl s_goto ?_
    refine rr rfl (s_istore_n rfl) ?_
    refine rr rfl (s_iinc (v := 1) rfl (by decide) rfl) ?_
    refine rr rfl s_goto ?_
    refine rr rfl (s_iload_n rfl) ?_
    refine rr rfl (s_aload_n rfl) ?_
    refine rr rfl (s_getf rfl rfl) ?_
    refine rr rfl (s_icT (by decide)) ?_
    refine rr rfl s_goto ?_
    refine rr rfl (s_iload_n rfl) ?_
    refine rr rfl (s_ifF (by decide)) ?_
    refine rr rfl (s_iload_n rfl) ?_
    refine rr rfl (s_ifF (by decide)) ?_
    refine rr rfl (s_iconst (v := 0) (by decide)) ?_
    refine rr rfl (s_istore_n rfl) ?_
    refine rr rfl (s_iconst (v := 0) (by decide)) ?_
    refine rr rfl (s_istore_n rfl) ?_
    refine rr rfl (s_iload_n rfl) ?_
    refine rr rfl (s_aload_n rfl) ?_
    refine rr rfl (s_getf rfl rfl) ?_
    refine rr rfl (s_icF (by decide)) ?_
    refine rr rfl (s_iconst (v := 0) (by decide)) ?_
    refine rr rfl (s_istore rfl) ?_
    refine rr rfl (s_aload_n rfl) ?_
    refine rr rfl (s_getf rfl rfl) ?_
    refine rr rfl (s_iload_n rfl) ?_
    refine rr rfl (s_iaload (j := 0) rfl rfl rfl) ?_
    refine rr rfl (s_ifF (ic_nne g1)) ?_
    refine rr rfl (s_aload_n rfl) ?_
    refine rr rfl (s_getf rfl rfl) ?_
    refine rr rfl (s_aload_n rfl) ?_
    refine rr rfl (s_getf rfl rfl) ?_
    refine rr rfl (s_iload_n rfl) ?_
    refine rr rfl (s_iaload (j := 0) rfl rfl rfl) ?_
    refine rr rfl (s_ialdN rfl g10 g2 g3 g8) ?_
    refine rr rfl (s_istore rfl) ?_
    refine rr rfl (s_aload_n rfl) ?_
    refine rr rfl (s_getf rfl rfl) ?_
    refine rr rfl (s_iload_n rfl) ?_
    refine rr rfl (s_iaload (j := 0) rfl rfl rfl) ?_
    refine rr rfl (s_iconst (v := (-1)) (by decide)) ?_
    refine rr rfl (s_icT (ic_eq g4)) ?_
    refine rr rfl (s_iload rfl) ?_
    refine rr rfl (s_istore rfl) ?_
    refine rr rfl (s_aload_n rfl) ?_
    refine rr rfl (s_getf rfl rfl) ?_
    refine rr rfl (s_iload_n rfl) ?_
    refine rr rfl (s_iaload (j := 0) rfl rfl rfl) ?_
    refine rr rfl (s_iconst (v := (-1)) (by decide)) ?_
    refine rr rfl (s_icF (ic_neq g5)) ?_
    refine rr rfl (s_aload_n rfl) ?_
    refine rr rfl (s_getf rfl rfl) ?_
    refine rr rfl (s_aload_n rfl) ?_
    refine rr rfl (s_getf rfl rfl) ?_
    refine rr rfl (s_iload_n rfl) ?_
    refine rr rfl (s_iaload (j := 0) rfl rfl rfl) ?_
    refine rr rfl (s_ialdH rfl g11 g8 g9) ?_
    refine rr rfl (s_iconst (v := 1) (by decide)) ?_
    refine rr rfl (s_iadd (v := 6) (by decide)) ?_
    refine rr rfl (s_iload rfl) ?_
    refine rr rfl (s_icF (by decide)) ?_
    refine rr rfl (s_aload_n rfl) ?_
    refine rr rfl (s_getf rfl rfl) ?_
    refine rr rfl (s_aload_n rfl) ?_
    refine rr rfl (s_getf rfl rfl) ?_
    refine rr rfl (s_iload_n rfl) ?_
    refine rr rfl (s_iaload (j := 0) rfl rfl rfl) ?_
    refine rr rfl (s_ialdH rfl g11 g8 g9) ?_
    refine rr rfl (s_iconst (v := 1) (by decide)) ?_
    refine rr rfl (s_iadd (v := 6) (by decide)) ?_
    refine rr rfl s_goto ?_
    refine rr rfl (s_istore rfl) ?_
    refine rr rfl (s_iload rfl) ?_
    refine rr rfl (s_aload_n rfl) ?_
    refine rr rfl (s_getf rfl rfl) ?_
    refine rr rfl (s_aload_n rfl) ?_
    refine rr rfl (s_getf rfl rfl) ?_
    refine rr rfl (s_iload_n rfl) ?_
    refine rr rfl (s_iaload (j := 0) rfl rfl rfl) ?_
    refine rr rfl (s_ialdH rfl rfl g8 g9) ?_
    refine rr rfl (s_icF (by decide)) ?_
    refine rr rfl (s_aload_n rfl) ?_
    refine rr rfl (s_getf rfl rfl) ?_
    refine rr rfl (s_aload_n rfl) ?_
    refine rr rfl (s_getf rfl rfl) ?_
    refine rr rfl (s_iload_n rfl) ?_
    refine rr rfl (s_iaload (j := 0) rfl rfl rfl) ?_
    refine rr rfl (s_iload rfl) ?_
    refine rr rfl (s_iastH (v := 6) rfl rfl g8 g9 (Nat.le_of_ble_eq_true rfl) rfl (h' := ((((((((((((hF.set 5 (.inl ((List.replicate 8 (0 : Int32)).set (Int32.toNatClampNeg x3) 8))).set 41 (.inr (.inr (9, [.int 4, .int 1, .ref 42, .ref 43, .ref 44, .ref 45, .ref 46, .ref 47, .ref 48, .ref 49, .ref 50, .ref 51, .int 0, .int 0, .int 0, .int 0, .int 0, .int 0, .int 0, .int 0, .ref 52, .int 0, .ref 53, .int 0, .ref 54, .int 0, .ref 55, .ref 56, .ref 57, .ref 58, .int 0, .ref 59, .ref 60])))).set 42 (.inl [x1, 0, 0, 0, 0, 0, 0, 0, 0, 0, 0, 0, 0])).set 43 (.inl [x2, 0, 0, 0, 0, 0, 0, 0, 0, 0, 0, 0, 0])).set 44 (.inl [x3, 0, 0, 0, 0, 0, 0, 0, 0, 0, 0, 0, 0])).set 45 (.inl [x4, 0, 0, 0, 0, 0, 0, 0, 0, 0, 0, 0, 0])).set 46 (.inl [x5, 0, 0, 0, 0, 0, 0, 0, 0, 0, 0, 0, 0])).set 47 (.inl [x6, 0, 0, 0, 0, 0, 0, 0, 0, 0, 0, 0, 0])).set 48 (.inl [x7, 0, 0, 0, 0, 0, 0, 0, 0, 0, 0, 0, 0])).set 49 (.inl [(-1), 0, 0, 0, 0, 0, 0, 0, 0, 0, 0, 0, 0])).set 51 (.inl ((List.replicate 8 (0 : Int32)).set (Int32.toNatClampNeg x3) 6))) ++ [.inr (.inr (2, [.int x1, .int x2, .int x3, .int x4, .int x4, .int x6, .int x7, .int ((1 <<< (x4 &&& 31) : Int32) ||| (1 <<< (x4 &&& 31) : Int32)), .int (1 <<< (x6 &&& 31) : Int32), .int (-1)]))]))) ?_
    refine rr rfl (s_iconst (v := 1) (by decide)) ?_
    refine rr rfl (s_istore_n rfl) ?_
    refine rr rfl (s_iload_n rfl) ?_
    refine rr rfl (s_ifF (by decide)) ?_
    refine rr rfl (s_iload rfl) ?_
    refine rr rfl (s_bipush (v := 8) (by decide)) ?_
    refine rr rfl (s_icF (by decide)) ?_
    refine rr rfl (s_iconst (v := 1) (by decide)) ?_
    refine rr rfl s_goto ?_
    refine rr rfl (s_istore_n rfl) ?_
    refine rr rfl (s_iinc (v := 1) rfl (by decide) rfl) ?_
    refine rr rfl s_goto ?_
    refine rr rfl (s_iload_n rfl) ?_
    refine rr rfl (s_aload_n rfl) ?_
    refine rr rfl (s_getf rfl rfl) ?_
    refine rr rfl (s_icT (by decide)) ?_
    refine rr rfl s_goto ?_
    refine rr rfl (s_iload_n rfl) ?_
    refine rr rfl (s_ifF (by decide)) ?_
    refine rr rfl (s_iload_n rfl) ?_
    refine rr rfl (s_ifF (by decide)) ?_
    refine rr rfl (s_iconst (v := 0) (by decide)) ?_
    refine rr rfl (s_istore_n rfl) ?_
    refine rr rfl (s_iconst (v := 0) (by decide)) ?_
    refine rr rfl (s_istore_n rfl) ?_
    refine rr rfl (s_iload_n rfl) ?_
    refine rr rfl (s_aload_n rfl) ?_
    refine rr rfl (s_getf rfl rfl) ?_
    refine rr rfl (s_icF (by decide)) ?_
    refine rr rfl (s_iconst (v := 0) (by decide)) ?_
    refine rr rfl (s_istore rfl) ?_
    refine rr rfl (s_aload_n rfl) ?_
    refine rr rfl (s_getf rfl rfl) ?_
    refine rr rfl (s_iload_n rfl) ?_
    refine rr rfl (s_iaload (j := 0) rfl rfl rfl) ?_
    refine rr rfl (s_ifF (ic_nne g1)) ?_
    refine rr rfl (s_aload_n rfl) ?_
    refine rr rfl (s_getf rfl rfl) ?_
    refine rr rfl (s_aload_n rfl) ?_
    refine rr rfl (s_getf rfl rfl) ?_
    refine rr rfl (s_iload_n rfl) ?_
    refine rr rfl (s_iaload (j := 0) rfl rfl rfl) ?_
    refine rr rfl (s_ialdN rfl g10 g2 g3 g8) ?_
    refine rr rfl (s_istore rfl) ?_
    refine rr rfl (s_aload_n rfl) ?_
    refine rr rfl (s_getf rfl rfl) ?_
    refine rr rfl (s_iload_n rfl) ?_
    refine rr rfl (s_iaload (j := 0) rfl rfl rfl) ?_
    refine rr rfl (s_iconst (v := (-1)) (by decide)) ?_
    refine rr rfl (s_icT (ic_eq g4)) ?_
    refine rr rfl (s_iload rfl) ?_
    refine rr rfl (s_istore rfl) ?_
    refine rr rfl (s_aload_n rfl) ?_
    refine rr rfl (s_getf rfl rfl) ?_
    refine rr rfl (s_iload_n rfl) ?_
    refine rr rfl (s_iaload (j := 0) rfl rfl rfl) ?_
    refine rr rfl (s_iconst (v := (-1)) (by decide)) ?_
    refine rr rfl (s_icF (ic_neq g5)) ?_
    refine rr rfl (s_aload_n rfl) ?_
    refine rr rfl (s_getf rfl rfl) ?_
    refine rr rfl (s_aload_n rfl) ?_
    refine rr rfl (s_getf rfl rfl) ?_
    refine rr rfl (s_iload_n rfl) ?_
    refine rr rfl (s_iaload (j := 0) rfl rfl rfl) ?_
    refine rr rfl (s_ialdH rfl g11 g8 g9) ?_
    refine rr rfl (s_iconst (v := 1) (by decide)) ?_
    refine rr rfl (s_iadd (v := 7) (by decide)) ?_
    refine rr rfl (s_iload rfl) ?_
    refine rr rfl (s_icF (by decide)) ?_
    refine rr rfl (s_aload_n rfl) ?_
    refine rr rfl (s_getf rfl rfl) ?_
    refine rr rfl (s_aload_n rfl) ?_
    refine rr rfl (s_getf rfl rfl) ?_
    refine rr rfl (s_iload_n rfl) ?_
    refine rr rfl (s_iaload (j := 0) rfl rfl rfl) ?_
    refine rr rfl (s_ialdH rfl g11 g8 g9) ?_
    refine rr rfl (s_iconst (v := 1) (by decide)) ?_
    refine rr rfl (s_iadd (v := 7) (by decide)) ?_
    refine rr rfl s_goto ?_
    refine rr rfl (s_istore rfl) ?_
    refine rr rfl (s_iload rfl) ?_
    refine rr rfl (s_aload_n rfl) ?_
    refine rr rfl (s_getf rfl rfl) ?_
    refine rr rfl (s_aload_n rfl) ?_
    refine rr rfl (s_getf rfl rfl) ?_
    refine rr rfl (s_iload_n rfl) ?_
    refine rr rfl (s_iaload (j := 0) rfl rfl rfl) ?_
    refine rr rfl (s_ialdH rfl rfl g8 g9) ?_
    refine rr rfl (s_icF (by decide)) ?_
    refine rr rfl (s_aload_n rfl) ?_
    refine rr rfl (s_getf rfl rfl) ?_
    refine rr rfl (s_aload_n rfl) ?_
    refine rr rfl (s_getf rfl rfl) ?_
    refine rr rfl (s_iload_n rfl) ?_
    refine rr rfl (s_iaload (j := 0) rfl rfl rfl) ?_
    refine rr rfl (s_iload rfl) ?_
    refine rr rfl (s_iastH (v := 7) rfl rfl g8 g9 (Nat.le_of_ble_eq_true rfl) rfl (h' := ((((((((((((hF.set 5 (.inl ((List.replicate 8 (0 : Int32)).set (Int32.toNatClampNeg x3) 8))).set 41 (.inr (.inr (9, [.int 4, .int 1, .ref 42, .ref 43, .ref 44, .ref 45, .ref 46, .ref 47, .ref 48, .ref 49, .ref 50, .ref 51, .int 0, .int 0, .int 0, .int 0, .int 0, .int 0, .int 0, .int 0, .ref 52, .int 0, .ref 53, .int 0, .ref 54, .int 0, .ref 55, .ref 56, .ref 57, .ref 58, .int 0, .ref 59, .ref 60])))).set 42 (.inl [x1, 0, 0, 0, 0, 0, 0, 0, 0, 0, 0, 0, 0])).set 43 (.inl [x2, 0, 0, 0, 0, 0, 0, 0, 0, 0, 0, 0, 0])).set 44 (.inl [x3, 0, 0, 0, 0, 0, 0, 0, 0, 0, 0, 0, 0])).set 45 (.inl [x4, 0, 0, 0, 0, 0, 0, 0, 0, 0, 0, 0, 0])).set 46 (.inl [x5, 0, 0, 0, 0, 0, 0, 0, 0, 0, 0, 0, 0])).set 47 (.inl [x6, 0, 0, 0, 0, 0, 0, 0, 0, 0, 0, 0, 0])).set 48 (.inl [x7, 0, 0, 0, 0, 0, 0, 0, 0, 0, 0, 0, 0])).set 49 (.inl [(-1), 0, 0, 0, 0, 0, 0, 0, 0, 0, 0, 0, 0])).set 51 (.inl ((List.replicate 8 (0 : Int32)).set (Int32.toNatClampNeg x3) 7))) ++ [.inr (.inr (2, [.int x1, .int x2, .int x3, .int x4, .int x4, .int x6, .int x7, .int ((1 <<< (x4 &&& 31) : Int32) ||| (1 <<< (x4 &&& 31) : Int32)), .int (1 <<< (x6 &&& 31) : Int32), .int (-1)]))]))) ?_
    refine rr rfl (s_iconst (v := 1) (by decide)) ?_
    refine rr rfl (s_istore_n rfl) ?_
    refine rr rfl (s_iload_n rfl) ?_
    refine rr rfl (s_ifF (by decide)) ?_
    refine rr rfl (s_iload rfl) ?_
    refine rr rfl (s_bipush (v := 8) (by decide)) ?_
    refine rr rfl (s_icF (by decide)) ?_
    refine rr rfl (s_iconst (v := 1) (by decide)) ?_
    refine rr rfl s_goto ?_
    refine rr rfl (s_istore_n rfl) ?_
    refine rr rfl (s_iinc (v := 1) rfl (by decide) rfl) ?_
    refine rr rfl s_goto ?_
    refine rr rfl (s_iload_n rfl) ?_
    refine rr rfl (s_aload_n rfl) ?_
    refine rr rfl (s_getf rfl rfl) ?_
    refine rr rfl (s_icT (by decide)) ?_
    refine rr rfl s_goto ?_
    refine rr rfl (s_iload_n rfl) ?_
    refine rr rfl (s_ifF (by decide)) ?_
    refine rr rfl (s_iload_n rfl) ?_
    refine rr rfl (s_ifF (by decide)) ?_
    refine rr rfl (s_iconst (v := 0) (by decide)) ?_
    refine rr rfl (s_istore_n rfl) ?_
    refine rr rfl (s_iconst (v := 0) (by decide)) ?_
    refine rr rfl (s_istore_n rfl) ?_
    refine rr rfl (s_iload_n rfl) ?_
    refine rr rfl (s_aload_n rfl) ?_
    refine rr rfl (s_getf rfl rfl) ?_
    refine rr rfl (s_icF (by decide)) ?_
    refine rr rfl (s_iconst (v := 0) (by decide)) ?_
    refine rr rfl (s_istore rfl) ?_
    refine rr rfl (s_aload_n rfl) ?_
    refine rr rfl (s_getf rfl rfl) ?_
    refine rr rfl (s_iload_n rfl) ?_
    refine rr rfl (s_iaload (j := 0) rfl rfl rfl) ?_
    refine rr rfl (s_ifF (ic_nne g1)) ?_
    refine rr rfl (s_aload_n rfl) ?_
    refine rr rfl (s_getf rfl rfl) ?_
    refine rr rfl (s_aload_n rfl) ?_
    refine rr rfl (s_getf rfl rfl) ?_
    refine rr rfl (s_iload_n rfl) ?_
    refine rr rfl (s_iaload (j := 0) rfl rfl rfl) ?_
    refine rr rfl (s_ialdN rfl g10 g2 g3 g8) ?_
    refine rr rfl (s_istore rfl) ?_
    refine rr rfl (s_aload_n rfl) ?_
    refine rr rfl (s_getf rfl rfl) ?_
    refine rr rfl (s_iload_n rfl) ?_
    refine rr rfl (s_iaload (j := 0) rfl rfl rfl) ?_
    refine rr rfl (s_iconst (v := (-1)) (by decide)) ?_
    refine rr rfl (s_icT (ic_eq g4)) ?_
    refine rr rfl (s_iload rfl) ?_
    refine rr rfl (s_istore rfl) ?_
    refine rr rfl (s_aload_n rfl) ?_
    refine rr rfl (s_getf rfl rfl) ?_
    refine rr rfl (s_iload_n rfl) ?_
    refine rr rfl (s_iaload (j := 0) rfl rfl rfl) ?_
    refine rr rfl (s_iconst (v := (-1)) (by decide)) ?_
    refine rr rfl (s_icF (ic_neq g5)) ?_
    refine rr rfl (s_aload_n rfl) ?_
    refine rr rfl (s_getf rfl rfl) ?_
    refine rr rfl (s_aload_n rfl) ?_
    refine rr rfl (s_getf rfl rfl) ?_
    refine rr rfl (s_iload_n rfl) ?_
    refine rr rfl (s_iaload (j := 0) rfl rfl rfl) ?_
    refine rr rfl (s_ialdH rfl g11 g8 g9) ?_
    refine rr rfl (s_iconst (v := 1) (by decide)) ?_
    refine rr rfl (s_iadd (v := 8) (by decide)) ?_
    refine rr rfl (s_iload rfl) ?_
    refine rr rfl (s_icF (by decide)) ?_
    refine rr rfl (s_aload_n rfl) ?_
    refine rr rfl (s_getf rfl rfl) ?_
    refine rr rfl (s_aload_n rfl) ?_
    refine rr rfl (s_getf rfl rfl) ?_
    refine rr rfl (s_iload_n rfl) ?_
    refine rr rfl (s_iaload (j := 0) rfl rfl rfl) ?_
    refine rr rfl (s_ialdH rfl g11 g8 g9) ?_
    refine rr rfl (s_iconst (v := 1) (by decide)) ?_
    refine rr rfl (s_iadd (v := 8) (by decide)) ?_
    refine rr rfl s_goto ?_
    refine rr rfl (s_istore rfl) ?_
    refine rr rfl (s_iload rfl) ?_
    refine rr rfl (s_aload_n rfl) ?_
    refine rr rfl (s_getf rfl rfl) ?_
    refine rr rfl (s_aload_n rfl) ?_
    refine rr rfl (s_getf rfl rfl) ?_
    refine rr rfl (s_iload_n rfl) ?_
    refine rr rfl (s_iaload (j := 0) rfl rfl rfl) ?_
    refine rr rfl (s_ialdH rfl rfl g8 g9) ?_
    refine rr rfl (s_icF (by decide)) ?_
    refine rr rfl (s_aload_n rfl) ?_
    refine rr rfl (s_getf rfl rfl) ?_
    refine rr rfl (s_aload_n rfl) ?_
    refine rr rfl (s_getf rfl rfl) ?_
    refine rr rfl (s_iload_n rfl) ?_
    refine rr rfl (s_iaload (j := 0) rfl rfl rfl) ?_
    refine rr rfl (s_iload rfl) ?_
    refine rr rfl (s_iastH (v := 8) rfl rfl g8 g9 (Nat.le_of_ble_eq_true rfl) rfl (h' := ((((((((((((hF.set 5 (.inl ((List.replicate 8 (0 : Int32)).set (Int32.toNatClampNeg x3) 8))).set 41 (.inr (.inr (9, [.int 4, .int 1, .ref 42, .ref 43, .ref 44, .ref 45, .ref 46, .ref 47, .ref 48, .ref 49, .ref 50, .ref 51, .int 0, .int 0, .int 0, .int 0, .int 0, .int 0, .int 0, .int 0, .ref 52, .int 0, .ref 53, .int 0, .ref 54, .int 0, .ref 55, .ref 56, .ref 57, .ref 58, .int 0, .ref 59, .ref 60])))).set 42 (.inl [x1, 0, 0, 0, 0, 0, 0, 0, 0, 0, 0, 0, 0])).set 43 (.inl [x2, 0, 0, 0, 0, 0, 0, 0, 0, 0, 0, 0, 0])).set 44 (.inl [x3, 0, 0, 0, 0, 0, 0, 0, 0, 0, 0, 0, 0])).set 45 (.inl [x4, 0, 0, 0, 0, 0, 0, 0, 0, 0, 0, 0, 0])).set 46 (.inl [x5, 0, 0, 0, 0, 0, 0, 0, 0, 0, 0, 0, 0])).set 47 (.inl [x6, 0, 0, 0, 0, 0, 0, 0, 0, 0, 0, 0, 0])).set 48 (.inl [x7, 0, 0, 0, 0, 0, 0, 0, 0, 0, 0, 0, 0])).set 49 (.inl [(-1), 0, 0, 0, 0, 0, 0, 0, 0, 0, 0, 0, 0])).set 51 (.inl ((List.replicate 8 (0 : Int32)).set (Int32.toNatClampNeg x3) 8))) ++ [.inr (.inr (2, [.int x1, .int x2, .int x3, .int x4, .int x4, .int x6, .int x7, .int ((1 <<< (x4 &&& 31) : Int32) ||| (1 <<< (x4 &&& 31) : Int32)), .int (1 <<< (x6 &&& 31) : Int32), .int (-1)]))]))) ?_
    refine rr rfl (s_iconst (v := 1) (by decide)) ?_
    refine rr rfl (s_istore_n rfl) ?_
    refine rr rfl (s_iload_n rfl) ?_
    refine rr rfl (s_ifF (by decide)) ?_
    refine rr rfl (s_iload rfl) ?_
    refine rr rfl (s_bipush (v := 8) (by decide)) ?_
    refine rr rfl (s_icT (by decide)) ?_
    refine rr rfl (s_iconst (v := 0) (by decide)) ?_
    refine rr rfl (s_istore_n rfl) ?_
    refine rr rfl (s_iinc (v := 1) rfl (by decide) rfl) ?_
    refine rr rfl s_goto ?_
    refine rr rfl (s_iload_n rfl) ?_
    refine rr rfl (s_aload_n rfl) ?_
    refine rr rfl (s_getf rfl rfl) ?_
    refine rr rfl (s_icT (by decide)) ?_
    refine rr rfl s_goto ?_
    refine rr rfl (s_iload_n rfl) ?_
    refine rr rfl (s_ifF (by decide)) ?_
    refine rr rfl (s_iload_n rfl) ?_
    refine rr rfl (s_ifT (by decide)) ?_
    refine rr rfl (s_iload_n rfl) ?_
    exact rrt rfl rfl rfl rfl
  refine rrc rfl rfl rfl (do_of g_X9_lays rfl rfl e2) ?_
  refine rr rfl (s_istore rfl) ?_
  refine rr rfl (s_iload rfl) ?_
  refine rr rfl (s_ifT (by decide)) ?_
  refine rr rfl (s_aload_n rfl) ?_
  refine rr rfl rfl ?_
  refine rr rfl (s_getf rfl rfl) ?_
  refine rr rfl (s_iconst (v := 1) (by decide)) ?_
  refine rr rfl (s_isub (v := 0) (by decide)) ?_
  refine rr rfl (s_putf rfl rfl (Nat.le_of_ble_eq_true rfl) rfl (Nat.le_of_ble_eq_true rfl) rfl (h' := (((((((((((hF.set 5 (.inl ((List.replicate 8 (0 : Int32)).set (Int32.toNatClampNeg x3) 8))).set 42 (.inl [x1, 0, 0, 0, 0, 0, 0, 0, 0, 0, 0, 0, 0])).set 43 (.inl [x2, 0, 0, 0, 0, 0, 0, 0, 0, 0, 0, 0, 0])).set 44 (.inl [x3, 0, 0, 0, 0, 0, 0, 0, 0, 0, 0, 0, 0])).set 45 (.inl [x4, 0, 0, 0, 0, 0, 0, 0, 0, 0, 0, 0, 0])).set 46 (.inl [x5, 0, 0, 0, 0, 0, 0, 0, 0, 0, 0, 0, 0])).set 47 (.inl [x6, 0, 0, 0, 0, 0, 0, 0, 0, 0, 0, 0, 0])).set 48 (.inl [x7, 0, 0, 0, 0, 0, 0, 0, 0, 0, 0, 0, 0])).set 49 (.inl [(-1), 0, 0, 0, 0, 0, 0, 0, 0, 0, 0, 0, 0])).set 51 (.inl ((List.replicate 8 (0 : Int32)).set (Int32.toNatClampNeg x3) 8))) ++ [.inr (.inr (2, [.int x1, .int x2, .int x3, .int x4, .int x4, .int x6, .int x7, .int ((1 <<< (x4 &&& 31) : Int32) ||| (1 <<< (x4 &&& 31) : Int32)), .int (1 <<< (x6 &&& 31) : Int32), .int (-1)]))]))) ?_
  refine rr rfl (s_aload_n rfl) ?_
  have e3 : a_m MT [] 100000 10 miX9_lays [.ref 41] (((((((((((hF.set 5 (.inl ((List.replicate 8 (0 : Int32)).set (Int32.toNatClampNeg x3) 8))).set 42 (.inl [x1, 0, 0, 0, 0, 0, 0, 0, 0, 0, 0, 0, 0])).set 43 (.inl [x2, 0, 0, 0, 0, 0, 0, 0, 0, 0, 0, 0, 0])).set 44 (.inl [x3, 0, 0, 0, 0, 0, 0, 0, 0, 0, 0, 0, 0])).set 45 (.inl [x4, 0, 0, 0, 0, 0, 0, 0, 0, 0, 0, 0, 0])).set 46 (.inl [x5, 0, 0, 0, 0, 0, 0, 0, 0, 0, 0, 0, 0])).set 47 (.inl [x6, 0, 0, 0, 0, 0, 0, 0, 0, 0, 0, 0, 0])).set 48 (.inl [x7, 0, 0, 0, 0, 0, 0, 0, 0, 0, 0, 0, 0])).set 49 (.inl [(-1), 0, 0, 0, 0, 0, 0, 0, 0, 0, 0, 0, 0])).set 51 (.inl ((List.replicate 8 (0 : Int32)).set (Int32.toNatClampNeg x3) 8))) ++ [.inr (.inr (2, [.int x1, .int x2, .int x3, .int x4, .int x4, .int x6, .int x7, .int ((1 <<< (x4 &&& 31) : Int32) ||| (1 <<< (x4 &&& 31) : Int32)), .int (1 <<< (x6 &&& 31) : Int32), .int (-1)]))]) = some ((some (.int 1)), ((((((((((hF.set 5 (.inl ((List.replicate 8 (0 : Int32)).set (Int32.toNatClampNeg x3) 8))).set 42 (.inl [x1, 0, 0, 0, 0, 0, 0, 0, 0, 0, 0, 0, 0])).set 43 (.inl [x2, 0, 0, 0, 0, 0, 0, 0, 0, 0, 0, 0, 0])).set 44 (.inl [x3, 0, 0, 0, 0, 0, 0, 0, 0, 0, 0, 0, 0])).set 45 (.inl [x4, 0, 0, 0, 0, 0, 0, 0, 0, 0, 0, 0, 0])).set 46 (.inl [x5, 0, 0, 0, 0, 0, 0, 0, 0, 0, 0, 0, 0])).set 47 (.inl [x6, 0, 0, 0, 0, 0, 0, 0, 0, 0, 0, 0, 0])).set 48 (.inl [x7, 0, 0, 0, 0, 0, 0, 0, 0, 0, 0, 0, 0])).set 49 (.inl [(-1), 0, 0, 0, 0, 0, 0, 0, 0, 0, 0, 0, 0])) ++ [.inr (.inr (2, [.int x1, .int x2, .int x3, .int x4, .int x4, .int x6, .int x7, .int ((1 <<< (x4 &&& 31) : Int32) ||| (1 <<< (x4 &&& 31) : Int32)), .int (1 <<< (x6 &&& 31) : Int32), .int (-1)]))]), 0, 0) := by
    exact lays0 rfl rfl rfl rfl (by simp) rfl
  refine rrc rfl rfl rfl (do_of g_X9_lays rfl rfl e3) ?_
  refine rr rfl (s_istore rfl) ?_
  refine rr rfl (s_iload rfl) ?_
  refine rr rfl (s_ifT (by decide)) ?_
  refine rr rfl (s_bipush (v := (-3)) (by decide)) ?_
  exact rrt rfl rfl rfl rfl
set_option maxHeartbeats 4000000 in
set_option maxRecDepth 10000 in
theorem rm_Noho {x1 x2 x3 x4 x5 x6 x7 : Int32} (g1 : x2 = 0) (g2 : ¬ x4 < 0) (g3 : x4 < nI 8) (g4 : ¬ x5 = (-1)) (g5 : ¬ x5 < 0) (g6 : x5 < nI 8) (g7 : ¬ x6 = (-1)) (g8 : ¬ x6 < 0) (g9 : x6 < nI 8) (g10 : ¬ x3 < 0) (g11 : x3 < nI 8) (g12 : ¬ x4 = x3) (g13 : ¬ x5 = x3) (g14 : x6 = x3) : a_run MT [] (a_m MT [] 100000 10) 11 (some .int) tabX9_rule 90000 95 (alQ x1 x2 x3 x4 x5 x6 x7) [] ((hF.set 5 (.inl ((List.replicate 8 (0 : Int32)).set (Int32.toNatClampNeg x3) 8))) ++ [.inr (.inr (2, [.int x1, .int x2, .int x3, .int x4, .int x5, .int x6, .int x7, .int ((1 <<< (x4 &&& 31) : Int32) ||| (1 <<< (x5 &&& 31) : Int32)), .int (1 <<< (x6 &&& 31) : Int32), .int (-1)]))]) 0 0 = some (some (.int (-3)), ((((((((((hF.set 5 (.inl ((List.replicate 8 (0 : Int32)).set (Int32.toNatClampNeg x3) 8))).set 42 (.inl [x1, 0, 0, 0, 0, 0, 0, 0, 0, 0, 0, 0, 0])).set 43 (.inl [x2, 0, 0, 0, 0, 0, 0, 0, 0, 0, 0, 0, 0])).set 44 (.inl [x3, 0, 0, 0, 0, 0, 0, 0, 0, 0, 0, 0, 0])).set 45 (.inl [x4, 0, 0, 0, 0, 0, 0, 0, 0, 0, 0, 0, 0])).set 46 (.inl [x5, 0, 0, 0, 0, 0, 0, 0, 0, 0, 0, 0, 0])).set 47 (.inl [x6, 0, 0, 0, 0, 0, 0, 0, 0, 0, 0, 0, 0])).set 48 (.inl [x7, 0, 0, 0, 0, 0, 0, 0, 0, 0, 0, 0, 0])).set 49 (.inl [(-1), 0, 0, 0, 0, 0, 0, 0, 0, 0, 0, 0, 0])) ++ [.inr (.inr (2, [.int x1, .int x2, .int x3, .int x4, .int x5, .int x6, .int x7, .int ((1 <<< (x4 &&& 31) : Int32) ||| (1 <<< (x5 &&& 31) : Int32)), .int (1 <<< (x6 &&& 31) : Int32), .int (-1)]))]), 0, 0) := by
  refine rr rfl (s_aload_n rfl) ?_
  refine rr rfl (s_aload_n rfl) ?_
  refine rr rfl (s_getf rfl rfl) ?_
  refine rr rfl (s_iload_n rfl) ?_
  refine rr rfl (s_iload_n rfl) ?_
  refine rr rfl (s_iload_n rfl) ?_
  refine rr rfl (s_iload rfl) ?_
  refine rr rfl (s_iload rfl) ?_
  refine rr rfl (s_iload rfl) ?_
  refine rr rfl (s_iload rfl) ?_
  have e1 : a_m MT [] 100000 10 miX9_sets [.ref 41, .int 0, .int x1, .int x2, .int x3, .int x4, .int x5, .int x6, .int x7] ((hF.set 5 (.inl ((List.replicate 8 (0 : Int32)).set (Int32.toNatClampNeg x3) 8))) ++ [.inr (.inr (2, [.int x1, .int x2, .int x3, .int x4, .int x5, .int x6, .int x7, .int ((1 <<< (x4 &&& 31) : Int32) ||| (1 <<< (x5 &&& 31) : Int32)), .int (1 <<< (x6 &&& 31) : Int32), .int (-1)]))]) = some (none, ((((((((((hF.set 5 (.inl ((List.replicate 8 (0 : Int32)).set (Int32.toNatClampNeg x3) 8))).set 42 (.inl [x1, 0, 0, 0, 0, 0, 0, 0, 0, 0, 0, 0, 0])).set 43 (.inl [x2, 0, 0, 0, 0, 0, 0, 0, 0, 0, 0, 0, 0])).set 44 (.inl [x3, 0, 0, 0, 0, 0, 0, 0, 0, 0, 0, 0, 0])).set 45 (.inl [x4, 0, 0, 0, 0, 0, 0, 0, 0, 0, 0, 0, 0])).set 46 (.inl [x5, 0, 0, 0, 0, 0, 0, 0, 0, 0, 0, 0, 0])).set 47 (.inl [x6, 0, 0, 0, 0, 0, 0, 0, 0, 0, 0, 0, 0])).set 48 (.inl [x7, 0, 0, 0, 0, 0, 0, 0, 0, 0, 0, 0, 0])).set 49 (.inl [(-1), 0, 0, 0, 0, 0, 0, 0, 0, 0, 0, 0, 0])) ++ [.inr (.inr (2, [.int x1, .int x2, .int x3, .int x4, .int x5, .int x6, .int x7, .int ((1 <<< (x4 &&& 31) : Int32) ||| (1 <<< (x5 &&& 31) : Int32)), .int (1 <<< (x6 &&& 31) : Int32), .int (-1)]))]), 0, 0) := by
    refine me (d := 9) g_X9_sets (Nat.le_of_ble_eq_true rfl) ?_
    refine rr rfl (s_aload_n rfl) ?_
    refine rr rfl (s_getf rfl rfl) ?_
    refine rr rfl (s_iload_n rfl) ?_
    refine rr rfl (s_iload_n rfl) ?_
    refine rr rfl (s_iastore (j := 0) (f' := [x1, 0, 0, 0, 0, 0, 0, 0, 0, 0, 0, 0, 0]) rfl rfl (Nat.le_of_ble_eq_true rfl) rfl (Nat.le_of_ble_eq_true rfl) rfl (h' := (((hF.set 5 (.inl ((List.replicate 8 (0 : Int32)).set (Int32.toNatClampNeg x3) 8))).set 42 (.inl [x1, 0, 0, 0, 0, 0, 0, 0, 0, 0, 0, 0, 0])) ++ [.inr (.inr (2, [.int x1, .int x2, .int x3, .int x4, .int x5, .int x6, .int x7, .int ((1 <<< (x4 &&& 31) : Int32) ||| (1 <<< (x5 &&& 31) : Int32)), .int (1 <<< (x6 &&& 31) : Int32), .int (-1)]))]))) ?_
    refine rr rfl (s_aload_n rfl) ?_
    refine rr rfl (s_getf rfl rfl) ?_
    refine rr rfl (s_iload_n rfl) ?_
    refine rr rfl (s_iload_n rfl) ?_
    refine rr rfl (s_iastore (j := 0) (f' := [x2, 0, 0, 0, 0, 0, 0, 0, 0, 0, 0, 0, 0]) rfl rfl (Nat.le_of_ble_eq_true rfl) rfl (Nat.le_of_ble_eq_true rfl) rfl (h' := ((((hF.set 5 (.inl ((List.replicate 8 (0 : Int32)).set (Int32.toNatClampNeg x3) 8))).set 42 (.inl [x1, 0, 0, 0, 0, 0, 0, 0, 0, 0, 0, 0, 0])).set 43 (.inl [x2, 0, 0, 0, 0, 0, 0, 0, 0, 0, 0, 0, 0])) ++ [.inr (.inr (2, [.int x1, .int x2, .int x3, .int x4, .int x5, .int x6, .int x7, .int ((1 <<< (x4 &&& 31) : Int32) ||| (1 <<< (x5 &&& 31) : Int32)), .int (1 <<< (x6 &&& 31) : Int32), .int (-1)]))]))) ?_
    refine rr rfl (s_aload_n rfl) ?_
    refine rr rfl (s_getf rfl rfl) ?_
    refine rr rfl (s_iload_n rfl) ?_
    refine rr rfl (s_iload rfl) ?_
    refine rr rfl (s_iastore (j := 0) (f' := [x3, 0, 0, 0, 0, 0, 0, 0, 0, 0, 0, 0, 0]) rfl rfl (Nat.le_of_ble_eq_true rfl) rfl (Nat.le_of_ble_eq_true rfl) rfl (h' := (((((hF.set 5 (.inl ((List.replicate 8 (0 : Int32)).set (Int32.toNatClampNeg x3) 8))).set 42 (.inl [x1, 0, 0, 0, 0, 0, 0, 0, 0, 0, 0, 0, 0])).set 43 (.inl [x2, 0, 0, 0, 0, 0, 0, 0, 0, 0, 0, 0, 0])).set 44 (.inl [x3, 0, 0, 0, 0, 0, 0, 0, 0, 0, 0, 0, 0])) ++ [.inr (.inr (2, [.int x1, .int x2, .int x3, .int x4, .int x5, .int x6, .int x7, .int ((1 <<< (x4 &&& 31) : Int32) ||| (1 <<< (x5 &&& 31) : Int32)), .int (1 <<< (x6 &&& 31) : Int32), .int (-1)]))]))) ?_
    refine rr rfl (s_aload_n rfl) ?_
    refine rr rfl (s_getf rfl rfl) ?_
    refine rr rfl (s_iload_n rfl) ?_
    refine rr rfl (s_iload rfl) ?_
    refine rr rfl (s_iastore (j := 0) (f' := [x4, 0, 0, 0, 0, 0, 0, 0, 0, 0, 0, 0, 0]) rfl rfl (Nat.le_of_ble_eq_true rfl) rfl (Nat.le_of_ble_eq_true rfl) rfl (h' := ((((((hF.set 5 (.inl ((List.replicate 8 (0 : Int32)).set (Int32.toNatClampNeg x3) 8))).set 42 (.inl [x1, 0, 0, 0, 0, 0, 0, 0, 0, 0, 0, 0, 0])).set 43 (.inl [x2, 0, 0, 0, 0, 0, 0, 0, 0, 0, 0, 0, 0])).set 44 (.inl [x3, 0, 0, 0, 0, 0, 0, 0, 0, 0, 0, 0, 0])).set 45 (.inl [x4, 0, 0, 0, 0, 0, 0, 0, 0, 0, 0, 0, 0])) ++ [.inr (.inr (2, [.int x1, .int x2, .int x3, .int x4, .int x5, .int x6, .int x7, .int ((1 <<< (x4 &&& 31) : Int32) ||| (1 <<< (x5 &&& 31) : Int32)), .int (1 <<< (x6 &&& 31) : Int32), .int (-1)]))]))) ?_
    refine rr rfl (s_aload_n rfl) ?_
    refine rr rfl (s_getf rfl rfl) ?_
    refine rr rfl (s_iload_n rfl) ?_
    refine rr rfl (s_iload rfl) ?_
    refine rr rfl (s_iastore (j := 0) (f' := [x5, 0, 0, 0, 0, 0, 0, 0, 0, 0, 0, 0, 0]) rfl rfl (Nat.le_of_ble_eq_true rfl) rfl (Nat.le_of_ble_eq_true rfl) rfl (h' := (((((((hF.set 5 (.inl ((List.replicate 8 (0 : Int32)).set (Int32.toNatClampNeg x3) 8))).set 42 (.inl [x1, 0, 0, 0, 0, 0, 0, 0, 0, 0, 0, 0, 0])).set 43 (.inl [x2, 0, 0, 0, 0, 0, 0, 0, 0, 0, 0, 0, 0])).set 44 (.inl [x3, 0, 0, 0, 0, 0, 0, 0, 0, 0, 0, 0, 0])).set 45 (.inl [x4, 0, 0, 0, 0, 0, 0, 0, 0, 0, 0, 0, 0])).set 46 (.inl [x5, 0, 0, 0, 0, 0, 0, 0, 0, 0, 0, 0, 0])) ++ [.inr (.inr (2, [.int x1, .int x2, .int x3, .int x4, .int x5, .int x6, .int x7, .int ((1 <<< (x4 &&& 31) : Int32) ||| (1 <<< (x5 &&& 31) : Int32)), .int (1 <<< (x6 &&& 31) : Int32), .int (-1)]))]))) ?_
    refine rr rfl (s_aload_n rfl) ?_
    refine rr rfl (s_getf rfl rfl) ?_
    refine rr rfl (s_iload_n rfl) ?_
    refine rr rfl (s_iload rfl) ?_
    refine rr rfl (s_iastore (j := 0) (f' := [x6, 0, 0, 0, 0, 0, 0, 0, 0, 0, 0, 0, 0]) rfl rfl (Nat.le_of_ble_eq_true rfl) rfl (Nat.le_of_ble_eq_true rfl) rfl (h' := ((((((((hF.set 5 (.inl ((List.replicate 8 (0 : Int32)).set (Int32.toNatClampNeg x3) 8))).set 42 (.inl [x1, 0, 0, 0, 0, 0, 0, 0, 0, 0, 0, 0, 0])).set 43 (.inl [x2, 0, 0, 0, 0, 0, 0, 0, 0, 0, 0, 0, 0])).set 44 (.inl [x3, 0, 0, 0, 0, 0, 0, 0, 0, 0, 0, 0, 0])).set 45 (.inl [x4, 0, 0, 0, 0, 0, 0, 0, 0, 0, 0, 0, 0])).set 46 (.inl [x5, 0, 0, 0, 0, 0, 0, 0, 0, 0, 0, 0, 0])).set 47 (.inl [x6, 0, 0, 0, 0, 0, 0, 0, 0, 0, 0, 0, 0])) ++ [.inr (.inr (2, [.int x1, .int x2, .int x3, .int x4, .int x5, .int x6, .int x7, .int ((1 <<< (x4 &&& 31) : Int32) ||| (1 <<< (x5 &&& 31) : Int32)), .int (1 <<< (x6 &&& 31) : Int32), .int (-1)]))]))) ?_
    refine rr rfl (s_aload_n rfl) ?_
    refine rr rfl (s_getf rfl rfl) ?_
    refine rr rfl (s_iload_n rfl) ?_
    refine rr rfl (s_iload rfl) ?_
    refine rr rfl (s_iastore (j := 0) (f' := [x7, 0, 0, 0, 0, 0, 0, 0, 0, 0, 0, 0, 0]) rfl rfl (Nat.le_of_ble_eq_true rfl) rfl (Nat.le_of_ble_eq_true rfl) rfl (h' := (((((((((hF.set 5 (.inl ((List.replicate 8 (0 : Int32)).set (Int32.toNatClampNeg x3) 8))).set 42 (.inl [x1, 0, 0, 0, 0, 0, 0, 0, 0, 0, 0, 0, 0])).set 43 (.inl [x2, 0, 0, 0, 0, 0, 0, 0, 0, 0, 0, 0, 0])).set 44 (.inl [x3, 0, 0, 0, 0, 0, 0, 0, 0, 0, 0, 0, 0])).set 45 (.inl [x4, 0, 0, 0, 0, 0, 0, 0, 0, 0, 0, 0, 0])).set 46 (.inl [x5, 0, 0, 0, 0, 0, 0, 0, 0, 0, 0, 0, 0])).set 47 (.inl [x6, 0, 0, 0, 0, 0, 0, 0, 0, 0, 0, 0, 0])).set 48 (.inl [x7, 0, 0, 0, 0, 0, 0, 0, 0, 0, 0, 0, 0])) ++ [.inr (.inr (2, [.int x1, .int x2, .int x3, .int x4, .int x5, .int x6, .int x7, .int ((1 <<< (x4 &&& 31) : Int32) ||| (1 <<< (x5 &&& 31) : Int32)), .int (1 <<< (x6 &&& 31) : Int32), .int (-1)]))]))) ?_
    refine rr rfl (s_aload_n rfl) ?_
    refine rr rfl (s_getf rfl rfl) ?_
    refine rr rfl (s_iload_n rfl) ?_
    refine rr rfl (s_iconst (v := (-1)) (by decide)) ?_
    refine rr rfl (s_iastore (j := 0) (f' := [(-1), 0, 0, 0, 0, 0, 0, 0, 0, 0, 0, 0, 0]) rfl rfl (Nat.le_of_ble_eq_true rfl) rfl (Nat.le_of_ble_eq_true rfl) rfl (h' := ((((((((((hF.set 5 (.inl ((List.replicate 8 (0 : Int32)).set (Int32.toNatClampNeg x3) 8))).set 42 (.inl [x1, 0, 0, 0, 0, 0, 0, 0, 0, 0, 0, 0, 0])).set 43 (.inl [x2, 0, 0, 0, 0, 0, 0, 0, 0, 0, 0, 0, 0])).set 44 (.inl [x3, 0, 0, 0, 0, 0, 0, 0, 0, 0, 0, 0, 0])).set 45 (.inl [x4, 0, 0, 0, 0, 0, 0, 0, 0, 0, 0, 0, 0])).set 46 (.inl [x5, 0, 0, 0, 0, 0, 0, 0, 0, 0, 0, 0, 0])).set 47 (.inl [x6, 0, 0, 0, 0, 0, 0, 0, 0, 0, 0, 0, 0])).set 48 (.inl [x7, 0, 0, 0, 0, 0, 0, 0, 0, 0, 0, 0, 0])).set 49 (.inl [(-1), 0, 0, 0, 0, 0, 0, 0, 0, 0, 0, 0, 0])) ++ [.inr (.inr (2, [.int x1, .int x2, .int x3, .int x4, .int x5, .int x6, .int x7, .int ((1 <<< (x4 &&& 31) : Int32) ||| (1 <<< (x5 &&& 31) : Int32)), .int (1 <<< (x6 &&& 31) : Int32), .int (-1)]))]))) ?_
    exact rrt rfl rfl rfl rfl
  refine rrc rfl rfl rfl (do_of g_X9_sets rfl rfl e1) ?_
  refine rr rfl (s_aload_n rfl) ?_
  refine rr rfl rfl ?_
  refine rr rfl (s_getf rfl rfl) ?_
  refine rr rfl (s_iconst (v := 1) (by decide)) ?_
  refine rr rfl (s_iadd (v := 1) (by decide)) ?_
  refine rr rfl (s_putf rfl rfl (Nat.le_of_ble_eq_true rfl) rfl (Nat.le_of_ble_eq_true rfl) rfl (h' := (((((((((((hF.set 5 (.inl ((List.replicate 8 (0 : Int32)).set (Int32.toNatClampNeg x3) 8))).set 41 (.inr (.inr (9, [.int 4, .int 1, .ref 42, .ref 43, .ref 44, .ref 45, .ref 46, .ref 47, .ref 48, .ref 49, .ref 50, .ref 51, .int 0, .int 0, .int 0, .int 0, .int 0, .int 0, .int 0, .int 0, .ref 52, .int 0, .ref 53, .int 0, .ref 54, .int 0, .ref 55, .ref 56, .ref 57, .ref 58, .int 0, .ref 59, .ref 60])))).set 42 (.inl [x1, 0, 0, 0, 0, 0, 0, 0, 0, 0, 0, 0, 0])).set 43 (.inl [x2, 0, 0, 0, 0, 0, 0, 0, 0, 0, 0, 0, 0])).set 44 (.inl [x3, 0, 0, 0, 0, 0, 0, 0, 0, 0, 0, 0, 0])).set 45 (.inl [x4, 0, 0, 0, 0, 0, 0, 0, 0, 0, 0, 0, 0])).set 46 (.inl [x5, 0, 0, 0, 0, 0, 0, 0, 0, 0, 0, 0, 0])).set 47 (.inl [x6, 0, 0, 0, 0, 0, 0, 0, 0, 0, 0, 0, 0])).set 48 (.inl [x7, 0, 0, 0, 0, 0, 0, 0, 0, 0, 0, 0, 0])).set 49 (.inl [(-1), 0, 0, 0, 0, 0, 0, 0, 0, 0, 0, 0, 0])) ++ [.inr (.inr (2, [.int x1, .int x2, .int x3, .int x4, .int x5, .int x6, .int x7, .int ((1 <<< (x4 &&& 31) : Int32) ||| (1 <<< (x5 &&& 31) : Int32)), .int (1 <<< (x6 &&& 31) : Int32), .int (-1)]))]))) ?_
  refine rr rfl (s_aload_n rfl) ?_
  have e2 : a_m MT [] 100000 10 miX9_lays [.ref 41] (((((((((((hF.set 5 (.inl ((List.replicate 8 (0 : Int32)).set (Int32.toNatClampNeg x3) 8))).set 41 (.inr (.inr (9, [.int 4, .int 1, .ref 42, .ref 43, .ref 44, .ref 45, .ref 46, .ref 47, .ref 48, .ref 49, .ref 50, .ref 51, .int 0, .int 0, .int 0, .int 0, .int 0, .int 0, .int 0, .int 0, .ref 52, .int 0, .ref 53, .int 0, .ref 54, .int 0, .ref 55, .ref 56, .ref 57, .ref 58, .int 0, .ref 59, .ref 60])))).set 42 (.inl [x1, 0, 0, 0, 0, 0, 0, 0, 0, 0, 0, 0, 0])).set 43 (.inl [x2, 0, 0, 0, 0, 0, 0, 0, 0, 0, 0, 0, 0])).set 44 (.inl [x3, 0, 0, 0, 0, 0, 0, 0, 0, 0, 0, 0, 0])).set 45 (.inl [x4, 0, 0, 0, 0, 0, 0, 0, 0, 0, 0, 0, 0])).set 46 (.inl [x5, 0, 0, 0, 0, 0, 0, 0, 0, 0, 0, 0, 0])).set 47 (.inl [x6, 0, 0, 0, 0, 0, 0, 0, 0, 0, 0, 0, 0])).set 48 (.inl [x7, 0, 0, 0, 0, 0, 0, 0, 0, 0, 0, 0, 0])).set 49 (.inl [(-1), 0, 0, 0, 0, 0, 0, 0, 0, 0, 0, 0, 0])) ++ [.inr (.inr (2, [.int x1, .int x2, .int x3, .int x4, .int x5, .int x6, .int x7, .int ((1 <<< (x4 &&& 31) : Int32) ||| (1 <<< (x5 &&& 31) : Int32)), .int (1 <<< (x6 &&& 31) : Int32), .int (-1)]))]) = some ((some (.int 0)), ((((((((((((hF.set 5 (.inl ((List.replicate 8 (0 : Int32)).set (Int32.toNatClampNeg x3) 8))).set 41 (.inr (.inr (9, [.int 4, .int 1, .ref 42, .ref 43, .ref 44, .ref 45, .ref 46, .ref 47, .ref 48, .ref 49, .ref 50, .ref 51, .int 0, .int 0, .int 0, .int 0, .int 0, .int 0, .int 0, .int 0, .ref 52, .int 0, .ref 53, .int 0, .ref 54, .int 0, .ref 55, .ref 56, .ref 57, .ref 58, .int 0, .ref 59, .ref 60])))).set 42 (.inl [x1, 0, 0, 0, 0, 0, 0, 0, 0, 0, 0, 0, 0])).set 43 (.inl [x2, 0, 0, 0, 0, 0, 0, 0, 0, 0, 0, 0, 0])).set 44 (.inl [x3, 0, 0, 0, 0, 0, 0, 0, 0, 0, 0, 0, 0])).set 45 (.inl [x4, 0, 0, 0, 0, 0, 0, 0, 0, 0, 0, 0, 0])).set 46 (.inl [x5, 0, 0, 0, 0, 0, 0, 0, 0, 0, 0, 0, 0])).set 47 (.inl [x6, 0, 0, 0, 0, 0, 0, 0, 0, 0, 0, 0, 0])).set 48 (.inl [x7, 0, 0, 0, 0, 0, 0, 0, 0, 0, 0, 0, 0])).set 49 (.inl [(-1), 0, 0, 0, 0, 0, 0, 0, 0, 0, 0, 0, 0])).set 51 (.inl ((List.replicate 8 (0 : Int32)).set (Int32.toNatClampNeg x3) 8))) ++ [.inr (.inr (2, [.int x1, .int x2, .int x3, .int x4, .int x5, .int x6, .int x7, .int ((1 <<< (x4 &&& 31) : Int32) ||| (1 <<< (x5 &&& 31) : Int32)), .int (1 <<< (x6 &&& 31) : Int32), .int (-1)]))]), 0, 0) := by
    refine me (d := 9) g_X9_lays (Nat.le_of_ble_eq_true rfl) ?_
    refine rr rfl (s_iconst (v := 0) (by decide)) ?_
    refine rr rfl (s_istore_n rfl) ?_
    refine rr rfl (s_iload_n rfl) ?_
    refine rr rfl (s_bipush (v := 8) (by decide)) ?_
    refine rr rfl (s_icF (by decide)) ?_
    refine rr rfl (s_aload_n rfl) ?_
    refine rr rfl (s_getf rfl rfl) ?_
    refine rr rfl (s_iload_n rfl) ?_
    refine rr rfl (s_iconst (v := 0) (by decide)) ?_
    refine rr rfl (s_iastore (j := 0) (f' := (List.replicate 8 0)) rfl rfl (Nat.le_of_ble_eq_true rfl) rfl (Nat.le_of_ble_eq_true rfl) rfl (h' := (((((((((((hF.set 5 (.inl ((List.replicate 8 (0 : Int32)).set (Int32.toNatClampNeg x3) 8))).set 41 (.inr (.inr (9, [.int 4, .int 1, .ref 42, .ref 43, .ref 44, .ref 45, .ref 46, .ref 47, .ref 48, .ref 49, .ref 50, .ref 51, .int 0, .int 0, .int 0, .int 0, .int 0, .int 0, .int 0, .int 0, .ref 52, .int 0, .ref 53, .int 0, .ref 54, .int 0, .ref 55, .ref 56, .ref 57, .ref 58, .int 0, .ref 59, .ref 60])))).set 42 (.inl [x1, 0, 0, 0, 0, 0, 0, 0, 0, 0, 0, 0, 0])).set 43 (.inl [x2, 0, 0, 0, 0, 0, 0, 0, 0, 0, 0, 0, 0])).set 44 (.inl [x3, 0, 0, 0, 0, 0, 0, 0, 0, 0, 0, 0, 0])).set 45 (.inl [x4, 0, 0, 0, 0, 0, 0, 0, 0, 0, 0, 0, 0])).set 46 (.inl [x5, 0, 0, 0, 0, 0, 0, 0, 0, 0, 0, 0, 0])).set 47 (.inl [x6, 0, 0, 0, 0, 0, 0, 0, 0, 0, 0, 0, 0])).set 48 (.inl [x7, 0, 0, 0, 0, 0, 0, 0, 0, 0, 0, 0, 0])).set 49 (.inl [(-1), 0, 0, 0, 0, 0, 0, 0, 0, 0, 0, 0, 0])) ++ [.inr (.inr (2, [.int x1, .int x2, .int x3, .int x4, .int x5, .int x6, .int x7, .int ((1 <<< (x4 &&& 31) : Int32) ||| (1 <<< (x5 &&& 31) : Int32)), .int (1 <<< (x6 &&& 31) : Int32), .int (-1)]))]))) ?_
    refine rr rfl (s_iinc (v := 1) rfl (by decide) rfl) ?_
    refine rr rfl s_goto ?_
    refine rr rfl (s_iload_n rfl) ?_
    refine rr rfl (s_bipush (v := 8) (by decide)) ?_
    refine rr rfl (s_icF (by decide)) ?_
    refine rr rfl (s_aload_n rfl) ?_
    refine rr rfl (s_getf rfl rfl) ?_
    refine rr rfl (s_iload_n rfl) ?_
    refine rr rfl (s_iconst (v := 0) (by decide)) ?_
    refine rr rfl (s_iastore (j := 1) (f' := (List.replicate 8 0)) rfl rfl (Nat.le_of_ble_eq_true rfl) rfl (Nat.le_of_ble_eq_true rfl) rfl (h' := (((((((((((hF.set 5 (.inl ((List.replicate 8 (0 : Int32)).set (Int32.toNatClampNeg x3) 8))).set 41 (.inr (.inr (9, [.int 4, .int 1, .ref 42, .ref 43, .ref 44, .ref 45, .ref 46, .ref 47, .ref 48, .ref 49, .ref 50, .ref 51, .int 0, .int 0, .int 0, .int 0, .int 0, .int 0, .int 0, .int 0, .ref 52, .int 0, .ref 53, .int 0, .ref 54, .int 0, .ref 55, .ref 56, .ref 57, .ref 58, .int 0, .ref 59, .ref 60])))).set 42 (.inl [x1, 0, 0, 0, 0, 0, 0, 0, 0, 0, 0, 0, 0])).set 43 (.inl [x2, 0, 0, 0, 0, 0, 0, 0, 0, 0, 0, 0, 0])).set 44 (.inl [x3, 0, 0, 0, 0, 0, 0, 0, 0, 0, 0, 0, 0])).set 45 (.inl [x4, 0, 0, 0, 0, 0, 0, 0, 0, 0, 0, 0, 0])).set 46 (.inl [x5, 0, 0, 0, 0, 0, 0, 0, 0, 0, 0, 0, 0])).set 47 (.inl [x6, 0, 0, 0, 0, 0, 0, 0, 0, 0, 0, 0, 0])).set 48 (.inl [x7, 0, 0, 0, 0, 0, 0, 0, 0, 0, 0, 0, 0])).set 49 (.inl [(-1), 0, 0, 0, 0, 0, 0, 0, 0, 0, 0, 0, 0])) ++ [.inr (.inr (2, [.int x1, .int x2, .int x3, .int x4, .int x5, .int x6, .int x7, .int ((1 <<< (x4 &&& 31) : Int32) ||| (1 <<< (x5 &&& 31) : Int32)), .int (1 <<< (x6 &&& 31) : Int32), .int (-1)]))]))) ?_
    refine rr rfl (s_iinc (v := 2) rfl (by decide) rfl) ?_
    refine rr rfl s_goto ?_
    refine rr rfl (s_iload_n rfl) ?_
    refine rr rfl (s_bipush (v := 8) (by decide)) ?_
    refine rr rfl (s_icF (by decide)) ?_
    refine rr rfl (s_aload_n rfl) ?_
    refine rr rfl (s_getf rfl rfl) ?_
    refine rr rfl (s_iload_n rfl) ?_
    refine rr rfl (s_iconst (v := 0) (by decide)) ?_
    refine rr rfl (s_iastore (j := 2) (f' := (List.replicate 8 0)) rfl rfl (Nat.le_of_ble_eq_true rfl) rfl (Nat.le_of_ble_eq_true rfl) rfl (h' := (((((((((((hF.set 5 (.inl ((List.replicate 8 (0 : Int32)).set (Int32.toNatClampNeg x3) 8))).set 41 (.inr (.inr (9, [.int 4, .int 1, .ref 42, .ref 43, .ref 44, .ref 45, .ref 46, .ref 47, .ref 48, .ref 49, .ref 50, .ref 51, .int 0, .int 0, .int 0, .int 0, .int 0, .int 0, .int 0, .int 0, .ref 52, .int 0, .ref 53, .int 0, .ref 54, .int 0, .ref 55, .ref 56, .ref 57, .ref 58, .int 0, .ref 59, .ref 60])))).set 42 (.inl [x1, 0, 0, 0, 0, 0, 0, 0, 0, 0, 0, 0, 0])).set 43 (.inl [x2, 0, 0, 0, 0, 0, 0, 0, 0, 0, 0, 0, 0])).set 44 (.inl [x3, 0, 0, 0, 0, 0, 0, 0, 0, 0, 0, 0, 0])).set 45 (.inl [x4, 0, 0, 0, 0, 0, 0, 0, 0, 0, 0, 0, 0])).set 46 (.inl [x5, 0, 0, 0, 0, 0, 0, 0, 0, 0, 0, 0, 0])).set 47 (.inl [x6, 0, 0, 0, 0, 0, 0, 0, 0, 0, 0, 0, 0])).set 48 (.inl [x7, 0, 0, 0, 0, 0, 0, 0, 0, 0, 0, 0, 0])).set 49 (.inl [(-1), 0, 0, 0, 0, 0, 0, 0, 0, 0, 0, 0, 0])) ++ [.inr (.inr (2, [.int x1, .int x2, .int x3, .int x4, .int x5, .int x6, .int x7, .int ((1 <<< (x4 &&& 31) : Int32) ||| (1 <<< (x5 &&& 31) : Int32)), .int (1 <<< (x6 &&& 31) : Int32), .int (-1)]))]))) ?_
    refine rr rfl (s_iinc (v := 3) rfl (by decide) rfl) ?_
    refine rr rfl s_goto ?_
    refine rr rfl (s_iload_n rfl) ?_
    refine rr rfl (s_bipush (v := 8) (by decide)) ?_
    refine rr rfl (s_icF (by decide)) ?_
    refine rr rfl (s_aload_n rfl) ?_
    refine rr rfl (s_getf rfl rfl) ?_
    refine rr rfl (s_iload_n rfl) ?_
    refine rr rfl (s_iconst (v := 0) (by decide)) ?_
    refine rr rfl (s_iastore (j := 3) (f' := (List.replicate 8 0)) rfl rfl (Nat.le_of_ble_eq_true rfl) rfl (Nat.le_of_ble_eq_true rfl) rfl (h' := (((((((((((hF.set 5 (.inl ((List.replicate 8 (0 : Int32)).set (Int32.toNatClampNeg x3) 8))).set 41 (.inr (.inr (9, [.int 4, .int 1, .ref 42, .ref 43, .ref 44, .ref 45, .ref 46, .ref 47, .ref 48, .ref 49, .ref 50, .ref 51, .int 0, .int 0, .int 0, .int 0, .int 0, .int 0, .int 0, .int 0, .ref 52, .int 0, .ref 53, .int 0, .ref 54, .int 0, .ref 55, .ref 56, .ref 57, .ref 58, .int 0, .ref 59, .ref 60])))).set 42 (.inl [x1, 0, 0, 0, 0, 0, 0, 0, 0, 0, 0, 0, 0])).set 43 (.inl [x2, 0, 0, 0, 0, 0, 0, 0, 0, 0, 0, 0, 0])).set 44 (.inl [x3, 0, 0, 0, 0, 0, 0, 0, 0, 0, 0, 0, 0])).set 45 (.inl [x4, 0, 0, 0, 0, 0, 0, 0, 0, 0, 0, 0, 0])).set 46 (.inl [x5, 0, 0, 0, 0, 0, 0, 0, 0, 0, 0, 0, 0])).set 47 (.inl [x6, 0, 0, 0, 0, 0, 0, 0, 0, 0, 0, 0, 0])).set 48 (.inl [x7, 0, 0, 0, 0, 0, 0, 0, 0, 0, 0, 0, 0])).set 49 (.inl [(-1), 0, 0, 0, 0, 0, 0, 0, 0, 0, 0, 0, 0])) ++ [.inr (.inr (2, [.int x1, .int x2, .int x3, .int x4, .int x5, .int x6, .int x7, .int ((1 <<< (x4 &&& 31) : Int32) ||| (1 <<< (x5 &&& 31) : Int32)), .int (1 <<< (x6 &&& 31) : Int32), .int (-1)]))]))) ?_
    refine rr rfl (s_iinc (v := 4) rfl (by decide) rfl) ?_
    refine rr rfl s_goto ?_
    refine rr rfl (s_iload_n rfl) ?_
    refine rr rfl (s_bipush (v := 8) (by decide)) ?_
    refine rr rfl (s_icF (by decide)) ?_
    refine rr rfl (s_aload_n rfl) ?_
    refine rr rfl (s_getf rfl rfl) ?_
    refine rr rfl (s_iload_n rfl) ?_
    refine rr rfl (s_iconst (v := 0) (by decide)) ?_
    refine rr rfl (s_iastore (j := 4) (f' := (List.replicate 8 0)) rfl rfl (Nat.le_of_ble_eq_true rfl) rfl (Nat.le_of_ble_eq_true rfl) rfl (h' := (((((((((((hF.set 5 (.inl ((List.replicate 8 (0 : Int32)).set (Int32.toNatClampNeg x3) 8))).set 41 (.inr (.inr (9, [.int 4, .int 1, .ref 42, .ref 43, .ref 44, .ref 45, .ref 46, .ref 47, .ref 48, .ref 49, .ref 50, .ref 51, .int 0, .int 0, .int 0, .int 0, .int 0, .int 0, .int 0, .int 0, .ref 52, .int 0, .ref 53, .int 0, .ref 54, .int 0, .ref 55, .ref 56, .ref 57, .ref 58, .int 0, .ref 59, .ref 60])))).set 42 (.inl [x1, 0, 0, 0, 0, 0, 0, 0, 0, 0, 0, 0, 0])).set 43 (.inl [x2, 0, 0, 0, 0, 0, 0, 0, 0, 0, 0, 0, 0])).set 44 (.inl [x3, 0, 0, 0, 0, 0, 0, 0, 0, 0, 0, 0, 0])).set 45 (.inl [x4, 0, 0, 0, 0, 0, 0, 0, 0, 0, 0, 0, 0])).set 46 (.inl [x5, 0, 0, 0, 0, 0, 0, 0, 0, 0, 0, 0, 0])).set 47 (.inl [x6, 0, 0, 0, 0, 0, 0, 0, 0, 0, 0, 0, 0])).set 48 (.inl [x7, 0, 0, 0, 0, 0, 0, 0, 0, 0, 0, 0, 0])).set 49 (.inl [(-1), 0, 0, 0, 0, 0, 0, 0, 0, 0, 0, 0, 0])) ++ [.inr (.inr (2, [.int x1, .int x2, .int x3, .int x4, .int x5, .int x6, .int x7, .int ((1 <<< (x4 &&& 31) : Int32) ||| (1 <<< (x5 &&& 31) : Int32)), .int (1 <<< (x6 &&& 31) : Int32), .int (-1)]))]))) ?_
    refine rr rfl (s_iinc (v := 5) rfl (by decide) rfl) ?_
    refine rr rfl s_goto ?_
    refine rr rfl (s_iload_n rfl) ?_
    refine rr rfl (s_bipush (v := 8) (by decide)) ?_
    refine rr rfl (s_icF (by decide)) ?_
    refine rr rfl (s_aload_n rfl) ?_
    refine rr rfl (s_getf rfl rfl) ?_
    refine rr rfl (s_iload_n rfl) ?_
    refine rr rfl (s_iconst (v := 0) (by decide)) ?_
    refine rr rfl (s_iastore (j := 5) (f' := (List.replicate 8 0)) rfl rfl (Nat.le_of_ble_eq_true rfl) rfl (Nat.le_of_ble_eq_true rfl) rfl (h' := (((((((((((hF.set 5 (.inl ((List.replicate 8 (0 : Int32)).set (Int32.toNatClampNeg x3) 8))).set 41 (.inr (.inr (9, [.int 4, .int 1, .ref 42, .ref 43, .ref 44, .ref 45, .ref 46, .ref 47, .ref 48, .ref 49, .ref 50, .ref 51, .int 0, .int 0, .int 0, .int 0, .int 0, .int 0, .int 0, .int 0, .ref 52, .int 0, .ref 53, .int 0, .ref 54, .int 0, .ref 55, .ref 56, .ref 57, .ref 58, .int 0, .ref 59, .ref 60])))).set 42 (.inl [x1, 0, 0, 0, 0, 0, 0, 0, 0, 0, 0, 0, 0])).set 43 (.inl [x2, 0, 0, 0, 0, 0, 0, 0, 0, 0, 0, 0, 0])).set 44 (.inl [x3, 0, 0, 0, 0, 0, 0, 0, 0, 0, 0, 0, 0])).set 45 (.inl [x4, 0, 0, 0, 0, 0, 0, 0, 0, 0, 0, 0, 0])).set 46 (.inl [x5, 0, 0, 0, 0, 0, 0, 0, 0, 0, 0, 0, 0])).set 47 (.inl [x6, 0, 0, 0, 0, 0, 0, 0, 0, 0, 0, 0, 0])).set 48 (.inl [x7, 0, 0, 0, 0, 0, 0, 0, 0, 0, 0, 0, 0])).set 49 (.inl [(-1), 0, 0, 0, 0, 0, 0, 0, 0, 0, 0, 0, 0])) ++ [.inr (.inr (2, [.int x1, .int x2, .int x3, .int x4, .int x5, .int x6, .int x7, .int ((1 <<< (x4 &&& 31) : Int32) ||| (1 <<< (x5 &&& 31) : Int32)), .int (1 <<< (x6 &&& 31) : Int32), .int (-1)]))]))) ?_
    refine rr rfl (s_iinc (v := 6) rfl (by decide) rfl) ?_
    refine rr rfl s_goto ?_
    refine rr rfl (s_iload_n rfl) ?_
    refine rr rfl (s_bipush (v := 8) (by decide)) ?_
    refine rr rfl (s_icF (by decide)) ?_
    refine rr rfl (s_aload_n rfl) ?_
    refine rr rfl (s_getf rfl rfl) ?_
    refine rr rfl (s_iload_n rfl) ?_
    refine rr rfl (s_iconst (v := 0) (by decide)) ?_
    refine rr rfl (s_iastore (j := 6) (f' := (List.replicate 8 0)) rfl rfl (Nat.le_of_ble_eq_true rfl) rfl (Nat.le_of_ble_eq_true rfl) rfl (h' := (((((((((((hF.set 5 (.inl ((List.replicate 8 (0 : Int32)).set (Int32.toNatClampNeg x3) 8))).set 41 (.inr (.inr (9, [.int 4, .int 1, .ref 42, .ref 43, .ref 44, .ref 45, .ref 46, .ref 47, .ref 48, .ref 49, .ref 50, .ref 51, .int 0, .int 0, .int 0, .int 0, .int 0, .int 0, .int 0, .int 0, .ref 52, .int 0, .ref 53, .int 0, .ref 54, .int 0, .ref 55, .ref 56, .ref 57, .ref 58, .int 0, .ref 59, .ref 60])))).set 42 (.inl [x1, 0, 0, 0, 0, 0, 0, 0, 0, 0, 0, 0, 0])).set 43 (.inl [x2, 0, 0, 0, 0, 0, 0, 0, 0, 0, 0, 0, 0])).set 44 (.inl [x3, 0, 0, 0, 0, 0, 0, 0, 0, 0, 0, 0, 0])).set 45 (.inl [x4, 0, 0, 0, 0, 0, 0, 0, 0, 0, 0, 0, 0])).set 46 (.inl [x5, 0, 0, 0, 0, 0, 0, 0, 0, 0, 0, 0, 0])).set 47 (.inl [x6, 0, 0, 0, 0, 0, 0, 0, 0, 0, 0, 0, 0])).set 48 (.inl [x7, 0, 0, 0, 0, 0, 0, 0, 0, 0, 0, 0, 0])).set 49 (.inl [(-1), 0, 0, 0, 0, 0, 0, 0, 0, 0, 0, 0, 0])) ++ [.inr (.inr (2, [.int x1, .int x2, .int x3, .int x4, .int x5, .int x6, .int x7, .int ((1 <<< (x4 &&& 31) : Int32) ||| (1 <<< (x5 &&& 31) : Int32)), .int (1 <<< (x6 &&& 31) : Int32), .int (-1)]))]))) ?_
    refine rr rfl (s_iinc (v := 7) rfl (by decide) rfl) ?_
    refine rr rfl s_goto ?_
    refine rr rfl (s_iload_n rfl) ?_
    refine rr rfl (s_bipush (v := 8) (by decide)) ?_
    refine rr rfl (s_icF (by decide)) ?_
    refine rr rfl (s_aload_n rfl) ?_
    refine rr rfl (s_getf rfl rfl) ?_
    refine rr rfl (s_iload_n rfl) ?_
    refine rr rfl (s_iconst (v := 0) (by decide)) ?_
    refine rr rfl (s_iastore (j := 7) (f' := (List.replicate 8 0)) rfl rfl (Nat.le_of_ble_eq_true rfl) rfl (Nat.le_of_ble_eq_true rfl) rfl (h' := (((((((((((hF.set 5 (.inl ((List.replicate 8 (0 : Int32)).set (Int32.toNatClampNeg x3) 8))).set 41 (.inr (.inr (9, [.int 4, .int 1, .ref 42, .ref 43, .ref 44, .ref 45, .ref 46, .ref 47, .ref 48, .ref 49, .ref 50, .ref 51, .int 0, .int 0, .int 0, .int 0, .int 0, .int 0, .int 0, .int 0, .ref 52, .int 0, .ref 53, .int 0, .ref 54, .int 0, .ref 55, .ref 56, .ref 57, .ref 58, .int 0, .ref 59, .ref 60])))).set 42 (.inl [x1, 0, 0, 0, 0, 0, 0, 0, 0, 0, 0, 0, 0])).set 43 (.inl [x2, 0, 0, 0, 0, 0, 0, 0, 0, 0, 0, 0, 0])).set 44 (.inl [x3, 0, 0, 0, 0, 0, 0, 0, 0, 0, 0, 0, 0])).set 45 (.inl [x4, 0, 0, 0, 0, 0, 0, 0, 0, 0, 0, 0, 0])).set 46 (.inl [x5, 0, 0, 0, 0, 0, 0, 0, 0, 0, 0, 0, 0])).set 47 (.inl [x6, 0, 0, 0, 0, 0, 0, 0, 0, 0, 0, 0, 0])).set 48 (.inl [x7, 0, 0, 0, 0, 0, 0, 0, 0, 0, 0, 0, 0])).set 49 (.inl [(-1), 0, 0, 0, 0, 0, 0, 0, 0, 0, 0, 0, 0])) ++ [.inr (.inr (2, [.int x1, .int x2, .int x3, .int x4, .int x5, .int x6, .int x7, .int ((1 <<< (x4 &&& 31) : Int32) ||| (1 <<< (x5 &&& 31) : Int32)), .int (1 <<< (x6 &&& 31) : Int32), .int (-1)]))]))) ?_
    refine rr rfl (s_iinc (v := 8) rfl (by decide) rfl) ?_
    refine rr rfl s_goto ?_
    refine rr rfl (s_iload_n rfl) ?_
    refine rr rfl (s_bipush (v := 8) (by decide)) ?_
    refine rr rfl (s_icT (by decide)) ?_
    refine rr rfl (s_iconst (v := 1) (by decide)) ?_
    refine rr rfl (s_istore_n rfl) ?_
    refine rr rfl (s_iconst (v := 1) (by decide)) ?_
    refine rr rfl (s_istore_n rfl) ?_
    refine rr rfl (s_iload_n rfl) ?_
    refine rr rfl (s_ifF (by decide)) ?_
    refine rr rfl (s_iload_n rfl) ?_
    refine rr rfl (s_ifF (by decide)) ?_
    refine rr rfl (s_iconst (v := 0) (by decide)) ?_
    refine rr rfl (s_istore_n rfl) ?_
    refine rr rfl (s_iconst (v := 0) (by decide)) ?_
    refine rr rfl (s_istore_n rfl) ?_
    refine rr rfl (s_iload_n rfl) ?_
    refine rr rfl (s_aload_n rfl) ?_
    refine rr rfl (s_getf rfl rfl) ?_
    refine rr rfl (s_icF (by decide)) ?_
    refine rr rfl (s_iconst (v := 0) (by decide)) ?_
    refine rr rfl (s_istore rfl) ?_
    refine rr rfl (s_aload_n rfl) ?_
    refine rr rfl (s_getf rfl rfl) ?_
    refine rr rfl (s_iload_n rfl) ?_
    refine rr rfl (s_iaload (j := 0) rfl rfl rfl) ?_
    refine rr rfl (s_ifF (ic_nne g1)) ?_
    refine rr rfl (s_aload_n rfl) ?_
    refine rr rfl (s_getf rfl rfl) ?_
    refine rr rfl (s_aload_n rfl) ?_
    refine rr rfl (s_getf rfl rfl) ?_
    refine rr rfl (s_iload_n rfl) ?_
    refine rr rfl (s_iaload (j := 0) rfl rfl rfl) ?_
    refine rr rfl (s_ialdR (n := 8) (x := 0) rfl g2 g3) ?_
    refine rr rfl (s_istore rfl) ?_
    refine rr rfl (s_aload_n rfl) ?_
    refine rr rfl (s_getf rfl rfl) ?_
    refine rr rfl (s_iload_n rfl) ?_
    refine rr rfl (s_iaload (j := 0) rfl rfl rfl) ?_
    refine rr rfl (s_iconst (v := (-1)) (by decide)) ?_
    refine rr rfl (s_icF (ic_neq g4)) ?_
    refine rr rfl (s_aload_n rfl) ?_
    refine rr rfl (s_getf rfl rfl) ?_
    refine rr rfl (s_aload_n rfl) ?_
    refine rr rfl (s_getf rfl rfl) ?_
    refine rr rfl (s_iload_n rfl) ?_
    refine rr rfl (s_iaload (j := 0) rfl rfl rfl) ?_
    refine rr rfl (s_ialdR (n := 8) (x := 0) rfl g5 g6) ?_
    refine rr rfl (s_iload rfl) ?_
    refine rr rfl (s_icT (by decide)) ?_
    refine rr rfl (s_iload rfl) ?_
    refine rr rfl (s_istore rfl) ?_
    refine rr rfl (s_aload_n rfl) ?_
    refine rr rfl (s_getf rfl rfl) ?_
    refine rr rfl (s_iload_n rfl) ?_
    refine rr rfl (s_iaload (j := 0) rfl rfl rfl) ?_
    refine rr rfl (s_iconst (v := (-1)) (by decide)) ?_
    refine rr rfl (s_icF (ic_neq g7)) ?_
    refine rr rfl (s_aload_n rfl) ?_
    refine rr rfl (s_getf rfl rfl) ?_
    refine rr rfl (s_aload_n rfl) ?_
    refine rr rfl (s_getf rfl rfl) ?_
    refine rr rfl (s_iload_n rfl) ?_
    refine rr rfl (s_iaload (j := 0) rfl rfl rfl) ?_
    refine rr rfl (s_ialdR (n := 8) (x := 0) rfl g8 g9) ?_
    refine rr rfl (s_iconst (v := 1) (by decide)) ?_
    refine rr rfl (s_iadd (v := 1) (by decide)) ?_
    refine rr rfl (s_iload rfl) ?_
    refine rr rfl (s_icF (by decide)) ?_
    refine rr rfl (s_aload_n rfl) ?_
    refine rr rfl (s_getf rfl rfl) ?_
    refine rr rfl (s_aload_n rfl) ?_
    refine rr rfl (s_getf rfl rfl) ?_
    refine rr rfl (s_iload_n rfl) ?_
    refine rr rfl (s_iaload (j := 0) rfl rfl rfl) ?_
    refine rr rfl (s_ialdR (n := 8) (x := 0) rfl g8 g9) ?_
    refine rr rfl (s_iconst (v := 1) (by decide)) ?_
    refine rr rfl (s_iadd (v := 1) (by decide)) ?_
    refine rr rfl s_goto ?_
    refine rr rfl (s_istore rfl) ?_
    refine rr rfl (s_iload rfl) ?_
    refine rr rfl (s_aload_n rfl) ?_
    refine rr rfl (s_getf rfl rfl) ?_
    refine rr rfl (s_aload_n rfl) ?_
    refine rr rfl (s_getf rfl rfl) ?_
    refine rr rfl (s_iload_n rfl) ?_
    refine rr rfl (s_iaload (j := 0) rfl rfl rfl) ?_
    refine rr rfl (s_ialdR (n := 8) (x := 0) rfl g10 g11) ?_
    refine rr rfl (s_icF (by decide)) ?_
    refine rr rfl (s_aload_n rfl) ?_
    refine rr rfl (s_getf rfl rfl) ?_
    refine rr rfl (s_aload_n rfl) ?_
    refine rr rfl (s_getf rfl rfl) ?_
    refine rr rfl (s_iload_n rfl) ?_
    refine rr rfl (s_iaload (j := 0) rfl rfl rfl) ?_
    refine rr rfl (s_iload rfl) ?_
    refine rr rfl (s_iastR (n := 8) rfl g10 g11 (Nat.le_of_ble_eq_true rfl) rfl (h' := ((((((((((((hF.set 5 (.inl ((List.replicate 8 (0 : Int32)).set (Int32.toNatClampNeg x3) 8))).set 41 (.inr (.inr (9, [.int 4, .int 1, .ref 42, .ref 43, .ref 44, .ref 45, .ref 46, .ref 47, .ref 48, .ref 49, .ref 50, .ref 51, .int 0, .int 0, .int 0, .int 0, .int 0, .int 0, .int 0, .int 0, .ref 52, .int 0, .ref 53, .int 0, .ref 54, .int 0, .ref 55, .ref 56, .ref 57, .ref 58, .int 0, .ref 59, .ref 60])))).set 42 (.inl [x1, 0, 0, 0, 0, 0, 0, 0, 0, 0, 0, 0, 0])).set 43 (.inl [x2, 0, 0, 0, 0, 0, 0, 0, 0, 0, 0, 0, 0])).set 44 (.inl [x3, 0, 0, 0, 0, 0, 0, 0, 0, 0, 0, 0, 0])).set 45 (.inl [x4, 0, 0, 0, 0, 0, 0, 0, 0, 0, 0, 0, 0])).set 46 (.inl [x5, 0, 0, 0, 0, 0, 0, 0, 0, 0, 0, 0, 0])).set 47 (.inl [x6, 0, 0, 0, 0, 0, 0, 0, 0, 0, 0, 0, 0])).set 48 (.inl [x7, 0, 0, 0, 0, 0, 0, 0, 0, 0, 0, 0, 0])).set 49 (.inl [(-1), 0, 0, 0, 0, 0, 0, 0, 0, 0, 0, 0, 0])).set 51 (.inl ((List.replicate 8 (0 : Int32)).set (Int32.toNatClampNeg x3) 1))) ++ [.inr (.inr (2, [.int x1, .int x2, .int x3, .int x4, .int x5, .int x6, .int x7, .int ((1 <<< (x4 &&& 31) : Int32) ||| (1 <<< (x5 &&& 31) : Int32)), .int (1 <<< (x6 &&& 31) : Int32), .int (-1)]))]))) ?_
    refine rr rfl (s_iconst (v := 1) (by decide)) ?_
    refine rr rfl (s_istore_n rfl) ?_
    refine rr rfl (s_iload_n rfl) ?_
    refine rr rfl (s_ifF (by decide)) ?_
    refine rr rfl (s_iload rfl) ?_
    refine rr rfl (s_bipush (v := 8) (by decide)) ?_
    refine rr rfl (s_icF (by decide)) ?_
    refine rr rfl (s_iconst (v := 1) (by decide)) ?_
    refine rr rfl s_goto ?_
    refine rr rfl (s_istore_n rfl) ?_
    refine rr rfl (s_iinc (v := 1) rfl (by decide) rfl) ?_
    refine rr rfl s_goto ?_
    refine rr rfl (s_iload_n rfl) ?_
    refine rr rfl (s_aload_n rfl) ?_
    refine rr rfl (s_getf rfl rfl) ?_
    refine rr rfl (s_icT (by decide)) ?_
    refine rr rfl s_goto ?_
    refine rr rfl (s_iload_n rfl) ?_
    refine rr rfl (s_ifF (by decide)) ?_
    refine rr rfl (s_iload_n rfl) ?_
    refine rr rfl (s_ifF (by decide)) ?_
    refine rr rfl (s_iconst (v := 0) (by decide)) ?_
    refine rr rfl (s_istore_n rfl) ?_
    refine rr rfl (s_iconst (v := 0) (by decide)) ?_
    refine rr rfl (s_istore_n rfl) ?_
    refine rr rfl (s_iload_n rfl) ?_
    refine rr rfl (s_aload_n rfl) ?_
    refine rr rfl (s_getf rfl rfl) ?_
    refine rr rfl (s_icF (by decide)) ?_
    refine rr rfl (s_iconst (v := 0) (by decide)) ?_
    refine rr rfl (s_istore rfl) ?_
    refine rr rfl (s_aload_n rfl) ?_
    refine rr rfl (s_getf rfl rfl) ?_
    refine rr rfl (s_iload_n rfl) ?_
    refine rr rfl (s_iaload (j := 0) rfl rfl rfl) ?_
    refine rr rfl (s_ifF (ic_nne g1)) ?_
    refine rr rfl (s_aload_n rfl) ?_
    refine rr rfl (s_getf rfl rfl) ?_
    refine rr rfl (s_aload_n rfl) ?_
    refine rr rfl (s_getf rfl rfl) ?_
    refine rr rfl (s_iload_n rfl) ?_
    refine rr rfl (s_iaload (j := 0) rfl rfl rfl) ?_
    refine rr rfl (s_ialdN rfl g12 g2 g3 g10) ?_
    refine rr rfl (s_istore rfl) ?_
    refine rr rfl (s_aload_n rfl) ?_
    refine rr rfl (s_getf rfl rfl) ?_
    refine rr rfl (s_iload_n rfl) ?_
    refine rr rfl (s_iaload (j := 0) rfl rfl rfl) ?_
    refine rr rfl (s_iconst (v := (-1)) (by decide)) ?_
    refine rr rfl (s_icF (ic_neq g4)) ?_
    refine rr rfl (s_aload_n rfl) ?_
    refine rr rfl (s_getf rfl rfl) ?_
    refine rr rfl (s_aload_n rfl) ?_
    refine rr rfl (s_getf rfl rfl) ?_
    refine rr rfl (s_iload_n rfl) ?_
    refine rr rfl (s_iaload (j := 0) rfl rfl rfl) ?_
    refine rr rfl (s_ialdN rfl g13 g5 g6 g10) ?_
    refine rr rfl (s_iload rfl) ?_
    refine rr rfl (s_icT (by decide)) ?_
    refine rr rfl (s_iload rfl) ?_
    refine rr rfl (s_istore rfl) ?_
    refine rr rfl (s_aload_n rfl) ?_
    refine rr rfl (s_getf rfl rfl) ?_
    refine rr rfl (s_iload_n rfl) ?_
    refine rr rfl (s_iaload (j := 0) rfl rfl rfl) ?_
    refine rr rfl (s_iconst (v := (-1)) (by decide)) ?_
    refine rr rfl (s_icF (ic_neq g7)) ?_
    refine rr rfl (s_aload_n rfl) ?_
    refine rr rfl (s_getf rfl rfl) ?_
    refine rr rfl (s_aload_n rfl) ?_
    refine rr rfl (s_getf rfl rfl) ?_
    refine rr rfl (s_iload_n rfl) ?_
    refine rr rfl (s_iaload (j := 0) rfl rfl rfl) ?_
    refine rr rfl (s_ialdH rfl g14 g10 g11) ?_
    refine rr rfl (s_iconst (v := 1) (by decide)) ?_
    refine rr rfl (s_iadd (v := 2) (by decide)) ?_
    refine rr rfl (s_iload rfl) ?_
    refine rr rfl (s_icF (by decide)) ?_
    refine rr rfl (s_aload_n rfl) ?_
    refine rr rfl (s_getf rfl rfl) ?_
    refine rr rfl (s_aload_n rfl) ?_
    refine rr rfl (s_getf rfl rfl) ?_
    refine rr rfl (s_iload_n rfl) ?_
    refine rr rfl (s_iaload (j := 0) rfl rfl rfl) ?_
    refine rr rfl (s_ialdH rfl g14 g10 g11) ?_
    refine rr rfl (s_iconst (v := 1) (by decide)) ?_
    refine rr rfl (s_iadd (v := 2) (by decide)) ?_
    refine rr rfl s_goto ?_
    refine rr rfl (s_istore rfl) ?_
    refine rr rfl (s_iload rfl) ?_
    refine rr rfl (s_aload_n rfl) ?_
    refine rr rfl (s_getf rfl rfl) ?_
    refine rr rfl (s_aload_n rfl) ?_
    refine rr rfl (s_getf rfl rfl) ?_
    refine rr rfl (s_iload_n rfl) ?_
    refine rr rfl (s_iaload (j := 0) rfl rfl rfl) ?_
    refine rr rfl (s_ialdH rfl rfl g10 g11) ?_
    refine rr rfl (s_icF (by decide)) ?_
    refine rr rfl (s_aload_n rfl) ?_
    refine rr rfl (s_getf rfl rfl) ?_
    refine rr rfl (s_aload_n rfl) ?_
    refine rr rfl (s_getf rfl rfl) ?_
    refine rr rfl (s_iload_n rfl) ?_
    refine rr rfl (s_iaload (j := 0) rfl rfl rfl) ?_
    refine rr rfl (s_iload rfl) ?_
    refine rr rfl (s_iastH (v := 2) rfl rfl g10 g11 (Nat.le_of_ble_eq_true rfl) rfl (h' := ((((((((((((hF.set 5 (.inl ((List.replicate 8 (0 : Int32)).set (Int32.toNatClampNeg x3) 8))).set 41 (.inr (.inr (9, [.int 4, .int 1, .ref 42, .ref 43, .ref 44, .ref 45, .ref 46, .ref 47, .ref 48, .ref 49, .ref 50, .ref 51, .int 0, .int 0, .int 0, .int 0, .int 0, .int 0, .int 0, .int 0, .ref 52, .int 0, .ref 53, .int 0, .ref 54, .int 0, .ref 55, .ref 56, .ref 57, .ref 58, .int 0, .ref 59, .ref 60])))).set 42 (.inl [x1, 0, 0, 0, 0, 0, 0, 0, 0, 0, 0, 0, 0])).set 43 (.inl [x2, 0, 0, 0, 0, 0, 0, 0, 0, 0, 0, 0, 0])).set 44 (.inl [x3, 0, 0, 0, 0, 0, 0, 0, 0, 0, 0, 0, 0])).set 45 (.inl [x4, 0, 0, 0, 0, 0, 0, 0, 0, 0, 0, 0, 0])).set 46 (.inl [x5, 0, 0, 0, 0, 0, 0, 0, 0, 0, 0, 0, 0])).set 47 (.inl [x6, 0, 0, 0, 0, 0, 0, 0, 0, 0, 0, 0, 0])).set 48 (.inl [x7, 0, 0, 0, 0, 0, 0, 0, 0, 0, 0, 0, 0])).set 49 (.inl [(-1), 0, 0, 0, 0, 0, 0, 0, 0, 0, 0, 0, 0])).set 51 (.inl ((List.replicate 8 (0 : Int32)).set (Int32.toNatClampNeg x3) 2))) ++ [.inr (.inr (2, [.int x1, .int x2, .int x3, .int x4, .int x5, .int x6, .int x7, .int ((1 <<< (x4 &&& 31) : Int32) ||| (1 <<< (x5 &&& 31) : Int32)), .int (1 <<< (x6 &&& 31) : Int32), .int (-1)]))]))) ?_
    refine rr rfl (s_iconst (v := 1) (by decide)) ?_
    refine rr rfl (s_istore_n rfl) ?_
    refine rr rfl (s_iload_n rfl) ?_
    refine rr rfl (s_ifF (by decide)) ?_
    refine rr rfl (s_iload rfl) ?_
    refine rr rfl (s_bipush (v := 8) (by decide)) ?_
    refine rr rfl (s_icF (by decide)) ?_
    refine rr rfl (s_iconst (v := 1) (by decide)) ?_
    refine rr rfl s_goto ?_
    refine rr rfl (s_istore_n rfl) ?_
    refine rr rfl (s_iinc (v := 1) rfl (by decide) rfl) ?_
    refine rr rfl s_goto ?_
    refine rr rfl (s_iload_n rfl) ?_
    refine rr rfl (s_aload_n rfl) ?_
    refine rr rfl (s_getf rfl rfl) ?_
    refine rr rfl (s_icT (by decide)) ?_
    refine rr rfl s_goto ?_
    refine rr rfl (s_iload_n rfl) ?_
    refine rr rfl (s_ifF (by decide)) ?_
    refine rr rfl (s_iload_n rfl) ?_
    refine rr rfl (s_ifF (by decide)) ?_
    refine rr rfl (s_iconst (v := 0) (by decide)) ?_
    refine rr rfl (s_istore_n rfl) ?_
    refine rr rfl (s_iconst (v := 0) (by decide)) ?_
    refine rr rfl (s_istore_n rfl) ?_
    refine rr rfl (s_iload_n rfl) ?_
    refine rr rfl (s_aload_n rfl) ?_
    refine rr rfl (s_getf rfl rfl) ?_
    refine rr rfl (s_icF (by decide)) ?_
    refine rr rfl (s_iconst (v := 0) (by decide)) ?_
    refine rr rfl (s_istore rfl) ?_
    refine rr rfl (s_aload_n rfl) ?_
    refine rr rfl (s_getf rfl rfl) ?_
    refine rr rfl (s_iload_n rfl) ?_
    refine rr rfl (s_iaload (j := 0) rfl rfl rfl) ?_
    refine rr rfl (s_ifF (ic_nne g1)) ?_
    refine rr rfl (s_aload_n rfl) ?_
    refine rr rfl (s_getf rfl rfl) ?_
    refine rr rfl (s_aload_n rfl) ?_
    refine rr rfl (s_getf rfl rfl) ?_
    refine rr rfl (s_iload_n rfl) ?_
    refine rr rfl (s_iaload (j := 0) rfl rfl rfl) ?_
    refine rr rfl (s_ialdN rfl g12 g2 g3 g10) ?_
    refine rr rfl (s_istore rfl) ?_
    refine rr rfl (s_aload_n rfl) ?_
    refine rr rfl (s_getf rfl rfl) ?_
    refine rr rfl (s_iload_n rfl) ?_
    refine rr rfl (s_iaload (j := 0) rfl rfl rfl) ?_
    refine rr rfl (s_iconst (v := (-1)) (by decide)) ?_
    refine rr rfl (s_icF (ic_neq g4)) ?_
    refine rr rfl (s_aload_n rfl) ?_
    refine rr rfl (s_getf rfl rfl) ?_
    refine rr rfl (s_aload_n rfl) ?_
    refine rr rfl (s_getf rfl rfl) ?_
    refine rr rfl (s_iload_n rfl) ?_
    refine rr rfl (s_iaload (j := 0) rfl rfl rfl) ?_
    refine rr rfl (s_ialdN rfl g13 g5 g6 g10) ?_
    refine rr rfl (s_iload rfl) ?_
    refine rr rfl (s_icT (by decide)) ?_
    refine rr rfl (s_iload rfl) ?_
    refine rr rfl (s_istore rfl) ?_
    refine rr rfl (s_aload_n rfl) ?_
    refine rr rfl (s_getf rfl rfl) ?_
    refine rr rfl (s_iload_n rfl) ?_
    refine rr rfl (s_iaload (j := 0) rfl rfl rfl) ?_
    refine rr rfl (s_iconst (v := (-1)) (by decide)) ?_
    refine rr rfl (s_icF (ic_neq g7)) ?_
    refine rr rfl (s_aload_n rfl) ?_
    refine rr rfl (s_getf rfl rfl) ?_
    refine rr rfl (s_aload_n rfl) ?_
    refine rr rfl (s_getf rfl rfl) ?_
    refine rr rfl (s_iload_n rfl) ?_
    refine rr rfl (s_iaload (j := 0) rfl rfl rfl) ?_
    refine rr rfl (s_ialdH rfl g14 g10 g11) ?_
    refine rr rfl (s_iconst (v := 1) (by decide)) ?_
    refine rr rfl (s_iadd (v := 3) (by decide)) ?_
    refine rr rfl (s_iload rfl) ?_
    refine rr rfl (s_icF (by decide)) ?_
    refine rr rfl (s_aload_n rfl) ?_
    refine rr rfl (s_getf rfl rfl) ?_
    refine rr rfl (s_aload_n rfl) ?_
    refine rr rfl (s_getf rfl rfl) ?_
    refine rr rfl (s_iload_n rfl) ?_
    refine rr rfl (s_iaload (j := 0) rfl rfl rfl) ?_
    refine rr rfl (s_ialdH rfl g14 g10 g11) ?_
    refine rr rfl (s_iconst (v := 1) (by decide)) ?_
    refine rr rfl (s_iadd (v := 3) (by decide)) ?_
    refine rr rfl s_goto ?_
    refine rr rfl (s_istore rfl) ?_
    refine rr rfl (s_iload rfl) ?_
    refine rr rfl (s_aload_n rfl) ?_
    refine rr rfl (s_getf rfl rfl) ?_
    refine rr rfl (s_aload_n rfl) ?_
    refine rr rfl (s_getf rfl rfl) ?_
    refine rr rfl (s_iload_n rfl) ?_
    refine rr rfl (s_iaload (j := 0) rfl rfl rfl) ?_
    refine rr rfl (s_ialdH rfl rfl g10 g11) ?_
    refine rr rfl (s_icF (by decide)) ?_
    refine rr rfl (s_aload_n rfl) ?_
    refine rr rfl (s_getf rfl rfl) ?_
    refine rr rfl (s_aload_n rfl) ?_
    refine rr rfl (s_getf rfl rfl) ?_
    refine rr rfl (s_iload_n rfl) ?_
    refine rr rfl (s_iaload (j := 0) rfl rfl rfl) ?_
    refine rr rfl (s_iload rfl) ?_
    refine rr rfl (s_iastH (v := 3) rfl rfl g10 g11 (Nat.le_of_ble_eq_true rfl) rfl (h' := ((((((((((((hF.set 5 (.inl ((List.replicate 8 (0 : Int32)).set (Int32.toNatClampNeg x3) 8))).set 41 (.inr (.inr (9, [.int 4, .int 1, .ref 42, .ref 43, .ref 44, .ref 45, .ref 46, .ref 47, .ref 48, .ref 49, .ref 50, .ref 51, .int 0, .int 0, .int 0, .int 0, .int 0, .int 0, .int 0, .int 0, .ref 52, .int 0, .ref 53, .int 0, .ref 54, .int 0, .ref 55, .ref 56, .ref 57, .ref 58, .int 0, .ref 59, .ref 60])))).set 42 (.inl [x1, 0, 0, 0, 0, 0, 0, 0, 0, 0, 0, 0, 0])).set 43 (.inl [x2, 0, 0, 0, 0, 0, 0, 0, 0, 0, 0, 0, 0])).set 44 (.inl [x3, 0, 0, 0, 0, 0, 0, 0, 0, 0, 0, 0, 0])).set 45 (.inl [x4, 0, 0, 0, 0, 0, 0, 0, 0, 0, 0, 0, 0])).set 46 (.inl [x5, 0, 0, 0, 0, 0, 0, 0, 0, 0, 0, 0, 0])).set 47 (.inl [x6, 0, 0, 0, 0, 0, 0, 0, 0, 0, 0, 0, 0])).set 48 (.inl [x7, 0, 0, 0, 0, 0, 0, 0, 0, 0, 0, 0, 0])).set 49 (.inl [(-1), 0, 0, 0, 0, 0, 0, 0, 0, 0, 0, 0, 0])).set 51 (.inl ((List.replicate 8 (0 : Int32)).set (Int32.toNatClampNeg x3) 3))) ++ [.inr (.inr (2, [.int x1, .int x2, .int x3, .int x4, .int x5, .int x6, .int x7, .int ((1 <<< (x4 &&& 31) : Int32) ||| (1 <<< (x5 &&& 31) : Int32)), .int (1 <<< (x6 &&& 31) : Int32), .int (-1)]))]))) ?_
    refine rr rfl (s_iconst (v := 1) (by decide)) ?_
    refine rr rfl (s_istore_n rfl) ?_
    refine rr rfl (s_iload_n rfl) ?_
    refine rr rfl (s_ifF (by decide)) ?_
    refine rr rfl (s_iload rfl) ?_
    refine rr rfl (s_bipush (v := 8) (by decide)) ?_
    refine rr rfl (s_icF (by decide)) ?_
    refine rr rfl (s_iconst (v := 1) (by decide)) ?_
    refine rr rfl s_goto ?_
    refine rr rfl (s_istore_n rfl) ?_
    refine rr rfl (s_iinc (v := 1) rfl (by decide) rfl) ?_
    refine rr rfl s_goto ?_
    refine rr rfl (s_iload_n rfl) ?_
    refine rr rfl (s_aload_n rfl) ?_
    refine rr rfl (s_getf rfl rfl) ?_
    refine rr rfl (s_icT (by decide)) ?_
    refine rr rfl s_goto ?_
    refine rr rfl (s_iload_n rfl) ?_
    refine rr rfl (s_ifF (by decide)) ?_
    refine rr rfl (s_iload_n rfl) ?_
    refine rr rfl (s_ifF (by decide)) ?_
    refine rr rfl (s_iconst (v := 0) (by decide)) ?_
    refine rr rfl (s_istore_n rfl) ?_
    refine rr rfl (s_iconst (v := 0) (by decide)) ?_
    refine rr rfl (s_istore_n rfl) ?_
    refine rr rfl (s_iload_n rfl) ?_
    refine rr rfl (s_aload_n rfl) ?_
    refine rr rfl (s_getf rfl rfl) ?_
    refine rr rfl (s_icF (by decide)) ?_
    refine rr rfl (s_iconst (v := 0) (by decide)) ?_
    refine rr rfl (s_istore rfl) ?_
    refine rr rfl (s_aload_n rfl) ?_
    refine rr rfl (s_getf rfl rfl) ?_
    refine rr rfl (s_iload_n rfl) ?_
    refine rr rfl (s_iaload (j := 0) rfl rfl rfl) ?_
    refine rr rfl (s_ifF (ic_nne g1)) ?_
    refine rr rfl (s_aload_n rfl) ?_
    refine rr rfl (s_getf rfl rfl) ?_
    refine rr rfl (s_aload_n rfl) ?_
    refine rr rfl (s_getf rfl rfl) ?_
    refine rr rfl (s_iload_n rfl) ?_
    refine rr rfl (s_iaload (j := 0) rfl rfl rfl) ?_
    refine rr rfl (s_ialdN rfl g12 g2 g3 g10) ?_
    refine rr rfl (s_istore rfl) ?_
    refine rr rfl (s_aload_n rfl) ?_
    refine rr rfl (s_getf rfl rfl) ?_
    refine rr rfl (s_iload_n rfl) ?_
    refine rr rfl (s_iaload (j := 0) rfl rfl rfl) ?_
    refine rr rfl (s_iconst (v := (-1)) (by decide)) ?_
    refine rr rfl (s_icF (ic_neq g4)) ?_
    refine rr rfl (s_aload_n rfl) ?_
    refine rr rfl (s_getf rfl rfl) ?_
    refine rr rfl (s_aload_n rfl) ?_
    refine rr rfl (s_getf rfl rfl) ?_
    refine rr rfl (s_iload_n rfl) ?_
    refine rr rfl (s_iaload (j := 0) rfl rfl rfl) ?_
    refine rr rfl (s_ialdN rfl g13 g5 g6 g10) ?_
    refine rr rfl (s_iload rfl) ?_
    refine rr rfl (s_icT (by decide)) ?_
    refine rr rfl (s_iload rfl) ?_
    refine rr rfl (s_istore rfl) ?_
    refine rr rfl (s_aload_n rfl) ?_
    refine rr rfl (s_getf rfl rfl) ?_
    refine rr rfl (s_iload_n rfl) ?_
    refine rr rfl (s_iaload (j := 0) rfl rfl rfl) ?_
    refine rr rfl (s_iconst (v := (-1)) (by decide)) ?_
    refine rr rfl (s_icF (ic_neq g7)) ?_
    refine rr rfl (s_aload_n rfl) ?_
    refine rr rfl (s_getf rfl rfl) ?_
    refine rr rfl (s_aload_n rfl) ?_
    refine rr rfl (s_getf rfl rfl) ?_
    refine rr rfl (s_iload_n rfl) ?_
    refine rr rfl (s_iaload (j := 0) rfl rfl rfl) ?_
    refine rr rfl (s_ialdH rfl g14 g10 g11) ?_
    refine rr rfl (s_iconst (v := 1) (by decide)) ?_
    refine rr rfl (s_iadd (v := 4) (by decide)) ?_
    refine rr rfl (s_iload rfl) ?_
    refine rr rfl (s_icF (by decide)) ?_
    refine rr rfl (s_aload_n rfl) ?_
    refine rr rfl (s_getf rfl rfl) ?_
    refine rr rfl (s_aload_n rfl) ?_
    refine rr rfl (s_getf rfl rfl) ?_
    refine rr rfl (s_iload_n rfl) ?_
    refine rr rfl (s_iaload (j := 0) rfl rfl rfl) ?_
    refine rr rfl (s_ialdH rfl g14 g10 g11) ?_
    refine rr rfl (s_iconst (v := 1) (by decide)) ?_
    refine rr rfl (s_iadd (v := 4) (by decide)) ?_
    refine rr rfl s_goto ?_
    refine rr rfl (s_istore rfl) ?_
    refine rr rfl (s_iload rfl) ?_
    refine rr rfl (s_aload_n rfl) ?_
    refine rr rfl (s_getf rfl rfl) ?_
    refine rr rfl (s_aload_n rfl) ?_
    refine rr rfl (s_getf rfl rfl) ?_
    refine rr rfl (s_iload_n rfl) ?_
    refine rr rfl (s_iaload (j := 0) rfl rfl rfl) ?_
    refine rr rfl (s_ialdH rfl rfl g10 g11) ?_
    refine rr rfl (s_icF (by decide)) ?_
    refine rr rfl (s_aload_n rfl) ?_
    refine rr rfl (s_getf rfl rfl) ?_
    refine rr rfl (s_aload_n rfl) ?_
    refine rr rfl (s_getf rfl rfl) ?_
    refine rr rfl (s_iload_n rfl) ?_
    refine rr rfl (s_iaload (j := 0) rfl rfl rfl) ?_
    refine rr rfl (s_iload rfl) ?_
    refine rr rfl (s_iastH (v := 4) rfl rfl g10 g11 (Nat.le_of_ble_eq_true rfl) rfl (h' := ((((((((((((hF.set 5 (.inl ((List.replicate 8 (0 : Int32)).set (Int32.toNatClampNeg x3) 8))).set 41 (.inr (.inr (9, [.int 4, .int 1, .ref 42, .ref 43, .ref 44, .ref 45, .ref 46, .ref 47, .ref 48, .ref 49, .ref 50, .ref 51, .int 0, .int 0, .int 0, .int 0, .int 0, .int 0, .int 0, .int 0, .ref 52, .int 0, .ref 53, .int 0, .ref 54, .int 0, .ref 55, .ref 56, .ref 57, .ref 58, .int 0, .ref 59, .ref 60])))).set 42 (.inl [x1, 0, 0, 0, 0, 0, 0, 0, 0, 0, 0, 0, 0])).set 43 (.inl [x2, 0, 0, 0, 0, 0, 0, 0, 0, 0, 0, 0, 0])).set 44 (.inl [x3, 0, 0, 0, 0, 0, 0, 0, 0, 0, 0, 0, 0])).set 45 (.inl [x4, 0, 0, 0, 0, 0, 0, 0, 0, 0, 0, 0, 0])).set 46 (.inl [x5, 0, 0, 0, 0, 0, 0, 0, 0, 0, 0, 0, 0])).set 47 (.inl [x6, 0, 0, 0, 0, 0, 0, 0, 0, 0, 0, 0, 0])).set 48 (.inl [x7, 0, 0, 0, 0, 0, 0, 0, 0, 0, 0, 0, 0])).set 49 (.inl [(-1), 0, 0, 0, 0, 0, 0, 0, 0, 0, 0, 0, 0])).set 51 (.inl ((List.replicate 8 (0 : Int32)).set (Int32.toNatClampNeg x3) 4))) ++ [.inr (.inr (2, [.int x1, .int x2, .int x3, .int x4, .int x5, .int x6, .int x7, .int ((1 <<< (x4 &&& 31) : Int32) ||| (1 <<< (x5 &&& 31) : Int32)), .int (1 <<< (x6 &&& 31) : Int32), .int (-1)]))]))) ?_
    refine rr rfl (s_iconst (v := 1) (by decide)) ?_
    refine rr rfl (s_istore_n rfl) ?_
    refine rr rfl (s_iload_n rfl) ?_
    refine rr rfl (s_ifF (by decide)) ?_
    refine rr rfl (s_iload rfl) ?_
    refine rr rfl (s_bipush (v := 8) (by decide)) ?_
    refine rr rfl (s_icF (by decide)) ?_
    refine rr rfl (s_iconst (v := 1) (by decide)) ?_
    refine rr rfl s_goto ?_
    refine rr rfl (s_istore_n rfl) ?_
    refine rr rfl (s_iinc (v := 1) rfl (by decide) rfl) ?_
    refine rr rfl s_goto ?_
    refine rr rfl (s_iload_n rfl) ?_
    refine rr rfl (s_aload_n rfl) ?_
    refine rr rfl (s_getf rfl rfl) ?_
    refine rr rfl (s_icT (by decide)) ?_
    refine rr rfl s_goto ?_
    refine rr rfl (s_iload_n rfl) ?_
    refine rr rfl (s_ifF (by decide)) ?_
    refine rr rfl (s_iload_n rfl) ?_
    refine rr rfl (s_ifF (by decide)) ?_
    refine rr rfl (s_iconst (v := 0) (by decide)) ?_
    refine rr rfl (s_istore_n rfl) ?_
    refine rr rfl (s_iconst (v := 0) (by decide)) ?_
    refine rr rfl (s_istore_n rfl) ?_
    refine rr rfl (s_iload_n rfl) ?_
    refine rr rfl (s_aload_n rfl) ?_
    refine rr rfl (s_getf rfl rfl) ?_
    refine rr rfl (s_icF (by decide)) ?_
    refine rr rfl (s_iconst (v := 0) (by decide)) ?_
    refine rr rfl (s_istore rfl) ?_
    refine rr rfl (s_aload_n rfl) ?_
    refine rr rfl (s_getf rfl rfl) ?_
    refine rr rfl (s_iload_n rfl) ?_
    refine rr rfl (s_iaload (j := 0) rfl rfl rfl) ?_
    refine rr rfl (s_ifF (ic_nne g1)) ?_
    refine rr rfl (s_aload_n rfl) ?_
    refine rr rfl (s_getf rfl rfl) ?_
    refine rr rfl (s_aload_n rfl) ?_
    refine rr rfl (s_getf rfl rfl) ?_
    refine rr rfl (s_iload_n rfl) ?_
    refine rr rfl (s_iaload (j := 0) rfl rfl rfl) ?_
    refine rr rfl (s_ialdN rfl g12 g2 g3 g10) ?_
    refine rr rfl (s_istore rfl) ?_
    refine rr rfl (s_aload_n rfl) ?_
    refine rr rfl (s_getf rfl rfl) ?_
    refine rr rfl (s_iload_n rfl) ?_
    refine rr rfl (s_iaload (j := 0) rfl rfl rfl) ?_
    refine rr rfl (s_iconst (v := (-1)) (by decide)) ?_
    refine rr rfl (s_icF (ic_neq g4)) ?_
    refine rr rfl (s_aload_n rfl) ?_
    refine rr rfl (s_getf rfl rfl) ?_
    refine rr rfl (s_aload_n rfl) ?_
    refine rr rfl (s_getf rfl rfl) ?_
    refine rr rfl (s_iload_n rfl) ?_
    refine rr rfl (s_iaload (j := 0) rfl rfl rfl) ?_
    refine rr rfl (s_ialdN rfl g13 g5 g6 g10) ?_
    refine rr rfl (s_iload rfl) ?_
    refine rr rfl (s_icT (by decide)) ?_
    refine rr rfl (s_iload rfl) ?_
    refine rr rfl (s_istore rfl) ?_
    refine rr rfl (s_aload_n rfl) ?_
    refine rr rfl (s_getf rfl rfl) ?_
    refine rr rfl (s_iload_n rfl) ?_
    refine rr rfl (s_iaload (j := 0) rfl rfl rfl) ?_
    refine rr rfl (s_iconst (v := (-1)) (by decide)) ?_
    refine rr rfl (s_icF (ic_neq g7)) ?_
    refine rr rfl (s_aload_n rfl) ?_
    refine rr rfl (s_getf rfl rfl) ?_
    refine rr rfl (s_aload_n rfl) ?_
    refine rr rfl (s_getf rfl rfl) ?_
    refine rr rfl (s_iload_n rfl) ?_
    refine rr rfl (s_iaload (j := 0) rfl rfl rfl) ?_
    refine rr rfl (s_ialdH rfl g14 g10 g11) ?_
    refine rr rfl (s_iconst (v := 1) (by decide)) ?_
    refine rr rfl (s_iadd (v := 5) (by decide)) ?_
    refine rr rfl (s_iload rfl) ?_
    refine rr rfl (s_icF (by decide)) ?_
    refine rr rfl (s_aload_n rfl) ?_
    refine rr rfl (s_getf rfl rfl) ?_
    refine rr rfl (s_aload_n rfl) ?_
    refine rr rfl (s_getf rfl rfl) ?_
    refine rr rfl (s_iload_n rfl) ?_
    refine rr rfl (s_iaload (j := 0) rfl rfl rfl) ?_
    refine rr rfl (s_ialdH rfl g14 g10 g11) ?_
    refine rr rfl (s_iconst (v := 1) (by decide)) ?_
    refine rr rfl (s_iadd (v := 5) (by decide)) ?_
    refine rr rfl s_goto ?_
    refine rr rfl (s_istore rfl) ?_
    refine rr rfl (s_iload rfl) ?_
    refine rr rfl (s_aload_n rfl) ?_
    refine rr rfl (s_getf rfl rfl) ?_
    refine rr rfl (s_aload_n rfl) ?_
    refine rr rfl (s_getf rfl rfl) ?_
    refine rr rfl (s_iload_n rfl) ?_
    refine rr rfl (s_iaload (j := 0) rfl rfl rfl) ?_
    refine rr rfl (s_ialdH rfl rfl g10 g11) ?_
    refine rr rfl (s_icF (by decide)) ?_
    refine rr rfl (s_aload_n rfl) ?_
    refine rr rfl (s_getf rfl rfl) ?_
    refine rr rfl (s_aload_n rfl) ?_
    refine rr rfl (s_getf rfl rfl) ?_
    refine rr rfl (s_iload_n rfl) ?_
    refine rr rfl (s_iaload (j := 0) rfl rfl rfl) ?_
    refine rr rfl (s_iload rfl) ?_
    refine rr rfl (s_iastH (v := 5) rfl rfl g10 g11 (Nat.le_of_ble_eq_true rfl) rfl (h' := ((((((((((((hF.set 5 (.inl ((List.replicate 8 (0 : Int32)).set (Int32.toNatClampNeg x3) 8))).set 41 (.inr (.inr (9, [.int 4, .int 1, .ref 42, .ref 43, .ref 44, .ref 45, .ref 46, .ref 47, .ref 48, .ref 49, .ref 50, .ref 51, .int 0, .int 0, .int 0, .int 0, .int 0, .int 0, .int 0, .int 0, .ref 52, .int 0, .ref 53, .int 0, .ref 54, .int 0, .ref 55, .ref 56, .ref 57, .ref 58, .int 0, .ref 59, .ref 60])))).set 42 (.inl [x1, 0, 0, 0, 0, 0, 0, 0, 0, 0, 0, 0, 0])).set 43 (.inl [x2, 0, 0, 0, 0, 0, 0, 0, 0, 0, 0, 0, 0])).set 44 (.inl [x3, 0, 0, 0, 0, 0, 0, 0, 0, 0, 0, 0, 0])).set 45 (.inl [x4, 0, 0, 0, 0, 0, 0, 0, 0, 0, 0, 0, 0])).set 46 (.inl [x5, 0, 0, 0, 0, 0, 0, 0, 0, 0, 0, 0, 0])).set 47 (.inl [x6, 0, 0, 0, 0, 0, 0, 0, 0, 0, 0, 0, 0])).set 48 (.inl [x7, 0, 0, 0, 0, 0, 0, 0, 0, 0, 0, 0, 0])).set 49 (.inl [(-1), 0, 0, 0, 0, 0, 0, 0, 0, 0, 0, 0, 0])).set 51 (.inl ((List.replicate 8 (0 : Int32)).set (Int32.toNatClampNeg x3) 5))) ++ [.inr (.inr (2, [.int x1, .int x2, .int x3, .int x4, .int x5, .int x6, .int x7, .int ((1 <<< (x4 &&& 31) : Int32) ||| (1 <<< (x5 &&& 31) : Int32)), .int (1 <<< (x6 &&& 31) : Int32), .int (-1)]))]))) ?_
    refine rr rfl (s_iconst (v := 1) (by decide)) ?_
    refine rr rfl (s_istore_n rfl) ?_
    refine rr rfl (s_iload_n rfl) ?_
    refine rr rfl (s_ifF (by decide)) ?_
    refine rr rfl (s_iload rfl) ?_
    refine rr rfl (s_bipush (v := 8) (by decide)) ?_
    refine rr rfl (s_icF (by decide)) ?_
    refine rr rfl (s_iconst (v := 1) (by decide)) ?_
    refine rr rfl s_goto ?_
    refine rr rfl (s_istore_n rfl) ?_
    refine rr rfl (s_iinc (v := 1) rfl (by decide) rfl) ?_
    refine rr rfl s_goto ?_
    refine rr rfl (s_iload_n rfl) ?_
    refine rr rfl (s_aload_n rfl) ?_
    refine rr rfl (s_getf rfl rfl) ?_
    refine rr rfl (s_icT (by decide)) ?_
    refine rr rfl s_goto ?_
    refine rr rfl (s_iload_n rfl) ?_
    refine rr rfl (s_ifF (by decide)) ?_
    refine rr rfl (s_iload_n rfl) ?_
    refine rr rfl (s_ifF (by decide)) ?_
    refine rr rfl (s_iconst (v := 0) (by decide)) ?_
    refine rr rfl (s_istore_n rfl) ?_
    refine rr rfl (s_iconst (v := 0) (by decide)) ?_
    refine rr rfl (s_istore_n rfl) ?_
    refine rr rfl (s_iload_n rfl) ?_
    refine rr rfl (s_aload_n rfl) ?_
    refine rr rfl (s_getf rfl rfl) ?_
    refine rr rfl (s_icF (by decide)) ?_
    refine rr rfl (s_iconst (v := 0) (by decide)) ?_
    refine rr rfl (s_istore rfl) ?_
    refine rr rfl (s_aload_n rfl) ?_
    refine rr rfl (s_getf rfl rfl) ?_
    refine rr rfl (s_iload_n rfl) ?_
    refine rr rfl (s_iaload (j := 0) rfl rfl rfl) ?_
    refine rr rfl (s_ifF (ic_nne g1)) ?_
    refine rr rfl (s_aload_n rfl) ?_
    refine rr rfl (s_getf rfl rfl) ?_
    refine rr rfl (s_aload_n rfl) ?_
    refine rr rfl (s_getf rfl rfl) ?_
    refine rr rfl (s_iload_n rfl) ?_
    refine rr rfl (s_iaload (j := 0) rfl rfl rfl) ?_
    refine rr rfl (s_ialdN rfl g12 g2 g3 g10) ?_
    refine rr rfl (s_istore rfl) ?_
    refine rr rfl (s_aload_n rfl) ?_
    refine rr rfl (s_getf rfl rfl) ?_
    refine rr rfl (s_iload_n rfl) ?_
    refine rr rfl (s_iaload (j := 0) rfl rfl rfl) ?_
    refine rr rfl (s_iconst (v := (-1)) (by decide)) ?_
    refine rr rfl (s_icF (ic_neq g4)) ?_
    refine rr rfl (s_aload_n rfl) ?_
    refine rr rfl (s_getf rfl rfl) ?_
    refine rr rfl (s_aload_n rfl) ?_
    refine rr rfl (s_getf rfl rfl) ?_
    refine rr rfl (s_iload_n rfl) ?_
    refine rr rfl (s_iaload (j := 0) rfl rfl rfl) ?_
    refine rr rfl (s_ialdN rfl g13 g5 g6 g10) ?_
    refine rr rfl (s_iload rfl) ?_
    refine rr rfl (s_icT (by decide)) ?_
    refine rr rfl (s_iload rfl) ?_
    refine rr rfl (s_istore rfl) ?_
    refine rr rfl (s_aload_n rfl) ?_
    refine rr rfl (s_getf rfl rfl) ?_
    refine rr rfl (s_iload_n rfl) ?_
    refine rr rfl (s_iaload (j := 0) rfl rfl rfl) ?_
    refine rr rfl (s_iconst (v := (-1)) (by decide)) ?_
    refine rr rfl (s_icF (ic_neq g7)) ?_
    refine rr rfl (s_aload_n rfl) ?_
    refine rr rfl (s_getf rfl rfl) ?_
    refine rr rfl (s_aload_n rfl) ?_
    refine rr rfl (s_getf rfl rfl) ?_
    refine rr rfl (s_iload_n rfl) ?_
    refine rr rfl (s_iaload (j := 0) rfl rfl rfl) ?_
    refine rr rfl (s_ialdH rfl g14 g10 g11) ?_
    refine rr rfl (s_iconst (v := 1) (by decide)) ?_
    refine rr rfl (s_iadd (v := 6) (by decide)) ?_
    refine rr rfl (s_iload rfl) ?_
    refine rr rfl (s_icF (by decide)) ?_
    refine rr rfl (s_aload_n rfl) ?_
    refine rr rfl (s_getf rfl rfl) ?_
    refine rr rfl (s_aload_n rfl) ?_
    refine rr rfl (s_getf rfl rfl) ?_
    refine rr rfl (s_iload_n rfl) ?_
    refine rr rfl (s_iaload (j := 0) rfl rfl rfl) ?_
    refine rr rfl (s_ialdH rfl g14 g10 g11) ?_
    refine rr rfl (s_iconst (v := 1) (by decide)) ?_
    refine rr rfl (s_iadd (v := 6) (by decide)) ?_
    refine rr rfl s_goto ?_
    refine rr rfl (s_istore rfl) ?_
    refine rr rfl (s_iload rfl) ?_
    refine rr rfl (s_aload_n rfl) ?_
    refine rr rfl (s_getf rfl rfl) ?_
    refine rr rfl (s_aload_n rfl) ?_
    refine rr rfl (s_getf rfl rfl) ?_
    refine rr rfl (s_iload_n rfl) ?_
    refine rr rfl (s_iaload (j := 0) rfl rfl rfl) ?_
    refine rr rfl (s_ialdH rfl rfl g10 g11) ?_
    refine rr rfl (s_icF (by decide)) ?_
    refine rr rfl (s_aload_n rfl) ?_
    refine rr rfl (s_getf rfl rfl) ?_
    refine rr rfl (s_aload_n rfl) ?_
    refine rr rfl (s_getf rfl rfl) ?_
    refine rr rfl (s_iload_n rfl) ?_
    refine rr rfl (s_iaload (j := 0) rfl rfl rfl) ?_
    refine rr rfl (s_iload rfl) ?_
    refine rr rfl (s_iastH (v := 6) rfl rfl g10 g11 (Nat.le_of_ble_eq_true rfl) rfl (h' := ((((((((((((hF.set 5 (.inl ((List.replicate 8 (0 : Int32)).set (Int32.toNatClampNeg x3) 8))).set 41 (.inr (.inr (9, [.int 4, .int 1, .ref 42, .ref 43, .ref 44, .ref 45, .ref 46, .ref 47, .ref 48, .ref 49, .ref 50, .ref 51, .int 0, .int 0, .int 0, .int 0, .int 0, .int 0, .int 0, .int 0, .ref 52, .int 0, .ref 53, .int 0, .ref 54, .int 0, .ref 55, .ref 56, .ref 57, .ref 58, .int 0, .ref 59, .ref 60])))).set 42 (.inl [x1, 0, 0, 0, 0, 0, 0, 0, 0, 0, 0, 0, 0])).set 43 (.inl [x2, 0, 0, 0, 0, 0, 0, 0, 0, 0, 0, 0, 0])).set 44 (.inl [x3, 0, 0, 0, 0, 0, 0, 0, 0, 0, 0, 0, 0])).set 45 (.inl [x4, 0, 0, 0, 0, 0, 0, 0, 0, 0, 0, 0, 0])).set 46 (.inl [x5, 0, 0, 0, 0, 0, 0, 0, 0, 0, 0, 0, 0])).set 47 (.inl [x6, 0, 0, 0, 0, 0, 0, 0, 0, 0, 0, 0, 0])).set 48 (.inl [x7, 0, 0, 0, 0, 0, 0, 0, 0, 0, 0, 0, 0])).set 49 (.inl [(-1), 0, 0, 0, 0, 0, 0, 0, 0, 0, 0, 0, 0])).set 51 (.inl ((List.replicate 8 (0 : Int32)).set (Int32.toNatClampNeg x3) 6))) ++ [.inr (.inr (2, [.int x1, .int x2, .int x3, .int x4, .int x5, .int x6, .int x7, .int ((1 <<< (x4 &&& 31) : Int32) ||| (1 <<< (x5 &&& 31) : Int32)), .int (1 <<< (x6 &&& 31) : Int32), .int (-1)]))]))) ?_
    refine rr rfl (s_iconst (v := 1) (by decide)) ?_
    refine rr rfl (s_istore_n rfl) ?_
    refine rr rfl (s_iload_n rfl) ?_
    refine rr rfl (s_ifF (by decide)) ?_
    refine rr rfl (s_iload rfl) ?_
    refine rr rfl (s_bipush (v := 8) (by decide)) ?_
    refine rr rfl (s_icF (by decide)) ?_
    refine rr rfl (s_iconst (v := 1) (by decide)) ?_
    refine rr rfl s_goto ?_
    refine rr rfl (s_istore_n rfl) ?_
    refine rr rfl (s_iinc (v := 1) rfl (by decide) rfl) ?_
    refine rr rfl s_goto ?_
    refine rr rfl (s_iload_n rfl) ?_
    refine rr rfl (s_aload_n rfl) ?_
    refine rr rfl (s_getf rfl rfl) ?_
    refine rr rfl (s_icT (by decide)) ?_
    refine rr rfl s_goto ?_
    refine rr rfl (s_iload_n rfl) ?_
    refine rr rfl (s_ifF (by decide)) ?_
    refine rr rfl (s_iload_n rfl) ?_
    refine rr rfl (s_ifF (by decide)) ?_
    refine rr rfl (s_iconst (v := 0) (by decide)) ?_
    refine rr rfl (s_istore_n rfl) ?_
    refine rr rfl (s_iconst (v := 0) (by decide)) ?_
    refine rr rfl (s_istore_n rfl) ?_
    refine rr rfl (s_iload_n rfl) ?_
    refine rr rfl (s_aload_n rfl) ?_
    refine rr rfl (s_getf rfl rfl) ?_
    refine rr rfl (s_icF (by decide)) ?_
    refine rr rfl (s_iconst (v := 0) (by decide)) ?_
    refine rr rfl (s_istore rfl) ?_
    refine rr rfl (s_aload_n rfl) ?_
    refine rr rfl (s_getf rfl rfl) ?_
    refine rr rfl (s_iload_n rfl) ?_
    refine rr rfl (s_iaload (j := 0) rfl rfl rfl) ?_
    refine rr rfl (s_ifF (ic_nne g1)) ?_
    refine rr rfl (s_aload_n rfl) ?_
    refine rr rfl (s_getf rfl rfl) ?_
    refine rr rfl (s_aload_n rfl) ?_
    refine rr rfl (s_getf rfl rfl) ?_
    refine rr rfl (s_iload_n rfl) ?_
    refine rr rfl (s_iaload (j := 0) rfl rfl rfl) ?_
    refine rr rfl (s_ialdN rfl g12 g2 g3 g10) ?_
    refine rr rfl (s_istore rfl) ?_
    refine rr rfl (s_aload_n rfl) ?_
    refine rr rfl (s_getf rfl rfl) ?_
    refine rr rfl (s_iload_n rfl) ?_
    refine rr rfl (s_iaload (j := 0) rfl rfl rfl) ?_
    refine rr rfl (s_iconst (v := (-1)) (by decide)) ?_
    refine rr rfl (s_icF (ic_neq g4)) ?_
    refine rr rfl (s_aload_n rfl) ?_
    refine rr rfl (s_getf rfl rfl) ?_
    refine rr rfl (s_aload_n rfl) ?_
    refine rr rfl (s_getf rfl rfl) ?_
    refine rr rfl (s_iload_n rfl) ?_
    refine rr rfl (s_iaload (j := 0) rfl rfl rfl) ?_
    refine rr rfl (s_ialdN rfl g13 g5 g6 g10) ?_
    refine rr rfl (s_iload rfl) ?_
    refine rr rfl (s_icT (by decide)) ?_
    refine rr rfl (s_iload rfl) ?_
    refine rr rfl (s_istore rfl) ?_
    refine rr rfl (s_aload_n rfl) ?_
    refine rr rfl (s_getf rfl rfl) ?_
    refine rr rfl (s_iload_n rfl) ?_
    refine rr rfl (s_iaload (j := 0) rfl rfl rfl) ?_
    refine rr rfl (s_iconst (v := (-1)) (by decide)) ?_
    refine rr rfl (s_icF (ic_neq g7)) ?_
    refine rr rfl (s_aload_n rfl) ?_
    refine rr rfl (s_getf rfl rfl) ?_
    refine rr rfl (s_aload_n rfl) ?_
    refine rr rfl (s_getf rfl rfl) ?_
    refine rr rfl (s_iload_n rfl) ?_
    refine rr rfl (s_iaload (j := 0) rfl rfl rfl) ?_
    refine rr rfl (s_ialdH rfl g14 g10 g11) ?_
    refine rr rfl (s_iconst (v := 1) (by decide)) ?_
    refine rr rfl (s_iadd (v := 7) (by decide)) ?_
    refine rr rfl (s_iload rfl) ?_
    refine rr rfl (s_icF (by decide)) ?_
    refine rr rfl (s_aload_n rfl) ?_
    refine rr rfl (s_getf rfl rfl) ?_
    refine rr rfl (s_aload_n rfl) ?_
    refine rr rfl (s_getf rfl rfl) ?_
    refine rr rfl (s_iload_n rfl) ?_
    refine rr rfl (s_iaload (j := 0) rfl rfl rfl) ?_
    refine rr rfl (s_ialdH rfl g14 g10 g11) ?_
    refine rr rfl (s_iconst (v := 1) (by decide)) ?_
    refine rr rfl (s_iadd (v := 7) (by decide)) ?_
    refine rr rfl s_goto ?_
    refine rr rfl (s_istore rfl) ?_
    refine rr rfl (s_iload rfl) ?_
    refine rr rfl (s_aload_n rfl) ?_
    refine rr rfl (s_getf rfl rfl) ?_
    refine rr rfl (s_aload_n rfl) ?_
    refine rr rfl (s_getf rfl rfl) ?_
    refine rr rfl (s_iload_n rfl) ?_
    refine rr rfl (s_iaload (j := 0) rfl rfl rfl) ?_
    refine rr rfl (s_ialdH rfl rfl g10 g11) ?_
    refine rr rfl (s_icF (by decide)) ?_
    refine rr rfl (s_aload_n rfl) ?_
    refine rr rfl (s_getf rfl rfl) ?_
    refine rr rfl (s_aload_n rfl) ?_
    refine rr rfl (s_getf rfl rfl) ?_
    refine rr rfl (s_iload_n rfl) ?_
    refine rr rfl (s_iaload (j := 0) rfl rfl rfl) ?_
    refine rr rfl (s_iload rfl) ?_
    refine rr rfl (s_iastH (v := 7) rfl rfl g10 g11 (Nat.le_of_ble_eq_true rfl) rfl (h' := ((((((((((((hF.set 5 (.inl ((List.replicate 8 (0 : Int32)).set (Int32.toNatClampNeg x3) 8))).set 41 (.inr (.inr (9, [.int 4, .int 1, .ref 42, .ref 43, .ref 44, .ref 45, .ref 46, .ref 47, .ref 48, .ref 49, .ref 50, .ref 51, .int 0, .int 0, .int 0, .int 0, .int 0, .int 0, .int 0, .int 0, .ref 52, .int 0, .ref 53, .int 0, .ref 54, .int 0, .ref 55, .ref 56, .ref 57, .ref 58, .int 0, .ref 59, .ref 60])))).set 42 (.inl [x1, 0, 0, 0, 0, 0, 0, 0, 0, 0, 0, 0, 0])).set 43 (.inl [x2, 0, 0, 0, 0, 0, 0, 0, 0, 0, 0, 0, 0])).set 44 (.inl [x3, 0, 0, 0, 0, 0, 0, 0, 0, 0, 0, 0, 0])).set 45 (.inl [x4, 0, 0, 0, 0, 0, 0, 0, 0, 0, 0, 0, 0])).set 46 (.inl [x5, 0, 0, 0, 0, 0, 0, 0, 0, 0, 0, 0, 0])).set 47 (.inl [x6, 0, 0, 0, 0, 0, 0, 0, 0, 0, 0, 0, 0])).set 48 (.inl [x7, 0, 0, 0, 0, 0, 0, 0, 0, 0, 0, 0, 0])).set 49 (.inl [(-1), 0, 0, 0, 0, 0, 0, 0, 0, 0, 0, 0, 0])).set 51 (.inl ((List.replicate 8 (0 : Int32)).set (Int32.toNatClampNeg x3) 7))) ++ [.inr (.inr (2, [.int x1, .int x2, .int x3, .int x4, .int x5, .int x6, .int x7, .int ((1 <<< (x4 &&& 31) : Int32) ||| (1 <<< (x5 &&& 31) : Int32)), .int (1 <<< (x6 &&& 31) : Int32), .int (-1)]))]))) ?_
    refine rr rfl (s_iconst (v := 1) (by decide)) ?_
    refine rr rfl (s_istore_n rfl) ?_
    refine rr rfl (s_iload_n rfl) ?_
    refine rr rfl (s_ifF (by decide)) ?_
    refine rr rfl (s_iload rfl) ?_
    refine rr rfl (s_bipush (v := 8) (by decide)) ?_
    refine rr rfl (s_icF (by decide)) ?_
    refine rr rfl (s_iconst (v := 1) (by decide)) ?_
    refine rr rfl s_goto ?_
    refine rr rfl (s_istore_n rfl) ?_
    refine rr rfl (s_iinc (v := 1) rfl (by decide) rfl) ?_
    refine rr rfl s_goto ?_
    refine rr rfl (s_iload_n rfl) ?_
    refine rr rfl (s_aload_n rfl) ?_
    refine rr rfl (s_getf rfl rfl) ?_
    refine rr rfl (s_icT (by decide)) ?_
    refine rr rfl s_goto ?_
    refine rr rfl (s_iload_n rfl) ?_
    refine rr rfl (s_ifF (by decide)) ?_
    refine rr rfl (s_iload_n rfl) ?_
    refine rr rfl (s_ifF (by decide)) ?_
    refine rr rfl (s_iconst (v := 0) (by decide)) ?_
    refine rr rfl (s_istore_n rfl) ?_
    refine rr rfl (s_iconst (v := 0) (by decide)) ?_
    refine rr rfl (s_istore_n rfl) ?_
    refine rr rfl (s_iload_n rfl) ?_
    refine rr rfl (s_aload_n rfl) ?_
    refine rr rfl (s_getf rfl rfl) ?_
    refine rr rfl (s_icF (by decide)) ?_
    refine rr rfl (s_iconst (v := 0) (by decide)) ?_
    refine rr rfl (s_istore rfl) ?_
    refine rr rfl (s_aload_n rfl) ?_
    refine rr rfl (s_getf rfl rfl) ?_
    refine rr rfl (s_iload_n rfl) ?_
    refine rr rfl (s_iaload (j := 0) rfl rfl rfl) ?_
    refine rr rfl (s_ifF (ic_nne g1)) ?_
    refine rr rfl (s_aload_n rfl) ?_
    refine rr rfl (s_getf rfl rfl) ?_
    refine rr rfl (s_aload_n rfl) ?_
    refine rr rfl (s_getf rfl rfl) ?_
    refine rr rfl (s_iload_n rfl) ?_
    refine rr rfl (s_iaload (j := 0) rfl rfl rfl) ?_
    refine rr rfl (s_ialdN rfl g12 g2 g3 g10) ?_
    refine rr rfl (s_istore rfl) ?_
    refine rr rfl (s_aload_n rfl) ?_
    refine rr rfl (s_getf rfl rfl) ?_
    refine rr rfl (s_iload_n rfl) ?_
    refine rr rfl (s_iaload (j := 0) rfl rfl rfl) ?_
    refine rr rfl (s_iconst (v := (-1)) (by decide)) ?_
    refine rr rfl (s_icF (ic_neq g4)) ?_
    refine rr rfl (s_aload_n rfl) ?_
    refine rr rfl (s_getf rfl rfl) ?_
    refine rr rfl (s_aload_n rfl) ?_
    refine rr rfl (s_getf rfl rfl) ?_
    refine rr rfl (s_iload_n rfl) ?_
    refine rr rfl (s_iaload (j := 0) rfl rfl rfl) ?_
    refine rr rfl (s_ialdN rfl g13 g5 g6 g10) ?_
    refine rr rfl (s_iload rfl) ?_
    refine rr rfl (s_icT (by decide)) ?_
    refine rr rfl (s_iload rfl) ?_
    refine rr rfl (s_istore rfl) ?_
    refine rr rfl (s_aload_n rfl) ?_
    refine rr rfl (s_getf rfl rfl) ?_
    refine rr rfl (s_iload_n rfl) ?_
    refine rr rfl (s_iaload (j := 0) rfl rfl rfl) ?_
    refine rr rfl (s_iconst (v := (-1)) (by decide)) ?_
    refine rr rfl (s_icF (ic_neq g7)) ?_
    refine rr rfl (s_aload_n rfl) ?_
    refine rr rfl (s_getf rfl rfl) ?_
    refine rr rfl (s_aload_n rfl) ?_
    refine rr rfl (s_getf rfl rfl) ?_
    refine rr rfl (s_iload_n rfl) ?_
    refine rr rfl (s_iaload (j := 0) rfl rfl rfl) ?_
    refine rr rfl (s_ialdH rfl g14 g10 g11) ?_
    refine rr rfl (s_iconst (v := 1) (by decide)) ?_
    refine rr rfl (s_iadd (v := 8) (by decide)) ?_
    refine rr rfl (s_iload rfl) ?_
    refine rr rfl (s_icF (by decide)) ?_
    refine rr rfl (s_aload_n rfl) ?_
    refine rr rfl (s_getf rfl rfl) ?_
    refine rr rfl (s_aload_n rfl) ?_
    refine rr rfl (s_getf rfl rfl) ?_
    refine rr rfl (s_iload_n rfl) ?_
    refine rr rfl (s_iaload (j := 0) rfl rfl rfl) ?_
    refine rr rfl (s_ialdH rfl g14 g10 g11) ?_
    refine rr rfl (s_iconst (v := 1) (by decide)) ?_
    refine rr rfl (s_iadd (v := 8) (by decide)) ?_
    refine rr rfl s_goto ?_
    refine rr rfl (s_istore rfl) ?_
    refine rr rfl (s_iload rfl) ?_
    refine rr rfl (s_aload_n rfl) ?_
    refine rr rfl (s_getf rfl rfl) ?_
    refine rr rfl (s_aload_n rfl) ?_
    refine rr rfl (s_getf rfl rfl) ?_
    refine rr rfl (s_iload_n rfl) ?_
    refine rr rfl (s_iaload (j := 0) rfl rfl rfl) ?_
    refine rr rfl (s_ialdH rfl rfl g10 g11) ?_
    refine rr rfl (s_icF (by decide)) ?_
    refine rr rfl (s_aload_n rfl) ?_
    refine rr rfl (s_getf rfl rfl) ?_
    refine rr rfl (s_aload_n rfl) ?_
    refine rr rfl (s_getf rfl rfl) ?_
    refine rr rfl (s_iload_n rfl) ?_
    refine rr rfl (s_iaload (j := 0) rfl rfl rfl) ?_
    refine rr rfl (s_iload rfl) ?_
    refine rr rfl (s_iastH (v := 8) rfl rfl g10 g11 (Nat.le_of_ble_eq_true rfl) rfl (h' := ((((((((((((hF.set 5 (.inl ((List.replicate 8 (0 : Int32)).set (Int32.toNatClampNeg x3) 8))).set 41 (.inr (.inr (9, [.int 4, .int 1, .ref 42, .ref 43, .ref 44, .ref 45, .ref 46, .ref 47, .ref 48, .ref 49, .ref 50, .ref 51, .int 0, .int 0, .int 0, .int 0, .int 0, .int 0, .int 0, .int 0, .ref 52, .int 0, .ref 53, .int 0, .ref 54, .int 0, .ref 55, .ref 56, .ref 57, .ref 58, .int 0, .ref 59, .ref 60])))).set 42 (.inl [x1, 0, 0, 0, 0, 0, 0, 0, 0, 0, 0, 0, 0])).set 43 (.inl [x2, 0, 0, 0, 0, 0, 0, 0, 0, 0, 0, 0, 0])).set 44 (.inl [x3, 0, 0, 0, 0, 0, 0, 0, 0, 0, 0, 0, 0])).set 45 (.inl [x4, 0, 0, 0, 0, 0, 0, 0, 0, 0, 0, 0, 0])).set 46 (.inl [x5, 0, 0, 0, 0, 0, 0, 0, 0, 0, 0, 0, 0])).set 47 (.inl [x6, 0, 0, 0, 0, 0, 0, 0, 0, 0, 0, 0, 0])).set 48 (.inl [x7, 0, 0, 0, 0, 0, 0, 0, 0, 0, 0, 0, 0])).set 49 (.inl [(-1), 0, 0, 0, 0, 0, 0, 0, 0, 0, 0, 0, 0])).set 51 (.inl ((List.replicate 8 (0 : Int32)).set (Int32.toNatClampNeg x3) 8))) ++ [.inr (.inr (2, [.int x1, .int x2, .int x3, .int x4, .int x5, .int x6, .int x7, .int ((1 <<< (x4 &&& 31) : Int32) ||| (1 <<< (x5 &&& 31) : Int32)), .int (1 <<< (x6 &&& 31) : Int32), .int (-1)]))]))) ?_
    refine rr rfl (s_iconst (v := 1) (by decide)) ?_
    refine rr rfl (s_istore_n rfl) ?_
    refine rr rfl (s_iload_n rfl) ?_
    refine rr rfl (s_ifF (by decide)) ?_
    refine rr rfl (s_iload rfl) ?_
    refine rr rfl (s_bipush (v := 8) (by decide)) ?_
    refine rr rfl (s_icT (by decide)) ?_
    refine rr rfl (s_iconst (v := 0) (by decide)) ?_
    refine rr rfl (s_istore_n rfl) ?_
    refine rr rfl (s_iinc (v := 1) rfl (by decide) rfl) ?_
    refine rr rfl s_goto ?_
    refine rr rfl (s_iload_n rfl) ?_
    refine rr rfl (s_aload_n rfl) ?_
    refine rr rfl (s_getf rfl rfl) ?_
    refine rr rfl (s_icT (by decide)) ?_
    refine rr rfl s_goto ?_
    refine rr rfl (s_iload_n rfl) ?_
    refine rr rfl (s_ifF (by decide)) ?_
    refine rr rfl (s_iload_n rfl) ?_
    refine rr rfl (s_ifT (by decide)) ?_
    refine rr rfl (s_iload_n rfl) ?_
    exact rrt rfl rfl rfl rfl
  refine rrc rfl rfl rfl (do_of g_X9_lays rfl rfl e2) ?_
  refine rr rfl (s_istore rfl) ?_
  refine rr rfl (s_iload rfl) ?_
  refine rr rfl (s_ifT (by decide)) ?_
  refine rr rfl (s_aload_n rfl) ?_
  refine rr rfl rfl ?_
  refine rr rfl (s_getf rfl rfl) ?_
  refine rr rfl (s_iconst (v := 1) (by decide)) ?_
  refine rr rfl (s_isub (v := 0) (by decide)) ?_
  refine rr rfl (s_putf rfl rfl (Nat.le_of_ble_eq_true rfl) rfl (Nat.le_of_ble_eq_true rfl) rfl (h' := (((((((((((hF.set 5 (.inl ((List.replicate 8 (0 : Int32)).set (Int32.toNatClampNeg x3) 8))).set 42 (.inl [x1, 0, 0, 0, 0, 0, 0, 0, 0, 0, 0, 0, 0])).set 43 (.inl [x2, 0, 0, 0, 0, 0, 0, 0, 0, 0, 0, 0, 0])).set 44 (.inl [x3, 0, 0, 0, 0, 0, 0, 0, 0, 0, 0, 0, 0])).set 45 (.inl [x4, 0, 0, 0, 0, 0, 0, 0, 0, 0, 0, 0, 0])).set 46 (.inl [x5, 0, 0, 0, 0, 0, 0, 0, 0, 0, 0, 0, 0])).set 47 (.inl [x6, 0, 0, 0, 0, 0, 0, 0, 0, 0, 0, 0, 0])).set 48 (.inl [x7, 0, 0, 0, 0, 0, 0, 0, 0, 0, 0, 0, 0])).set 49 (.inl [(-1), 0, 0, 0, 0, 0, 0, 0, 0, 0, 0, 0, 0])).set 51 (.inl ((List.replicate 8 (0 : Int32)).set (Int32.toNatClampNeg x3) 8))) ++ [.inr (.inr (2, [.int x1, .int x2, .int x3, .int x4, .int x5, .int x6, .int x7, .int ((1 <<< (x4 &&& 31) : Int32) ||| (1 <<< (x5 &&& 31) : Int32)), .int (1 <<< (x6 &&& 31) : Int32), .int (-1)]))]))) ?_
  refine rr rfl (s_aload_n rfl) ?_
  have e3 : a_m MT [] 100000 10 miX9_lays [.ref 41] (((((((((((hF.set 5 (.inl ((List.replicate 8 (0 : Int32)).set (Int32.toNatClampNeg x3) 8))).set 42 (.inl [x1, 0, 0, 0, 0, 0, 0, 0, 0, 0, 0, 0, 0])).set 43 (.inl [x2, 0, 0, 0, 0, 0, 0, 0, 0, 0, 0, 0, 0])).set 44 (.inl [x3, 0, 0, 0, 0, 0, 0, 0, 0, 0, 0, 0, 0])).set 45 (.inl [x4, 0, 0, 0, 0, 0, 0, 0, 0, 0, 0, 0, 0])).set 46 (.inl [x5, 0, 0, 0, 0, 0, 0, 0, 0, 0, 0, 0, 0])).set 47 (.inl [x6, 0, 0, 0, 0, 0, 0, 0, 0, 0, 0, 0, 0])).set 48 (.inl [x7, 0, 0, 0, 0, 0, 0, 0, 0, 0, 0, 0, 0])).set 49 (.inl [(-1), 0, 0, 0, 0, 0, 0, 0, 0, 0, 0, 0, 0])).set 51 (.inl ((List.replicate 8 (0 : Int32)).set (Int32.toNatClampNeg x3) 8))) ++ [.inr (.inr (2, [.int x1, .int x2, .int x3, .int x4, .int x5, .int x6, .int x7, .int ((1 <<< (x4 &&& 31) : Int32) ||| (1 <<< (x5 &&& 31) : Int32)), .int (1 <<< (x6 &&& 31) : Int32), .int (-1)]))]) = some ((some (.int 1)), ((((((((((hF.set 5 (.inl ((List.replicate 8 (0 : Int32)).set (Int32.toNatClampNeg x3) 8))).set 42 (.inl [x1, 0, 0, 0, 0, 0, 0, 0, 0, 0, 0, 0, 0])).set 43 (.inl [x2, 0, 0, 0, 0, 0, 0, 0, 0, 0, 0, 0, 0])).set 44 (.inl [x3, 0, 0, 0, 0, 0, 0, 0, 0, 0, 0, 0, 0])).set 45 (.inl [x4, 0, 0, 0, 0, 0, 0, 0, 0, 0, 0, 0, 0])).set 46 (.inl [x5, 0, 0, 0, 0, 0, 0, 0, 0, 0, 0, 0, 0])).set 47 (.inl [x6, 0, 0, 0, 0, 0, 0, 0, 0, 0, 0, 0, 0])).set 48 (.inl [x7, 0, 0, 0, 0, 0, 0, 0, 0, 0, 0, 0, 0])).set 49 (.inl [(-1), 0, 0, 0, 0, 0, 0, 0, 0, 0, 0, 0, 0])) ++ [.inr (.inr (2, [.int x1, .int x2, .int x3, .int x4, .int x5, .int x6, .int x7, .int ((1 <<< (x4 &&& 31) : Int32) ||| (1 <<< (x5 &&& 31) : Int32)), .int (1 <<< (x6 &&& 31) : Int32), .int (-1)]))]), 0, 0) := by
    exact lays0 rfl rfl rfl rfl (by simp) rfl
  refine rrc rfl rfl rfl (do_of g_X9_lays rfl rfl e3) ?_
  refine rr rfl (s_istore rfl) ?_
  refine rr rfl (s_iload rfl) ?_
  refine rr rfl (s_ifT (by decide)) ?_
  refine rr rfl (s_bipush (v := (-3)) (by decide)) ?_
  exact rrt rfl rfl rfl rfl
set_option maxHeartbeats 4000000 in
set_option maxRecDepth 10000 in
theorem rm_Nhho {x1 x2 x3 x4 x5 x6 x7 : Int32} (g1 : x2 = 0) (g2 : ¬ x4 < 0) (g3 : x4 < nI 8) (g4 : ¬ x5 = (-1)) (g5 : ¬ x5 < 0) (g6 : x5 < nI 8) (g7 : ¬ x6 = (-1)) (g8 : ¬ x6 < 0) (g9 : x6 < nI 8) (g10 : ¬ x3 < 0) (g11 : x3 < nI 8) (g12 : ¬ x4 = x3) (g13 : x5 = x3) (g14 : x6 = x3) : a_run MT [] (a_m MT [] 100000 10) 11 (some .int) tabX9_rule 90000 95 (alQ x1 x2 x3 x4 x5 x6 x7) [] ((hF.set 5 (.inl ((List.replicate 8 (0 : Int32)).set (Int32.toNatClampNeg x3) 8))) ++ [.inr (.inr (2, [.int x1, .int x2, .int x3, .int x4, .int x5, .int x6, .int x7, .int ((1 <<< (x4 &&& 31) : Int32) ||| (1 <<< (x5 &&& 31) : Int32)), .int (1 <<< (x6 &&& 31) : Int32), .int (-1)]))]) 0 0 = some (some (.int (-3)), ((((((((((hF.set 5 (.inl ((List.replicate 8 (0 : Int32)).set (Int32.toNatClampNeg x3) 8))).set 42 (.inl [x1, 0, 0, 0, 0, 0, 0, 0, 0, 0, 0, 0, 0])).set 43 (.inl [x2, 0, 0, 0, 0, 0, 0, 0, 0, 0, 0, 0, 0])).set 44 (.inl [x3, 0, 0, 0, 0, 0, 0, 0, 0, 0, 0, 0, 0])).set 45 (.inl [x4, 0, 0, 0, 0, 0, 0, 0, 0, 0, 0, 0, 0])).set 46 (.inl [x5, 0, 0, 0, 0, 0, 0, 0, 0, 0, 0, 0, 0])).set 47 (.inl [x6, 0, 0, 0, 0, 0, 0, 0, 0, 0, 0, 0, 0])).set 48 (.inl [x7, 0, 0, 0, 0, 0, 0, 0, 0, 0, 0, 0, 0])).set 49 (.inl [(-1), 0, 0, 0, 0, 0, 0, 0, 0, 0, 0, 0, 0])) ++ [.inr (.inr (2, [.int x1, .int x2, .int x3, .int x4, .int x5, .int x6, .int x7, .int ((1 <<< (x4 &&& 31) : Int32) ||| (1 <<< (x5 &&& 31) : Int32)), .int (1 <<< (x6 &&& 31) : Int32), .int (-1)]))]), 0, 0) := by
  refine rr rfl (s_aload_n rfl) ?_
  refine rr rfl (s_aload_n rfl) ?_
  refine rr rfl (s_getf rfl rfl) ?_
  refine rr rfl (s_iload_n rfl) ?_
  refine rr rfl (s_iload_n rfl) ?_
  refine rr rfl (s_iload_n rfl) ?_
  refine rr rfl (s_iload rfl) ?_
  refine rr rfl (s_iload rfl) ?_
  refine rr rfl (s_iload rfl) ?_
  refine rr rfl (s_iload rfl) ?_
  have e1 : a_m MT [] 100000 10 miX9_sets [.ref 41, .int 0, .int x1, .int x2, .int x3, .int x4, .int x5, .int x6, .int x7] ((hF.set 5 (.inl ((List.replicate 8 (0 : Int32)).set (Int32.toNatClampNeg x3) 8))) ++ [.inr (.inr (2, [.int x1, .int x2, .int x3, .int x4, .int x5, .int x6, .int x7, .int ((1 <<< (x4 &&& 31) : Int32) ||| (1 <<< (x5 &&& 31) : Int32)), .int (1 <<< (x6 &&& 31) : Int32), .int (-1)]))]) = some (none, ((((((((((hF.set 5 (.inl ((List.replicate 8 (0 : Int32)).set (Int32.toNatClampNeg x3) 8))).set 42 (.inl [x1, 0, 0, 0, 0, 0, 0, 0, 0, 0, 0, 0, 0])).set 43 (.inl [x2, 0, 0, 0, 0, 0, 0, 0, 0, 0, 0, 0, 0])).set 44 (.inl [x3, 0, 0, 0, 0, 0, 0, 0, 0, 0, 0, 0, 0])).set 45 (.inl [x4, 0, 0, 0, 0, 0, 0, 0, 0, 0, 0, 0, 0])).set 46 (.inl [x5, 0, 0, 0, 0, 0, 0, 0, 0, 0, 0, 0, 0])).set 47 (.inl [x6, 0, 0, 0, 0, 0, 0, 0, 0, 0, 0, 0, 0])).set 48 (.inl [x7, 0, 0, 0, 0, 0, 0, 0, 0, 0, 0, 0, 0])).set 49 (.inl [(-1), 0, 0, 0, 0, 0, 0, 0, 0, 0, 0, 0, 0])) ++ [.inr (.inr (2, [.int x1, .int x2, .int x3, .int x4, .int x5, .int x6, .int x7, .int ((1 <<< (x4 &&& 31) : Int32) ||| (1 <<< (x5 &&& 31) : Int32)), .int (1 <<< (x6 &&& 31) : Int32), .int (-1)]))]), 0, 0) := by
    refine me (d := 9) g_X9_sets (Nat.le_of_ble_eq_true rfl) ?_
    refine rr rfl (s_aload_n rfl) ?_
    refine rr rfl (s_getf rfl rfl) ?_
    refine rr rfl (s_iload_n rfl) ?_
    refine rr rfl (s_iload_n rfl) ?_
    refine rr rfl (s_iastore (j := 0) (f' := [x1, 0, 0, 0, 0, 0, 0, 0, 0, 0, 0, 0, 0]) rfl rfl (Nat.le_of_ble_eq_true rfl) rfl (Nat.le_of_ble_eq_true rfl) rfl (h' := (((hF.set 5 (.inl ((List.replicate 8 (0 : Int32)).set (Int32.toNatClampNeg x3) 8))).set 42 (.inl [x1, 0, 0, 0, 0, 0, 0, 0, 0, 0, 0, 0, 0])) ++ [.inr (.inr (2, [.int x1, .int x2, .int x3, .int x4, .int x5, .int x6, .int x7, .int ((1 <<< (x4 &&& 31) : Int32) ||| (1 <<< (x5 &&& 31) : Int32)), .int (1 <<< (x6 &&& 31) : Int32), .int (-1)]))]))) ?_
    refine rr rfl (s_aload_n rfl) ?_
    refine rr rfl (s_getf rfl rfl) ?_
    refine rr rfl (s_iload_n rfl) ?_
    refine rr rfl (s_iload_n rfl) ?_
    refine rr rfl (s_iastore (j := 0) (f' := [x2, 0, 0, 0, 0, 0, 0, 0, 0, 0, 0, 0, 0]) rfl rfl (Nat.le_of_ble_eq_true rfl) rfl (Nat.le_of_ble_eq_true rfl) rfl (h' := ((((hF.set 5 (.inl ((List.replicate 8 (0 : Int32)).set (Int32.toNatClampNeg x3) 8))).set 42 (.inl [x1, 0, 0, 0, 0, 0, 0, 0, 0, 0, 0, 0, 0])).set 43 (.inl [x2, 0, 0, 0, 0, 0, 0, 0, 0, 0, 0, 0, 0])) ++ [.inr (.inr (2, [.int x1, .int x2, .int x3, .int x4, .int x5, .int x6, .int x7, .int ((1 <<< (x4 &&& 31) : Int32) ||| (1 <<< (x5 &&& 31) : Int32)), .int (1 <<< (x6 &&& 31) : Int32), .int (-1)]))]))) ?_
    refine rr rfl (s_aload_n rfl) ?_
    refine rr rfl (s_getf rfl rfl) ?_
    refine rr rfl (s_iload_n rfl) ?_
    refine rr rfl (s_iload rfl) ?_
    refine rr rfl (s_iastore (j := 0) (f' := [x3, 0, 0, 0, 0, 0, 0, 0, 0, 0, 0, 0, 0]) rfl rfl (Nat.le_of_ble_eq_true rfl) rfl (Nat.le_of_ble_eq_true rfl) rfl (h' := (((((hF.set 5 (.inl ((List.replicate 8 (0 : Int32)).set (Int32.toNatClampNeg x3) 8))).set 42 (.inl [x1, 0, 0, 0, 0, 0, 0, 0, 0, 0, 0, 0, 0])).set 43 (.inl [x2, 0, 0, 0, 0, 0, 0, 0, 0, 0, 0, 0, 0])).set 44 (.inl [x3, 0, 0, 0, 0, 0, 0, 0, 0, 0, 0, 0, 0])) ++ [.inr (.inr (2, [.int x1, .int x2, .int x3, .int x4, .int x5, .int x6, .int x7, .int ((1 <<< (x4 &&& 31) : Int32) ||| (1 <<< (x5 &&& 31) : Int32)), .int (1 <<< (x6 &&& 31) : Int32), .int (-1)]))]))) ?_
    refine rr rfl (s_aload_n rfl) ?_
    refine rr rfl (s_getf rfl rfl) ?_
    refine rr rfl (s_iload_n rfl) ?_
    refine rr rfl (s_iload rfl) ?_
    refine rr rfl (s_iastore (j := 0) (f' := [x4, 0, 0, 0, 0, 0, 0, 0, 0, 0, 0, 0, 0]) rfl rfl (Nat.le_of_ble_eq_true rfl) rfl (Nat.le_of_ble_eq_true rfl) rfl (h' := ((((((hF.set 5 (.inl ((List.replicate 8 (0 : Int32)).set (Int32.toNatClampNeg x3) 8))).set 42 (.inl [x1, 0, 0, 0, 0, 0, 0, 0, 0, 0, 0, 0, 0])).set 43 (.inl [x2, 0, 0, 0, 0, 0, 0, 0, 0, 0, 0, 0, 0])).set 44 (.inl [x3, 0, 0, 0, 0, 0, 0, 0, 0, 0, 0, 0, 0])).set 45 (.inl [x4, 0, 0, 0, 0, 0, 0, 0, 0, 0, 0, 0, 0])) ++ [.inr (.inr (2, [.int x1, .int x2, .int x3, .int x4, .int x5, .int x6, .int x7, .int ((1 <<< (x4 &&& 31) : Int32) ||| (1 <<< (x5 &&& 31) : Int32)), .int (1 <<< (x6 &&& 31) : Int32), .int (-1)]))]))) ?_
    refine rr rfl (s_aload_n rfl) ?_
    refine rr rfl (s_getf rfl rfl) ?_
    refine rr rfl (s_iload_n rfl) ?_
    refine rr rfl (s_iload rfl) ?_
    refine rr rfl (s_iastore (j := 0) (f' := [x5, 0, 0, 0, 0, 0, 0, 0, 0, 0, 0, 0, 0]) rfl rfl (Nat.le_of_ble_eq_true rfl) rfl (Nat.le_of_ble_eq_true rfl) rfl (h' := (((((((hF.set 5 (.inl ((List.replicate 8 (0 : Int32)).set (Int32.toNatClampNeg x3) 8))).set 42 (.inl [x1, 0, 0, 0, 0, 0, 0, 0, 0, 0, 0, 0, 0])).set 43 (.inl [x2, 0, 0, 0, 0, 0, 0, 0, 0, 0, 0, 0, 0])).set 44 (.inl [x3, 0, 0, 0, 0, 0, 0, 0, 0, 0, 0, 0, 0])).set 45 (.inl [x4, 0, 0, 0, 0, 0, 0, 0, 0, 0, 0, 0, 0])).set 46 (.inl [x5, 0, 0, 0, 0, 0, 0, 0, 0, 0, 0, 0, 0])) ++ [.inr (.inr (2, [.int x1, .int x2, .int x3, .int x4, .int x5, .int x6, .int x7, .int ((1 <<< (x4 &&& 31) : Int32) ||| (1 <<< (x5 &&& 31) : Int32)), .int (1 <<< (x6 &&& 31) : Int32), .int (-1)]))]))) ?_
    refine rr rfl (s_aload_n rfl) ?_
    refine rr rfl (s_getf rfl rfl) ?_
    refine rr rfl (s_iload_n rfl) ?_
    refine rr rfl (s_iload rfl) ?_
    refine rr rfl (s_iastore (j := 0) (f' := [x6, 0, 0, 0, 0, 0, 0, 0, 0, 0, 0, 0, 0]) rfl rfl (Nat.le_of_ble_eq_true rfl) rfl (Nat.le_of_ble_eq_true rfl) rfl (h' := ((((((((hF.set 5 (.inl ((List.replicate 8 (0 : Int32)).set (Int32.toNatClampNeg x3) 8))).set 42 (.inl [x1, 0, 0, 0, 0, 0, 0, 0, 0, 0, 0, 0, 0])).set 43 (.inl [x2, 0, 0, 0, 0, 0, 0, 0, 0, 0, 0, 0, 0])).set 44 (.inl [x3, 0, 0, 0, 0, 0, 0, 0, 0, 0, 0, 0, 0])).set 45 (.inl [x4, 0, 0, 0, 0, 0, 0, 0, 0, 0, 0, 0, 0])).set 46 (.inl [x5, 0, 0, 0, 0, 0, 0, 0, 0, 0, 0, 0, 0])).set 47 (.inl [x6, 0, 0, 0, 0, 0, 0, 0, 0, 0, 0, 0, 0])) ++ [.inr (.inr (2, [.int x1, .int x2, .int x3, .int x4, .int x5, .int x6, .int x7, .int ((1 <<< (x4 &&& 31) : Int32) ||| (1 <<< (x5 &&& 31) : Int32)), .int (1 <<< (x6 &&& 31) : Int32), .int (-1)]))]))) ?_
    refine rr rfl (s_aload_n rfl) ?_
    refine rr rfl (s_getf rfl rfl) ?_
    refine rr rfl (s_iload_n rfl) ?_
    refine rr rfl (s_iload rfl) ?_
    refine rr rfl (s_iastore (j := 0) (f' := [x7, 0, 0, 0, 0, 0, 0, 0, 0, 0, 0, 0, 0]) rfl rfl (Nat.le_of_ble_eq_true rfl) rfl (Nat.le_of_ble_eq_true rfl) rfl (h' := (((((((((hF.set 5 (.inl ((List.replicate 8 (0 : Int32)).set (Int32.toNatClampNeg x3) 8))).set 42 (.inl [x1, 0, 0, 0, 0, 0, 0, 0, 0, 0, 0, 0, 0])).set 43 (.inl [x2, 0, 0, 0, 0, 0, 0, 0, 0, 0, 0, 0, 0])).set 44 (.inl [x3, 0, 0, 0, 0, 0, 0, 0, 0, 0, 0, 0, 0])).set 45 (.inl [x4, 0, 0, 0, 0, 0, 0, 0, 0, 0, 0, 0, 0])).set 46 (.inl [x5, 0, 0, 0, 0, 0, 0, 0, 0, 0, 0, 0, 0])).set 47 (.inl [x6, 0, 0, 0, 0, 0, 0, 0, 0, 0, 0, 0, 0])).set 48 (.inl [x7, 0, 0, 0, 0, 0, 0, 0, 0, 0, 0, 0, 0])) ++ [.inr (.inr (2, [.int x1, .int x2, .int x3, .int x4, .int x5, .int x6, .int x7, .int ((1 <<< (x4 &&& 31) : Int32) ||| (1 <<< (x5 &&& 31) : Int32)), .int (1 <<< (x6 &&& 31) : Int32), .int (-1)]))]))) ?_
    refine rr rfl (s_aload_n rfl) ?_
    refine rr rfl (s_getf rfl rfl) ?_
    refine rr rfl (s_iload_n rfl) ?_
    refine rr rfl (s_iconst (v := (-1)) (by decide)) ?_
    refine rr rfl (s_iastore (j := 0) (f' := [(-1), 0, 0, 0, 0, 0, 0, 0, 0, 0, 0, 0, 0]) rfl rfl (Nat.le_of_ble_eq_true rfl) rfl (Nat.le_of_ble_eq_true rfl) rfl (h' := ((((((((((hF.set 5 (.inl ((List.replicate 8 (0 : Int32)).set (Int32.toNatClampNeg x3) 8))).set 42 (.inl [x1, 0, 0, 0, 0, 0, 0, 0, 0, 0, 0, 0, 0])).set 43 (.inl [x2, 0, 0, 0, 0, 0, 0, 0, 0, 0, 0, 0, 0])).set 44 (.inl [x3, 0, 0, 0, 0, 0, 0, 0, 0, 0, 0, 0, 0])).set 45 (.inl [x4, 0, 0, 0, 0, 0, 0, 0, 0, 0, 0, 0, 0])).set 46 (.inl [x5, 0, 0, 0, 0, 0, 0, 0, 0, 0, 0, 0, 0])).set 47 (.inl [x6, 0, 0, 0, 0, 0, 0, 0, 0, 0, 0, 0, 0])).set 48 (.inl [x7, 0, 0, 0, 0, 0, 0, 0, 0, 0, 0, 0, 0])).set 49 (.inl [(-1), 0, 0, 0, 0, 0, 0, 0, 0, 0, 0, 0, 0])) ++ [.inr (.inr (2, [.int x1, .int x2, .int x3, .int x4, .int x5, .int x6, .int x7, .int ((1 <<< (x4 &&& 31) : Int32) ||| (1 <<< (x5 &&& 31) : Int32)), .int (1 <<< (x6 &&& 31) : Int32), .int (-1)]))]))) ?_
    exact rrt rfl rfl rfl rfl
  refine rrc rfl rfl rfl (do_of g_X9_sets rfl rfl e1) ?_
  refine rr rfl (s_aload_n rfl) ?_
  refine rr rfl rfl ?_
  refine rr rfl (s_getf rfl rfl) ?_
  refine rr rfl (s_iconst (v := 1) (by decide)) ?_
  refine rr rfl (s_iadd (v := 1) (by decide)) ?_
  refine rr rfl (s_putf rfl rfl (Nat.le_of_ble_eq_true rfl) rfl (Nat.le_of_ble_eq_true rfl) rfl (h' := (((((((((((hF.set 5 (.inl ((List.replicate 8 (0 : Int32)).set (Int32.toNatClampNeg x3) 8))).set 41 (.inr (.inr (9, [.int 4, .int 1, .ref 42, .ref 43, .ref 44, .ref 45, .ref 46, .ref 47, .ref 48, .ref 49, .ref 50, .ref 51, .int 0, .int 0, .int 0, .int 0, .int 0, .int 0, .int 0, .int 0, .ref 52, .int 0, .ref 53, .int 0, .ref 54, .int 0, .ref 55, .ref 56, .ref 57, .ref 58, .int 0, .ref 59, .ref 60])))).set 42 (.inl [x1, 0, 0, 0, 0, 0, 0, 0, 0, 0, 0, 0, 0])).set 43 (.inl [x2, 0, 0, 0, 0, 0, 0, 0, 0, 0, 0, 0, 0])).set 44 (.inl [x3, 0, 0, 0, 0, 0, 0, 0, 0, 0, 0, 0, 0])).set 45 (.inl [x4, 0, 0, 0, 0, 0, 0, 0, 0, 0, 0, 0, 0])).set 46 (.inl [x5, 0, 0, 0, 0, 0, 0, 0, 0, 0, 0, 0, 0])).set 47 (.inl [x6, 0, 0, 0, 0, 0, 0, 0, 0, 0, 0, 0, 0])).set 48 (.inl [x7, 0, 0, 0, 0, 0, 0, 0, 0, 0, 0, 0, 0])).set 49 (.inl [(-1), 0, 0, 0, 0, 0, 0, 0, 0, 0, 0, 0, 0])) ++ [.inr (.inr (2, [.int x1, .int x2, .int x3, .int x4, .int x5, .int x6, .int x7, .int ((1 <<< (x4 &&& 31) : Int32) ||| (1 <<< (x5 &&& 31) : Int32)), .int (1 <<< (x6 &&& 31) : Int32), .int (-1)]))]))) ?_
  refine rr rfl (s_aload_n rfl) ?_
  have e2 : a_m MT [] 100000 10 miX9_lays [.ref 41] (((((((((((hF.set 5 (.inl ((List.replicate 8 (0 : Int32)).set (Int32.toNatClampNeg x3) 8))).set 41 (.inr (.inr (9, [.int 4, .int 1, .ref 42, .ref 43, .ref 44, .ref 45, .ref 46, .ref 47, .ref 48, .ref 49, .ref 50, .ref 51, .int 0, .int 0, .int 0, .int 0, .int 0, .int 0, .int 0, .int 0, .ref 52, .int 0, .ref 53, .int 0, .ref 54, .int 0, .ref 55, .ref 56, .ref 57, .ref 58, .int 0, .ref 59, .ref 60])))).set 42 (.inl [x1, 0, 0, 0, 0, 0, 0, 0, 0, 0, 0, 0, 0])).set 43 (.inl [x2, 0, 0, 0, 0, 0, 0, 0, 0, 0, 0, 0, 0])).set 44 (.inl [x3, 0, 0, 0, 0, 0, 0, 0, 0, 0, 0, 0, 0])).set 45 (.inl [x4, 0, 0, 0, 0, 0, 0, 0, 0, 0, 0, 0, 0])).set 46 (.inl [x5, 0, 0, 0, 0, 0, 0, 0, 0, 0, 0, 0, 0])).set 47 (.inl [x6, 0, 0, 0, 0, 0, 0, 0, 0, 0, 0, 0, 0])).set 48 (.inl [x7, 0, 0, 0, 0, 0, 0, 0, 0, 0, 0, 0, 0])).set 49 (.inl [(-1), 0, 0, 0, 0, 0, 0, 0, 0, 0, 0, 0, 0])) ++ [.inr (.inr (2, [.int x1, .int x2, .int x3, .int x4, .int x5, .int x6, .int x7, .int ((1 <<< (x4 &&& 31) : Int32) ||| (1 <<< (x5 &&& 31) : Int32)), .int (1 <<< (x6 &&& 31) : Int32), .int (-1)]))]) = some ((some (.int 0)), ((((((((((((hF.set 5 (.inl ((List.replicate 8 (0 : Int32)).set (Int32.toNatClampNeg x3) 8))).set 41 (.inr (.inr (9, [.int 4, .int 1, .ref 42, .ref 43, .ref 44, .ref 45, .ref 46, .ref 47, .ref 48, .ref 49, .ref 50, .ref 51, .int 0, .int 0, .int 0, .int 0, .int 0, .int 0, .int 0, .int 0, .ref 52, .int 0, .ref 53, .int 0, .ref 54, .int 0, .ref 55, .ref 56, .ref 57, .ref 58, .int 0, .ref 59, .ref 60])))).set 42 (.inl [x1, 0, 0, 0, 0, 0, 0, 0, 0, 0, 0, 0, 0])).set 43 (.inl [x2, 0, 0, 0, 0, 0, 0, 0, 0, 0, 0, 0, 0])).set 44 (.inl [x3, 0, 0, 0, 0, 0, 0, 0, 0, 0, 0, 0, 0])).set 45 (.inl [x4, 0, 0, 0, 0, 0, 0, 0, 0, 0, 0, 0, 0])).set 46 (.inl [x5, 0, 0, 0, 0, 0, 0, 0, 0, 0, 0, 0, 0])).set 47 (.inl [x6, 0, 0, 0, 0, 0, 0, 0, 0, 0, 0, 0, 0])).set 48 (.inl [x7, 0, 0, 0, 0, 0, 0, 0, 0, 0, 0, 0, 0])).set 49 (.inl [(-1), 0, 0, 0, 0, 0, 0, 0, 0, 0, 0, 0, 0])).set 51 (.inl ((List.replicate 8 (0 : Int32)).set (Int32.toNatClampNeg x3) 8))) ++ [.inr (.inr (2, [.int x1, .int x2, .int x3, .int x4, .int x5, .int x6, .int x7, .int ((1 <<< (x4 &&& 31) : Int32) ||| (1 <<< (x5 &&& 31) : Int32)), .int (1 <<< (x6 &&& 31) : Int32), .int (-1)]))]), 0, 0) := by
    refine me (d := 9) g_X9_lays (Nat.le_of_ble_eq_true rfl) ?_
    refine rr rfl (s_iconst (v := 0) (by decide)) ?_
    refine rr rfl (s_istore_n rfl) ?_
    refine rr rfl (s_iload_n rfl) ?_
    refine rr rfl (s_bipush (v := 8) (by decide)) ?_
    refine rr rfl (s_icF (by decide)) ?_
    refine rr rfl (s_aload_n rfl) ?_
    refine rr rfl (s_getf rfl rfl) ?_
    refine rr rfl (s_iload_n rfl) ?_
    refine rr rfl (s_iconst (v := 0) (by decide)) ?_
    refine rr rfl (s_iastore (j := 0) (f' := (List.replicate 8 0)) rfl rfl (Nat.le_of_ble_eq_true rfl) rfl (Nat.le_of_ble_eq_true rfl) rfl (h' := (((((((((((hF.set 5 (.inl ((List.replicate 8 (0 : Int32)).set (Int32.toNatClampNeg x3) 8))).set 41 (.inr (.inr (9, [.int 4, .int 1, .ref 42, .ref 43, .ref 44, .ref 45, .ref 46, .ref 47, .ref 48, .ref 49, .ref 50, .ref 51, .int 0, .int 0, .int 0, .int 0, .int 0, .int 0, .int 0, .int 0, .ref 52, .int 0, .ref 53, .int 0, .ref 54, .int 0, .ref 55, .ref 56, .ref 57, .ref 58, .int 0, .ref 59, .ref 60])))).set 42 (.inl [x1, 0, 0, 0, 0, 0, 0, 0, 0, 0, 0, 0, 0])).set 43 (.inl [x2, 0, 0, 0, 0, 0, 0, 0, 0, 0, 0, 0, 0])).set 44 (.inl [x3, 0, 0, 0, 0, 0, 0, 0, 0, 0, 0, 0, 0])).set 45 (.inl [x4, 0, 0, 0, 0, 0, 0, 0, 0, 0, 0, 0, 0])).set 46 (.inl [x5, 0, 0, 0, 0, 0, 0, 0, 0, 0, 0, 0, 0])).set 47 (.inl [x6, 0, 0, 0, 0, 0, 0, 0, 0, 0, 0, 0, 0])).set 48 (.inl [x7, 0, 0, 0, 0, 0, 0, 0, 0, 0, 0, 0, 0])).set 49 (.inl [(-1), 0, 0, 0, 0, 0, 0, 0, 0, 0, 0, 0, 0])) ++ [.inr (.inr (2, [.int x1, .int x2, .int x3, .int x4, .int x5, .int x6, .int x7, .int ((1 <<< (x4 &&& 31) : Int32) ||| (1 <<< (x5 &&& 31) : Int32)), .int (1 <<< (x6 &&& 31) : Int32), .int (-1)]))]))) ?_
    refine rr rfl (s_iinc (v := 1) rfl (by decide) rfl) ?_
    refine rr rfl s_goto ?_
    refine rr rfl (s_iload_n rfl) ?_
    refine rr rfl (s_bipush (v := 8) (by decide)) ?_
    refine rr rfl (s_icF (by decide)) ?_
    refine rr rfl (s_aload_n rfl) ?_
    refine rr rfl (s_getf rfl rfl) ?_
    refine rr rfl (s_iload_n rfl) ?_
    refine rr rfl (s_iconst (v := 0) (by decide)) ?_
    refine rr rfl (s_iastore (j := 1) (f' := (List.replicate 8 0)) rfl rfl (Nat.le_of_ble_eq_true rfl) rfl (Nat.le_of_ble_eq_true rfl) rfl (h' := (((((((((((hF.set 5 (.inl ((List.replicate 8 (0 : Int32)).set (Int32.toNatClampNeg x3) 8))).set 41 (.inr (.inr (9, [.int 4, .int 1, .ref 42, .ref 43, .ref 44, .ref 45, .ref 46, .ref 47, .ref 48, .ref 49, .ref 50, .ref 51, .int 0, .int 0, .int 0, .int 0, .int 0, .int 0, .int 0, .int 0, .ref 52, .int 0, .ref 53, .int 0, .ref 54, .int 0, .ref 55, .ref 56, .ref 57, .ref 58, .int 0, .ref 59, .ref 60])))).set 42 (.inl [x1, 0, 0, 0, 0, 0, 0, 0, 0, 0, 0, 0, 0])).set 43 (.inl [x2, 0, 0, 0, 0, 0, 0, 0, 0, 0, 0, 0, 0])).set 44 (.inl [x3, 0, 0, 0, 0, 0, 0, 0, 0, 0, 0, 0, 0])).set 45 (.inl [x4, 0, 0, 0, 0, 0, 0, 0, 0, 0, 0, 0, 0])).set 46 (.inl [x5, 0, 0, 0, 0, 0, 0, 0, 0, 0, 0, 0, 0])).set 47 (.inl [x6, 0, 0, 0, 0, 0, 0, 0, 0, 0, 0, 0, 0])).set 48 (.inl [x7, 0, 0, 0, 0, 0, 0, 0, 0, 0, 0, 0, 0])).set 49 (.inl [(-1), 0, 0, 0, 0, 0, 0, 0, 0, 0, 0, 0, 0])) ++ [.inr (.inr (2, [.int x1, .int x2, .int x3, .int x4, .int x5, .int x6, .int x7, .int ((1 <<< (x4 &&& 31) : Int32) ||| (1 <<< (x5 &&& 31) : Int32)), .int (1 <<< (x6 &&& 31) : Int32), .int (-1)]))]))) ?_
    refine rr rfl (s_iinc (v := 2) rfl (by decide) rfl) ?_
    refine rr rfl s_goto ?_
    refine rr rfl (s_iload_n rfl) ?_
    refine rr rfl (s_bipush (v := 8) (by decide)) ?_
    refine rr rfl (s_icF (by decide)) ?_
    refine rr rfl (s_aload_n rfl) ?_
    refine rr rfl (s_getf rfl rfl) ?_
    refine rr rfl (s_iload_n rfl) ?_
    refine rr rfl (s_iconst (v := 0) (by decide)) ?_
    refine rr rfl (s_iastore (j := 2) (f' := (List.replicate 8 0)) rfl rfl (Nat.le_of_ble_eq_true rfl) rfl (Nat.le_of_ble_eq_true rfl) rfl (h' := (((((((((((hF.set 5 (.inl ((List.replicate 8 (0 : Int32)).set (Int32.toNatClampNeg x3) 8))).set 41 (.inr (.inr (9, [.int 4, .int 1, .ref 42, .ref 43, .ref 44, .ref 45, .ref 46, .ref 47, .ref 48, .ref 49, .ref 50, .ref 51, .int 0, .int 0, .int 0, .int 0, .int 0, .int 0, .int 0, .int 0, .ref 52, .int 0, .ref 53, .int 0, .ref 54, .int 0, .ref 55, .ref 56, .ref 57, .ref 58, .int 0, .ref 59, .ref 60])))).set 42 (.inl [x1, 0, 0, 0, 0, 0, 0, 0, 0, 0, 0, 0, 0])).set 43 (.inl [x2, 0, 0, 0, 0, 0, 0, 0, 0, 0, 0, 0, 0])).set 44 (.inl [x3, 0, 0, 0, 0, 0, 0, 0, 0, 0, 0, 0, 0])).set 45 (.inl [x4, 0, 0, 0, 0, 0, 0, 0, 0, 0, 0, 0, 0])).set 46 (.inl [x5, 0, 0, 0, 0, 0, 0, 0, 0, 0, 0, 0, 0])).set 47 (.inl [x6, 0, 0, 0, 0, 0, 0, 0, 0, 0, 0, 0, 0])).set 48 (.inl [x7, 0, 0, 0, 0, 0, 0, 0, 0, 0, 0, 0, 0])).set 49 (.inl [(-1), 0, 0, 0, 0, 0, 0, 0, 0, 0, 0, 0, 0])) ++ [.inr (.inr (2, [.int x1, .int x2, .int x3, .int x4, .int x5, .int x6, .int x7, .int ((1 <<< (x4 &&& 31) : Int32) ||| (1 <<< (x5 &&& 31) : Int32)), .int (1 <<< (x6 &&& 31) : Int32), .int (-1)]))]))) ?_
    refine rr rfl (s_iinc (v := 3) rfl (by decide) rfl) ?_
    refine rr rfl s_goto ?_
    refine rr rfl (s_iload_n rfl) ?_
    refine rr rfl (s_bipush (v := 8) (by decide)) ?_
    refine rr rfl (s_icF (by decide)) ?_
    refine rr rfl (s_aload_n rfl) ?_
    refine rr rfl (s_getf rfl rfl) ?_
    refine rr rfl (s_iload_n rfl) ?_
    refine rr rfl (s_iconst (v := 0) (by decide)) ?_
    refine rr rfl (s_iastore (j := 3) (f' := (List.replicate 8 0)) rfl rfl (Nat.le_of_ble_eq_true rfl) rfl (Nat.le_of_ble_eq_true rfl) rfl (h' := (((((((((((hF.set 5 (.inl ((List.replicate 8 (0 : Int32)).set (Int32.toNatClampNeg x3) 8))).set 41 (.inr (.inr (9, [.int 4, .int 1, .ref 42, .ref 43, .ref 44, .ref 45, .ref 46, .ref 47, .ref 48, .ref 49, .ref 50, .ref 51, .int 0, .int 0, .int 0, .int 0, .int 0, .int 0, .int 0, .int 0, .ref 52, .int 0, .ref 53, .int 0, .ref 54, .int 0, .ref 55, .ref 56, .ref 57, .ref 58, .int 0, .ref 59, .ref 60])))).set 42 (.inl [x1, 0, 0, 0, 0, 0, 0, 0, 0, 0, 0, 0, 0])).set 43 (.inl [x2, 0, 0, 0, 0, 0, 0, 0, 0, 0, 0, 0, 0])).set 44 (.inl [x3, 0, 0, 0, 0, 0, 0, 0, 0, 0, 0, 0, 0])).set 45 (.inl [x4, 0, 0, 0, 0, 0, 0, 0, 0, 0, 0, 0, 0])).set 46 (.inl [x5, 0, 0, 0, 0, 0, 0, 0, 0, 0, 0, 0, 0])).set 47 (.inl [x6, 0, 0, 0, 0, 0, 0, 0, 0, 0, 0, 0, 0])).set 48 (.inl [x7, 0, 0, 0, 0, 0, 0, 0, 0, 0, 0, 0, 0])).set 49 (.inl [(-1), 0, 0, 0, 0, 0, 0, 0, 0, 0, 0, 0, 0])) ++ [.inr (.inr (2, [.int x1, .int x2, .int x3, .int x4, .int x5, .int x6, .int x7, .int ((1 <<< (x4 &&& 31) : Int32) ||| (1 <<< (x5 &&& 31) : Int32)), .int (1 <<< (x6 &&& 31) : Int32), .int (-1)]))]))) ?_
    refine rr rfl (s_iinc (v := 4) rfl (by decide) rfl) ?_
    refine rr rfl s_goto ?_
    refine rr rfl (s_iload_n rfl) ?_
    refine rr rfl (s_bipush (v := 8) (by decide)) ?_
    refine rr rfl (s_icF (by decide)) ?_
    refine rr rfl (s_aload_n rfl) ?_
    refine rr rfl (s_getf rfl rfl) ?_
    refine rr rfl (s_iload_n rfl) ?_
    refine rr rfl (s_iconst (v := 0) (by decide)) ?_
    refine rr rfl (s_iastore (j := 4) (f' := (List.replicate 8 0)) rfl rfl (Nat.le_of_ble_eq_true rfl) rfl (Nat.le_of_ble_eq_true rfl) rfl (h' := (((((((((((hF.set 5 (.inl ((List.replicate 8 (0 : Int32)).set (Int32.toNatClampNeg x3) 8))).set 41 (.inr (.inr (9, [.int 4, .int 1, .ref 42, .ref 43, .ref 44, .ref 45, .ref 46, .ref 47, .ref 48, .ref 49, .ref 50, .ref 51, .int 0, .int 0, .int 0, .int 0, .int 0, .int 0, .int 0, .int 0, .ref 52, .int 0, .ref 53, .int 0, .ref 54, .int 0, .ref 55, .ref 56, .ref 57, .ref 58, .int 0, .ref 59, .ref 60])))).set 42 (.inl [x1, 0, 0, 0, 0, 0, 0, 0, 0, 0, 0, 0, 0])).set 43 (.inl [x2, 0, 0, 0, 0, 0, 0, 0, 0, 0, 0, 0, 0])).set 44 (.inl [x3, 0, 0, 0, 0, 0, 0, 0, 0, 0, 0, 0, 0])).set 45 (.inl [x4, 0, 0, 0, 0, 0, 0, 0, 0, 0, 0, 0, 0])).set 46 (.inl [x5, 0, 0, 0, 0, 0, 0, 0, 0, 0, 0, 0, 0])).set 47 (.inl [x6, 0, 0, 0, 0, 0, 0, 0, 0, 0, 0, 0, 0])).set 48 (.inl [x7, 0, 0, 0, 0, 0, 0, 0, 0, 0, 0, 0, 0])).set 49 (.inl [(-1), 0, 0, 0, 0, 0, 0, 0, 0, 0, 0, 0, 0])) ++ [.inr (.inr (2, [.int x1, .int x2, .int x3, .int x4, .int x5, .int x6, .int x7, .int ((1 <<< (x4 &&& 31) : Int32) ||| (1 <<< (x5 &&& 31) : Int32)), .int (1 <<< (x6 &&& 31) : Int32), .int (-1)]))]))) ?_
    refine rr rfl (s_iinc (v := 5) rfl (by decide) rfl) ?_
    refine rr rfl s_goto ?_
    refine rr rfl (s_iload_n rfl) ?_
    refine rr rfl (s_bipush (v := 8) (by decide)) ?_
    refine rr rfl (s_icF (by decide)) ?_
    refine rr rfl (s_aload_n rfl) ?_
    refine rr rfl (s_getf rfl rfl) ?_
    refine rr rfl (s_iload_n rfl) ?_
    refine rr rfl (s_iconst (v := 0) (by decide)) ?_
    refine rr rfl (s_iastore (j := 5) (f' := (List.replicate 8 0)) rfl rfl (Nat.le_of_ble_eq_true rfl) rfl (Nat.le_of_ble_eq_true rfl) rfl (h' := (((((((((((hF.set 5 (.inl ((List.replicate 8 (0 : Int32)).set (Int32.toNatClampNeg x3) 8))).set 41 (.inr (.inr (9, [.int 4, .int 1, .ref 42, .ref 43, .ref 44, .ref 45, .ref 46, .ref 47, .ref 48, .ref 49, .ref 50, .ref 51, .int 0, .int 0, .int 0, .int 0, .int 0, .int 0, .int 0, .int 0, .ref 52, .int 0, .ref 53, .int 0, .ref 54, .int 0, .ref 55, .ref 56, .ref 57, .ref 58, .int 0, .ref 59, .ref 60])))).set 42 (.inl [x1, 0, 0, 0, 0, 0, 0, 0, 0, 0, 0, 0, 0])).set 43 (.inl [x2, 0, 0, 0, 0, 0, 0, 0, 0, 0, 0, 0, 0])).set 44 (.inl [x3, 0, 0, 0, 0, 0, 0, 0, 0, 0, 0, 0, 0])).set 45 (.inl [x4, 0, 0, 0, 0, 0, 0, 0, 0, 0, 0, 0, 0])).set 46 (.inl [x5, 0, 0, 0, 0, 0, 0, 0, 0, 0, 0, 0, 0])).set 47 (.inl [x6, 0, 0, 0, 0, 0, 0, 0, 0, 0, 0, 0, 0])).set 48 (.inl [x7, 0, 0, 0, 0, 0, 0, 0, 0, 0, 0, 0, 0])).set 49 (.inl [(-1), 0, 0, 0, 0, 0, 0, 0, 0, 0, 0, 0, 0])) ++ [.inr (.inr (2, [.int x1, .int x2, .int x3, .int x4, .int x5, .int x6, .int x7, .int ((1 <<< (x4 &&& 31) : Int32) ||| (1 <<< (x5 &&& 31) : Int32)), .int (1 <<< (x6 &&& 31) : Int32), .int (-1)]))]))) ?_
    refine rr rfl (s_iinc (v := 6) rfl (by decide) rfl) ?_
    refine rr rfl s_goto ?_
    refine rr rfl (s_iload_n rfl) ?_
    refine rr rfl (s_bipush (v := 8) (by decide)) ?_
    refine rr rfl (s_icF (by decide)) ?_
    refine rr rfl (s_aload_n rfl) ?_
    refine rr rfl (s_getf rfl rfl) ?_
    refine rr rfl (s_iload_n rfl) ?_
    refine rr rfl (s_iconst (v := 0) (by decide)) ?_
    refine rr rfl (s_iastore (j := 6) (f' := (List.replicate 8 0)) rfl rfl (Nat.le_of_ble_eq_true rfl) rfl (Nat.le_of_ble_eq_true rfl) rfl (h' := (((((((((((hF.set 5 (.inl ((List.replicate 8 (0 : Int32)).set (Int32.toNatClampNeg x3) 8))).set 41 (.inr (.inr (9, [.int 4, .int 1, .ref 42, .ref 43, .ref 44, .ref 45, .ref 46, .ref 47, .ref 48, .ref 49, .ref 50, .ref 51, .int 0, .int 0, .int 0, .int 0, .int 0, .int 0, .int 0, .int 0, .ref 52, .int 0, .ref 53, .int 0, .ref 54, .int 0, .ref 55, .ref 56, .ref 57, .ref 58, .int 0, .ref 59, .ref 60])))).set 42 (.inl [x1, 0, 0, 0, 0, 0, 0, 0, 0, 0, 0, 0, 0])).set 43 (.inl [x2, 0, 0, 0, 0, 0, 0, 0, 0, 0, 0, 0, 0])).set 44 (.inl [x3, 0, 0, 0, 0, 0, 0, 0, 0, 0, 0, 0, 0])).set 45 (.inl [x4, 0, 0, 0, 0, 0, 0, 0, 0, 0, 0, 0, 0])).set 46 (.inl [x5, 0, 0, 0, 0, 0, 0, 0, 0, 0, 0, 0, 0])).set 47 (.inl [x6, 0, 0, 0, 0, 0, 0, 0, 0, 0, 0, 0, 0])).set 48 (.inl [x7, 0, 0, 0, 0, 0, 0, 0, 0, 0, 0, 0, 0])).set 49 (.inl [(-1), 0, 0, 0, 0, 0, 0, 0, 0, 0, 0, 0, 0])) ++ [.inr (.inr (2, [.int x1, .int x2, .int x3, .int x4, .int x5, .int x6, .int x7, .int ((1 <<< (x4 &&& 31) : Int32) ||| (1 <<< (x5 &&& 31) : Int32)), .int (1 <<< (x6 &&& 31) : Int32), .int (-1)]))]))) ?_
    refine rr rfl (s_iinc (v := 7) rfl (by decide) rfl) ?_
    refine rr rfl s_goto ?_
    refine rr rfl (s_iload_n rfl) ?_
    refine rr rfl (s_bipush (v := 8) (by decide)) ?_
    refine rr rfl (s_icF (by decide)) ?_
    refine rr rfl (s_aload_n rfl) ?_
    refine rr rfl (s_getf rfl rfl) ?_
    refine rr rfl (s_iload_n rfl) ?_
    refine rr rfl (s_iconst (v := 0) (by decide)) ?_
    refine rr rfl (s_iastore (j := 7) (f' := (List.replicate 8 0)) rfl rfl (Nat.le_of_ble_eq_true rfl) rfl (Nat.le_of_ble_eq_true rfl) rfl (h' := (((((((((((hF.set 5 (.inl ((List.replicate 8 (0 : Int32)).set (Int32.toNatClampNeg x3) 8))).set 41 (.inr (.inr (9, [.int 4, .int 1, .ref 42, .ref 43, .ref 44, .ref 45, .ref 46, .ref 47, .ref 48, .ref 49, .ref 50, .ref 51, .int 0, .int 0, .int 0, .int 0, .int 0, .int 0, .int 0, .int 0, .ref 52, .int 0, .ref 53, .int 0, .ref 54, .int 0, .ref 55, .ref 56, .ref 57, .ref 58, .int 0, .ref 59, .ref 60])))).set 42 (.inl [x1, 0, 0, 0, 0, 0, 0, 0, 0, 0, 0, 0, 0])).set 43 (.inl [x2, 0, 0, 0, 0, 0, 0, 0, 0, 0, 0, 0, 0])).set 44 (.inl [x3, 0, 0, 0, 0, 0, 0, 0, 0, 0, 0, 0, 0])).set 45 (.inl [x4, 0, 0, 0, 0, 0, 0, 0, 0, 0, 0, 0, 0])).set 46 (.inl [x5, 0, 0, 0, 0, 0, 0, 0, 0, 0, 0, 0, 0])).set 47 (.inl [x6, 0, 0, 0, 0, 0, 0, 0, 0, 0, 0, 0, 0])).set 48 (.inl [x7, 0, 0, 0, 0, 0, 0, 0, 0, 0, 0, 0, 0])).set 49 (.inl [(-1), 0, 0, 0, 0, 0, 0, 0, 0, 0, 0, 0, 0])) ++ [.inr (.inr (2, [.int x1, .int x2, .int x3, .int x4, .int x5, .int x6, .int x7, .int ((1 <<< (x4 &&& 31) : Int32) ||| (1 <<< (x5 &&& 31) : Int32)), .int (1 <<< (x6 &&& 31) : Int32), .int (-1)]))]))) ?_
    refine rr rfl (s_iinc (v := 8) rfl (by decide) rfl) ?_
    refine rr rfl s_goto ?_
    refine rr rfl (s_iload_n rfl) ?_
    refine rr rfl (s_bipush (v := 8) (by decide)) ?_
    refine rr rfl (s_icT (by decide)) ?_
    refine rr rfl (s_iconst (v := 1) (by decide)) ?_
    refine rr rfl (s_istore_n rfl) ?_
    refine rr rfl (s_iconst (v := 1) (by decide)) ?_
    refine rr rfl (s_istore_n rfl) ?_
    refine rr rfl (s_iload_n rfl) ?_
    refine rr rfl (s_ifF (by decide)) ?_
    refine rr rfl (s_iload_n rfl) ?_
    refine rr rfl (s_ifF (by decide)) ?_
    refine rr rfl (s_iconst (v := 0) (by decide)) ?_
    refine rr rfl (s_istore_n rfl) ?_
    refine rr rfl (s_iconst (v := 0) (by decide)) ?_
    refine rr rfl (s_istore_n rfl) ?_
    refine rr rfl (s_iload_n rfl) ?_
    refine rr rfl (s_aload_n rfl) ?_
    refine rr rfl (s_getf rfl rfl) ?_
    refine rr rfl (s_icF (by decide)) ?_
    refine rr rfl (s_iconst (v := 0) (by decide)) ?_
    refine rr rfl (s_istore rfl) ?_
    refine rr rfl (s_aload_n rfl) ?_
    refine rr rfl (s_getf rfl rfl) ?_
    refine rr rfl (s_iload_n rfl) ?_
    refine rr rfl (s_iaload (j := 0) rfl rfl rfl) ?_
    refine rr rfl (s_ifF (ic_nne g1)) ?_
    refine rr rfl (s_aload_n rfl) ?_
    refine rr rfl (s_getf rfl rfl) ?_
    refine rr rfl (s_aload_n rfl) ?_
    refine rr rfl (s_getf rfl rfl) ?_
    refine rr rfl (s_iload_n rfl) ?_
    refine rr rfl (s_iaload (j := 0) rfl rfl rfl) ?_
    refine rr rfl (s_ialdR (n := 8) (x := 0) rfl g2 g3) ?_
    refine rr rfl (s_istore rfl) ?_
    refine rr rfl (s_aload_n rfl) ?_
    refine rr rfl (s_getf rfl rfl) ?_
    refine rr rfl (s_iload_n rfl) ?_
    refine rr rfl (s_iaload (j := 0) rfl rfl rfl) ?_
    refine rr rfl (s_iconst (v := (-1)) (by decide)) ?_
    refine rr rfl (s_icF (ic_neq g4)) ?_
    refine rr rfl (s_aload_n rfl) ?_
    refine rr rfl (s_getf rfl rfl) ?_
    refine rr rfl (s_aload_n rfl) ?_
    refine rr rfl (s_getf rfl rfl) ?_
    refine rr rfl (s_iload_n rfl) ?_
    refine rr rfl (s_iaload (j := 0) rfl rfl rfl) ?_
    refine rr rfl (s_ialdR (n := 8) (x := 0) rfl g5 g6) ?_
    refine rr rfl (s_iload rfl) ?_
    refine rr rfl (s_icT (by decide)) ?_
    refine rr rfl (s_iload rfl) ?_
    refine rr rfl (s_istore rfl) ?_
    refine rr rfl (s_aload_n rfl) ?_
    refine rr rfl (s_getf rfl rfl) ?_
    refine rr rfl (s_iload_n rfl) ?_
    refine rr rfl (s_iaload (j := 0) rfl rfl rfl) ?_
    refine rr rfl (s_iconst (v := (-1)) (by decide)) ?_
    refine rr rfl (s_icF (ic_neq g7)) ?_
    refine rr rfl (s_aload_n rfl) ?_
    refine rr rfl (s_getf rfl rfl) ?_
    refine rr rfl (s_aload_n rfl) ?_
    refine rr rfl (s_getf rfl rfl) ?_
    refine rr rfl (s_iload_n rfl) ?_
    refine rr rfl (s_iaload (j := 0) rfl rfl rfl) ?_
    refine rr rfl (s_ialdR (n := 8) (x := 0) rfl g8 g9) ?_
    refine rr rfl (s_iconst (v := 1) (by decide)) ?_
    refine rr rfl (s_iadd (v := 1) (by decide)) ?_
    refine rr rfl (s_iload rfl) ?_
    refine rr rfl (s_icF (by decide)) ?_
    refine rr rfl (s_aload_n rfl) ?_
    refine rr rfl (s_getf rfl rfl) ?_
    refine rr rfl (s_aload_n rfl) ?_
    refine rr rfl (s_getf rfl rfl) ?_
    refine rr rfl (s_iload_n rfl) ?_
    refine rr rfl (s_iaload (j := 0) rfl rfl rfl) ?_
    refine rr rfl (s_ialdR (n := 8) (x := 0) rfl g8 g9) ?_
    refine rr rfl (s_iconst (v := 1) (by decide)) ?_
    refine rr rfl (s_iadd (v := 1) (by decide)) ?_
    refine rr rfl s_goto ?_
    refine rr rfl (s_istore rfl) ?_
    refine rr rfl (s_iload rfl) ?_
    refine rr rfl (s_aload_n rfl) ?_
    refine rr rfl (s_getf rfl rfl) ?_
    refine rr rfl (s_aload_n rfl) ?_
    refine rr rfl (s_getf rfl rfl) ?_
    refine rr rfl (s_iload_n rfl) ?_
    refine rr rfl (s_iaload (j := 0) rfl rfl rfl) ?_
    refine rr rfl (s_ialdR (n := 8) (x := 0) rfl g10 g11) ?_
    refine rr rfl (s_icF (by decide)) ?_
    refine rr rfl (s_aload_n rfl) ?_
    refine rr rfl (s_getf rfl rfl) ?_
    refine rr rfl (s_aload_n rfl) ?_
    refine rr rfl (s_getf rfl rfl) ?_
    refine rr rfl (s_iload_n rfl) ?_
    refine rr rfl (s_iaload (j := 0) rfl rfl rfl) ?_
    refine rr rfl (s_iload rfl) ?_
    refine rr rfl (s_iastR (n := 8) rfl g10 g11 (Nat.le_of_ble_eq_true rfl) rfl (h' := ((((((((((((hF.set 5 (.inl ((List.replicate 8 (0 : Int32)).set (Int32.toNatClampNeg x3) 8))).set 41 (.inr (.inr (9, [.int 4, .int 1, .ref 42, .ref 43, .ref 44, .ref 45, .ref 46, .ref 47, .ref 48, .ref 49, .ref 50, .ref 51, .int 0, .int 0, .int 0, .int 0, .int 0, .int 0, .int 0, .int 0, .ref 52, .int 0, .ref 53, .int 0, .ref 54, .int 0, .ref 55, .ref 56, .ref 57, .ref 58, .int 0, .ref 59, .ref 60])))).set 42 (.inl [x1, 0, 0, 0, 0, 0, 0, 0, 0, 0, 0, 0, 0])).set 43 (.inl [x2, 0, 0, 0, 0, 0, 0, 0, 0, 0, 0, 0, 0])).set 44 (.inl [x3, 0, 0, 0, 0, 0, 0, 0, 0, 0, 0, 0, 0])).set 45 (.inl [x4, 0, 0, 0, 0, 0, 0, 0, 0, 0, 0, 0, 0])).set 46 (.inl [x5, 0, 0, 0, 0, 0, 0, 0, 0, 0, 0, 0, 0])).set 47 (.inl [x6, 0, 0, 0, 0, 0, 0, 0, 0, 0, 0, 0, 0])).set 48 (.inl [x7, 0, 0, 0, 0, 0, 0, 0, 0, 0, 0, 0, 0])).set 49 (.inl [(-1), 0, 0, 0, 0, 0, 0, 0, 0, 0, 0, 0, 0])).set 51 (.inl ((List.replicate 8 (0 : Int32)).set (Int32.toNatClampNeg x3) 1))) ++ [.inr (.inr (2, [.int x1, .int x2, .int x3, .int x4, .int x5, .int x6, .int x7, .int ((1 <<< (x4 &&& 31) : Int32) ||| (1 <<< (x5 &&& 31) : Int32)), .int (1 <<< (x6 &&& 31) : Int32), .int (-1)]))]))) ?_
    refine rr rfl (s_iconst (v := 1) (by decide)) ?_
    refine rr rfl (s_istore_n rfl) ?_
    refine rr rfl (s_iload_n rfl) ?_
    refine rr rfl (s_ifF (by decide)) ?_
    refine rr rfl (s_iload rfl) ?_
    refine rr rfl (s_bipush (v := 8) (by decide)) ?_
    refine rr rfl (s_icF (by decide)) ?_
    refine rr rfl (s_iconst (v := 1) (by decide)) ?_
    refine rr rfl s_goto ?_
    refine rr rfl (s_istore_n rfl) ?_
    refine rr rfl (s_iinc (v := 1) rfl (by decide) rfl) ?_
    refine rr rfl s_goto ?_
    refine rr rfl (s_iload_n rfl) ?_
    refine rr rfl (s_aload_n rfl) ?_
    refine rr rfl (s_getf rfl rfl) ?_
    refine rr rfl (s_icT (by decide)) ?_
    refine rr rfl s_goto ?_
    refine rr rfl (s_iload_n rfl) ?_
    refine rr rfl (s_ifF (by decide)) ?_
    refine rr rfl (s_iload_n rfl) ?_
    refine rr rfl (s_ifF (by decide)) ?_
    refine rr rfl (s_iconst (v := 0) (by decide)) ?_
    refine rr rfl (s_istore_n rfl) ?_
    refine rr rfl (s_iconst (v := 0) (by decide)) ?_
    refine rr rfl (s_istore_n rfl) ?_
    refine rr rfl (s_iload_n rfl) ?_
    refine rr rfl (s_aload_n rfl) ?_
    refine rr rfl (s_getf rfl rfl) ?_
    refine rr rfl (s_icF (by decide)) ?_
    refine rr rfl (s_iconst (v := 0) (by decide)) ?_
    refine rr rfl (s_istore rfl) ?_
    refine rr rfl (s_aload_n rfl) ?_
    refine rr rfl (s_getf rfl rfl) ?_
    refine rr rfl (s_iload_n rfl) ?_
    refine rr rfl (s_iaload (j := 0) rfl rfl rfl) ?_
    refine rr rfl (s_ifF (ic_nne g1)) ?_
    refine rr rfl (s_aload_n rfl) ?_
    refine rr rfl (s_getf rfl rfl) ?_
    refine rr rfl (s_aload_n rfl) ?_
    refine rr rfl (s_getf rfl rfl) ?_
    refine rr rfl (s_iload_n rfl) ?_
    refine rr rfl (s_iaload (j := 0) rfl rfl rfl) ?_
    refine rr rfl (s_ialdN rfl g12 g2 g3 g10) ?_
    refine rr rfl (s_istore rfl) ?_
    refine rr rfl (s_aload_n rfl) ?_
    refine rr rfl (s_getf rfl rfl) ?_
    refine rr rfl (s_iload_n rfl) ?_
    refine rr rfl (s_iaload (j := 0) rfl rfl rfl) ?_
    refine rr rfl (s_iconst (v := (-1)) (by decide)) ?_
    refine rr rfl (s_icF (ic_neq g4)) ?_
    refine rr rfl (s_aload_n rfl) ?_
    refine rr rfl (s_getf rfl rfl) ?_
    refine rr rfl (s_aload_n rfl) ?_
    refine rr rfl (s_getf rfl rfl) ?_
    refine rr rfl (s_iload_n rfl) ?_
    refine rr rfl (s_iaload (j := 0) rfl rfl rfl) ?_
    refine rr rfl (s_ialdH rfl g13 g10 g11) ?_
    refine rr rfl (s_iload rfl) ?_
    refine rr rfl (s_icF (by decide)) ?_
    refine rr rfl (s_aload_n rfl) ?_
    refine rr rfl (s_getf rfl rfl) ?_
    refine rr rfl (s_aload_n rfl) ?_
    refine rr rfl (s_getf rfl rfl) ?_
    refine rr rfl (s_iload_n rfl) ?_
    refine rr rfl (s_iaload (j := 0) rfl rfl rfl) ?_
    refine rr rfl (s_ialdH rfl g13 g10 g11) ?_
    refine rr rfl s_goto ?_
    refine rr rfl (s_istore rfl) ?_
    refine rr rfl (s_aload_n rfl) ?_
    refine rr rfl (s_getf rfl rfl) ?_
    refine rr rfl (s_iload_n rfl) ?_
    refine rr rfl (s_iaload (j := 0) rfl rfl rfl) ?_
    refine rr rfl (s_iconst (v := (-1)) (by decide)) ?_
    refine rr rfl (s_icF (ic_neq g7)) ?_
    refine rr rfl (s_aload_n rfl) ?_
    refine rr rfl (s_getf rfl rfl) ?_
    refine rr rfl (s_aload_n rfl) ?_
    refine rr rfl (s_getf rfl rfl) ?_
    refine rr rfl (s_iload_n rfl) ?_
    refine rr rfl (s_iaload (j := 0) rfl rfl rfl) ?_
    refine rr rfl (s_ialdH rfl g14 g10 g11) ?_
    refine rr rfl (s_iconst (v := 1) (by decide)) ?_
    refine rr rfl (s_iadd (v := 2) (by decide)) ?_
    refine rr rfl (s_iload rfl) ?_
    refine rr rfl (s_icF (by decide)) ?_
    refine rr rfl (s_aload_n rfl) ?_
    refine rr rfl (s_getf rfl rfl) ?_
    refine rr rfl (s_aload_n rfl) ?_
    refine rr rfl (s_getf rfl rfl) ?_
    refine rr rfl (s_iload_n rfl) ?_
    refine rr rfl (s_iaload (j := 0) rfl rfl rfl) ?_
    refine rr rfl (s_ialdH rfl g14 g10 g11) ?_
    refine rr rfl (s_iconst (v := 1) (by decide)) ?_
    refine rr rfl (s_iadd (v := 2) (by decide)) ?_
    refine rr rfl s_goto ?_
    refine rr rfl (s_istore rfl) ?_
    refine rr rfl (s_iload rfl) ?_
    refine rr rfl (s_aload_n rfl) ?_
    refine rr rfl (s_getf rfl rfl) ?_
    refine rr rfl (s_aload_n rfl) ?_
    refine rr rfl (s_getf rfl rfl) ?_
    refine rr rfl (s_iload_n rfl) ?_
    refine rr rfl (s_iaload (j := 0) rfl rfl rfl) ?_
    refine rr rfl (s_ialdH rfl rfl g10 g11) ?_
    refine rr rfl (s_icF (by decide)) ?_
    refine rr rfl (s_aload_n rfl) ?_
    refine rr rfl (s_getf rfl rfl) ?_
    refine rr rfl (s_aload_n rfl) ?_
    refine rr rfl (s_getf rfl rfl) ?_
    refine rr rfl (s_iload_n rfl) ?_
    refine rr rfl (s_iaload (j := 0) rfl rfl rfl) ?_
    refine rr rfl (s_iload rfl) ?_
    refine rr rfl (s_iastH (v := 2) rfl rfl g10 g11 (Nat.le_of_ble_eq_true rfl) rfl (h' := ((((((((((((hF.set 5 (.inl ((List.replicate 8 (0 : Int32)).set (Int32.toNatClampNeg x3) 8))).set 41 (.inr (.inr (9, [.int 4, .int 1, .ref 42, .ref 43, .ref 44, .ref 45, .ref 46, .ref 47, .ref 48, .ref 49, .ref 50, .ref 51, .int 0, .int 0, .int 0, .int 0, .int 0, .int 0, .int 0, .int 0, .ref 52, .int 0, .ref 53, .int 0, .ref 54, .int 0, .ref 55, .ref 56, .ref 57, .ref 58, .int 0, .ref 59, .ref 60])))).set 42 (.inl [x1, 0, 0, 0, 0, 0, 0, 0, 0, 0, 0, 0, 0])).set 43 (.inl [x2, 0, 0, 0, 0, 0, 0, 0, 0, 0, 0, 0, 0])).set 44 (.inl [x3, 0, 0, 0, 0, 0, 0, 0, 0, 0, 0, 0, 0])).set 45 (.inl [x4, 0, 0, 0, 0, 0, 0, 0, 0, 0, 0, 0, 0])).set 46 (.inl [x5, 0, 0, 0, 0, 0, 0, 0, 0, 0, 0, 0, 0])).set 47 (.inl [x6, 0, 0, 0, 0, 0, 0, 0, 0, 0, 0, 0, 0])).set 48 (.inl [x7, 0, 0, 0, 0, 0, 0, 0, 0, 0, 0, 0, 0])).set 49 (.inl [(-1), 0, 0, 0, 0, 0, 0, 0, 0, 0, 0, 0, 0])).set 51 (.inl ((List.replicate 8 (0 : Int32)).set (Int32.toNatClampNeg x3) 2))) ++ [.inr (.inr (2, [.int x1, .int x2, .int x3, .int x4, .int x5, .int x6, .int x7, .int ((1 <<< (x4 &&& 31) : Int32) ||| (1 <<< (x5 &&& 31) : Int32)), .int (1 <<< (x6 &&& 31) : Int32), .int (-1)]))]))) ?_
    refine rr rfl (s_iconst (v := 1) (by decide)) ?_
    refine rr rfl (s_istore_n rfl) ?_
    refine rr rfl (s_iload_n rfl) ?_
    refine rr rfl (s_ifF (by decide)) ?_
    refine rr rfl (s_iload rfl) ?_
    refine rr rfl (s_bipush (v := 8) (by decide)) ?_
    refine rr rfl (s_icF (by decide)) ?_
    refine rr rfl (s_iconst (v := 1) (by decide)) ?_
    refine rr rfl s_goto ?_
    refine rr rfl (s_istore_n rfl) ?_
    refine rr rfl (s_iinc (v := 1) rfl (by decide) rfl) ?_
    refine rr rfl s_goto ?_
    refine rr rfl (s_iload_n rfl) ?_
    refine rr rfl (s_aload_n rfl) ?_
    refine rr rfl (s_getf rfl rfl) ?_
    refine rr rfl (s_icT (by decide)) ?_
    refine rr rfl s_goto ?_
    refine rr rfl (s_iload_n rfl) ?_
    refine rr rfl (s_ifF (by decide)) ?_
    refine rr rfl (s_iload_n rfl) ?_
    refine rr rfl (s_ifF (by decide)) ?_
    refine rr rfl (s_iconst (v := 0) (by decide)) ?_
    refine rr rfl (s_istore_n rfl) ?_
    refine rr rfl (s_iconst (v := 0) (by decide)) ?_
    refine rr rfl (s_istore_n rfl) ?_
    refine rr rfl (s_iload_n rfl) ?_
    refine rr rfl (s_aload_n rfl) ?_
    refine rr rfl (s_getf rfl rfl) ?_
    refine rr rfl (s_icF (by decide)) ?_
    refine rr rfl (s_iconst (v := 0) (by decide)) ?_
    refine rr rfl (s_istore rfl) ?_
    refine rr rfl (s_aload_n rfl) ?_
    refine rr rfl (s_getf rfl rfl) ?_
    refine rr rfl (s_iload_n rfl) ?_
    refine rr rfl (s_iaload (j := 0) rfl rfl rfl) ?_
    refine rr rfl (s_ifF (ic_nne g1)) ?_
    refine rr rfl (s_aload_n rfl) ?_
    refine rr rfl (s_getf rfl rfl) ?_
    refine rr rfl (s_aload_n rfl) ?_
    refine rr rfl (s_getf rfl rfl) ?_
    refine rr rfl (s_iload_n rfl) ?_
    refine rr rfl (s_iaload (j := 0) rfl rfl rfl) ?_
    refine rr rfl (s_ialdN rfl g12 g2 g3 g10) ?_
    refine rr rfl (s_istore rfl) ?_
    refine rr rfl (s_aload_n rfl) ?_
    refine rr rfl (s_getf rfl rfl) ?_
    refine rr rfl (s_iload_n rfl) ?_
    refine rr rfl (s_iaload (j := 0) rfl rfl rfl) ?_
    refine rr rfl (s_iconst (v := (-1)) (by decide)) ?_
    refine rr rfl (s_icF (ic_neq g4)) ?_
    refine rr rfl (s_aload_n rfl) ?_
    refine rr rfl (s_getf rfl rfl) ?_
    refine rr rfl (s_aload_n rfl) ?_
    refine rr rfl (s_getf rfl rfl) ?_
    refine rr rfl (s_iload_n rfl) ?_
    refine rr rfl (s_iaload (j := 0) rfl rfl rfl) ?_
    refine rr rfl (s_ialdH rfl g13 g10 g11) ?_
    refine rr rfl (s_iload rfl) ?_
    refine rr rfl (s_icF (by decide)) ?_
    refine rr rfl (s_aload_n rfl) ?_
    refine rr rfl (s_getf rfl rfl) ?_
    refine rr rfl (s_aload_n rfl) ?_
    refine rr rfl (s_getf rfl rfl) ?_
    refine rr rfl (s_iload_n rfl) ?_
    refine rr rfl (s_iaload (j := 0) rfl rfl rfl) ?_
    refine rr rfl (s_ialdH rfl g13 g10 g11) ?_
    refine rr rfl s_goto ?_
    refine rr rfl (s_istore rfl) ?_
    refine rr rfl (s_aload_n rfl) ?_
    refine rr rfl (s_getf rfl rfl) ?_
    refine rr rfl (s_iload_n rfl) ?_
    refine rr rfl (s_iaload (j := 0) rfl rfl rfl) ?_
    refine rr rfl (s_iconst (v := (-1)) (by decide)) ?_
    refine rr rfl (s_icF (ic_neq g7)) ?_
    refine rr rfl (s_aload_n rfl) ?_
    refine rr rfl (s_getf rfl rfl) ?_
    refine rr rfl (s_aload_n rfl) ?_
    refine rr rfl (s_getf rfl rfl) ?_
    refine rr rfl (s_iload_n rfl) ?_
    refine rr rfl (s_iaload (j := 0) rfl rfl rfl) ?_
    refine rr rfl (s_ialdH rfl g14 g10 g11) ?_
    refine rr rfl (s_iconst (v := 1) (by decide)) ?_
    refine rr rfl (s_iadd (v := 3) (by decide)) ?_
    refine rr rfl (s_iload rfl) ?_
    refine rr rfl (s_icF (by decide)) ?_
    refine rr rfl (s_aload_n rfl) ?_
    refine rr rfl (s_getf rfl rfl) ?_
    refine rr rfl (s_aload_n rfl) ?_
    refine rr rfl (s_getf rfl rfl) ?_
    refine rr rfl (s_iload_n rfl) ?_
    refine rr rfl (s_iaload (j := 0) rfl rfl rfl) ?_
    refine rr rfl (s_ialdH rfl g14 g10 g11) ?_
    refine rr rfl (s_iconst (v := 1) (by decide)) ?_
    refine rr rfl (s_iadd (v := 3) (by decide)) ?_
    refine rr rfl s_goto ?_
    refine rr rfl (s_istore rfl) ?_
    refine rr rfl (s_iload rfl) ?_
    refine rr rfl (s_aload_n rfl) ?_
    refine rr rfl (s_getf rfl rfl) ?_
    refine rr rfl (s_aload_n rfl) ?_
    refine rr rfl (s_getf rfl rfl) ?_
    refine rr rfl (s_iload_n rfl) ?_
    refine rr rfl (s_iaload (j := 0) rfl rfl rfl) ?_
    refine rr rfl (s_ialdH rfl rfl g10 g11) ?_
    refine rr rfl (s_icF (by decide)) ?_
    refine rr rfl (s_aload_n rfl) ?_
    refine rr rfl (s_getf rfl rfl) ?_
    refine rr rfl (s_aload_n rfl) ?_
    refine rr rfl (s_getf rfl rfl) ?_
    refine rr rfl (s_iload_n rfl) ?_
    refine rr rfl (s_iaload (j := 0) rfl rfl rfl) ?_
    refine rr rfl (s_iload rfl) ?_
    refine rr rfl (s_iastH (v := 3) rfl rfl g10 g11 (Nat.le_of_ble_eq_true rfl) rfl (h' := ((((((((((((hF.set 5 (.inl ((List.replicate 8 (0 : Int32)).set (Int32.toNatClampNeg x3) 8))).set 41 (.inr (.inr (9, [.int 4, .int 1, .ref 42, .ref 43, .ref 44, .ref 45, .ref 46, .ref 47, .ref 48, .ref 49, .ref 50, .ref 51, .int 0, .int 0, .int 0, .int 0, .int 0, .int 0, .int 0, .int 0, .ref 52, .int 0, .ref 53, .int 0, .ref 54, .int 0, .ref 55, .ref 56, .ref 57, .ref 58, .int 0, .ref 59, .ref 60])))).set 42 (.inl [x1, 0, 0, 0, 0, 0, 0, 0, 0, 0, 0, 0, 0])).set 43 (.inl [x2, 0, 0, 0, 0, 0, 0, 0, 0, 0, 0, 0, 0])).set 44 (.inl [x3, 0, 0, 0, 0, 0, 0, 0, 0, 0, 0, 0, 0])).set 45 (.inl [x4, 0, 0, 0, 0, 0, 0, 0, 0, 0, 0, 0, 0])).set 46 (.inl [x5, 0, 0, 0, 0, 0, 0, 0, 0, 0, 0, 0, 0])).set 47 (.inl [x6, 0, 0, 0, 0, 0, 0, 0, 0, 0, 0, 0, 0])).set 48 (.inl [x7, 0, 0, 0, 0, 0, 0, 0, 0, 0, 0, 0, 0])).set 49 (.inl [(-1), 0, 0, 0, 0, 0, 0, 0, 0, 0, 0, 0, 0])).set 51 (.inl ((List.replicate 8 (0 : Int32)).set (Int32.toNatClampNeg x3) 3))) ++ [.inr (.inr (2, [.int x1, .int x2, .int x3, .int x4, .int x5, .int x6, .int x7, .int ((1 <<< (x4 &&& 31) : Int32) ||| (1 <<< (x5 &&& 31) : Int32)), .int (1 <<< (x6 &&& 31) : Int32), .int (-1)]))]))) ?_
    refine rr rfl (s_iconst (v := 1) (by decide)) ?_
    refine rr rfl (s_istore_n rfl) ?_
    refine rr rfl (s_iload_n rfl) ?_
    refine rr rfl (s_ifF (by decide)) ?_
    refine rr rfl (s_iload rfl) ?_
    refine rr rfl (s_bipush (v := 8) (by decide)) ?_
    refine rr rfl (s_icF (by decide)) ?_
    refine rr rfl (s_iconst (v := 1) (by decide)) ?_
    refine rr rfl s_goto ?_
    refine rr rfl (s_istore_n rfl) ?_
    refine rr rfl (s_iinc (v := 1) rfl (by decide) rfl) ?_
    refine rr rfl s_goto ?_
    refine rr rfl (s_iload_n rfl) ?_
    refine rr rfl (s_aload_n rfl) ?_
    refine rr rfl (s_getf rfl rfl) ?_
    refine rr rfl (s_icT (by decide)) ?_
    refine rr rfl s_goto ?_
    refine rr rfl (s_iload_n rfl) ?_
    refine rr rfl (s_ifF (by decide)) ?_
    refine rr rfl (s_iload_n rfl) ?_
    refine rr rfl (s_ifF (by decide)) ?_
    refine rr rfl (s_iconst (v := 0) (by decide)) ?_
    refine rr rfl (s_istore_n rfl) ?_
    refine rr rfl (s_iconst (v := 0) (by decide)) ?_
    refine rr rfl (s_istore_n rfl) ?_
    refine rr rfl (s_iload_n rfl) ?_
    refine rr rfl (s_aload_n rfl) ?_
    refine rr rfl (s_getf rfl rfl) ?_
    refine rr rfl (s_icF (by decide)) ?_
    refine rr rfl (s_iconst (v := 0) (by decide)) ?_
    refine rr rfl (s_istore rfl) ?_
    refine rr rfl (s_aload_n rfl) ?_
    refine rr rfl (s_getf rfl rfl) ?_
    refine rr rfl (s_iload_n rfl) ?_
    refine rr rfl (s_iaload (j := 0) rfl rfl rfl) ?_
    refine rr rfl (s_ifF (ic_nne g1)) ?_
    refine rr rfl (s_aload_n rfl) ?_
    refine rr rfl (s_getf rfl rfl) ?_
    refine rr rfl (s_aload_n rfl) ?_
    refine rr rfl (s_getf rfl rfl) ?_
    refine rr rfl (s_iload_n rfl) ?_
    refine rr rfl (s_iaload (j := 0) rfl rfl rfl) ?_
    refine rr rfl (s_ialdN rfl g12 g2 g3 g10) ?_
    refine rr rfl (s_istore rfl) ?_
    refine rr rfl (s_aload_n rfl) ?_
    refine rr rfl (s_getf rfl rfl) ?_
    refine rr rfl (s_iload_n rfl) ?_
    refine rr rfl (s_iaload (j := 0) rfl rfl rfl) ?_
    refine rr rfl (s_iconst (v := (-1)) (by decide)) ?_
    refine rr rfl (s_icF (ic_neq g4)) ?_
    refine rr rfl (s_aload_n rfl) ?_
    refine rr rfl (s_getf rfl rfl) ?_
    refine rr rfl (s_aload_n rfl) ?_
    refine rr rfl (s_getf rfl rfl) ?_
    refine rr rfl (s_iload_n rfl) ?_
    refine rr rfl (s_iaload (j := 0) rfl rfl rfl) ?_
    refine rr rfl (s_ialdH rfl g13 g10 g11) ?_
    refine rr rfl (s_iload rfl) ?_
    refine rr rfl (s_icF (by decide)) ?_
    refine rr rfl (s_aload_n rfl) ?_
    refine rr rfl (s_getf rfl rfl) ?_
    refine rr rfl (s_aload_n rfl) ?_
    refine rr rfl (s_getf rfl rfl) ?_
    refine rr rfl (s_iload_n rfl) ?_
    refine rr rfl (s_iaload (j := 0) rfl rfl rfl) ?_
    refine rr rfl (s_ialdH rfl g13 g10 g11) ?_
    refine rr rfl s_goto ?_
    refine rr rfl (s_istore rfl) ?_
    refine rr rfl (s_aload_n rfl) ?_
    refine rr rfl (s_getf rfl rfl) ?_
    refine rr rfl (s_iload_n rfl) ?_
    refine rr rfl (s_iaload (j := 0) rfl rfl rfl) ?_
    refine rr rfl (s_iconst (v := (-1)) (by decide)) ?_
    refine rr rfl (s_icF (ic_neq g7)) ?_
    refine rr rfl (s_aload_n rfl) ?_
    refine rr rfl (s_getf rfl rfl) ?_
    refine rr rfl (s_aload_n rfl) ?_
    refine rr rfl (s_getf rfl rfl) ?_
    refine rr rfl (s_iload_n rfl) ?_
    refine rr rfl (s_iaload (j := 0) rfl rfl rfl) ?_
    refine rr rfl (s_ialdH rfl g14 g10 g11) ?_
    refine rr rfl (s_iconst (v := 1) (by decide)) ?_
    refine rr rfl (s_iadd (v := 4) (by decide)) ?_
    refine rr rfl (s_iload rfl) ?_
    refine rr rfl (s_icF (by decide)) ?_
    refine rr rfl (s_aload_n rfl) ?_
    refine rr rfl (s_getf rfl rfl) ?_
    refine rr rfl (s_aload_n rfl) ?_
    refine rr rfl (s_getf rfl rfl) ?_
    refine rr rfl (s_iload_n rfl) ?_
    refine rr rfl (s_iaload (j := 0) rfl rfl rfl) ?_
    refine rr rfl (s_ialdH rfl g14 g10 g11) ?_
    refine rr rfl (s_iconst (v := 1) (by decide)) ?_
    refine rr rfl (s_iadd (v := 4) (by decide)) ?_
    refine rr rfl s_goto ?_
    refine rr rfl (s_istore rfl) ?_
    refine rr rfl (s_iload rfl) ?_
    refine rr rfl (s_aload_n rfl) ?_
    refine rr rfl (s_getf rfl rfl) ?_
    refine rr rfl (s_aload_n rfl) ?_
    refine rr rfl (s_getf rfl rfl) ?_
    refine rr rfl (s_iload_n rfl) ?_
    refine rr rfl (s_iaload (j := 0) rfl rfl rfl) ?_
    refine rr rfl (s_ialdH rfl rfl g10 g11) ?_
    refine rr rfl (s_icF (by decide)) ?_
    refine rr rfl (s_aload_n rfl) ?_
    refine rr rfl (s_getf rfl rfl) ?_
    refine rr rfl (s_aload_n rfl) ?_
    refine rr rfl (s_getf rfl rfl) ?_
    refine rr rfl (s_iload_n rfl) ?_
    refine rr rfl (s_iaload (j := 0) rfl rfl rfl) ?_
    refine rr rfl (s_iload rfl) ?_
    refine rr rfl (s_iastH (v := 4) rfl rfl g10 g11 (Nat.le_of_ble_eq_true rfl) rfl (h' := ((((((((((((hF.set 5 (.inl ((List.replicate 8 (0 : Int32)).set (Int32.toNatClampNeg x3) 8))).set 41 (.inr (.inr (9, [.int 4, .int 1, .ref 42, .ref 43, .ref 44, .ref 45, .ref 46, .ref 47, .ref 48, .ref 49, .ref 50, .ref 51, .int 0, .int 0, .int 0, .int 0, .int 0, .int 0, .int 0, .int 0, .ref 52, .int 0, .ref 53, .int 0, .ref 54, .int 0, .ref 55, .ref 56, .ref 57, .ref 58, .int 0, .ref 59, .ref 60])))).set 42 (.inl [x1, 0, 0, 0, 0, 0, 0, 0, 0, 0, 0, 0, 0])).set 43 (.inl [x2, 0, 0, 0, 0, 0, 0, 0, 0, 0, 0, 0, 0])).set 44 (.inl [x3, 0, 0, 0, 0, 0, 0, 0, 0, 0, 0, 0, 0])).set 45 (.inl [x4, 0, 0, 0, 0, 0, 0, 0, 0, 0, 0, 0, 0])).set 46 (.inl [x5, 0, 0, 0, 0, 0, 0, 0, 0, 0, 0, 0, 0])).set 47 (.inl [x6, 0, 0, 0, 0, 0, 0, 0, 0, 0, 0, 0, 0])).set 48 (.inl [x7, 0, 0, 0, 0, 0, 0, 0, 0, 0, 0, 0, 0])).set 49 (.inl [(-1), 0, 0, 0, 0, 0, 0, 0, 0, 0, 0, 0, 0])).set 51 (.inl ((List.replicate 8 (0 : Int32)).set (Int32.toNatClampNeg x3) 4))) ++ [.inr (.inr (2, [.int x1, .int x2, .int x3, .int x4, .int x5, .int x6, .int x7, .int ((1 <<< (x4 &&& 31) : Int32) ||| (1 <<< (x5 &&& 31) : Int32)), .int (1 <<< (x6 &&& 31) : Int32), .int (-1)]))]))) ?_
    refine rr rfl (s_iconst (v := 1) (by decide)) ?_
    refine rr rfl (s_istore_n rfl) ?_
    refine rr rfl (s_iload_n rfl) ?_
    refine rr rfl (s_ifF (by decide)) ?_
    refine rr rfl (s_iload rfl) ?_
    refine rr rfl (s_bipush (v := 8) (by decide)) ?_
    refine rr rfl (s_icF (by decide)) ?_
    refine rr rfl (s_iconst (v := 1) (by decide)) ?_
    refine rr rfl s_goto ?_
    refine rr rfl (s_istore_n rfl) ?_
    refine rr rfl (s_iinc (v := 1) rfl (by decide) rfl) ?_
    refine rr rfl s_goto ?_
    refine rr rfl (s_iload_n rfl) ?_
    refine rr rfl (s_aload_n rfl) ?_
    refine rr rfl (s_getf rfl rfl) ?_
    refine rr rfl (s_icT (by decide)) ?_
    refine rr rfl s_goto ?_
    refine rr rfl (s_iload_n rfl) ?_
    refine rr rfl (s_ifF (by decide)) ?_
    refine rr rfl (s_iload_n rfl) ?_
    refine rr rfl (s_ifF (by decide)) ?_
    refine rr rfl (s_iconst (v := 0) (by decide)) ?_
    refine rr rfl (s_istore_n rfl) ?_
    refine rr rfl (s_iconst (v := 0) (by decide)) ?_
    refine rr rfl (s_istore_n rfl) ?_
    refine rr rfl (s_iload_n rfl) ?_
    refine rr rfl (s_aload_n rfl) ?_
    refine rr rfl (s_getf rfl rfl) ?_
    refine rr rfl (s_icF (by decide)) ?_
    refine rr rfl (s_iconst (v := 0) (by decide)) ?_
    refine rr rfl (s_istore rfl) ?_
    refine rr rfl (s_aload_n rfl) ?_
    refine rr rfl (s_getf rfl rfl) ?_
    refine rr rfl (s_iload_n rfl) ?_
    refine rr rfl (s_iaload (j := 0) rfl rfl rfl) ?_
    refine rr rfl (s_ifF (ic_nne g1)) ?_
    refine rr rfl (s_aload_n rfl) ?_
    refine rr rfl (s_getf rfl rfl) ?_
    refine rr rfl (s_aload_n rfl) ?_
    refine rr rfl (s_getf rfl rfl) ?_
    refine rr rfl (s_iload_n rfl) ?_
    refine rr rfl (s_iaload (j := 0) rfl rfl rfl) ?_
    refine rr rfl (s_ialdN rfl g12 g2 g3 g10) ?_
    refine rr rfl (s_istore rfl) ?_
    refine rr rfl (s_aload_n rfl) ?_
    refine rr rfl (s_getf rfl rfl) ?_
    refine rr rfl (s_iload_n rfl) ?_
    refine rr rfl (s_iaload (j := 0) rfl rfl rfl) ?_
    refine rr rfl (s_iconst (v := (-1)) (by decide)) ?_
    refine rr rfl (s_icF (ic_neq g4)) ?_
    refine rr rfl (s_aload_n rfl) ?_
    refine rr rfl (s_getf rfl rfl) ?_
    refine rr rfl (s_aload_n rfl) ?_
    refine rr rfl (s_getf rfl rfl) ?_
    refine rr rfl (s_iload_n rfl) ?_
    refine rr rfl (s_iaload (j := 0) rfl rfl rfl) ?_
    refine rr rfl (s_ialdH rfl g13 g10 g11) ?_
    refine rr rfl (s_iload rfl) ?_
    refine rr rfl (s_icF (by decide)) ?_
    refine rr rfl (s_aload_n rfl) ?_
    refine rr rfl (s_getf rfl rfl) ?_
    refine rr rfl (s_aload_n rfl) ?_
    refine rr rfl (s_getf rfl rfl) ?_
    refine rr rfl (s_iload_n rfl) ?_
    refine rr rfl (s_iaload (j := 0) rfl rfl rfl) ?_
    refine rr rfl (s_ialdH rfl g13 g10 g11) ?_
    refine rr rfl s_goto ?_
    refine rr rfl (s_istore rfl) ?_
    refine rr rfl (s_aload_n rfl) ?_
    refine rr rfl (s_getf rfl rfl) ?_
    refine rr rfl (s_iload_n rfl) ?_
    refine rr rfl (s_iaload (j := 0) rfl rfl rfl) ?_
    refine rr rfl (s_iconst (v := (-1)) (by decide)) ?_
    refine rr rfl (s_icF (ic_neq g7)) ?_
    refine rr rfl (s_aload_n rfl) ?_
    refine rr rfl (s_getf rfl rfl) ?_
    refine rr rfl (s_aload_n rfl) ?_
    refine rr rfl (s_getf rfl rfl) ?_
    refine rr rfl (s_iload_n rfl) ?_
    refine rr rfl (s_iaload (j := 0) rfl rfl rfl) ?_
    refine rr rfl (s_ialdH rfl g14 g10 g11) ?_
    refine rr rfl (s_iconst (v := 1) (by decide)) ?_
    refine rr rfl (s_iadd (v := 5) (by decide)) ?_
    refine rr rfl (s_iload rfl) ?_
    refine rr rfl (s_icF (by decide)) ?_
    refine rr rfl (s_aload_n rfl) ?_
    refine rr rfl (s_getf rfl rfl) ?_
    refine rr rfl (s_aload_n rfl) ?_
    refine rr rfl (s_getf rfl rfl) ?_
    refine rr rfl (s_iload_n rfl) ?_
    refine rr rfl (s_iaload (j := 0) rfl rfl rfl) ?_
    refine rr rfl (s_ialdH rfl g14 g10 g11) ?_
    refine rr rfl (s_iconst (v := 1) (by decide)) ?_
    refine rr rfl (s_iadd (v := 5) (by decide)) ?_
    refine rr rfl s_goto ?_
    refine rr rfl (s_istore rfl) ?_
    refine rr rfl (s_iload rfl) ?_
    refine rr rfl (s_aload_n rfl) ?_
    refine rr rfl (s_getf rfl rfl) ?_
    refine rr rfl (s_aload_n rfl) ?_
    refine rr rfl (s_getf rfl rfl) ?_
    refine rr rfl (s_iload_n rfl) ?_
    refine rr rfl (s_iaload (j := 0) rfl rfl rfl) ?_
    refine rr rfl (s_ialdH rfl rfl g10 g11) ?_
    refine rr rfl (s_icF (by decide)) ?_
    refine rr rfl (s_aload_n rfl) ?_
    refine rr rfl (s_getf rfl rfl) ?_
    refine rr rfl (s_aload_n rfl) ?_
    refine rr rfl (s_getf rfl rfl) ?_
    refine rr rfl (s_iload_n rfl) ?_
    refine rr rfl (s_iaload (j := 0) rfl rfl rfl) ?_
    refine rr rfl (s_iload rfl) ?_
    refine rr rfl (s_iastH (v := 5) rfl rfl g10 g11 (Nat.le_of_ble_eq_true rfl) rfl (h' := ((((((((((((hF.set 5 (.inl ((List.replicate 8 (0 : Int32)).set (Int32.toNatClampNeg x3) 8))).set 41 (.inr (.inr (9, [.int 4, .int 1, .ref 42, .ref 43, .ref 44, .ref 45, .ref 46, .ref 47, .ref 48, .ref 49, .ref 50, .ref 51, .int 0, .int 0, .int 0, .int 0, .int 0, .int 0, .int 0, .int 0, .ref 52, .int 0, .ref 53, .int 0, .ref 54, .int 0, .ref 55, .ref 56, .ref 57, .ref 58, .int 0, .ref 59, .ref 60])))).set 42 (.inl [x1, 0, 0, 0, 0, 0, 0, 0, 0, 0, 0, 0, 0])).set 43 (.inl [x2, 0, 0, 0, 0, 0, 0, 0, 0, 0, 0, 0, 0])).set 44 (.inl [x3, 0, 0, 0, 0, 0, 0, 0, 0, 0, 0, 0, 0])).set 45 (.inl [x4, 0, 0, 0, 0, 0, 0, 0, 0, 0, 0, 0, 0])).set 46 (.inl [x5, 0, 0, 0, 0, 0, 0, 0, 0, 0, 0, 0, 0])).set 47 (.inl [x6, 0, 0, 0, 0, 0, 0, 0, 0, 0, 0, 0, 0])).set 48 (.inl [x7, 0, 0, 0, 0, 0, 0, 0, 0, 0, 0, 0, 0])).set 49 (.inl [(-1), 0, 0, 0, 0, 0, 0, 0, 0, 0, 0, 0, 0])).set 51 (.inl ((List.replicate 8 (0 : Int32)).set (Int32.toNatClampNeg x3) 5))) ++ [.inr (.inr (2, [.int x1, .int x2, .int x3, .int x4, .int x5, .int x6, .int x7, .int ((1 <<< (x4 &&& 31) : Int32) ||| (1 <<< (x5 &&& 31) : Int32)), .int (1 <<< (x6 &&& 31) : Int32), .int (-1)]))]))) ?_
    refine rr rfl (s_iconst (v := 1) (by decide)) ?_
    refine rr rfl (s_istore_n rfl) ?_
    refine rr rfl (s_iload_n rfl) ?_
    refine rr rfl (s_ifF (by decide)) ?_
    refine rr rfl (s_iload rfl) ?_
    refine rr rfl (s_bipush (v := 8) (by decide)) ?_
    refine rr rfl (s_icF (by decide)) ?_
    refine rr rfl (s_iconst (v := 1) (by decide)) ?_
    refine rr rfl s_goto ?_
    refine rr rfl (s_istore_n rfl) ?_
    refine rr rfl (s_iinc (v := 1) rfl (by decide) rfl) ?_
    refine rr rfl s_goto ?_
    refine rr rfl (s_iload_n rfl) ?_
    refine rr rfl (s_aload_n rfl) ?_
    refine rr rfl (s_getf rfl rfl) ?_
    refine rr rfl (s_icT (by decide)) ?_
    refine rr rfl s_goto ?_
    refine rr rfl (s_iload_n rfl) ?_
    refine rr rfl (s_ifF (by decide)) ?_
    refine rr rfl (s_iload_n rfl) ?_
    refine rr rfl (s_ifF (by decide)) ?_
    refine rr rfl (s_iconst (v := 0) (by decide)) ?_
    refine rr rfl (s_istore_n rfl) ?_
    refine rr rfl (s_iconst (v := 0) (by decide)) ?_
    refine rr rfl (s_istore_n rfl) ?_
    refine rr rfl (s_iload_n rfl) ?_
    refine rr rfl (s_aload_n rfl) ?_
    refine rr rfl (s_getf rfl rfl) ?_
    refine rr rfl (s_icF (by decide)) ?_
    refine rr rfl (s_iconst (v := 0) (by decide)) ?_
    refine rr rfl (s_istore rfl) ?_
    refine rr rfl (s_aload_n rfl) ?_
    refine rr rfl (s_getf rfl rfl) ?_
    refine rr rfl (s_iload_n rfl) ?_
    refine rr rfl (s_iaload (j := 0) rfl rfl rfl) ?_
    refine rr rfl (s_ifF (ic_nne g1)) ?_
    refine rr rfl (s_aload_n rfl) ?_
    refine rr rfl (s_getf rfl rfl) ?_
    refine rr rfl (s_aload_n rfl) ?_
    refine rr rfl (s_getf rfl rfl) ?_
    refine rr rfl (s_iload_n rfl) ?_
    refine rr rfl (s_iaload (j := 0) rfl rfl rfl) ?_
    refine rr rfl (s_ialdN rfl g12 g2 g3 g10) ?_
    refine rr rfl (s_istore rfl) ?_
    refine rr rfl (s_aload_n rfl) ?_
    refine rr rfl (s_getf rfl rfl) ?_
    refine rr rfl (s_iload_n rfl) ?_
    refine rr rfl (s_iaload (j := 0) rfl rfl rfl) ?_
    refine rr rfl (s_iconst (v := (-1)) (by decide)) ?_
    refine rr rfl (s_icF (ic_neq g4)) ?_
    refine rr rfl (s_aload_n rfl) ?_
    refine rr rfl (s_getf rfl rfl) ?_
    refine rr rfl (s_aload_n rfl) ?_
    refine rr rfl (s_getf rfl rfl) ?_
    refine rr rfl (s_iload_n rfl) ?_
    refine rr rfl (s_iaload (j := 0) rfl rfl rfl) ?_
    refine rr rfl (s_ialdH rfl g13 g10 g11) ?_
    refine rr rfl (s_iload rfl) ?_
    refine rr rfl (s_icF (by decide)) ?_
    refine rr rfl (s_aload_n rfl) ?_
    refine rr rfl (s_getf rfl rfl) ?_
    refine rr rfl (s_aload_n rfl) ?_
    refine rr rfl (s_getf rfl rfl) ?_
    refine rr rfl (s_iload_n rfl) ?_
    refine rr rfl (s_iaload (j := 0) rfl rfl rfl) ?_
    refine rr rfl (s_ialdH rfl g13 g10 g11) ?_
    refine rr rfl s_goto ?_
    refine rr rfl (s_istore rfl) ?_
    refine rr rfl (s_aload_n rfl) ?_
    refine rr rfl (s_getf rfl rfl) ?_
    refine rr rfl (s_iload_n rfl) ?_
    refine rr rfl (s_iaload (j := 0) rfl rfl rfl) ?_
    refine rr rfl (s_iconst (v := (-1)) (by decide)) ?_
    refine rr rfl (s_icF (ic_neq g7)) ?_
    refine rr rfl (s_aload_n rfl) ?_
    refine rr rfl (s_getf rfl rfl) ?_
    refine rr rfl (s_aload_n rfl) ?_
    refine rr rfl (s_getf rfl rfl) ?_
    refine rr rfl (s_iload_n rfl) ?_
    refine rr rfl (s_iaload (j := 0) rfl rfl rfl) ?_
    refine rr rfl (s_ialdH rfl g14 g10 g11) ?_
    refine rr rfl (s_iconst (v := 1) (by decide)) ?_
    refine rr rfl (s_iadd (v := 6) (by decide)) ?_
    refine rr rfl (s_iload rfl) ?_
    refine rr rfl (s_icF (by decide)) ?_
    refine rr rfl (s_aload_n rfl) ?_
    refine rr rfl (s_getf rfl rfl) ?_
    refine rr rfl (s_aload_n rfl) ?_
    refine rr rfl (s_getf rfl rfl) ?_
    refine rr rfl (s_iload_n rfl) ?_
    refine rr rfl (s_iaload (j := 0) rfl rfl rfl) ?_
    refine rr rfl (s_ialdH rfl g14 g10 g11) ?_
    refine rr rfl (s_iconst (v := 1) (by decide)) ?_
    refine rr rfl (s_iadd (v := 6) (by decide)) ?_
    refine rr rfl s_goto ?_
    refine rr rfl (s_istore rfl) ?_
    refine rr rfl (s_iload rfl) ?_
    refine rr rfl (s_aload_n rfl) ?_
    refine rr rfl (s_getf rfl rfl) ?_
    refine rr rfl (s_aload_n rfl) ?_
    refine rr rfl (s_getf rfl rfl) ?_
    refine rr rfl (s_iload_n rfl) ?_
    refine rr rfl (s_iaload (j := 0) rfl rfl rfl) ?_
    refine rr rfl (s_ialdH rfl rfl g10 g11) ?_
    refine rr rfl (s_icF (by decide)) ?_
    refine rr rfl (s_aload_n rfl) ?_
    refine rr rfl (s_getf rfl rfl) ?_
    refine rr rfl (s_aload_n rfl) ?_
    refine rr rfl (s_getf rfl rfl) ?_
    refine rr rfl (s_iload_n rfl) ?_
    refine rr rfl (s_iaload (j := 0) rfl rfl rfl) ?_
    refine rr rfl (s_iload rfl) ?_
    refine rr rfl (s_iastH (v := 6) rfl rfl g10 g11 (Nat.le_of_ble_eq_true rfl) rfl (h' := ((((((((((((hF.set 5 (.inl ((List.replicate 8 (0 : Int32)).set (Int32.toNatClampNeg x3) 8))).set 41 (.inr (.inr (9, [.int 4, .int 1, .ref 42, .ref 43, .ref 44, .ref 45, .ref 46, .ref 47, .ref 48, .ref 49, .ref 50, .ref 51, .int 0, .int 0, .int 0, .int 0, .int 0, .int 0, .int 0, .int 0, .ref 52, .int 0, .ref 53, .int 0, .ref 54, .int 0, .ref 55, .ref 56, .ref 57, .ref 58, .int 0, .ref 59, .ref 60])))).set 42 (.inl [x1, 0, 0, 0, 0, 0, 0, 0, 0, 0, 0, 0, 0])).set 43 (.inl [x2, 0, 0, 0, 0, 0, 0, 0, 0, 0, 0, 0, 0])).set 44 (.inl [x3, 0, 0, 0, 0, 0, 0, 0, 0, 0, 0, 0, 0])).set 45 (.inl [x4, 0, 0, 0, 0, 0, 0, 0, 0, 0, 0, 0, 0])).set 46 (.inl [x5, 0, 0, 0, 0, 0, 0, 0, 0, 0, 0, 0, 0])).set 47 (.inl [x6, 0, 0, 0, 0, 0, 0, 0, 0, 0, 0, 0, 0])).set 48 (.inl [x7, 0, 0, 0, 0, 0, 0, 0, 0, 0, 0, 0, 0])).set 49 (.inl [(-1), 0, 0, 0, 0, 0, 0, 0, 0, 0, 0, 0, 0])).set 51 (.inl ((List.replicate 8 (0 : Int32)).set (Int32.toNatClampNeg x3) 6))) ++ [.inr (.inr (2, [.int x1, .int x2, .int x3, .int x4, .int x5, .int x6, .int x7, .int ((1 <<< (x4 &&& 31) : Int32) ||| (1 <<< (x5 &&& 31) : Int32)), .int (1 <<< (x6 &&& 31) : Int32), .int (-1)]))]))) ?_
    refine rr rfl (s_iconst (v := 1) (by decide)) ?_
    refine rr rfl (s_istore_n rfl) ?_
    refine rr rfl (s_iload_n rfl) ?_
    refine rr rfl (s_ifF (by decide)) ?_
    refine rr rfl (s_iload rfl) ?_
    refine rr rfl (s_bipush (v := 8) (by decide)) ?_
    refine rr rfl (s_icF (by decide)) ?_
    refine rr rfl (s_iconst (v := 1) (by decide)) ?_
    refine rr rfl s_goto ?_
    refine rr rfl (s_istore_n rfl) ?_
    refine rr rfl (s_iinc (v := 1) rfl (by decide) rfl) ?_
    refine rr rfl s_goto ?_
    refine rr rfl (s_iload_n rfl) ?_
    refine rr rfl (s_aload_n rfl) ?_
    refine rr rfl (s_getf rfl rfl) ?_
    refine rr rfl (s_icT (by decide)) ?_
    refine rr rfl s_goto ?_
    refine rr rfl (s_iload_n rfl) ?_
    refine rr rfl (s_ifF (by decide)) ?_
    refine rr rfl (s_iload_n rfl) ?_
    refine rr rfl (s_ifF (by decide)) ?_
    refine rr rfl (s_iconst (v := 0) (by decide)) ?_
    refine rr rfl (s_istore_n rfl) ?_
    refine rr rfl (s_iconst (v := 0) (by decide)) ?_
    refine rr rfl (s_istore_n rfl) ?_
    refine rr rfl (s_iload_n rfl) ?_
    refine rr rfl (s_aload_n rfl) ?_
    refine rr rfl (s_getf rfl rfl) ?_
    refine rr rfl (s_icF (by decide)) ?_
    refine rr rfl (s_iconst (v := 0) (by decide)) ?_
    refine rr rfl (s_istore rfl) ?_
    refine rr rfl (s_aload_n rfl) ?_
    refine rr rfl (s_getf rfl rfl) ?_
    refine rr rfl (s_iload_n rfl) ?_
    refine rr rfl (s_iaload (j := 0) rfl rfl rfl) ?_
    refine rr rfl (s_ifF (ic_nne g1)) ?_
    refine rr rfl (s_aload_n rfl) ?_
    refine rr rfl (s_getf rfl rfl) ?_
    refine rr rfl (s_aload_n rfl) ?_
    refine rr rfl (s_getf rfl rfl) ?_
    refine rr rfl (s_iload_n rfl) ?_
    refine rr rfl (s_iaload (j := 0) rfl rfl rfl) ?_
    refine rr rfl (s_ialdN rfl g12 g2 g3 g10) ?_
    refine rr rfl (s_istore rfl) ?_
    refine rr rfl (s_aload_n rfl) ?_
    refine rr rfl (s_getf rfl rfl) ?_
    refine rr rfl (s_iload_n rfl) ?_
    refine rr rfl (s_iaload (j := 0) rfl rfl rfl) ?_
    refine rr rfl (s_iconst (v := (-1)) (by decide)) ?_
    refine rr rfl (s_icF (ic_neq g4)) ?_
    refine rr rfl (s_aload_n rfl) ?_
    refine rr rfl (s_getf rfl rfl) ?_
    refine rr rfl (s_aload_n rfl) ?_
    refine rr rfl (s_getf rfl rfl) ?_
    refine rr rfl (s_iload_n rfl) ?_
    refine rr rfl (s_iaload (j := 0) rfl rfl rfl) ?_
    refine rr rfl (s_ialdH rfl g13 g10 g11) ?_
    refine rr rfl (s_iload rfl) ?_
    refine rr rfl (s_icF (by decide)) ?_
    refine rr rfl (s_aload_n rfl) ?_
    refine rr rfl (s_getf rfl rfl) ?_
    refine rr rfl (s_aload_n rfl) ?_
    refine rr rfl (s_getf rfl rfl) ?_
    refine rr rfl (s_iload_n rfl) ?_
    refine rr rfl (s_iaload (j := 0) rfl rfl rfl) ?_
    refine rr rfl (s_ialdH rfl g13 g10 g11) ?_
    refine rr rfl s_goto ?_
    refine rr rfl (s_istore rfl) ?_
    refine rr rfl (s_aload_n rfl) ?_
    refine rr rfl (s_getf rfl rfl) ?_
    refine rr rfl (s_iload_n rfl) ?_
    refine rr rfl (s_iaload (j := 0) rfl rfl rfl) ?_
    refine rr rfl (s_iconst (v := (-1)) (by decide)) ?_
    refine rr rfl (s_icF (ic_neq g7)) ?_
    refine rr rfl (s_aload_n rfl) ?_
    refine rr rfl (s_getf rfl rfl) ?_
    refine rr rfl (s_aload_n rfl) ?_
    refine rr rfl (s_getf rfl rfl) ?_
    refine rr rfl (s_iload_n rfl) ?_
    refine rr rfl (s_iaload (j := 0) rfl rfl rfl) ?_
    refine rr rfl (s_ialdH rfl g14 g10 g11) ?_
    refine rr rfl (s_iconst (v := 1) (by decide)) ?_
    refine rr rfl (s_iadd (v := 7) (by decide)) ?_
    refine rr rfl (s_iload rfl) ?_
    refine rr rfl (s_icF (by decide)) ?_
    refine rr rfl (s_aload_n rfl) ?_
    refine rr rfl (s_getf rfl rfl) ?_
    refine rr rfl (s_aload_n rfl) ?_
    refine rr rfl (s_getf rfl rfl) ?_
    refine rr rfl (s_iload_n rfl) ?_
    refine rr rfl (s_iaload (j := 0) rfl rfl rfl) ?_
    refine rr rfl (s_ialdH rfl g14 g10 g11) ?_
    refine rr rfl (s_iconst (v := 1) (by decide)) ?_
    refine rr rfl (s_iadd (v := 7) (by decide)) ?_
    refine rr rfl s_goto ?_
    refine rr rfl (s_istore rfl) ?_
    refine rr rfl (s_iload rfl) ?_
    refine rr rfl (s_aload_n rfl) ?_
    refine rr rfl (s_getf rfl rfl) ?_
    refine rr rfl (s_aload_n rfl) ?_
    refine rr rfl (s_getf rfl rfl) ?_
    refine rr rfl (s_iload_n rfl) ?_
    refine rr rfl (s_iaload (j := 0) rfl rfl rfl) ?_
    refine rr rfl (s_ialdH rfl rfl g10 g11) ?_
    refine rr rfl (s_icF (by decide)) ?_
    refine rr rfl (s_aload_n rfl) ?_
    refine rr rfl (s_getf rfl rfl) ?_
    refine rr rfl (s_aload_n rfl) ?_
    refine rr rfl (s_getf rfl rfl) ?_
    refine rr rfl (s_iload_n rfl) ?_
    refine rr rfl (s_iaload (j := 0) rfl rfl rfl) ?_
    refine rr rfl (s_iload rfl) ?_
    refine rr rfl (s_iastH (v := 7) rfl rfl g10 g11 (Nat.le_of_ble_eq_true rfl) rfl (h' := ((((((((((((hF.set 5 (.inl ((List.replicate 8 (0 : Int32)).set (Int32.toNatClampNeg x3) 8))).set 41 (.inr (.inr (9, [.int 4, .int 1, .ref 42, .ref 43, .ref 44, .ref 45, .ref 46, .ref 47, .ref 48, .ref 49, .ref 50, .ref 51, .int 0, .int 0, .int 0, .int 0, .int 0, .int 0, .int 0, .int 0, .ref 52, .int 0, .ref 53, .int 0, .ref 54, .int 0, .ref 55, .ref 56, .ref 57, .ref 58, .int 0, .ref 59, .ref 60])))).set 42 (.inl [x1, 0, 0, 0, 0, 0, 0, 0, 0, 0, 0, 0, 0])).set 43 (.inl [x2, 0, 0, 0, 0, 0, 0, 0, 0, 0, 0, 0, 0])).set 44 (.inl [x3, 0, 0, 0, 0, 0, 0, 0, 0, 0, 0, 0, 0])).set 45 (.inl [x4, 0, 0, 0, 0, 0, 0, 0, 0, 0, 0, 0, 0])).set 46 (.inl [x5, 0, 0, 0, 0, 0, 0, 0, 0, 0, 0, 0, 0])).set 47 (.inl [x6, 0, 0, 0, 0, 0, 0, 0, 0, 0, 0, 0, 0])).set 48 (.inl [x7, 0, 0, 0, 0, 0, 0, 0, 0, 0, 0, 0, 0])).set 49 (.inl [(-1), 0, 0, 0, 0, 0, 0, 0, 0, 0, 0, 0, 0])).set 51 (.inl ((List.replicate 8 (0 : Int32)).set (Int32.toNatClampNeg x3) 7))) ++ [.inr (.inr (2, [.int x1, .int x2, .int x3, .int x4, .int x5, .int x6, .int x7, .int ((1 <<< (x4 &&& 31) : Int32) ||| (1 <<< (x5 &&& 31) : Int32)), .int (1 <<< (x6 &&& 31) : Int32), .int (-1)]))]))) ?_
    refine rr rfl (s_iconst (v := 1) (by decide)) ?_
    refine rr rfl (s_istore_n rfl) ?_
    refine rr rfl (s_iload_n rfl) ?_
    refine rr rfl (s_ifF (by decide)) ?_
    refine rr rfl (s_iload rfl) ?_
    refine rr rfl (s_bipush (v := 8) (by decide)) ?_
    refine rr rfl (s_icF (by decide)) ?_
    refine rr rfl (s_iconst (v := 1) (by decide)) ?_
    refine rr rfl s_goto ?_
    refine rr rfl (s_istore_n rfl) ?_
    refine rr rfl (s_iinc (v := 1) rfl (by decide) rfl) ?_
    refine rr rfl s_goto ?_
    refine rr rfl (s_iload_n rfl) ?_
    refine rr rfl (s_aload_n rfl) ?_
    refine rr rfl (s_getf rfl rfl) ?_
    refine rr rfl (s_icT (by decide)) ?_
    refine rr rfl s_goto ?_
    refine rr rfl (s_iload_n rfl) ?_
    refine rr rfl (s_ifF (by decide)) ?_
    refine rr rfl (s_iload_n rfl) ?_
    refine rr rfl (s_ifF (by decide)) ?_
    refine rr rfl (s_iconst (v := 0) (by decide)) ?_
    refine rr rfl (s_istore_n rfl) ?_
    refine rr rfl (s_iconst (v := 0) (by decide)) ?_
    refine rr rfl (s_istore_n rfl) ?_
    refine rr rfl (s_iload_n rfl) ?_
    refine rr rfl (s_aload_n rfl) ?_
    refine rr rfl (s_getf rfl rfl) ?_
    refine rr rfl (s_icF (by decide)) ?_
    refine rr rfl (s_iconst (v := 0) (by decide)) ?_
    refine rr rfl (s_istore rfl) ?_
    refine rr rfl (s_aload_n rfl) ?_
    refine rr rfl (s_getf rfl rfl) ?_
    refine rr rfl (s_iload_n rfl) ?_
    refine rr rfl (s_iaload (j := 0) rfl rfl rfl) ?_
    refine rr rfl (s_ifF (ic_nne g1)) ?_
    refine rr rfl (s_aload_n rfl) ?_
    refine rr rfl (s_getf rfl rfl) ?_
    refine rr rfl (s_aload_n rfl) ?_
    refine rr rfl (s_getf rfl rfl) ?_
    refine rr rfl (s_iload_n rfl) ?_
    refine rr rfl (s_iaload (j := 0) rfl rfl rfl) ?_
    refine rr rfl (s_ialdN rfl g12 g2 g3 g10) ?_
    refine rr rfl (s_istore rfl) ?_
    refine rr rfl (s_aload_n rfl) ?_
    refine rr rfl (s_getf rfl rfl) ?_
    refine rr rfl (s_iload_n rfl) ?_
    refine rr rfl (s_iaload (j := 0) rfl rfl rfl) ?_
    refine rr rfl (s_iconst (v := (-1)) (by decide)) ?_
    refine rr rfl (s_icF (ic_neq g4)) ?_
    refine rr rfl (s_aload_n rfl) ?_
    refine rr rfl (s_getf rfl rfl) ?_
    refine rr rfl (s_aload_n rfl) ?_
    refine rr rfl (s_getf rfl rfl) ?_
    refine rr rfl (s_iload_n rfl) ?_
    refine rr rfl (s_iaload (j := 0) rfl rfl rfl) ?_
    refine rr rfl (s_ialdH rfl g13 g10 g11) ?_
    refine rr rfl (s_iload rfl) ?_
    refine rr rfl (s_icF (by decide)) ?_
    refine rr rfl (s_aload_n rfl) ?_
    refine rr rfl (s_getf rfl rfl) ?_
    refine rr rfl (s_aload_n rfl) ?_
    refine rr rfl (s_getf rfl rfl) ?_
    refine rr rfl (s_iload_n rfl) ?_
    refine rr rfl (s_iaload (j := 0) rfl rfl rfl) ?_
    refine rr rfl (s_ialdH rfl g13 g10 g11) ?_
    refine rr rfl s_goto ?_
    refine rr rfl (s_istore rfl) ?_
    refine rr rfl (s_aload_n rfl) ?_
    refine rr rfl (s_getf rfl rfl) ?_
    refine rr rfl (s_iload_n rfl) ?_
    refine rr rfl (s_iaload (j := 0) rfl rfl rfl) ?_
    refine rr rfl (s_iconst (v := (-1)) (by decide)) ?_
    refine rr rfl (s_icF (ic_neq g7)) ?_
    refine rr rfl (s_aload_n rfl) ?_
    refine rr rfl (s_getf rfl rfl) ?_
    refine rr rfl (s_aload_n rfl) ?_
    refine rr rfl (s_getf rfl rfl) ?_
    refine rr rfl (s_iload_n rfl) ?_
    refine rr rfl (s_iaload (j := 0) rfl rfl rfl) ?_
    refine rr rfl (s_ialdH rfl g14 g10 g11) ?_
    refine rr rfl (s_iconst (v := 1) (by decide)) ?_
    refine rr rfl (s_iadd (v := 8) (by decide)) ?_
    refine rr rfl (s_iload rfl) ?_
    refine rr rfl (s_icF (by decide)) ?_
    refine rr rfl (s_aload_n rfl) ?_
    refine rr rfl (s_getf rfl rfl) ?_
    refine rr rfl (s_aload_n rfl) ?_
    refine rr rfl (s_getf rfl rfl) ?_
    refine rr rfl (s_iload_n rfl) ?_
    refine rr rfl (s_iaload (j := 0) rfl rfl rfl) ?_
    refine rr rfl (s_ialdH rfl g14 g10 g11) ?_
    refine rr rfl (s_iconst (v := 1) (by decide)) ?_
    refine rr rfl (s_iadd (v := 8) (by decide)) ?_
    refine rr rfl s_goto ?_
    refine rr rfl (s_istore rfl) ?_
    refine rr rfl (s_iload rfl) ?_
    refine rr rfl (s_aload_n rfl) ?_
    refine rr rfl (s_getf rfl rfl) ?_
    refine rr rfl (s_aload_n rfl) ?_
    refine rr rfl (s_getf rfl rfl) ?_
    refine rr rfl (s_iload_n rfl) ?_
    refine rr rfl (s_iaload (j := 0) rfl rfl rfl) ?_
    refine rr rfl (s_ialdH rfl rfl g10 g11) ?_
    refine rr rfl (s_icF (by decide)) ?_
    refine rr rfl (s_aload_n rfl) ?_
    refine rr rfl (s_getf rfl rfl) ?_
    refine rr rfl (s_aload_n rfl) ?_
    refine rr rfl (s_getf rfl rfl) ?_
    refine rr rfl (s_iload_n rfl) ?_
    refine rr rfl (s_iaload (j := 0) rfl rfl rfl) ?_
    refine rr rfl (s_iload rfl) ?_
    refine rr rfl (s_iastH (v := 8) rfl rfl g10 g11 (Nat.le_of_ble_eq_true rfl) rfl (h' := ((((((((((((hF.set 5 (.inl ((List.replicate 8 (0 : Int32)).set (Int32.toNatClampNeg x3) 8))).set 41 (.inr (.inr (9, [.int 4, .int 1, .ref 42, .ref 43, .ref 44, .ref 45, .ref 46, .ref 47, .ref 48, .ref 49, .ref 50, .ref 51, .int 0, .int 0, .int 0, .int 0, .int 0, .int 0, .int 0, .int 0, .ref 52, .int 0, .ref 53, .int 0, .ref 54, .int 0, .ref 55, .ref 56, .ref 57, .ref 58, .int 0, .ref 59, .ref 60])))).set 42 (.inl [x1, 0, 0, 0, 0, 0, 0, 0, 0, 0, 0, 0, 0])).set 43 (.inl [x2, 0, 0, 0, 0, 0, 0, 0, 0, 0, 0, 0, 0])).set 44 (.inl [x3, 0, 0, 0, 0, 0, 0, 0, 0, 0, 0, 0, 0])).set 45 (.inl [x4, 0, 0, 0, 0, 0, 0, 0, 0, 0, 0, 0, 0])).set 46 (.inl [x5, 0, 0, 0, 0, 0, 0, 0, 0, 0, 0, 0, 0])).set 47 (.inl [x6, 0, 0, 0, 0, 0, 0, 0, 0, 0, 0, 0, 0])).set 48 (.inl [x7, 0, 0, 0, 0, 0, 0, 0, 0, 0, 0, 0, 0])).set 49 (.inl [(-1), 0, 0, 0, 0, 0, 0, 0, 0, 0, 0, 0, 0])).set 51 (.inl ((List.replicate 8 (0 : Int32)).set (Int32.toNatClampNeg x3) 8))) ++ [.inr (.inr (2, [.int x1, .int x2, .int x3, .int x4, .int x5, .int x6, .int x7, .int ((1 <<< (x4 &&& 31) : Int32) ||| (1 <<< (x5 &&& 31) : Int32)), .int (1 <<< (x6 &&& 31) : Int32), .int (-1)]))]))) ?_
    refine rr rfl (s_iconst (v := 1) (by decide)) ?_
    refine rr rfl (s_istore_n rfl) ?_
    refine rr rfl (s_iload_n rfl) ?_
    refine rr rfl (s_ifF (by decide)) ?_
    refine rr rfl (s_iload rfl) ?_
    refine rr rfl (s_bipush (v := 8) (by decide)) ?_
    refine rr rfl (s_icT (by decide)) ?_
    refine rr rfl (s_iconst (v := 0) (by decide)) ?_
    refine rr rfl (s_istore_n rfl) ?_
    refine rr rfl (s_iinc (v := 1) rfl (by decide) rfl) ?_
    refine rr rfl s_goto ?_
    refine rr rfl (s_iload_n rfl) ?_
    refine rr rfl (s_aload_n rfl) ?_
    refine rr rfl (s_getf rfl rfl) ?_
    refine rr rfl (s_icT (by decide)) ?_
    refine rr rfl s_goto ?_
    refine rr rfl (s_iload_n rfl) ?_
    refine rr rfl (s_ifF (by decide)) ?_
    refine rr rfl (s_iload_n rfl) ?_
    refine rr rfl (s_ifT (by decide)) ?_
    refine rr rfl (s_iload_n rfl) ?_
    exact rrt rfl rfl rfl rfl
  refine rrc rfl rfl rfl (do_of g_X9_lays rfl rfl e2) ?_
  refine rr rfl (s_istore rfl) ?_
  refine rr rfl (s_iload rfl) ?_
  refine rr rfl (s_ifT (by decide)) ?_
  refine rr rfl (s_aload_n rfl) ?_
  refine rr rfl rfl ?_
  refine rr rfl (s_getf rfl rfl) ?_
  refine rr rfl (s_iconst (v := 1) (by decide)) ?_
  refine rr rfl (s_isub (v := 0) (by decide)) ?_
  refine rr rfl (s_putf rfl rfl (Nat.le_of_ble_eq_true rfl) rfl (Nat.le_of_ble_eq_true rfl) rfl (h' := (((((((((((hF.set 5 (.inl ((List.replicate 8 (0 : Int32)).set (Int32.toNatClampNeg x3) 8))).set 42 (.inl [x1, 0, 0, 0, 0, 0, 0, 0, 0, 0, 0, 0, 0])).set 43 (.inl [x2, 0, 0, 0, 0, 0, 0, 0, 0, 0, 0, 0, 0])).set 44 (.inl [x3, 0, 0, 0, 0, 0, 0, 0, 0, 0, 0, 0, 0])).set 45 (.inl [x4, 0, 0, 0, 0, 0, 0, 0, 0, 0, 0, 0, 0])).set 46 (.inl [x5, 0, 0, 0, 0, 0, 0, 0, 0, 0, 0, 0, 0])).set 47 (.inl [x6, 0, 0, 0, 0, 0, 0, 0, 0, 0, 0, 0, 0])).set 48 (.inl [x7, 0, 0, 0, 0, 0, 0, 0, 0, 0, 0, 0, 0])).set 49 (.inl [(-1), 0, 0, 0, 0, 0, 0, 0, 0, 0, 0, 0, 0])).set 51 (.inl ((List.replicate 8 (0 : Int32)).set (Int32.toNatClampNeg x3) 8))) ++ [.inr (.inr (2, [.int x1, .int x2, .int x3, .int x4, .int x5, .int x6, .int x7, .int ((1 <<< (x4 &&& 31) : Int32) ||| (1 <<< (x5 &&& 31) : Int32)), .int (1 <<< (x6 &&& 31) : Int32), .int (-1)]))]))) ?_
  refine rr rfl (s_aload_n rfl) ?_
  have e3 : a_m MT [] 100000 10 miX9_lays [.ref 41] (((((((((((hF.set 5 (.inl ((List.replicate 8 (0 : Int32)).set (Int32.toNatClampNeg x3) 8))).set 42 (.inl [x1, 0, 0, 0, 0, 0, 0, 0, 0, 0, 0, 0, 0])).set 43 (.inl [x2, 0, 0, 0, 0, 0, 0, 0, 0, 0, 0, 0, 0])).set 44 (.inl [x3, 0, 0, 0, 0, 0, 0, 0, 0, 0, 0, 0, 0])).set 45 (.inl [x4, 0, 0, 0, 0, 0, 0, 0, 0, 0, 0, 0, 0])).set 46 (.inl [x5, 0, 0, 0, 0, 0, 0, 0, 0, 0, 0, 0, 0])).set 47 (.inl [x6, 0, 0, 0, 0, 0, 0, 0, 0, 0, 0, 0, 0])).set 48 (.inl [x7, 0, 0, 0, 0, 0, 0, 0, 0, 0, 0, 0, 0])).set 49 (.inl [(-1), 0, 0, 0, 0, 0, 0, 0, 0, 0, 0, 0, 0])).set 51 (.inl ((List.replicate 8 (0 : Int32)).set (Int32.toNatClampNeg x3) 8))) ++ [.inr (.inr (2, [.int x1, .int x2, .int x3, .int x4, .int x5, .int x6, .int x7, .int ((1 <<< (x4 &&& 31) : Int32) ||| (1 <<< (x5 &&& 31) : Int32)), .int (1 <<< (x6 &&& 31) : Int32), .int (-1)]))]) = some ((some (.int 1)), ((((((((((hF.set 5 (.inl ((List.replicate 8 (0 : Int32)).set (Int32.toNatClampNeg x3) 8))).set 42 (.inl [x1, 0, 0, 0, 0, 0, 0, 0, 0, 0, 0, 0, 0])).set 43 (.inl [x2, 0, 0, 0, 0, 0, 0, 0, 0, 0, 0, 0, 0])).set 44 (.inl [x3, 0, 0, 0, 0, 0, 0, 0, 0, 0, 0, 0, 0])).set 45 (.inl [x4, 0, 0, 0, 0, 0, 0, 0, 0, 0, 0, 0, 0])).set 46 (.inl [x5, 0, 0, 0, 0, 0, 0, 0, 0, 0, 0, 0, 0])).set 47 (.inl [x6, 0, 0, 0, 0, 0, 0, 0, 0, 0, 0, 0, 0])).set 48 (.inl [x7, 0, 0, 0, 0, 0, 0, 0, 0, 0, 0, 0, 0])).set 49 (.inl [(-1), 0, 0, 0, 0, 0, 0, 0, 0, 0, 0, 0, 0])) ++ [.inr (.inr (2, [.int x1, .int x2, .int x3, .int x4, .int x5, .int x6, .int x7, .int ((1 <<< (x4 &&& 31) : Int32) ||| (1 <<< (x5 &&& 31) : Int32)), .int (1 <<< (x6 &&& 31) : Int32), .int (-1)]))]), 0, 0) := by
    exact lays0 rfl rfl rfl rfl (by simp) rfl
  refine rrc rfl rfl rfl (do_of g_X9_lays rfl rfl e3) ?_
  refine rr rfl (s_istore rfl) ?_
  refine rr rfl (s_iload rfl) ?_
  refine rr rfl (s_ifT (by decide)) ?_
  refine rr rfl (s_bipush (v := (-3)) (by decide)) ?_
  exact rrt rfl rfl rfl rfl
set_option maxHeartbeats 4000000 in
set_option maxRecDepth 10000 in
theorem rm_Nmhh {x1 x2 x3 x4 x5 x6 x7 : Int32} (g1 : x2 = 0) (g2 : ¬ x4 < 0) (g3 : x4 < nI 8) (g4 : x5 = (-1)) (g5 : ¬ x6 = (-1)) (g6 : ¬ x6 < 0) (g7 : x6 < nI 8) (g8 : ¬ x3 < 0) (g9 : x3 < nI 8) (g10 : x4 = x3) (g11 : x6 = x3) : a_run MT [] (a_m MT [] 100000 10) 11 (some .int) tabX9_rule 90000 95 (alQ x1 x2 x3 x4 x5 x6 x7) [] ((hF.set 5 (.inl ((List.replicate 8 (0 : Int32)).set (Int32.toNatClampNeg x3) 8))) ++ [.inr (.inr (2, [.int x1, .int x2, .int x3, .int x4, .int x4, .int x6, .int x7, .int ((1 <<< (x4 &&& 31) : Int32) ||| (1 <<< (x4 &&& 31) : Int32)), .int (1 <<< (x6 &&& 31) : Int32), .int (-1)]))]) 0 0 = some (some (.int (-3)), ((((((((((hF.set 5 (.inl ((List.replicate 8 (0 : Int32)).set (Int32.toNatClampNeg x3) 8))).set 42 (.inl [x1, 0, 0, 0, 0, 0, 0, 0, 0, 0, 0, 0, 0])).set 43 (.inl [x2, 0, 0, 0, 0, 0, 0, 0, 0, 0, 0, 0, 0])).set 44 (.inl [x3, 0, 0, 0, 0, 0, 0, 0, 0, 0, 0, 0, 0])).set 45 (.inl [x4, 0, 0, 0, 0, 0, 0, 0, 0, 0, 0, 0, 0])).set 46 (.inl [x5, 0, 0, 0, 0, 0, 0, 0, 0, 0, 0, 0, 0])).set 47 (.inl [x6, 0, 0, 0, 0, 0, 0, 0, 0, 0, 0, 0, 0])).set 48 (.inl [x7, 0, 0, 0, 0, 0, 0, 0, 0, 0, 0, 0, 0])).set 49 (.inl [(-1), 0, 0, 0, 0, 0, 0, 0, 0, 0, 0, 0, 0])) ++ [.inr (.inr (2, [.int x1, .int x2, .int x3, .int x4, .int x4, .int x6, .int x7, .int ((1 <<< (x4 &&& 31) : Int32) ||| (1 <<< (x4 &&& 31) : Int32)), .int (1 <<< (x6 &&& 31) : Int32), .int (-1)]))]), 0, 0) := by
  refine rr rfl (s_aload_n rfl) ?_
  refine rr rfl (s_aload_n rfl) ?_
  refine rr rfl (s_getf rfl rfl) ?_
  refine rr rfl (s_iload_n rfl) ?_
  refine rr rfl (s_iload_n rfl) ?_
  refine rr rfl (s_iload_n rfl) ?_
  refine rr rfl (s_iload rfl) ?_
  refine rr rfl (s_iload rfl) ?_
  refine rr rfl (s_iload rfl) ?_
  refine rr rfl (s_iload rfl) ?_
  have e1 : a_m MT [] 100000 10 miX9_sets [.ref 41, .int 0, .int x1, .int x2, .int x3, .int x4, .int x5, .int x6, .int x7] ((hF.set 5 (.inl ((List.replicate 8 (0 : Int32)).set (Int32.toNatClampNeg x3) 8))) ++ [.inr (.inr (2, [.int x1, .int x2, .int x3, .int x4, .int x4, .int x6, .int x7, .int ((1 <<< (x4 &&& 31) : Int32) ||| (1 <<< (x4 &&& 31) : Int32)), .int (1 <<< (x6 &&& 31) : Int32), .int (-1)]))]) = some (none, ((((((((((hF.set 5 (.inl ((List.replicate 8 (0 : Int32)).set (Int32.toNatClampNeg x3) 8))).set 42 (.inl [x1, 0, 0, 0, 0, 0, 0, 0, 0, 0, 0, 0, 0])).set 43 (.inl [x2, 0, 0, 0, 0, 0, 0, 0, 0, 0, 0, 0, 0])).set 44 (.inl [x3, 0, 0, 0, 0, 0, 0, 0, 0, 0, 0, 0, 0])).set 45 (.inl [x4, 0, 0, 0, 0, 0, 0, 0, 0, 0, 0, 0, 0])).set 46 (.inl [x5, 0, 0, 0, 0, 0, 0, 0, 0, 0, 0, 0, 0])).set 47 (.inl [x6, 0, 0, 0, 0, 0, 0, 0, 0, 0, 0, 0, 0])).set 48 (.inl [x7, 0, 0, 0, 0, 0, 0, 0, 0, 0, 0, 0, 0])).set 49 (.inl [(-1), 0, 0, 0, 0, 0, 0, 0, 0, 0, 0, 0, 0])) ++ [.inr (.inr (2, [.int x1, .int x2, .int x3, .int x4, .int x4, .int x6, .int x7, .int ((1 <<< (x4 &&& 31) : Int32) ||| (1 <<< (x4 &&& 31) : Int32)), .int (1 <<< (x6 &&& 31) : Int32), .int (-1)]))]), 0, 0) := by
    refine me (d := 9) g_X9_sets (Nat.le_of_ble_eq_true rfl) ?_
    refine rr rfl (s_aload_n rfl) ?_
    refine rr rfl (s_getf rfl rfl) ?_
    refine rr rfl (s_iload_n rfl) ?_
    refine rr rfl (s_iload_n rfl) ?_
    refine rr rfl (s_iastore (j := 0) (f' := [x1, 0, 0, 0, 0, 0, 0, 0, 0, 0, 0, 0, 0]) rfl rfl (Nat.le_of_ble_eq_true rfl) rfl (Nat.le_of_ble_eq_true rfl) rfl (h' := (((hF.set 5 (.inl ((List.replicate 8 (0 : Int32)).set (Int32.toNatClampNeg x3) 8))).set 42 (.inl [x1, 0, 0, 0, 0, 0, 0, 0, 0, 0, 0, 0, 0])) ++ [.inr (.inr (2, [.int x1, .int x2, .int x3, .int x4, .int x4, .int x6, .int x7, .int ((1 <<< (x4 &&& 31) : Int32) ||| (1 <<< (x4 &&& 31) : Int32)), .int (1 <<< (x6 &&& 31) : Int32), .int (-1)]))]))) ?_
    refine rr rfl (s_aload_n rfl) ?_
    refine rr rfl (s_getf rfl rfl) ?_
    refine rr rfl (s_iload_n rfl) ?_
    refine rr rfl (s_iload_n rfl) ?_
    refine rr rfl (s_iastore (j := 0) (f' := [x2, 0, 0, 0, 0, 0, 0, 0, 0, 0, 0, 0, 0]) rfl rfl (Nat.le_of_ble_eq_true rfl) rfl (Nat.le_of_ble_eq_true rfl) rfl (h' := ((((hF.set 5 (.inl ((List.replicate 8 (0 : Int32)).set (Int32.toNatClampNeg x3) 8))).set 42 (.inl [x1, 0, 0, 0, 0, 0, 0, 0, 0, 0, 0, 0, 0])).set 43 (.inl [x2, 0, 0, 0, 0, 0, 0, 0, 0, 0, 0, 0, 0])) ++ [.inr (.inr (2, [.int x1, .int x2, .int x3, .int x4, .int x4, .int x6, .int x7, .int ((1 <<< (x4 &&& 31) : Int32) ||| (1 <<< (x4 &&& 31) : Int32)), .int (1 <<< (x6 &&& 31) : Int32), .int (-1)]))]))) ?_
    refine rr rfl (s_aload_n rfl) ?_
    refine rr rfl (s_getf rfl rfl) ?_
    refine rr rfl (s_iload_n rfl) ?_
    refine rr rfl (s_iload rfl) ?_
    refine rr rfl (s_iastore (j := 0) (f' := [x3, 0, 0, 0, 0, 0, 0, 0, 0, 0, 0, 0, 0]) rfl rfl (Nat.le_of_ble_eq_true rfl) rfl (Nat.le_of_ble_eq_true rfl) rfl (h' := (((((hF.set 5 (.inl ((List.replicate 8 (0 : Int32)).set (Int32.toNatClampNeg x3) 8))).set 42 (.inl [x1, 0, 0, 0, 0, 0, 0, 0, 0, 0, 0, 0, 0])).set 43 (.inl [x2, 0, 0, 0, 0, 0, 0, 0, 0, 0, 0, 0, 0])).set 44 (.inl [x3, 0, 0, 0, 0, 0, 0, 0, 0, 0, 0, 0, 0])) ++ [.inr (.inr (2, [.int x1, .int x2, .int x3, .int x4, .int x4, .int x6, .int x7, .int ((1 <<< (x4 &&& 31) : Int32) ||| (1 <<< (x4 &&& 31) : Int32)), .int (1 <<< (x6 &&& 31) : Int32), .int (-1)]))]))) ?_
    refine rr rfl (s_aload_n rfl) ?_
    refine rr rfl (s_getf rfl rfl) ?_
    refine rr rfl (s_iload_n rfl) ?_
    refine rr rfl (s_iload rfl) ?_
    refine rr rfl (s_iastore (j := 0) (f' := [x4, 0, 0, 0, 0, 0, 0, 0, 0, 0, 0, 0, 0]) rfl rfl (Nat.le_of_ble_eq_true rfl) rfl (Nat.le_of_ble_eq_true rfl) rfl (h' := ((((((hF.set 5 (.inl ((List.replicate 8 (0 : Int32)).set (Int32.toNatClampNeg x3) 8))).set 42 (.inl [x1, 0, 0, 0, 0, 0, 0, 0, 0, 0, 0, 0, 0])).set 43 (.inl [x2, 0, 0, 0, 0, 0, 0, 0, 0, 0, 0, 0, 0])).set 44 (.inl [x3, 0, 0, 0, 0, 0, 0, 0, 0, 0, 0, 0, 0])).set 45 (.inl [x4, 0, 0, 0, 0, 0, 0, 0, 0, 0, 0, 0, 0])) ++ [.inr (.inr (2, [.int x1, .int x2, .int x3, .int x4, .int x4, .int x6, .int x7, .int ((1 <<< (x4 &&& 31) : Int32) ||| (1 <<< (x4 &&& 31) : Int32)), .int (1 <<< (x6 &&& 31) : Int32), .int (-1)]))]))) ?_
    refine rr rfl (s_aload_n rfl) ?_
    refine rr rfl (s_getf rfl rfl) ?_
    refine rr rfl (s_iload_n rfl) ?_
    refine rr rfl (s_iload rfl) ?_
    refine rr rfl (s_iastore (j := 0) (f' := [x5, 0, 0, 0, 0, 0, 0, 0, 0, 0, 0, 0, 0]) rfl rfl (Nat.le_of_ble_eq_true rfl) rfl (Nat.le_of_ble_eq_true rfl) rfl (h' := (((((((hF.set 5 (.inl ((List.replicate 8 (0 : Int32)).set (Int32.toNatClampNeg x3) 8))).set 42 (.inl [x1, 0, 0, 0, 0, 0, 0, 0, 0, 0, 0, 0, 0])).set 43 (.inl [x2, 0, 0, 0, 0, 0, 0, 0, 0, 0, 0, 0, 0])).set 44 (.inl [x3, 0, 0, 0, 0, 0, 0, 0, 0, 0, 0, 0, 0])).set 45 (.inl [x4, 0, 0, 0, 0, 0, 0, 0, 0, 0, 0, 0, 0])).set 46 (.inl [x5, 0, 0, 0, 0, 0, 0, 0, 0, 0, 0, 0, 0])) ++ [.inr (.inr (2, [.int x1, .int x2, .int x3, .int x4, .int x4, .int x6, .int x7, .int ((1 <<< (x4 &&& 31) : Int32) ||| (1 <<< (x4 &&& 31) : Int32)), .int (1 <<< (x6 &&& 31) : Int32), .int (-1)]))]))) ?_
    refine rr rfl (s_aload_n rfl) ?_
    refine rr rfl (s_getf rfl rfl) ?_
    refine rr rfl (s_iload_n rfl) ?_
    refine rr rfl (s_iload rfl) ?_
    refine rr rfl (s_iastore (j := 0) (f' := [x6, 0, 0, 0, 0, 0, 0, 0, 0, 0, 0, 0, 0]) rfl rfl (Nat.le_of_ble_eq_true rfl) rfl (Nat.le_of_ble_eq_true rfl) rfl (h' := ((((((((hF.set 5 (.inl ((List.replicate 8 (0 : Int32)).set (Int32.toNatClampNeg x3) 8))).set 42 (.inl [x1, 0, 0, 0, 0, 0, 0, 0, 0, 0, 0, 0, 0])).set 43 (.inl [x2, 0, 0, 0, 0, 0, 0, 0, 0, 0, 0, 0, 0])).set 44 (.inl [x3, 0, 0, 0, 0, 0, 0, 0, 0, 0, 0, 0, 0])).set 45 (.inl [x4, 0, 0, 0, 0, 0, 0, 0, 0, 0, 0, 0, 0])).set 46 (.inl [x5, 0, 0, 0, 0, 0, 0, 0, 0, 0, 0, 0, 0])).set 47 (.inl [x6, 0, 0, 0, 0, 0, 0, 0, 0, 0, 0, 0, 0])) ++ [.inr (.inr (2, [.int x1, .int x2, .int x3, .int x4, .int x4, .int x6, .int x7, .int ((1 <<< (x4 &&& 31) : Int32) ||| (1 <<< (x4 &&& 31) : Int32)), .int (1 <<< (x6 &&& 31) : Int32), .int (-1)]))]))) ?_
    refine rr rfl (s_aload_n rfl) ?_
    refine rr rfl (s_getf rfl rfl) ?_
    refine rr rfl (s_iload_n rfl) ?_
    refine rr rfl (s_iload rfl) ?_
    refine rr rfl (s_iastore (j := 0) (f' := [x7, 0, 0, 0, 0, 0, 0, 0, 0, 0, 0, 0, 0]) rfl rfl (Nat.le_of_ble_eq_true rfl) rfl (Nat.le_of_ble_eq_true rfl) rfl (h' := (((((((((hF.set 5 (.inl ((List.replicate 8 (0 : Int32)).set (Int32.toNatClampNeg x3) 8))).set 42 (.inl [x1, 0, 0, 0, 0, 0, 0, 0, 0, 0, 0, 0, 0])).set 43 (.inl [x2, 0, 0, 0, 0, 0, 0, 0, 0, 0, 0, 0, 0])).set 44 (.inl [x3, 0, 0, 0, 0, 0, 0, 0, 0, 0, 0, 0, 0])).set 45 (.inl [x4, 0, 0, 0, 0, 0, 0, 0, 0, 0, 0, 0, 0])).set 46 (.inl [x5, 0, 0, 0, 0, 0, 0, 0, 0, 0, 0, 0, 0])).set 47 (.inl [x6, 0, 0, 0, 0, 0, 0, 0, 0, 0, 0, 0, 0])).set 48 (.inl [x7, 0, 0, 0, 0, 0, 0, 0, 0, 0, 0, 0, 0])) ++ [.inr (.inr (2, [.int x1, .int x2, .int x3, .int x4, .int x4, .int x6, .int x7, .int ((1 <<< (x4 &&& 31) : Int32) ||| (1 <<< (x4 &&& 31) : Int32)), .int (1 <<< (x6 &&& 31) : Int32), .int (-1)]))]))) ?_
    refine rr rfl (s_aload_n rfl) ?_
    refine rr rfl (s_getf rfl rfl) ?_
    refine rr rfl (s_iload_n rfl) ?_
    refine rr rfl (s_iconst (v := (-1)) (by decide)) ?_
    refine rr rfl (s_iastore (j := 0) (f' := [(-1), 0, 0, 0, 0, 0, 0, 0, 0, 0, 0, 0, 0]) rfl rfl (Nat.le_of_ble_eq_true rfl) rfl (Nat.le_of_ble_eq_true rfl) rfl (h' := ((((((((((hF.set 5 (.inl ((List.replicate 8 (0 : Int32)).set (Int32.toNatClampNeg x3) 8))).set 42 (.inl [x1, 0, 0, 0, 0, 0, 0, 0, 0, 0, 0, 0, 0])).set 43 (.inl [x2, 0, 0, 0, 0, 0, 0, 0, 0, 0, 0, 0, 0])).set 44 (.inl [x3, 0, 0, 0, 0, 0, 0, 0, 0, 0, 0, 0, 0])).set 45 (.inl [x4, 0, 0, 0, 0, 0, 0, 0, 0, 0, 0, 0, 0])).set 46 (.inl [x5, 0, 0, 0, 0, 0, 0, 0, 0, 0, 0, 0, 0])).set 47 (.inl [x6, 0, 0, 0, 0, 0, 0, 0, 0, 0, 0, 0, 0])).set 48 (.inl [x7, 0, 0, 0, 0, 0, 0, 0, 0, 0, 0, 0, 0])).set 49 (.inl [(-1), 0, 0, 0, 0, 0, 0, 0, 0, 0, 0, 0, 0])) ++ [.inr (.inr (2, [.int x1, .int x2, .int x3, .int x4, .int x4, .int x6, .int x7, .int ((1 <<< (x4 &&& 31) : Int32) ||| (1 <<< (x4 &&& 31) : Int32)), .int (1 <<< (x6 &&& 31) : Int32), .int (-1)]))]))) ?_
    exact rrt rfl rfl rfl rfl
  refine rrc rfl rfl rfl (do_of g_X9_sets rfl rfl e1) ?_
  refine rr rfl (s_aload_n rfl) ?_
  refine rr rfl rfl ?_
  refine rr rfl (s_getf rfl rfl) ?_
  refine rr rfl (s_iconst (v := 1) (by decide)) ?_
  refine rr rfl (s_iadd (v := 1) (by decide)) ?_
  refine rr rfl (s_putf rfl rfl (Nat.le_of_ble_eq_true rfl) rfl (Nat.le_of_ble_eq_true rfl) rfl (h' := (((((((((((hF.set 5 (.inl ((List.replicate 8 (0 : Int32)).set (Int32.toNatClampNeg x3) 8))).set 41 (.inr (.inr (9, [.int 4, .int 1, .ref 42, .ref 43, .ref 44, .ref 45, .ref 46, .ref 47, .ref 48, .ref 49, .ref 50, .ref 51, .int 0, .int 0, .int 0, .int 0, .int 0, .int 0, .int 0, .int 0, .ref 52, .int 0, .ref 53, .int 0, .ref 54, .int 0, .ref 55, .ref 56, .ref 57, .ref 58, .int 0, .ref 59, .ref 60])))).set 42 (.inl [x1, 0, 0, 0, 0, 0, 0, 0, 0, 0, 0, 0, 0])).set 43 (.inl [x2, 0, 0, 0, 0, 0, 0, 0, 0, 0, 0, 0, 0])).set 44 (.inl [x3, 0, 0, 0, 0, 0, 0, 0, 0, 0, 0, 0, 0])).set 45 (.inl [x4, 0, 0, 0, 0, 0, 0, 0, 0, 0, 0, 0, 0])).set 46 (.inl [x5, 0, 0, 0, 0, 0, 0, 0, 0, 0, 0, 0, 0])).set 47 (.inl [x6, 0, 0, 0, 0, 0, 0, 0, 0, 0, 0, 0, 0])).set 48 (.inl [x7, 0, 0, 0, 0, 0, 0, 0, 0, 0, 0, 0, 0])).set 49 (.inl [(-1), 0, 0, 0, 0, 0, 0, 0, 0, 0, 0, 0, 0])) ++ [.inr (.inr (2, [.int x1, .int x2, .int x3, .int x4, .int x4, .int x6, .int x7, .int ((1 <<< (x4 &&& 31) : Int32) ||| (1 <<< (x4 &&& 31) : Int32)), .int (1 <<< (x6 &&& 31) : Int32), .int (-1)]))]))) ?_
  refine rr rfl (s_aload_n rfl) ?_
  have e2 : a_m MT [] 100000 10 miX9_lays [.ref 41] (((((((((((hF.set 5 (.inl ((List.replicate 8 (0 : Int32)).set (Int32.toNatClampNeg x3) 8))).set 41 (.inr (.inr (9, [.int 4, .int 1, .ref 42, .ref 43, .ref 44, .ref 45, .ref 46, .ref 47, .ref 48, .ref 49, .ref 50, .ref 51, .int 0, .int 0, .int 0, .int 0, .int 0, .int 0, .int 0, .int 0, .ref 52, .int 0, .ref 53, .int 0, .ref 54, .int 0, .ref 55, .ref 56, .ref 57, .ref 58, .int 0, .ref 59, .ref 60])))).set 42 (.inl [x1, 0, 0, 0, 0, 0, 0, 0, 0, 0, 0, 0, 0])).set 43 (.inl [x2, 0, 0, 0, 0, 0, 0, 0, 0, 0, 0, 0, 0])).set 44 (.inl [x3, 0, 0, 0, 0, 0, 0, 0, 0, 0, 0, 0, 0])).set 45 (.inl [x4, 0, 0, 0, 0, 0, 0, 0, 0, 0, 0, 0, 0])).set 46 (.inl [x5, 0, 0, 0, 0, 0, 0, 0, 0, 0, 0, 0, 0])).set 47 (.inl [x6, 0, 0, 0, 0, 0, 0, 0, 0, 0, 0, 0, 0])).set 48 (.inl [x7, 0, 0, 0, 0, 0, 0, 0, 0, 0, 0, 0, 0])).set 49 (.inl [(-1), 0, 0, 0, 0, 0, 0, 0, 0, 0, 0, 0, 0])) ++ [.inr (.inr (2, [.int x1, .int x2, .int x3, .int x4, .int x4, .int x6, .int x7, .int ((1 <<< (x4 &&& 31) : Int32) ||| (1 <<< (x4 &&& 31) : Int32)), .int (1 <<< (x6 &&& 31) : Int32), .int (-1)]))]) = some ((some (.int 0)), ((((((((((((hF.set 5 (.inl ((List.replicate 8 (0 : Int32)).set (Int32.toNatClampNeg x3) 8))).set 41 (.inr (.inr (9, [.int 4, .int 1, .ref 42, .ref 43, .ref 44, .ref 45, .ref 46, .ref 47, .ref 48, .ref 49, .ref 50, .ref 51, .int 0, .int 0, .int 0, .int 0, .int 0, .int 0, .int 0, .int 0, .ref 52, .int 0, .ref 53, .int 0, .ref 54, .int 0, .ref 55, .ref 56, .ref 57, .ref 58, .int 0, .ref 59, .ref 60])))).set 42 (.inl [x1, 0, 0, 0, 0, 0, 0, 0, 0, 0, 0, 0, 0])).set 43 (.inl [x2, 0, 0, 0, 0, 0, 0, 0, 0, 0, 0, 0, 0])).set 44 (.inl [x3, 0, 0, 0, 0, 0, 0, 0, 0, 0, 0, 0, 0])).set 45 (.inl [x4, 0, 0, 0, 0, 0, 0, 0, 0, 0, 0, 0, 0])).set 46 (.inl [x5, 0, 0, 0, 0, 0, 0, 0, 0, 0, 0, 0, 0])).set 47 (.inl [x6, 0, 0, 0, 0, 0, 0, 0, 0, 0, 0, 0, 0])).set 48 (.inl [x7, 0, 0, 0, 0, 0, 0, 0, 0, 0, 0, 0, 0])).set 49 (.inl [(-1), 0, 0, 0, 0, 0, 0, 0, 0, 0, 0, 0, 0])).set 51 (.inl ((List.replicate 8 (0 : Int32)).set (Int32.toNatClampNeg x3) 8))) ++ [.inr (.inr (2, [.int x1, .int x2, .int x3, .int x4, .int x4, .int x6, .int x7, .int ((1 <<< (x4 &&& 31) : Int32) ||| (1 <<< (x4 &&& 31) : Int32)), .int (1 <<< (x6 &&& 31) : Int32), .int (-1)]))]), 0, 0) := by
    refine me (d := 9) g_X9_lays (Nat.le_of_ble_eq_true rfl) ?_
    refine rr rfl (s_iconst (v := 0) (by decide)) ?_
    refine rr rfl (s_istore_n rfl) ?_
    refine rr rfl (s_iload_n rfl) ?_
    refine rr rfl (s_bipush (v := 8) (by decide)) ?_
    refine rr rfl (s_icF (by decide)) ?_
    refine rr rfl (s_aload_n rfl) ?_
    refine rr rfl (s_getf rfl rfl) ?_
    refine rr rfl (s_iload_n rfl) ?_
    refine rr rfl (s_iconst (v := 0) (by decide)) ?_
    refine rr rfl (s_iastore (j := 0) (f' := (List.replicate 8 0)) rfl rfl (Nat.le_of_ble_eq_true rfl) rfl (Nat.le_of_ble_eq_true rfl) rfl (h' := (((((((((((hF.set 5 (.inl ((List.replicate 8 (0 : Int32)).set (Int32.toNatClampNeg x3) 8))).set 41 (.inr (.inr (9, [.int 4, .int 1, .ref 42, .ref 43, .ref 44, .ref 45, .ref 46, .ref 47, .ref 48, .ref 49, .ref 50, .ref 51, .int 0, .int 0, .int 0, .int 0, .int 0, .int 0, .int 0, .int 0, .ref 52, .int 0, .ref 53, .int 0, .ref 54, .int 0, .ref 55, .ref 56, .ref 57, .ref 58, .int 0, .ref 59, .ref 60])))).set 42 (.inl [x1, 0, 0, 0, 0, 0, 0, 0, 0, 0, 0, 0, 0])).set 43 (.inl [x2, 0, 0, 0, 0, 0, 0, 0, 0, 0, 0, 0, 0])).set 44 (.inl [x3, 0, 0, 0, 0, 0, 0, 0, 0, 0, 0, 0, 0])).set 45 (.inl [x4, 0, 0, 0, 0, 0, 0, 0, 0, 0, 0, 0, 0])).set 46 (.inl [x5, 0, 0, 0, 0, 0, 0, 0, 0, 0, 0, 0, 0])).set 47 (.inl [x6, 0, 0, 0, 0, 0, 0, 0, 0, 0, 0, 0, 0])).set 48 (.inl [x7, 0, 0, 0, 0, 0, 0, 0, 0, 0, 0, 0, 0])).set 49 (.inl [(-1), 0, 0, 0, 0, 0, 0, 0, 0, 0, 0, 0, 0])) ++ [.inr (.inr (2, [.int x1, .int x2, .int x3, .int x4, .int x4, .int x6, .int x7, .int ((1 <<< (x4 &&& 31) : Int32) ||| (1 <<< (x4 &&& 31) : Int32)), .int (1 <<< (x6 &&& 31) : Int32), .int (-1)]))]))) ?_
    refine rr rfl (s_iinc (v := 1) rfl (by decide) rfl) ?_
    refine rr rfl s_goto ?_
    refine rr rfl (s_iload_n rfl) ?_
    refine rr rfl (s_bipush (v := 8) (by decide)) ?_
    refine rr rfl (s_icF (by decide)) ?_
    refine rr rfl (s_aload_n rfl) ?_
    refine rr rfl (s_getf rfl rfl) ?_
    refine rr rfl (s_iload_n rfl) ?_
    refine rr rfl (s_iconst (v := 0) (by decide)) ?_
    refine rr rfl (s_iastore (j := 1) (f' := (List.replicate 8 0)) rfl rfl (Nat.le_of_ble_eq_true rfl) rfl (Nat.le_of_ble_eq_true rfl) rfl (h' := (((((((((((hF.set 5 (.inl ((List.replicate 8 (0 : Int32)).set (Int32.toNatClampNeg x3) 8))).set 41 (.inr (.inr (9, [.int 4, .int 1, .ref 42, .ref 43, .ref 44, .ref 45, .ref 46, .ref 47, .ref 48, .ref 49, .ref 50, .ref 51, .int 0, .int 0, .int 0, .int 0, .int 0, .int 0, .int 0, .int 0, .ref 52, .int 0, .ref 53, .int 0, .ref 54, .int 0, .ref 55, .ref 56, .ref 57, .ref 58, .int 0, .ref 59, .ref 60])))).set 42 (.inl [x1, 0, 0, 0, 0, 0, 0, 0, 0, 0, 0, 0, 0])).set 43 (.inl [x2, 0, 0, 0, 0, 0, 0, 0, 0, 0, 0, 0, 0])).set 44 (.inl [x3, 0, 0, 0, 0, 0, 0, 0, 0, 0, 0, 0, 0])).set 45 (.inl [x4, 0, 0, 0, 0, 0, 0, 0, 0, 0, 0, 0, 0])).set 46 (.inl [x5, 0, 0, 0, 0, 0, 0, 0, 0, 0, 0, 0, 0])).set 47 (.inl [x6, 0, 0, 0, 0, 0, 0, 0, 0, 0, 0, 0, 0])).set 48 (.inl [x7, 0, 0, 0, 0, 0, 0, 0, 0, 0, 0, 0, 0])).set 49 (.inl [(-1), 0, 0, 0, 0, 0, 0, 0, 0, 0, 0, 0, 0])) ++ [.inr (.inr (2, [.int x1, .int x2, .int x3, .int x4, .int x4, .int x6, .int x7, .int ((1 <<< (x4 &&& 31) : Int32) ||| (1 <<< (x4 &&& 31) : Int32)), .int (1 <<< (x6 &&& 31) : Int32), .int (-1)]))]))) ?_
    refine rr rfl (s_iinc (v := 2) rfl (by decide) rfl) ?_
    refine rr rfl s_goto ?_
    refine rr rfl (s_iload_n rfl) ?_
    refine rr rfl (s_bipush (v := 8) (by decide)) ?_
    refine rr rfl (s_icF (by decide)) ?_
    refine rr rfl (s_aload_n rfl) ?_
    refine rr rfl (s_getf rfl rfl) ?_
    refine rr rfl (s_iload_n rfl) ?_
    refine rr rfl (s_iconst (v := 0) (by decide)) ?_
    refine rr rfl (s_iastore (j := 2) (f' := (List.replicate 8 0)) rfl rfl (Nat.le_of_ble_eq_true rfl) rfl (Nat.le_of_ble_eq_true rfl) rfl (h' := (((((((((((hF.set 5 (.inl ((List.replicate 8 (0 : Int32)).set (Int32.toNatClampNeg x3) 8))).set 41 (.inr (.inr (9, [.int 4, .int 1, .ref 42, .ref 43, .ref 44, .ref 45, .ref 46, .ref 47, .ref 48, .ref 49, .ref 50, .ref 51, .int 0, .int 0, .int 0, .int 0, .int 0, .int 0, .int 0, .int 0, .ref 52, .int 0, .ref 53, .int 0, .ref 54, .int 0, .ref 55, .ref 56, .ref 57, .ref 58, .int 0, .ref 59, .ref 60])))).set 42 (.inl [x1, 0, 0, 0, 0, 0, 0, 0, 0, 0, 0, 0, 0])).set 43 (.inl [x2, 0, 0, 0, 0, 0, 0, 0, 0, 0, 0, 0, 0])).set 44 (.inl [x3, 0, 0, 0, 0, 0, 0, 0, 0, 0, 0, 0, 0])).set 45 (.inl [x4, 0, 0, 0, 0, 0, 0, 0, 0, 0, 0, 0, 0])).set 46 (.inl [x5, 0, 0, 0, 0, 0, 0, 0, 0, 0, 0, 0, 0])).set 47 (.inl [x6, 0, 0, 0, 0, 0, 0, 0, 0, 0, 0, 0, 0])).set 48 (.inl [x7, 0, 0, 0, 0, 0, 0, 0, 0, 0, 0, 0, 0])).set 49 (.inl [(-1), 0, 0, 0, 0, 0, 0, 0, 0, 0, 0, 0, 0])) ++ [.inr (.inr (2, [.int x1, .int x2, .int x3, .int x4, .int x4, .int x6, .int x7, .int ((1 <<< (x4 &&& 31) : Int32) ||| (1 <<< (x4 &&& 31) : Int32)), .int (1 <<< (x6 &&& 31) : Int32), .int (-1)]))]))) ?_
    refine rr rfl (s_iinc (v := 3) rfl (by decide) rfl) ?_
    refine rr rfl s_goto ?_
    refine rr rfl (s_iload_n rfl) ?_
    refine rr rfl (s_bipush (v := 8) (by decide)) ?_
    refine rr rfl (s_icF (by decide)) ?_
    refine rr rfl (s_aload_n rfl) ?_
    refine rr rfl (s_getf rfl rfl) ?_
    refine rr rfl (s_iload_n rfl) ?_
    refine rr rfl (s_iconst (v := 0) (by decide)) ?_
    refine rr rfl (s_iastore (j := 3) (f' := (List.replicate 8 0)) rfl rfl (Nat.le_of_ble_eq_true rfl) rfl (Nat.le_of_ble_eq_true rfl) rfl (h' := (((((((((((hF.set 5 (.inl ((List.replicate 8 (0 : Int32)).set (Int32.toNatClampNeg x3) 8))).set 41 (.inr (.inr (9, [.int 4, .int 1, .ref 42, .ref 43, .ref 44, .ref 45, .ref 46, .ref 47, .ref 48, .ref 49, .ref 50, .ref 51, .int 0, .int 0, .int 0, .int 0, .int 0, .int 0, .int 0, .int 0, .ref 52, .int 0, .ref 53, .int 0, .ref 54, .int 0, .ref 55, .ref 56, .ref 57, .ref 58, .int 0, .ref 59, .ref 60])))).set 42 (.inl [x1, 0, 0, 0, 0, 0, 0, 0, 0, 0, 0, 0, 0])).set 43 (.inl [x2, 0, 0, 0, 0, 0, 0, 0, 0, 0, 0, 0, 0])).set 44 (.inl [x3, 0, 0, 0, 0, 0, 0, 0, 0, 0, 0, 0, 0])).set 45 (.inl [x4, 0, 0, 0, 0, 0, 0, 0, 0, 0, 0, 0, 0])).set 46 (.inl [x5, 0, 0, 0, 0, 0, 0, 0, 0, 0, 0, 0, 0])).set 47 (.inl [x6, 0, 0, 0, 0, 0, 0, 0, 0, 0, 0, 0, 0])).set 48 (.inl [x7, 0, 0, 0, 0, 0, 0, 0, 0, 0, 0, 0, 0])).set 49 (.inl [(-1), 0, 0, 0, 0, 0, 0, 0, 0, 0, 0, 0, 0])) ++ [.inr (.inr (2, [.int x1, .int x2, .int x3, .int x4, .int x4, .int x6, .int x7, .int ((1 <<< (x4 &&& 31) : Int32) ||| (1 <<< (x4 &&& 31) : Int32)), .int (1 <<< (x6 &&& 31) : Int32), .int (-1)]))]))) ?_
    refine rr rfl (s_iinc (v := 4) rfl (by decide) rfl) ?_
    refine rr rfl s_goto ?_
    refine rr rfl (s_iload_n rfl) ?_
    refine rr rfl (s_bipush (v := 8) (by decide)) ?_
    refine rr rfl (s_icF (by decide)) ?_
    refine rr rfl (s_aload_n rfl) ?_
    refine rr rfl (s_getf rfl rfl) ?_
    refine rr rfl (s_iload_n rfl) ?_
    refine rr rfl (s_iconst (v := 0) (by decide)) ?_
    refine rr rfl (s_iastore (j := 4) (f' := (List.replicate 8 0)) rfl rfl (Nat.le_of_ble_eq_true rfl) rfl (Nat.le_of_ble_eq_true rfl) rfl (h' := (((((((((((hF.set 5 (.inl ((List.replicate 8 (0 : Int32)).set (Int32.toNatClampNeg x3) 8))).set 41 (.inr (.inr (9, [.int 4, .int 1, .ref 42, .ref 43, .ref 44, .ref 45, .ref 46, .ref 47, .ref 48, .ref 49, .ref 50, .ref 51, .int 0, .int 0, .int 0, .int 0, .int 0, .int 0, .int 0, .int 0, .ref 52, .int 0, .ref 53, .int 0, .ref 54, .int 0, .ref 55, .ref 56, .ref 57, .ref 58, .int 0, .ref 59, .ref 60])))).set 42 (.inl [x1, 0, 0, 0, 0, 0, 0, 0, 0, 0, 0, 0, 0])).set 43 (.inl [x2, 0, 0, 0, 0, 0, 0, 0, 0, 0, 0, 0, 0])).set 44 (.inl [x3, 0, 0, 0, 0, 0, 0, 0, 0, 0, 0, 0, 0])).set 45 (.inl [x4, 0, 0, 0, 0, 0, 0, 0, 0, 0, 0, 0, 0])).set 46 (.inl [x5, 0, 0, 0, 0, 0, 0, 0, 0, 0, 0, 0, 0])).set 47 (.inl [x6, 0, 0, 0, 0, 0, 0, 0, 0, 0, 0, 0, 0])).set 48 (.inl [x7, 0, 0, 0, 0, 0, 0, 0, 0, 0, 0, 0, 0])).set 49 (.inl [(-1), 0, 0, 0, 0, 0, 0, 0, 0, 0, 0, 0, 0])) ++ [.inr (.inr (2, [.int x1, .int x2, .int x3, .int x4, .int x4, .int x6, .int x7, .int ((1 <<< (x4 &&& 31) : Int32) ||| (1 <<< (x4 &&& 31) : Int32)), .int (1 <<< (x6 &&& 31) : Int32), .int (-1)]))]))) ?_
    refine rr rfl (s_iinc (v := 5) rfl (by decide) rfl) ?_
    refine rr rfl s_goto ?_
    refine rr rfl (s_iload_n rfl) ?_
    refine rr rfl (s_bipush (v := 8) (by decide)) ?_
    refine rr rfl (s_icF (by decide)) ?_
    refine rr rfl (s_aload_n rfl) ?_
    refine rr rfl (s_getf rfl rfl) ?_
    refine rr rfl (s_iload_n rfl) ?_
    refine rr rfl (s_iconst (v := 0) (by decide)) ?_
    refine rr rfl (s_iastore (j := 5) (f' := (List.replicate 8 0)) rfl rfl (Nat.le_of_ble_eq_true rfl) rfl (Nat.le_of_ble_eq_true rfl) rfl (h' := (((((((((((hF.set 5 (.inl ((List.replicate 8 (0 : Int32)).set (Int32.toNatClampNeg x3) 8))).set 41 (.inr (.inr (9, [.int 4, .int 1, .ref 42, .ref 43, .ref 44, .ref 45, .ref 46, .ref 47, .ref 48, .ref 49, .ref 50, .ref 51, .int 0, .int 0, .int 0, .int 0, .int 0, .int 0, .int 0, .int 0, .ref 52, .int 0, .ref 53, .int 0, .ref 54, .int 0, .ref 55, .ref 56, .ref 57, .ref 58, .int 0, .ref 59, .ref 60])))).set 42 (.inl [x1, 0, 0, 0, 0, 0, 0, 0, 0, 0, 0, 0, 0])).set 43 (.inl [x2, 0, 0, 0, 0, 0, 0, 0, 0, 0, 0, 0, 0])).set 44 (.inl [x3, 0, 0, 0, 0, 0, 0, 0, 0, 0, 0, 0, 0])).set 45 (.inl [x4, 0, 0, 0, 0, 0, 0, 0, 0, 0, 0, 0, 0])).set 46 (.inl [x5, 0, 0, 0, 0, 0, 0, 0, 0, 0, 0, 0, 0])).set 47 (.inl [x6, 0, 0, 0, 0, 0, 0, 0, 0, 0, 0, 0, 0])).set 48 (.inl [x7, 0, 0, 0, 0, 0, 0, 0, 0, 0, 0, 0, 0])).set 49 (.inl [(-1), 0, 0, 0, 0, 0, 0, 0, 0, 0, 0, 0, 0])) ++ [.inr (.inr (2, [.int x1, .int x2, .int x3, .int x4, .int x4, .int x6, .int x7, .int ((1 <<< (x4 &&& 31) : Int32) ||| (1 <<< (x4 &&& 31) : Int32)), .int (1 <<< (x6 &&& 31) : Int32), .int (-1)]))]))) ?_
    refine rr rfl (s_iinc (v := 6) rfl (by decide) rfl) ?_
    refine rr rfl s_goto ?_
    refine rr rfl (s_iload_n rfl) ?_
    refine rr rfl (s_bipush (v := 8) (by decide)) ?_
    refine rr rfl (s_icF (by decide)) ?_
    refine rr rfl (s_aload_n rfl) ?_
    refine rr rfl (s_getf rfl rfl) ?_
    refine rr rfl (s_iload_n rfl) ?_
    refine rr rfl (s_iconst (v := 0) (by decide)) ?_
    refine rr rfl (s_iastore (j := 6) (f' := (List.replicate 8 0)) rfl rfl (Nat.le_of_ble_eq_true rfl) rfl (Nat.le_of_ble_eq_true rfl) rfl (h' := (((((((((((hF.set 5 (.inl ((List.replicate 8 (0 : Int32)).set (Int32.toNatClampNeg x3) 8))).set 41 (.inr (.inr (9, [.int 4, .int 1, .ref 42, .ref 43, .ref 44, .ref 45, .ref 46, .ref 47, .ref 48, .ref 49, .ref 50, .ref 51, .int 0, .int 0, .int 0, .int 0, .int 0, .int 0, .int 0, .int 0, .ref 52, .int 0, .ref 53, .int 0, .ref 54, .int 0, .ref 55, .ref 56, .ref 57, .ref 58, .int 0, .ref 59, .ref 60])))).set 42 (.inl [x1, 0, 0, 0, 0, 0, 0, 0, 0, 0, 0, 0, 0])).set 43 (.inl [x2, 0, 0, 0, 0, 0, 0, 0, 0, 0, 0, 0, 0])).set 44 (.inl [x3, 0, 0, 0, 0, 0, 0, 0, 0, 0, 0, 0, 0])).set 45 (.inl [x4, 0, 0, 0, 0, 0, 0, 0, 0, 0, 0, 0, 0])).set 46 (.inl [x5, 0, 0, 0, 0, 0, 0, 0, 0, 0, 0, 0, 0])).set 47 (.inl [x6, 0, 0, 0, 0, 0, 0, 0, 0, 0, 0, 0, 0])).set 48 (.inl [x7, 0, 0, 0, 0, 0, 0, 0, 0, 0, 0, 0, 0])).set 49 (.inl [(-1), 0, 0, 0, 0, 0, 0, 0, 0, 0, 0, 0, 0])) ++ [.inr (.inr (2, [.int x1, .int x2, .int x3, .int x4, .int x4, .int x6, .int x7, .int ((1 <<< (x4 &&& 31) : Int32) ||| (1 <<< (x4 &&& 31) : Int32)), .int (1 <<< (x6 &&& 31) : Int32), .int (-1)]))]))) ?_
    refine rr rfl (s_iinc (v := 7) rfl (by decide) rfl) ?_
    refine rr rfl s_goto ?_
    refine rr rfl (s_iload_n rfl) ?_
    refine rr rfl (s_bipush (v := 8) (by decide)) ?_
    refine rr rfl (s_icF (by decide)) ?_
    refine rr rfl (s_aload_n rfl) ?_
    refine rr rfl (s_getf rfl rfl) ?_
    refine rr rfl (s_iload_n rfl) ?_
    refine rr rfl (s_iconst (v := 0) (by decide)) ?_
    refine rr rfl (s_iastore (j := 7) (f' := (List.replicate 8 0)) rfl rfl (Nat.le_of_ble_eq_true rfl) rfl (Nat.le_of_ble_eq_true rfl) rfl (h' := (((((((((((hF.set 5 (.inl ((List.replicate 8 (0 : Int32)).set (Int32.toNatClampNeg x3) 8))).set 41 (.inr (.inr (9, [.int 4, .int 1, .ref 42, .ref 43, .ref 44, .ref 45, .ref 46, .ref 47, .ref 48, .ref 49, .ref 50, .ref 51, .int 0, .int 0, .int 0, .int 0, .int 0, .int 0, .int 0, .int 0, .ref 52, .int 0, .ref 53, .int 0, .ref 54, .int 0, .ref 55, .ref 56, .ref 57, .ref 58, .int 0, .ref 59, .ref 60])))).set 42 (.inl [x1, 0, 0, 0, 0, 0, 0, 0, 0, 0, 0, 0, 0])).set 43 (.inl [x2, 0, 0, 0, 0, 0, 0, 0, 0, 0, 0, 0, 0])).set 44 (.inl [x3, 0, 0, 0, 0, 0, 0, 0, 0, 0, 0, 0, 0])).set 45 (.inl [x4, 0, 0, 0, 0, 0, 0, 0, 0, 0, 0, 0, 0])).set 46 (.inl [x5, 0, 0, 0, 0, 0, 0, 0, 0, 0, 0, 0, 0])).set 47 (.inl [x6, 0, 0, 0, 0, 0, 0, 0, 0, 0, 0, 0, 0])).set 48 (.inl [x7, 0, 0, 0, 0, 0, 0, 0, 0, 0, 0, 0, 0])).set 49 (.inl [(-1), 0, 0, 0, 0, 0, 0, 0, 0, 0, 0, 0, 0])) ++ [.inr (.inr (2, [.int x1, .int x2, .int x3, .int x4, .int x4, .int x6, .int x7, .int ((1 <<< (x4 &&& 31) : Int32) ||| (1 <<< (x4 &&& 31) : Int32)), .int (1 <<< (x6 &&& 31) : Int32), .int (-1)]))]))) ?_
    refine rr rfl (s_iinc (v := 8) rfl (by decide) rfl) ?_
    refine rr rfl s_goto ?_
    refine rr rfl (s_iload_n rfl) ?_
    refine rr rfl (s_bipush (v := 8) (by decide)) ?_
    refine rr rfl (s_icT (by decide)) ?_
    refine rr rfl (s_iconst (v := 1) (by decide)) ?_
    refine rr rfl (s_istore_n rfl) ?_
    refine rr rfl (s_iconst (v := 1) (by decide)) ?_
    refine rr rfl (s_istore_n rfl) ?_
    refine rr rfl (s_iload_n rfl) ?_
    refine rr rfl (s_ifF (by decide)) ?_
    refine rr rfl (s_iload_n rfl) ?_
    refine rr rfl (s_ifF (by decide)) ?_
    refine rr rfl (s_iconst (v := 0) (by decide)) ?_
    refine rr rfl (s_istore_n rfl) ?_
    refine rr rfl (s_iconst (v := 0) (by decide)) ?_
    refine rr rfl (s_istore_n rfl) ?_
    refine rr rfl (s_iload_n rfl) ?_
    refine rr rfl (s_aload_n rfl) ?_
    refine rr rfl (s_getf rfl rfl) ?_
    refine rr rfl (s_icF (by decide)) ?_
    refine rr rfl (s_iconst (v := 0) (by decide)) ?_
    refine rr rfl (s_istore rfl) ?_
    refine rr rfl (s_aload_n rfl) ?_
    refine rr rfl (s_getf rfl rfl) ?_
    refine rr rfl (s_iload_n rfl) ?_
    refine rr rfl (s_iaload (j := 0) rfl rfl rfl) ?_
    refine rr rfl (s_ifF (ic_nne g1)) ?_
    refine rr rfl (s_aload_n rfl) ?_
    refine rr rfl (s_getf rfl rfl) ?_
    refine rr rfl (s_aload_n rfl) ?_
    refine rr rfl (s_getf rfl rfl) ?_
    refine rr rfl (s_iload_n rfl) ?_
    refine rr rfl (s_iaload (j := 0) rfl rfl rfl) ?_
    refine rr rfl (s_ialdR (n := 8) (x := 0) rfl g2 g3) ?_
    refine rr rfl (s_istore rfl) ?_
    refine rr rfl (s_aload_n rfl) ?_
    refine rr rfl (s_getf rfl rfl) ?_
    refine rr rfl (s_iload_n rfl) ?_
    refine rr rfl (s_iaload (j := 0) rfl rfl rfl) ?_
    refine rr rfl (s_iconst (v := (-1)) (by decide)) ?_
    refine rr rfl (s_icT (ic_eq g4)) ?_
    refine rr rfl (s_iload rfl) ?_
    refine rr rfl (s_istore rfl) ?_
    refine rr rfl (s_aload_n rfl) ?_
    refine rr rfl (s_getf rfl rfl) ?_
    refine rr rfl (s_iload_n rfl) ?_
    refine rr rfl (s_iaload (j := 0) rfl rfl rfl) ?_
    refine rr rfl (s_iconst (v := (-1)) (by decide)) ?_
    refine rr rfl (s_icF (ic_neq g5)) ?_
    refine rr rfl (s_aload_n rfl) ?_
    refine rr rfl (s_getf rfl rfl) ?_
    refine rr rfl (s_aload_n rfl) ?_
    refine rr rfl (s_getf rfl rfl) ?_
    refine rr rfl (s_iload_n rfl) ?_
    refine rr rfl (s_iaload (j := 0) rfl rfl rfl) ?_
    refine rr rfl (s_ialdR (n := 8) (x := 0) rfl g6 g7) ?_
    refine rr rfl (s_iconst (v := 1) (by decide)) ?_
    refine rr rfl (s_iadd (v := 1) (by decide)) ?_
    refine rr rfl (s_iload rfl) ?_
    refine rr rfl (s_icF (by decide)) ?_
    refine rr rfl (s_aload_n rfl) ?_
    refine rr rfl (s_getf rfl rfl) ?_
    refine rr rfl (s_aload_n rfl) ?_
    refine rr rfl (s_getf rfl rfl) ?_
    refine rr rfl (s_iload_n rfl) ?_
    refine rr rfl (s_iaload (j := 0) rfl rfl rfl) ?_
    refine rr rfl (s_ialdR (n := 8) (x := 0) rfl g6 g7) ?_
    refine rr rfl (s_iconst (v := 1) (by decide)) ?_
    refine rr rfl (s_iadd (v := 1) (by decide)) ?_
    refine rr rfl s_goto ?_
    refine rr rfl (s_istore rfl) ?_
    refine rr rfl (s_iload rfl) ?_
    refine rr rfl (s_aload_n rfl) ?_
    refine rr rfl (s_getf rfl rfl) ?_
    refine rr rfl (s_aload_n rfl) ?_
    refine rr rfl (s_getf rfl rfl) ?_
    refine rr rfl (s_iload_n rfl) ?_
    refine rr rfl (s_iaload (j := 0) rfl rfl rfl) ?_
    refine rr rfl (s_ialdR (n := 8) (x := 0) rfl g8 g9) ?_
    refine rr rfl (s_icF (by decide)) ?_
    refine rr rfl (s_aload_n rfl) ?_
    refine rr rfl (s_getf rfl rfl) ?_
    refine rr rfl (s_aload_n rfl) ?_
    refine rr rfl (s_getf rfl rfl) ?_
    refine rr rfl (s_iload_n rfl) ?_
    refine rr rfl (s_iaload (j := 0) rfl rfl rfl) ?_
    refine rr rfl (s_iload rfl) ?_
    refine rr rfl (s_iastR (n := 8) rfl g8 g9 (Nat.le_of_ble_eq_true rfl) rfl (h' := ((((((((((((hF.set 5 (.inl ((List.replicate 8 (0 : Int32)).set (Int32.toNatClampNeg x3) 8))).set 41 (.inr (.inr (9, [.int 4, .int 1, .ref 42, .ref 43, .ref 44, .ref 45, .ref 46, .ref 47, .ref 48, .ref 49, .ref 50, .ref 51, .int 0, .int 0, .int 0, .int 0, .int 0, .int 0, .int 0, .int 0, .ref 52, .int 0, .ref 53, .int 0, .ref 54, .int 0, .ref 55, .ref 56, .ref 57, .ref 58, .int 0, .ref 59, .ref 60])))).set 42 (.inl [x1, 0, 0, 0, 0, 0, 0, 0, 0, 0, 0, 0, 0])).set 43 (.inl [x2, 0, 0, 0, 0, 0, 0, 0, 0, 0, 0, 0, 0])).set 44 (.inl [x3, 0, 0, 0, 0, 0, 0, 0, 0, 0, 0, 0, 0])).set 45 (.inl [x4, 0, 0, 0, 0, 0, 0, 0, 0, 0, 0, 0, 0])).set 46 (.inl [x5, 0, 0, 0, 0, 0, 0, 0, 0, 0, 0, 0, 0])).set 47 (.inl [x6, 0, 0, 0, 0, 0, 0, 0, 0, 0, 0, 0, 0])).set 48 (.inl [x7, 0, 0, 0, 0, 0, 0, 0, 0, 0, 0, 0, 0])).set 49 (.inl [(-1), 0, 0, 0, 0, 0, 0, 0, 0, 0, 0, 0, 0])).set 51 (.inl ((List.replicate 8 (0 : Int32)).set (Int32.toNatClampNeg x3) 1))) ++ [.inr (.inr (2, [.int x1, .int x2, .int x3, .int x4, .int x4, .int x6, .int x7, .int ((1 <<< (x4 &&& 31) : Int32) ||| (1 <<< (x4 &&& 31) : Int32)), .int (1 <<< (x6 &&& 31) : Int32), .int (-1)]))]))) ?_
    refine rr rfl (s_iconst (v := 1) (by decide)) ?_
    refine rr rfl (s_istore_n rfl) ?_
    refine rr rfl (s_iload_n rfl) ?_
    refine rr rfl (s_ifF (by decide)) ?_
    refine rr rfl (s_iload rfl) ?_
    refine rr rfl (s_bipush (v := 8) (by decide)) ?_
    refine rr rfl (s_icF (by decide)) ?_
    refine rr rfl (s_iconst (v := 1) (by decide)) ?_
    refine rr rfl s_goto ?_
    refine rr rfl (s_istore_n rfl) ?_
    refine rr rfl (s_iinc (v := 1) rfl (by decide) rfl) ?_
    refine rr rfl s_goto ?_
    refine rr rfl (s_iload_n rfl) ?_
    refine rr rfl (s_aload_n rfl) ?_
    refine rr rfl (s_getf rfl rfl) ?_
    refine rr rfl (s_icT (by decide)) ?_
    refine rr rfl s_goto ?_
    refine rr rfl (s_iload_n rfl) ?_
    refine rr rfl (s_ifF (by decide)) ?_
    refine rr rfl (s_iload_n rfl) ?_
    refine rr rfl (s_ifF (by decide)) ?_
    refine rr rfl (s_iconst (v := 0) (by decide)) ?_
    refine rr rfl (s_istore_n rfl) ?_
    refine rr rfl (s_iconst (v := 0) (by decide)) ?_
    refine rr rfl (s_istore_n rfl) ?_
    refine rr rfl (s_iload_n rfl) ?_
    refine rr rfl (s_aload_n rfl) ?_
    refine rr rfl (s_getf rfl rfl) ?_
    refine rr rfl (s_icF (by decide)) ?_
    refine rr rfl (s_iconst (v := 0) (by decide)) ?_
    refine rr rfl (s_istore rfl) ?_
    refine rr rfl (s_aload_n rfl) ?_
    refine rr rfl (s_getf rfl rfl) ?_
    refine rr rfl (s_iload_n rfl) ?_
    refine rr rfl (s_iaload (j := 0) rfl rfl rfl) ?_
    refine rr rfl (s_ifF (ic_nne g1)) ?_
    refine rr rfl (s_aload_n rfl) ?_
    refine rr rfl (s_getf rfl rfl) ?_
    refine rr rfl (s_aload_n rfl) ?_
    refine rr rfl (s_getf rfl rfl) ?_
    refine rr rfl (s_iload_n rfl) ?_
    refine rr rfl (s_iaload (j := 0) rfl rfl rfl) ?_
    refine rr rfl (s_ialdH rfl g10 g8 g9) ?_
    refine rr rfl (s_istore rfl) ?_
    refine rr rfl (s_aload_n rfl) ?_
    refine rr rfl (s_getf rfl rfl) ?_
    refine rr rfl (s_iload_n rfl) ?_
    refine rr rfl (s_iaload (j := 0) rfl rfl rfl) ?_
    refine rr rfl (s_iconst (v := (-1)) (by decide)) ?_
    refine rr rfl (s_icT (ic_eq g4)) ?_
    refine rr rfl (s_iload rfl) ?_
    refine rr rfl (s_istore rfl) ?_
    refine rr rfl (s_aload_n rfl) ?_
    refine rr rfl (s_getf rfl rfl) ?_
    refine rr rfl (s_iload_n rfl) ?_
    refine rr rfl (s_iaload (j := 0) rfl rfl rfl) ?_
    refine rr rfl (s_iconst (v := (-1)) (by decide)) ?_
    refine rr rfl (s_icF (ic_neq g5)) ?_
    refine rr rfl (s_aload_n rfl) ?_
    refine rr rfl (s_getf rfl rfl) ?_
    refine rr rfl (s_aload_n rfl) ?_
    refine rr rfl (s_getf rfl rfl) ?_
    refine rr rfl (s_iload_n rfl) ?_
    refine rr rfl (s_iaload (j := 0) rfl rfl rfl) ?_
    refine rr rfl (s_ialdH rfl g11 g8 g9) ?_
    refine rr rfl (s_iconst (v := 1) (by decide)) ?_
    refine rr rfl (s_iadd (v := 2) (by decide)) ?_
    refine rr rfl (s_iload rfl) ?_
    refine rr rfl (s_icF (by decide)) ?_
    refine rr rfl (s_aload_n rfl) ?_
    refine rr rfl (s_getf rfl rfl) ?_
    refine rr rfl (s_aload_n rfl) ?_
    refine rr rfl (s_getf rfl rfl) ?_
    refine rr rfl (s_iload_n rfl) ?_
    refine rr rfl (s_iaload (j := 0) rfl rfl rfl) ?_
    refine rr rfl (s_ialdH rfl g11 g8 g9) ?_
    refine rr rfl (s_iconst (v := 1) (by decide)) ?_
    refine rr rfl (s_iadd (v := 2) (by decide)) ?_
    refine rr rfl s_goto ?_
    refine rr rfl (s_istore rfl) ?_
    refine rr rfl (s_iload rfl) ?_
    refine rr rfl (s_aload_n rfl) ?_
    refine rr rfl (s_getf rfl rfl) ?_
    refine rr rfl (s_aload_n rfl) ?_
    refine rr rfl (s_getf rfl rfl) ?_
    refine rr rfl (s_iload_n rfl) ?_
    refine rr rfl (s_iaload (j := 0) rfl rfl rfl) ?_
    refine rr rfl (s_ialdH rfl rfl g8 g9) ?_
    refine rr rfl (s_icF (by decide)) ?_
    refine rr rfl (s_aload_n rfl) ?_
    refine rr rfl (s_getf rfl rfl) ?_
    refine rr rfl (s_aload_n rfl) ?_
    refine rr rfl (s_getf rfl rfl) ?_
    refine rr rfl (s_iload_n rfl) ?_
    refine rr rfl (s_iaload (j := 0) rfl rfl rfl) ?_
    refine rr rfl (s_iload rfl) ?_
    refine rr rfl (s_iastH (v := 2) rfl rfl g8 g9 (Nat.le_of_ble_eq_true rfl) rfl (h' := ((((((((((((hF.set 5 (.inl ((List.replicate 8 (0 : Int32)).set (Int32.toNatClampNeg x3) 8))).set 41 (.inr (.inr (9, [.int 4, .int 1, .ref 42, .ref 43, .ref 44, .ref 45, .ref 46, .ref 47, .ref 48, .ref 49, .ref 50, .ref 51, .int 0, .int 0, .int 0, .int 0, .int 0, .int 0, .int 0, .int 0, .ref 52, .int 0, .ref 53, .int 0, .ref 54, .int 0, .ref 55, .ref 56, .ref 57, .ref 58, .int 0, .ref 59, .ref 60])))).set 42 (.inl [x1, 0, 0, 0, 0, 0, 0, 0, 0, 0, 0, 0, 0])).set 43 (.inl [x2, 0, 0, 0, 0, 0, 0, 0, 0, 0, 0, 0, 0])).set 44 (.inl [x3, 0, 0, 0, 0, 0, 0, 0, 0, 0, 0, 0, 0])).set 45 (.inl [x4, 0, 0, 0, 0, 0, 0, 0, 0, 0, 0, 0, 0])).set 46 (.inl [x5, 0, 0, 0, 0, 0, 0, 0, 0, 0, 0, 0, 0])).set 47 (.inl [x6, 0, 0, 0, 0, 0, 0, 0, 0, 0, 0, 0, 0])).set 48 (.inl [x7, 0, 0, 0, 0, 0, 0, 0, 0, 0, 0, 0, 0])).set 49 (.inl [(-1), 0, 0, 0, 0, 0, 0, 0, 0, 0, 0, 0, 0])).set 51 (.inl ((List.replicate 8 (0 : Int32)).set (Int32.toNatClampNeg x3) 2))) ++ [.inr (.inr (2, [.int x1, .int x2, .int x3, .int x4, .int x4, .int x6, .int x7, .int ((1 <<< (x4 &&& 31) : Int32) ||| (1 <<< (x4 &&& 31) : Int32)), .int (1 <<< (x6 &&& 31) : Int32), .int (-1)]))]))) ?_
    refine rr rfl (s_iconst (v := 1) (by decide)) ?_
    refine rr rfl (s_istore_n rfl) ?_
    refine rr rfl (s_iload_n rfl) ?_
    refine rr rfl (s_ifF (by decide)) ?_
    refine rr rfl (s_iload rfl) ?_
    refine rr rfl (s_bipush (v := 8) (by decide)) ?_
    refine rr rfl (s_icF (by decide)) ?_
    refine rr rfl (s_iconst (v := 1) (by decide)) ?_
    refine rr rfl s_goto ?_
    refine rr rfl (s_istore_n rfl) ?_
    refine rr rfl (s_iinc (v := 1) rfl (by decide) rfl) ?_
    refine rr rfl s_goto ?_
    refine rr rfl (s_iload_n rfl) ?_
    refine rr rfl (s_aload_n rfl) ?_
    refine rr rfl (s_getf rfl rfl) ?_
    refine rr rfl (s_icT (by decide)) ?_
    refine rr rfl s_goto ?_
    refine rr rfl (s_iload_n rfl) ?_
    refine rr rfl (s_ifF (by decide)) ?_
    refine rr rfl (s_iload_n rfl) ?_
    refine rr rfl (s_ifF (by decide)) ?_
    refine rr rfl (s_iconst (v := 0) (by decide)) ?_
    refine rr rfl (s_istore_n rfl) ?_
    refine rr rfl (s_iconst (v := 0) (by decide)) ?_
    refine rr rfl (s_istore_n rfl) ?_
    refine rr rfl (s_iload_n rfl) ?_
    refine rr rfl (s_aload_n rfl) ?_
    refine rr rfl (s_getf rfl rfl) ?_
    refine rr rfl (s_icF (by decide)) ?_
    refine rr rfl (s_iconst (v := 0) (by decide)) ?_
    refine rr rfl (s_istore rfl) ?_
    refine rr rfl (s_aload_n rfl) ?_
    refine rr rfl (s_getf rfl rfl) ?_
    refine rr rfl (s_iload_n rfl) ?_
    refine rr rfl (s_iaload (j := 0) rfl rfl rfl) ?_
    refine rr rfl (s_ifF (ic_nne g1)) ?_
    refine rr rfl (s_aload_n rfl) ?_
    refine rr rfl (s_getf rfl rfl) ?_
    refine rr rfl (s_aload_n rfl) ?_
    refine rr rfl (s_getf rfl rfl) ?_
    refine rr rfl (s_iload_n rfl) ?_
    refine rr rfl (s_iaload (j := 0) rfl rfl rfl) ?_
    refine rr rfl (s_ialdH rfl g10 g8 g9) ?_
    refine rr rfl (s_istore rfl) ?_
    refine rr rfl (s_aload_n rfl) ?_
    refine rr rfl (s_getf rfl rfl) ?_
    refine rr rfl (s_iload_n rfl) ?_
    refine rr rfl (s_iaload (j := 0) rfl rfl rfl) ?_
    refine rr rfl (s_iconst (v := (-1)) (by decide)) ?_
    refine rr rfl (s_icT (ic_eq g4)) ?_
    refine rr rfl (s_iload rfl) ?_
    refine rr rfl (s_istore rfl) ?_
    refine rr rfl (s_aload_n rfl) ?_
    refine rr rfl (s_getf rfl rfl) ?_
    refine rr rfl (s_iload_n rfl) ?_
    refine rr rfl (s_iaload (j := 0) rfl rfl rfl) ?_
    refine rr rfl (s_iconst (v := (-1)) (by decide)) ?_
    refine rr rfl (s_icF (ic_neq g5)) ?_
    refine rr rfl (s_aload_n rfl) ?_
    refine rr rfl (s_getf rfl rfl) ?_
    refine rr rfl (s_aload_n rfl) ?_
    refine rr rfl (s_getf rfl rfl) ?_
    refine rr rfl (s_iload_n rfl) ?_
    refine rr rfl (s_iaload (j := 0) rfl rfl rfl) ?_
    refine rr rfl (s_ialdH rfl g11 g8 g9) ?_
    refine rr rfl (s_iconst (v := 1) (by decide)) ?_
    refine rr rfl (s_iadd (v := 3) (by decide)) ?_
    refine rr rfl (s_iload rfl) ?_
    refine rr rfl (s_icF (by decide)) ?_
    refine rr rfl (s_aload_n rfl) ?_
    refine rr rfl (s_getf rfl rfl) ?_
    refine rr rfl (s_aload_n rfl) ?_
    refine rr rfl (s_getf rfl rfl) ?_
    refine rr rfl (s_iload_n rfl) ?_
    refine rr rfl (s_iaload (j := 0) rfl rfl rfl) ?_
    refine rr rfl (s_ialdH rfl g11 g8 g9) ?_
    refine rr rfl (s_iconst (v := 1) (by decide)) ?_
    refine rr rfl (s_iadd (v := 3) (by decide)) ?_
    refine rr rfl s_goto ?_
    refine rr rfl (s_istore rfl) ?_
    refine rr rfl (s_iload rfl) ?_
    refine rr rfl (s_aload_n rfl) ?_
    refine rr rfl (s_getf rfl rfl) ?_
    refine rr rfl (s_aload_n rfl) ?_
    refine rr rfl (s_getf rfl rfl) ?_
    refine rr rfl (s_iload_n rfl) ?_
    refine rr rfl (s_iaload (j := 0) rfl rfl rfl) ?_
    refine rr rfl (s_ialdH rfl rfl g8 g9) ?_
    refine rr rfl (s_icF (by decide)) ?_
    refine rr rfl (s_aload_n rfl) ?_
    refine rr rfl (s_getf rfl rfl) ?_
    refine rr rfl (s_aload_n rfl) ?_
    refine rr rfl (s_getf rfl rfl) ?_
    refine rr rfl (s_iload_n rfl) ?_
    refine rr rfl (s_iaload (j := 0) rfl rfl rfl) ?_
    refine rr rfl (s_iload rfl) ?_
    refine rr rfl (s_iastH (v := 3) rfl rfl g8 g9 (Nat.le_of_ble_eq_true rfl) rfl (h' := ((((((((((((hF.set 5 (.inl ((List.replicate 8 (0 : Int32)).set (Int32.toNatClampNeg x3) 8))).set 41 (.inr (.inr (9, [.int 4, .int 1, .ref 42, .ref 43, .ref 44, .ref 45, .ref 46, .ref 47, .ref 48, .ref 49, .ref 50, .ref 51, .int 0, .int 0, .int 0, .int 0, .int 0, .int 0, .int 0, .int 0, .ref 52, .int 0, .ref 53, .int 0, .ref 54, .int 0, .ref 55, .ref 56, .ref 57, .ref 58, .int 0, .ref 59, .ref 60])))).set 42 (.inl [x1, 0, 0, 0, 0, 0, 0, 0, 0, 0, 0, 0, 0])).set 43 (.inl [x2, 0, 0, 0, 0, 0, 0, 0, 0, 0, 0, 0, 0])).set 44 (.inl [x3, 0, 0, 0, 0, 0, 0, 0, 0, 0, 0, 0, 0])).set 45 (.inl [x4, 0, 0, 0, 0, 0, 0, 0, 0, 0, 0, 0, 0])).set 46 (.inl [x5, 0, 0, 0, 0, 0, 0, 0, 0, 0, 0, 0, 0])).set 47 (.inl [x6, 0, 0, 0, 0, 0, 0, 0, 0, 0, 0, 0, 0])).set 48 (.inl [x7, 0, 0, 0, 0, 0, 0, 0, 0, 0, 0, 0, 0])).set 49 (.inl [(-1), 0, 0, 0, 0, 0, 0, 0, 0, 0, 0, 0, 0])).set 51 (.inl ((List.replicate 8 (0 : Int32)).set (Int32.toNatClampNeg x3) 3))) ++ [.inr (.inr (2, [.int x1, .int x2, .int x3, .int x4, .int x4, .int x6, .int x7, .int ((1 <<< (x4 &&& 31) : Int32) ||| (1 <<< (x4 &&& 31) : Int32)), .int (1 <<< (x6 &&& 31) : Int32), .int (-1)]))]))) ?_
    refine rr rfl (s_iconst (v := 1) (by decide)) ?_
    refine rr rfl (s_istore_n rfl) ?_
    refine rr rfl (s_iload_n rfl) ?_
    refine rr rfl (s_ifF (by decide)) ?_
    refine rr rfl (s_iload rfl) ?_
    refine rr rfl (s_bipush (v := 8) (by decide)) ?_
    refine rr rfl (s_icF (by decide)) ?_
    refine rr rfl (s_iconst (v := 1) (by decide)) ?_
    refine rr rfl s_goto ?_
    refine rr rfl (s_istore_n rfl) ?_
    refine rr rfl (s_iinc (v := 1) rfl (by decide) rfl) ?_
    refine rr rfl s_goto ?_
    refine rr rfl (s_iload_n rfl) ?_
    refine rr rfl (s_aload_n rfl) ?_
    refine rr rfl (s_getf rfl rfl) ?_
    refine rr rfl (s_icT (by decide)) ?_
    refine rr rfl s_goto ?_
    refine rr rfl (s_iload_n rfl) ?_
    refine rr rfl (s_ifF (by decide)) ?_
    refine rr rfl (s_iload_n rfl) ?_
    refine rr rfl (s_ifF (by decide)) ?_
    refine rr rfl (s_iconst (v := 0) (by decide)) ?_
    refine rr rfl (s_istore_n rfl) ?_
    refine rr rfl (s_iconst (v := 0) (by decide)) ?_
    refine rr rfl (s_istore_n rfl) ?_
    refine rr rfl (s_iload_n rfl) ?_
    refine rr rfl (s_aload_n rfl) ?_
    refine rr rfl (s_getf rfl rfl) ?_
    refine rr rfl (s_icF (by decide)) ?_
    refine rr rfl (s_iconst (v := 0) (by decide)) ?_
    refine rr rfl (s_istore rfl) ?_
    refine rr rfl (s_aload_n rfl) ?_
    refine rr rfl (s_getf rfl rfl) ?_
    refine rr rfl (s_iload_n rfl) ?_
    refine rr rfl (s_iaload (j := 0) rfl rfl rfl) ?_
    refine rr rfl (s_ifF (ic_nne g1)) ?_
    refine rr rfl (s_aload_n rfl) ?_
    refine rr rfl (s_getf rfl rfl) ?_
    refine rr rfl (s_aload_n rfl) ?_
    refine rr rfl (s_getf rfl rfl) ?_
    refine rr rfl (s_iload_n rfl) ?_
    refine rr rfl (s_iaload (j := 0) rfl rfl rfl) ?_
    refine rr rfl (s_ialdH rfl g10 g8 g9) ?_
    refine rr rfl (s_istore rfl) ?_
    refine rr rfl (s_aload_n rfl) ?_
    refine rr rfl (s_getf rfl rfl) ?_
    refine rr rfl (s_iload_n rfl) ?_
    refine rr rfl (s_iaload (j := 0) rfl rfl rfl) ?_
    refine rr rfl (s_iconst (v := (-1)) (by decide)) ?_
    refine rr rfl (s_icT (ic_eq g4)) ?_
    refine rr rfl (s_iload rfl) ?_
    refine rr rfl (s_istore rfl) ?_
    refine rr rfl (s_aload_n rfl) ?_
    refine rr rfl (s_getf rfl rfl) ?_
    refine rr rfl (s_iload_n rfl) ?_
    refine rr rfl (s_iaload (j := 0) rfl rfl rfl) ?_
    refine rr rfl (s_iconst (v := (-1)) (by decide)) ?_
    refine rr rfl (s_icF (ic_neq g5)) ?_
    refine rr rfl (s_aload_n rfl) ?_
    refine rr rfl (s_getf rfl rfl) ?_
    refine rr rfl (s_aload_n rfl) ?_
    refine rr rfl (s_getf rfl rfl) ?_
    refine rr rfl (s_iload_n rfl) ?_
    refine rr rfl (s_iaload (j := 0) rfl rfl rfl) ?_
    refine rr rfl (s_ialdH rfl g11 g8 g9) ?_
    refine rr rfl (s_iconst (v := 1) (by decide)) ?_
    refine rr rfl (s_iadd (v := 4) (by decide)) ?_
    refine rr rfl (s_iload rfl) ?_
    refine rr rfl (s_icF (by decide)) ?_
    refine rr rfl (s_aload_n rfl) ?_
    refine rr rfl (s_getf rfl rfl) ?_
    refine rr rfl (s_aload_n rfl) ?_
    refine rr rfl (s_getf rfl rfl) ?_
    refine rr rfl (s_iload_n rfl) ?_
    refine rr rfl (s_iaload (j := 0) rfl rfl rfl) ?_
    refine rr rfl (s_ialdH rfl g11 g8 g9) ?_
    refine rr rfl (s_iconst (v := 1) (by decide)) ?_
    refine rr rfl (s_iadd (v := 4) (by decide)) ?_
    refine rr rfl s_goto ?_
    refine rr rfl (s_istore rfl) ?_
    refine rr rfl (s_iload rfl) ?_
    refine rr rfl (s_aload_n rfl) ?_
    refine rr rfl (s_getf rfl rfl) ?_
    refine rr rfl (s_aload_n rfl) ?_
    refine rr rfl (s_getf rfl rfl) ?_
    refine rr rfl (s_iload_n rfl) ?_
    refine rr rfl (s_iaload (j := 0) rfl rfl rfl) ?_
    refine rr rfl (s_ialdH rfl rfl g8 g9) ?_
    refine rr rfl (s_icF (by decide)) ?_
    refine rr rfl (s_aload_n rfl) ?_
    refine rr rfl (s_getf rfl rfl) ?_
    refine rr rfl (s_aload_n rfl) ?_
    refine rr rfl (s_getf rfl rfl) ?_
    refine rr rfl (s_iload_n rfl) ?_
    refine rr rfl (s_iaload (j := 0) rfl rfl rfl) ?_
    refine rr rfl (s_iload rfl) ?_
    refine rr rfl (s_iastH (v := 4) rfl rfl g8 g9 (Nat.le_of_ble_eq_true rfl) rfl (h' := ((((((((((((hF.set 5 (.inl ((List.replicate 8 (0 : Int32)).set (Int32.toNatClampNeg x3) 8))).set 41 (.inr (.inr (9, [.int 4, .int 1, .ref 42, .ref 43, .ref 44, .ref 45, .ref 46, .ref 47, .ref 48, .ref 49, .ref 50, .ref 51, .int 0, .int 0, .int 0, .int 0, .int 0, .int 0, .int 0, .int 0, .ref 52, .int 0, .ref 53, .int 0, .ref 54, .int 0, .ref 55, .ref 56, .ref 57, .ref 58, .int 0, .ref 59, .ref 60])))).set 42 (.inl [x1, 0, 0, 0, 0, 0, 0, 0, 0, 0, 0, 0, 0])).set 43 (.inl [x2, 0, 0, 0, 0, 0, 0, 0, 0, 0, 0, 0, 0])).set 44 (.inl [x3, 0, 0, 0, 0, 0, 0, 0, 0, 0, 0, 0, 0])).set 45 (.inl [x4, 0, 0, 0, 0, 0, 0, 0, 0, 0, 0, 0, 0])).set 46 (.inl [x5, 0, 0, 0, 0, 0, 0, 0, 0, 0, 0, 0, 0])).set 47 (.inl [x6, 0, 0, 0, 0, 0, 0, 0, 0, 0, 0, 0, 0])).set 48 (.inl [x7, 0, 0, 0, 0, 0, 0, 0, 0, 0, 0, 0, 0])).set 49 (.inl [(-1), 0, 0, 0, 0, 0, 0, 0, 0, 0, 0, 0, 0])).set 51 (.inl ((List.replicate 8 (0 : Int32)).set (Int32.toNatClampNeg x3) 4))) ++ [.inr (.inr (2, [.int x1, .int x2, .int x3, .int x4, .int x4, .int x6, .int x7, .int ((1 <<< (x4 &&& 31) : Int32) ||| (1 <<< (x4 &&& 31) : Int32)), .int (1 <<< (x6 &&& 31) : Int32), .int (-1)]))]))) ?_
    refine rr rfl (s_iconst (v := 1) (by decide)) ?_
    refine rr rfl (s_istore_n rfl) ?_
    refine rr rfl (s_iload_n rfl) ?_
    refine rr rfl (s_ifF (by decide)) ?_
    refine rr rfl (s_iload rfl) ?_
    refine rr rfl (s_bipush (v := 8) (by decide)) ?_
    refine rr rfl (s_icF (by decide)) ?_
    refine rr rfl (s_iconst (v := 1) (by decide)) ?_
    refine rr rfl s_goto ?_
    refine rr rfl (s_istore_n rfl) ?_
    refine rr rfl (s_iinc (v := 1) rfl (by decide) rfl) ?_
    refine rr rfl s_goto ?_
    refine rr rfl (s_iload_n rfl) ?_
    refine rr rfl (s_aload_n rfl) ?_
    refine rr rfl (s_getf rfl rfl) ?_
    refine rr rfl (s_icT (by decide)) ?_
    refine rr rfl s_goto ?_
    refine rr rfl (s_iload_n rfl) ?_
    refine rr rfl (s_ifF (by decide)) ?_
    refine rr rfl (s_iload_n rfl) ?_
    refine rr rfl (s_ifF (by decide)) ?_
    refine rr rfl (s_iconst (v := 0) (by decide)) ?_
    refine rr rfl (s_istore_n rfl) ?_
    refine rr rfl (s_iconst (v := 0) (by decide)) ?_
    refine rr rfl (s_istore_n rfl) ?_
    refine rr rfl (s_iload_n rfl) ?_
    refine rr rfl (s_aload_n rfl) ?_
    refine rr rfl (s_getf rfl rfl) ?_
    refine rr rfl (s_icF (by decide)) ?_
    refine rr rfl (s_iconst (v := 0) (by decide)) ?_
    refine rr rfl (s_istore rfl) ?_
    refine rr rfl (s_aload_n rfl) ?_
    refine rr rfl (s_getf rfl rfl) ?_
    refine rr rfl (s_iload_n rfl) ?_
    refine rr rfl (s_iaload (j := 0) rfl rfl rfl) ?_
    refine rr rfl (s_ifF (ic_nne g1)) ?_
    refine rr rfl (s_aload_n rfl) ?_
    refine rr rfl (s_getf rfl rfl) ?_
    refine rr rfl (s_aload_n rfl) ?_
    refine rr rfl (s_getf rfl rfl) ?_
    refine rr rfl (s_iload_n rfl) ?_
    refine rr rfl (s_iaload (j := 0) rfl rfl rfl) ?_
    refine rr rfl (s_ialdH rfl g10 g8 g9) ?_
    refine rr rfl (s_istore rfl) ?_
    refine rr rfl (s_aload_n rfl) ?_
    refine rr rfl (s_getf rfl rfl) ?_
    refine rr rfl (s_iload_n rfl) ?_
    refine rr rfl (s_iaload (j := 0) rfl rfl rfl) ?_
    refine rr rfl (s_iconst (v := (-1)) (by decide)) ?_
    refine rr rfl (s_icT (ic_eq g4)) ?_
    refine rr rfl (s_iload rfl) ?_
    refine rr rfl (s_istore rfl) ?_
    refine rr rfl (s_aload_n rfl) ?_
    refine rr rfl (s_getf rfl rfl) ?_
    refine rr rfl (s_iload_n rfl) ?_
    refine rr rfl (s_iaload (j := 0) rfl rfl rfl) ?_
    refine rr rfl (s_iconst (v := (-1)) (by decide)) ?_
    refine rr rfl (s_icF (ic_neq g5)) ?_
    refine rr rfl (s_aload_n rfl) ?_
    refine rr rfl (s_getf rfl rfl) ?_
    refine rr rfl (s_aload_n rfl) ?_
    refine rr rfl (s_getf rfl rfl) ?_
    refine rr rfl (s_iload_n rfl) ?_
    refine rr rfl (s_iaload (j := 0) rfl rfl rfl) ?_
    refine rr rfl (s_ialdH rfl g11 g8 g9) ?_
    refine rr rfl (s_iconst (v := 1) (by decide)) ?_
    refine rr rfl (s_iadd (v := 5) (by decide)) ?_
    refine rr rfl (s_iload rfl) ?_
    refine rr rfl (s_icF (by decide)) ?_
    refine rr rfl (s_aload_n rfl) ?_
    refine rr rfl (s_getf rfl rfl) ?_
    refine rr rfl (s_aload_n rfl) ?_
    refine rr rfl (s_getf rfl rfl) ?_
    refine rr rfl (s_iload_n rfl) ?_
    refine rr rfl (s_iaload (j := 0) rfl rfl rfl) ?_
    refine rr rfl (s_ialdH rfl g11 g8 g9) ?_
    refine rr rfl (s_iconst (v := 1) (by decide)) ?_
    refine rr rfl (s_iadd (v := 5) (by decide)) ?_
    refine rr rfl s_goto ?_
    refine rr rfl (s_istore rfl) ?_
    refine rr rfl (s_iload rfl) ?_
    refine rr rfl (s_aload_n rfl) ?_
    refine rr rfl (s_getf rfl rfl) ?_
    refine rr rfl (s_aload_n rfl) ?_
    refine rr rfl (s_getf rfl rfl) ?_
    refine rr rfl (s_iload_n rfl) ?_
    refine rr rfl (s_iaload (j := 0) rfl rfl rfl) ?_
    refine rr rfl (s_ialdH rfl rfl g8 g9) ?_
    refine rr rfl (s_icF (by decide)) ?_
    refine rr rfl (s_aload_n rfl) ?_
    refine rr rfl (s_getf rfl rfl) ?_
    refine rr rfl (s_aload_n rfl) ?_
    refine rr rfl (s_getf rfl rfl) ?_
    refine rr rfl (s_iload_n rfl) ?_
    refine rr rfl (s_iaload (j := 0) rfl rfl rfl) ?_
    refine rr rfl (s_iload rfl) ?_
    refine rr rfl (s_iastH (v := 5) rfl rfl g8 g9 (Nat.le_of_ble_eq_true rfl) rfl (h' := ((((((((((((hF.set 5 (.inl ((List.replicate 8 (0 : Int32)).set (Int32.toNatClampNeg x3) 8))).set 41 (.inr (.inr (9, [.int 4, .int 1, .ref 42, .ref 43, .ref 44, .ref 45, .ref 46, .ref 47, .ref 48, .ref 49, .ref 50, .ref 51, .int 0, .int 0, .int 0, .int 0, .int 0, .int 0, .int 0, .int 0, .ref 52, .int 0, .ref 53, .int 0, .ref 54, .int 0, .ref 55, .ref 56, .ref 57, .ref 58, .int 0, .ref 59, .ref 60])))).set 42 (.inl [x1, 0, 0, 0, 0, 0, 0, 0, 0, 0, 0, 0, 0])).set 43 (.inl [x2, 0, 0, 0, 0, 0, 0, 0, 0, 0, 0, 0, 0])).set 44 (.inl [x3, 0, 0, 0, 0, 0, 0, 0, 0, 0, 0, 0, 0])).set 45 (.inl [x4, 0, 0, 0, 0, 0, 0, 0, 0, 0, 0, 0, 0])).set 46 (.inl [x5, 0, 0, 0, 0, 0, 0, 0, 0, 0, 0, 0, 0])).set 47 (.inl [x6, 0, 0, 0, 0, 0, 0, 0, 0, 0, 0, 0, 0])).set 48 (.inl [x7, 0, 0, 0, 0, 0, 0, 0, 0, 0, 0, 0, 0])).set 49 (.inl [(-1), 0, 0, 0, 0, 0, 0, 0, 0, 0, 0, 0, 0])).set 51 (.inl ((List.replicate 8 (0 : Int32)).set (Int32.toNatClampNeg x3) 5))) ++ [.inr (.inr (2, [.int x1, .int x2, .int x3, .int x4, .int x4, .int x6, .int x7, .int ((1 <<< (x4 &&& 31) : Int32) ||| (1 <<< (x4 &&& 31) : Int32)), .int (1 <<< (x6 &&& 31) : Int32), .int (-1)]))]))) ?_
    refine rr rfl (s_iconst (v := 1) (by decide)) ?_
    refine rr rfl (s_istore_n rfl) ?_
    refine rr rfl (s_iload_n rfl) ?_
    refine rr rfl (s_ifF (by decide)) ?_
    refine rr rfl (s_iload rfl) ?_
    refine rr rfl (s_bipush (v := 8) (by decide)) ?_
    refine rr rfl (s_icF (by decide)) ?_
    refine rr rfl (s_iconst (v := 1) (by decide)) ?_
    refine rr rfl s_goto ?_
    refine rr rfl (s_istore_n rfl) ?_
    refine rr rfl (s_iinc (v := 1) rfl (by decide) rfl) ?_
    refine rr rfl s_goto ?_
    refine rr rfl (s_iload_n rfl) ?_
    refine rr rfl (s_aload_n rfl) ?_
    refine rr rfl (s_getf rfl rfl) ?_
    refine rr rfl (s_icT (by decide)) ?_
    refine rr rfl s_goto ?_
    refine rr rfl (s_iload_n rfl) ?_
    refine rr rfl (s_ifF (by decide)) ?_
    refine rr rfl (s_iload_n rfl) ?_
    refine rr rfl (s_ifF (by decide)) ?_
    refine rr rfl (s_iconst (v := 0) (by decide)) ?_
    refine rr rfl (s_istore_n rfl) ?_
    refine rr rfl (s_iconst (v := 0) (by decide)) ?_
    refine rr rfl (s_istore_n rfl) ?_
    refine rr rfl (s_iload_n rfl) ?_
    refine rr rfl (s_aload_n rfl) ?_
    refine rr rfl (s_getf rfl rfl) ?_
    refine rr rfl (s_icF (by decide)) ?_
    refine rr rfl (s_iconst (v := 0) (by decide)) ?_
    refine rr rfl (s_istore rfl) ?_
    refine rr rfl (s_aload_n rfl) ?_
    refine rr rfl (s_getf rfl rfl) ?_
    refine rr rfl (s_iload_n rfl) ?_
    refine rr rfl (s_iaload (j := 0) rfl rfl rfl) ?_
    refine rr rfl (s_ifF (ic_nne g1)) ?_
    refine rr rfl (s_aload_n rfl) ?_
    refine rr rfl (s_getf rfl rfl) ?_
    refine rr rfl (s_aload_n rfl) ?_
    refine rr rfl (s_getf rfl rfl) ?_
    refine rr rfl (s_iload_n rfl) ?_
    refine rr rfl (s_iaload (j := 0) rfl rfl rfl) ?_
    refine rr rfl (s_ialdH rfl g10 g8 g9) ?_
    refine rr rfl (s_istore rfl) ?_
    refine rr rfl (s_aload_n rfl) ?_
    refine rr rfl (s_getf rfl rfl) ?_
    refine rr rfl (s_iload_n rfl) ?_
    refine rr rfl (s_iaload (j := 0) rfl rfl rfl) ?_
    refine rr rfl (s_iconst (v := (-1)) (by decide)) ?_
    refine rr rfl (s_icT (ic_eq g4)) ?_
    refine rr rfl (s_iload rfl) ?_
    refine rr rfl (s_istore rfl) ?_
    refine rr rfl (s_aload_n rfl) ?_
    refine rr rfl (s_getf rfl rfl) ?_
    refine rr rfl (s_iload_n rfl) ?_
    refine rr rfl (s_iaload (j := 0) rfl rfl rfl) ?_
    refine rr rfl (s_iconst (v := (-1)) (by decide)) ?_
    refine rr rfl (s_icF (ic_neq g5)) ?_
    refine rr rfl (s_aload_n rfl) ?_
    refine rr rfl (s_getf rfl rfl) ?_
    refine rr rfl (s_aload_n rfl) ?_
    refine rr rfl (s_getf rfl rfl) ?_
    refine rr rfl (s_iload_n rfl) ?_
    refine rr rfl (s_iaload (j := 0) rfl rfl rfl) ?_
    refine rr rfl (s_ialdH rfl g11 g8 g9) ?_
    refine rr rfl (s_iconst (v := 1) (by decide)) ?_
    refine rr rfl (s_iadd (v := 6) (by decide)) ?_
    refine rr rfl (s_iload rfl) ?_
    refine rr rfl (s_icF (by decide)) ?_
    refine rr rfl (s_aload_n rfl) ?_
    refine rr rfl (s_getf rfl rfl) ?_
    refine rr rfl (s_aload_n rfl) ?_
    refine rr rfl (s_getf rfl rfl) ?_
    refine rr rfl (s_iload_n rfl) ?_
    refine rr rfl (s_iaload (j := 0) rfl rfl rfl) ?_
    refine rr rfl (s_ialdH rfl g11 g8 g9) ?_
    refine rr rfl (s_iconst (v := 1) (by decide)) ?_
    refine rr rfl (s_iadd (v := 6) (by decide)) ?_
    refine rr rfl s_goto ?_
    refine rr rfl (s_istore rfl) ?_
    refine rr rfl (s_iload rfl) ?_
    refine rr rfl (s_aload_n rfl) ?_
    refine rr rfl (s_getf rfl rfl) ?_
    refine rr rfl (s_aload_n rfl) ?_
    refine rr rfl (s_getf rfl rfl) ?_
    refine rr rfl (s_iload_n rfl) ?_
    refine rr rfl (s_iaload (j := 0) rfl rfl rfl) ?_
    refine rr rfl (s_ialdH rfl rfl g8 g9) ?_
    refine rr rfl (s_icF (by decide)) ?_
    refine rr rfl (s_aload_n rfl) ?_
    refine rr rfl (s_getf rfl rfl) ?_
    refine rr rfl (s_aload_n rfl) ?_
    refine rr rfl (s_getf rfl rfl) ?_
    refine rr rfl (s_iload_n rfl) ?_
    refine rr rfl (s_iaload (j := 0) rfl rfl rfl) ?_
    refine rr rfl (s_iload rfl) ?_
    refine rr rfl (s_iastH (v := 6) rfl rfl g8 g9 (Nat.le_of_ble_eq_true rfl) rfl (h' := ((((((((((((hF.set 5 (.inl ((List.replicate 8 (0 : Int32)).set (Int32.toNatClampNeg x3) 8))).set 41 (.inr (.inr (9, [.int 4, .int 1, .ref 42, .ref 43, .ref 44, .ref 45, .ref 46, .ref 47, .ref 48, .ref 49, .ref 50, .ref 51, .int 0, .int 0, .int 0, .int 0, .int 0, .int 0, .int 0, .int 0, .ref 52, .int 0, .ref 53, .int 0, .ref 54, .int 0, .ref 55, .ref 56, .ref 57, .ref 58, .int 0, .ref 59, .ref 60])))).set 42 (.inl [x1, 0, 0, 0, 0, 0, 0, 0, 0, 0, 0, 0, 0])).set 43 (.inl [x2, 0, 0, 0, 0, 0, 0, 0, 0, 0, 0, 0, 0])).set 44 (.inl [x3, 0, 0, 0, 0, 0, 0, 0, 0, 0, 0, 0, 0])).set 45 (.inl [x4, 0, 0, 0, 0, 0, 0, 0, 0, 0, 0, 0, 0])).set 46 (.inl [x5, 0, 0, 0, 0, 0, 0, 0, 0, 0, 0, 0, 0])).set 47 (.inl [x6, 0, 0, 0, 0, 0, 0, 0, 0, 0, 0, 0, 0])).set 48 (.inl [x7, 0, 0, 0, 0, 0, 0, 0, 0, 0, 0, 0, 0])).set 49 (.inl [(-1), 0, 0, 0, 0, 0, 0, 0, 0, 0, 0, 0, 0])).set 51 (.inl ((List.replicate 8 (0 : Int32)).set (Int32.toNatClampNeg x3) 6))) ++ [.inr (.inr (2, [.int x1, .int x2, .int x3, .int x4, .int x4, .int x6, .int x7, .int ((1 <<< (x4 &&& 31) : Int32) ||| (1 <<< (x4 &&& 31) : Int32)), .int (1 <<< (x6 &&& 31) : Int32), .int (-1)]))]))) ?_
    refine rr rfl (s_iconst (v := 1) (by decide)) ?_
    refine rr rfl (s_istore_n rfl) ?_
    refine rr rfl (s_iload_n rfl) ?_
    refine rr rfl (s_ifF (by decide)) ?_
    refine rr rfl (s_iload rfl) ?_
    refine rr rfl (s_bipush (v := 8) (by decide)) ?_
    refine rr rfl (s_icF (by decide)) ?_
    refine rr rfl (s_iconst (v := 1) (by decide)) ?_
    refine rr rfl s_goto ?_
    refine rr rfl (s_istore_n rfl) ?_
    refine rr rfl (s_iinc (v := 1) rfl (by decide) rfl) ?_
    refine rr rfl s_goto ?_
    refine rr rfl (s_iload_n rfl) ?_
    refine rr rfl (s_aload_n rfl) ?_
    refine rr rfl (s_getf rfl rfl) ?_
    refine rr rfl (s_icT (by decide)) ?_
    refine rr rfl s_goto ?_
    refine rr rfl (s_iload_n rfl) ?_
    refine rr rfl (s_ifF (by decide)) ?_
    refine rr rfl (s_iload_n rfl) ?_
    refine rr rfl (s_ifF (by decide)) ?_
    refine rr rfl (s_iconst (v := 0) (by decide)) ?_
    refine rr rfl (s_istore_n rfl) ?_
    refine rr rfl (s_iconst (v := 0) (by decide)) ?_
    refine rr rfl (s_istore_n rfl) ?_
    refine rr rfl (s_iload_n rfl) ?_
    refine rr rfl (s_aload_n rfl) ?_
    refine rr rfl (s_getf rfl rfl) ?_
    refine rr rfl (s_icF (by decide)) ?_
    refine rr rfl (s_iconst (v := 0) (by decide)) ?_
    refine rr rfl (s_istore rfl) ?_
    refine rr rfl (s_aload_n rfl) ?_
    refine rr rfl (s_getf rfl rfl) ?_
    refine rr rfl (s_iload_n rfl) ?_
    refine rr rfl (s_iaload (j := 0) rfl rfl rfl) ?_
    refine rr rfl (s_ifF (ic_nne g1)) ?_
    refine rr rfl (s_aload_n rfl) ?_
    refine rr rfl (s_getf rfl rfl) ?_
    refine rr rfl (s_aload_n rfl) ?_
    refine rr rfl (s_getf rfl rfl) ?_
    refine rr rfl (s_iload_n rfl) ?_
    refine rr rfl (s_iaload (j := 0) rfl rfl rfl) ?_
    refine rr rfl (s_ialdH rfl g10 g8 g9) ?_
    refine rr rfl (s_istore rfl) ?_
    refine rr rfl (s_aload_n rfl) ?_
    refine rr rfl (s_getf rfl rfl) ?_
    refine rr rfl (s_iload_n rfl) ?_
    refine rr rfl (s_iaload (j := 0) rfl rfl rfl) ?_
    refine rr rfl (s_iconst (v := (-1)) (by decide)) ?_
    refine rr rfl (s_icT (ic_eq g4)) ?_
    refine rr rfl (s_iload rfl) ?_
    refine rr rfl (s_istore rfl) ?_
    refine rr rfl (s_aload_n rfl) ?_
    refine rr rfl (s_getf rfl rfl) ?_
    refine rr rfl (s_iload_n rfl) ?_
    refine rr rfl (s_iaload (j := 0) rfl rfl rfl) ?_
    refine rr rfl (s_iconst (v := (-1)) (by decide)) ?_
    refine rr rfl (s_icF (ic_neq g5)) ?_
    refine rr rfl (s_aload_n rfl) ?_
    refine rr rfl (s_getf rfl rfl) ?_
    refine rr rfl (s_aload_n rfl) ?_
    refine rr rfl (s_getf rfl rfl) ?_
    refine rr rfl (s_iload_n rfl) ?_
    refine rr rfl (s_iaload (j := 0) rfl rfl rfl) ?_
    refine rr rfl (s_ialdH rfl g11 g8 g9) ?_
    refine rr rfl (s_iconst (v := 1) (by decide)) ?_
    refine rr rfl (s_iadd (v := 7) (by decide)) ?_
    refine rr rfl (s_iload rfl) ?_
    refine rr rfl (s_icF (by decide)) ?_
    refine rr rfl (s_aload_n rfl) ?_
    refine rr rfl (s_getf rfl rfl) ?_
    refine rr rfl (s_aload_n rfl) ?_
    refine rr rfl (s_getf rfl rfl) ?_
    refine rr rfl (s_iload_n rfl) ?_
    refine rr rfl (s_iaload (j := 0) rfl rfl rfl) ?_
    refine rr rfl (s_ialdH rfl g11 g8 g9) ?_
    refine rr rfl (s_iconst (v := 1) (by decide)) ?_
    refine rr rfl (s_iadd (v := 7) (by decide)) ?_
    refine rr rfl s_goto ?_
    refine rr rfl (s_istore rfl) ?_
    refine rr rfl (s_iload rfl) ?_
    refine rr rfl (s_aload_n rfl) ?_
    refine rr rfl (s_getf rfl rfl) ?_
    refine rr rfl (s_aload_n rfl) ?_
    refine rr rfl (s_getf rfl rfl) ?_
    refine rr rfl (s_iload_n rfl) ?_
    refine rr rfl (s_iaload (j := 0) rfl rfl rfl) ?_
    refine rr rfl (s_ialdH rfl rfl g8 g9) ?_
    refine rr rfl (s_icF (by decide)) ?_
    refine rr rfl (s_aload_n rfl) ?_
    refine rr rfl (s_getf rfl rfl) ?_
    refine rr rfl (s_aload_n rfl) ?_
    refine rr rfl (s_getf rfl rfl) ?_
    refine rr rfl (s_iload_n rfl) ?_
    refine rr rfl (s_iaload (j := 0) rfl rfl rfl) ?_
    refine rr rfl (s_iload rfl) ?_
    refine rr rfl (s_iastH (v := 7) rfl rfl g8 g9 (Nat.le_of_ble_eq_true rfl) rfl (h' := ((((((((((((hF.set 5 (.inl ((List.replicate 8 (0 : Int32)).set (Int32.toNatClampNeg x3) 8))).set 41 (.inr (.inr (9, [.int 4, .int 1, .ref 42, .ref 43, .ref 44, .ref 45, .ref 46, .ref 47, .ref 48, .ref 49, .ref 50, .ref 51, .int 0, .int 0, .int 0, .int 0, .int 0, .int 0, .int 0, .int 0, .ref 52, .int 0, .ref 53, .int 0, .ref 54, .int 0, .ref 55, .ref 56, .ref 57, .ref 58, .int 0, .ref 59, .ref 60])))).set 42 (.inl [x1, 0, 0, 0, 0, 0, 0, 0, 0, 0, 0, 0, 0])).set 43 (.inl [x2, 0, 0, 0, 0, 0, 0, 0, 0, 0, 0, 0, 0])).set 44 (.inl [x3, 0, 0, 0, 0, 0, 0, 0, 0, 0, 0, 0, 0])).set 45 (.inl [x4, 0, 0, 0, 0, 0, 0, 0, 0, 0, 0, 0, 0])).set 46 (.inl [x5, 0, 0, 0, 0, 0, 0, 0, 0, 0, 0, 0, 0])).set 47 (.inl [x6, 0, 0, 0, 0, 0, 0, 0, 0, 0, 0, 0, 0])).set 48 (.inl [x7, 0, 0, 0, 0, 0, 0, 0, 0, 0, 0, 0, 0])).set 49 (.inl [(-1), 0, 0, 0, 0, 0, 0, 0, 0, 0, 0, 0, 0])).set 51 (.inl ((List.replicate 8 (0 : Int32)).set (Int32.toNatClampNeg x3) 7))) ++ [.inr (.inr (2, [.int x1, .int x2, .int x3, .int x4, .int x4, .int x6, .int x7, .int ((1 <<< (x4 &&& 31) : Int32) ||| (1 <<< (x4 &&& 31) : Int32)), .int (1 <<< (x6 &&& 31) : Int32), .int (-1)]))]))) ?_
    refine rr rfl (s_iconst (v := 1) (by decide)) ?_
    refine rr rfl (s_istore_n rfl) ?_
    refine rr rfl (s_iload_n rfl) ?_
    refine rr rfl (s_ifF (by decide)) ?_
    refine rr rfl (s_iload rfl) ?_
    refine rr rfl (s_bipush (v := 8) (by decide)) ?_
    refine rr rfl (s_icF (by decide)) ?_
    refine rr rfl (s_iconst (v := 1) (by decide)) ?_
    refine rr rfl s_goto ?_
    refine rr rfl (s_istore_n rfl) ?_
    refine rr rfl (s_iinc (v := 1) rfl (by decide) rfl) ?_
    refine rr rfl s_goto ?_
    refine rr rfl (s_iload_n rfl) ?_
    refine rr rfl (s_aload_n rfl) ?_
    refine rr rfl (s_getf rfl rfl) ?_
    refine rr rfl (s_icT (by decide)) ?_
    refine rr rfl s_goto ?_
    refine rr rfl (s_iload_n rfl) ?_
    refine rr rfl (s_ifF (by decide)) ?_
    refine rr rfl (s_iload_n rfl) ?_
    refine rr rfl (s_ifF (by decide)) ?_
    refine rr rfl (s_iconst (v := 0) (by decide)) ?_
    refine rr rfl (s_istore_n rfl) ?_
    refine rr rfl (s_iconst (v := 0) (by decide)) ?_
    refine rr rfl (s_istore_n rfl) ?_
    refine rr rfl (s_iload_n rfl) ?_
    refine rr rfl (s_aload_n rfl) ?_
    refine rr rfl (s_getf rfl rfl) ?_
    refine rr rfl (s_icF (by decide)) ?_
    refine rr rfl (s_iconst (v := 0) (by decide)) ?_
    refine rr rfl (s_istore rfl) ?_
    refine rr rfl (s_aload_n rfl) ?_
    refine rr rfl (s_getf rfl rfl) ?_
    refine rr rfl (s_iload_n rfl) ?_
    refine rr rfl (s_iaload (j := 0) rfl rfl rfl) ?_
    refine rr rfl (s_ifF (ic_nne g1)) ?_
    refine rr rfl (s_aload_n rfl) ?_
    refine rr rfl (s_getf rfl rfl) ?_
    refine rr rfl (s_aload_n rfl) ?_
    refine rr rfl (s_getf rfl rfl) ?_
    refine rr rfl (s_iload_n rfl) ?_
    refine rr rfl (s_iaload (j := 0) rfl rfl rfl) ?_
    refine rr rfl (s_ialdH rfl g10 g8 g9) ?_
    refine rr rfl (s_istore rfl) ?_
    refine rr rfl (s_aload_n rfl) ?_
    refine rr rfl (s_getf rfl rfl) ?_
    refine rr rfl (s_iload_n rfl) ?_
    refine rr rfl (s_iaload (j := 0) rfl rfl rfl) ?_
    refine rr rfl (s_iconst (v := (-1)) (by decide)) ?_
    refine rr rfl (s_icT (ic_eq g4)) ?_
    refine rr rfl (s_iload rfl) ?_
    refine rr rfl (s_istore rfl) ?_
    refine rr rfl (s_aload_n rfl) ?_
    refine rr rfl (s_getf rfl rfl) ?_
    refine rr rfl (s_iload_n rfl) ?_
    refine rr rfl (s_iaload (j := 0) rfl rfl rfl) ?_
    refine rr rfl (s_iconst (v := (-1)) (by decide)) ?_
    refine rr rfl (s_icF (ic_neq g5)) ?_
    refine rr rfl (s_aload_n rfl) ?_
    refine rr rfl (s_getf rfl rfl) ?_
    refine rr rfl (s_aload_n rfl) ?_
    refine rr rfl (s_getf rfl rfl) ?_
    refine rr rfl (s_iload_n rfl) ?_
    refine rr rfl (s_iaload (j := 0) rfl rfl rfl) ?_
    refine rr rfl (s_ialdH rfl g11 g8 g9) ?_
    refine rr rfl (s_iconst (v := 1) (by decide)) ?_
    refine rr rfl (s_iadd (v := 8) (by decide)) ?_
    refine rr rfl (s_iload rfl) ?_
    refine rr rfl (s_icF (by decide)) ?_
    refine rr rfl (s_aload_n rfl) ?_
    refine rr rfl (s_getf rfl rfl) ?_
    refine rr rfl (s_aload_n rfl) ?_
    refine rr rfl (s_getf rfl rfl) ?_
    refine rr rfl (s_iload_n rfl) ?_
    refine rr rfl (s_iaload (j := 0) rfl rfl rfl) ?_
    refine rr rfl (s_ialdH rfl g11 g8 g9) ?_
    refine rr rfl (s_iconst (v := 1) (by decide)) ?_
    refine rr rfl (s_iadd (v := 8) (by decide)) ?_
    refine rr rfl s_goto ?_
    refine rr rfl (s_istore rfl) ?_
    refine rr rfl (s_iload rfl) ?_
    refine rr rfl (s_aload_n rfl) ?_
    refine rr rfl (s_getf rfl rfl) ?_
    refine rr rfl (s_aload_n rfl) ?_
    refine rr rfl (s_getf rfl rfl) ?_
    refine rr rfl (s_iload_n rfl) ?_
    refine rr rfl (s_iaload (j := 0) rfl rfl rfl) ?_
    refine rr rfl (s_ialdH rfl rfl g8 g9) ?_
    refine rr rfl (s_icF (by decide)) ?_
    refine rr rfl (s_aload_n rfl) ?_
    refine rr rfl (s_getf rfl rfl) ?_
    refine rr rfl (s_aload_n rfl) ?_
    refine rr rfl (s_getf rfl rfl) ?_
    refine rr rfl (s_iload_n rfl) ?_
    refine rr rfl (s_iaload (j := 0) rfl rfl rfl) ?_
    refine rr rfl (s_iload rfl) ?_
    refine rr rfl (s_iastH (v := 8) rfl rfl g8 g9 (Nat.le_of_ble_eq_true rfl) rfl (h' := ((((((((((((hF.set 5 (.inl ((List.replicate 8 (0 : Int32)).set (Int32.toNatClampNeg x3) 8))).set 41 (.inr (.inr (9, [.int 4, .int 1, .ref 42, .ref 43, .ref 44, .ref 45, .ref 46, .ref 47, .ref 48, .ref 49, .ref 50, .ref 51, .int 0, .int 0, .int 0, .int 0, .int 0, .int 0, .int 0, .int 0, .ref 52, .int 0, .ref 53, .int 0, .ref 54, .int 0, .ref 55, .ref 56, .ref 57, .ref 58, .int 0, .ref 59, .ref 60])))).set 42 (.inl [x1, 0, 0, 0, 0, 0, 0, 0, 0, 0, 0, 0, 0])).set 43 (.inl [x2, 0, 0, 0, 0, 0, 0, 0, 0, 0, 0, 0, 0])).set 44 (.inl [x3, 0, 0, 0, 0, 0, 0, 0, 0, 0, 0, 0, 0])).set 45 (.inl [x4, 0, 0, 0, 0, 0, 0, 0, 0, 0, 0, 0, 0])).set 46 (.inl [x5, 0, 0, 0, 0, 0, 0, 0, 0, 0, 0, 0, 0])).set 47 (.inl [x6, 0, 0, 0, 0, 0, 0, 0, 0, 0, 0, 0, 0])).set 48 (.inl [x7, 0, 0, 0, 0, 0, 0, 0, 0, 0, 0, 0, 0])).set 49 (.inl [(-1), 0, 0, 0, 0, 0, 0, 0, 0, 0, 0, 0, 0])).set 51 (.inl ((List.replicate 8 (0 : Int32)).set (Int32.toNatClampNeg x3) 8))) ++ [.inr (.inr (2, [.int x1, .int x2, .int x3, .int x4, .int x4, .int x6, .int x7, .int ((1 <<< (x4 &&& 31) : Int32) ||| (1 <<< (x4 &&& 31) : Int32)), .int (1 <<< (x6 &&& 31) : Int32), .int (-1)]))]))) ?_
    refine rr rfl (s_iconst (v := 1) (by decide)) ?_
    refine rr rfl (s_istore_n rfl) ?_
    refine rr rfl (s_iload_n rfl) ?_
    refine rr rfl (s_ifF (by decide)) ?_
    refine rr rfl (s_iload rfl) ?_
    refine rr rfl (s_bipush (v := 8) (by decide)) ?_
    refine rr rfl (s_icT (by decide)) ?_
    refine rr rfl (s_iconst (v := 0) (by decide)) ?_
    refine rr rfl (s_istore_n rfl) ?_
    refine rr rfl (s_iinc (v := 1) rfl (by decide) rfl) ?_
    refine rr rfl s_goto ?_
    refine rr rfl (s_iload_n rfl) ?_
    refine rr rfl (s_aload_n rfl) ?_
    refine rr rfl (s_getf rfl rfl) ?_
    refine rr rfl (s_icT (by decide)) ?_
    refine rr rfl s_goto ?_
    refine rr rfl (s_iload_n rfl) ?_
    refine rr rfl (s_ifF (by decide)) ?_
    refine rr rfl (s_iload_n rfl) ?_
    refine rr rfl (s_ifT (by decide)) ?_
    refine rr rfl (s_iload_n rfl) ?_
    exact rrt rfl rfl rfl rfl
  refine rrc rfl rfl rfl (do_of g_X9_lays rfl rfl e2) ?_
  refine rr rfl (s_istore rfl) ?_
  refine rr rfl (s_iload rfl) ?_
  refine rr rfl (s_ifT (by decide)) ?_
  refine rr rfl (s_aload_n rfl) ?_
  refine rr rfl rfl ?_
  refine rr rfl (s_getf rfl rfl) ?_
  refine rr rfl (s_iconst (v := 1) (by decide)) ?_
  refine rr rfl (s_isub (v := 0) (by decide)) ?_
  refine rr rfl (s_putf rfl rfl (Nat.le_of_ble_eq_true rfl) rfl (Nat.le_of_ble_eq_true rfl) rfl (h' := (((((((((((hF.set 5 (.inl ((List.replicate 8 (0 : Int32)).set (Int32.toNatClampNeg x3) 8))).set 42 (.inl [x1, 0, 0, 0, 0, 0, 0, 0, 0, 0, 0, 0, 0])).set 43 (.inl [x2, 0, 0, 0, 0, 0, 0, 0, 0, 0, 0, 0, 0])).set 44 (.inl [x3, 0, 0, 0, 0, 0, 0, 0, 0, 0, 0, 0, 0])).set 45 (.inl [x4, 0, 0, 0, 0, 0, 0, 0, 0, 0, 0, 0, 0])).set 46 (.inl [x5, 0, 0, 0, 0, 0, 0, 0, 0, 0, 0, 0, 0])).set 47 (.inl [x6, 0, 0, 0, 0, 0, 0, 0, 0, 0, 0, 0, 0])).set 48 (.inl [x7, 0, 0, 0, 0, 0, 0, 0, 0, 0, 0, 0, 0])).set 49 (.inl [(-1), 0, 0, 0, 0, 0, 0, 0, 0, 0, 0, 0, 0])).set 51 (.inl ((List.replicate 8 (0 : Int32)).set (Int32.toNatClampNeg x3) 8))) ++ [.inr (.inr (2, [.int x1, .int x2, .int x3, .int x4, .int x4, .int x6, .int x7, .int ((1 <<< (x4 &&& 31) : Int32) ||| (1 <<< (x4 &&& 31) : Int32)), .int (1 <<< (x6 &&& 31) : Int32), .int (-1)]))]))) ?_
  refine rr rfl (s_aload_n rfl) ?_
  have e3 : a_m MT [] 100000 10 miX9_lays [.ref 41] (((((((((((hF.set 5 (.inl ((List.replicate 8 (0 : Int32)).set (Int32.toNatClampNeg x3) 8))).set 42 (.inl [x1, 0, 0, 0, 0, 0, 0, 0, 0, 0, 0, 0, 0])).set 43 (.inl [x2, 0, 0, 0, 0, 0, 0, 0, 0, 0, 0, 0, 0])).set 44 (.inl [x3, 0, 0, 0, 0, 0, 0, 0, 0, 0, 0, 0, 0])).set 45 (.inl [x4, 0, 0, 0, 0, 0, 0, 0, 0, 0, 0, 0, 0])).set 46 (.inl [x5, 0, 0, 0, 0, 0, 0, 0, 0, 0, 0, 0, 0])).set 47 (.inl [x6, 0, 0, 0, 0, 0, 0, 0, 0, 0, 0, 0, 0])).set 48 (.inl [x7, 0, 0, 0, 0, 0, 0, 0, 0, 0, 0, 0, 0])).set 49 (.inl [(-1), 0, 0, 0, 0, 0, 0, 0, 0, 0, 0, 0, 0])).set 51 (.inl ((List.replicate 8 (0 : Int32)).set (Int32.toNatClampNeg x3) 8))) ++ [.inr (.inr (2, [.int x1, .int x2, .int x3, .int x4, .int x4, .int x6, .int x7, .int ((1 <<< (x4 &&& 31) : Int32) ||| (1 <<< (x4 &&& 31) : Int32)), .int (1 <<< (x6 &&& 31) : Int32), .int (-1)]))]) = some ((some (.int 1)), ((((((((((hF.set 5 (.inl ((List.replicate 8 (0 : Int32)).set (Int32.toNatClampNeg x3) 8))).set 42 (.inl [x1, 0, 0, 0, 0, 0, 0, 0, 0, 0, 0, 0, 0])).set 43 (.inl [x2, 0, 0, 0, 0, 0, 0, 0, 0, 0, 0, 0, 0])).set 44 (.inl [x3, 0, 0, 0, 0, 0, 0, 0, 0, 0, 0, 0, 0])).set 45 (.inl [x4, 0, 0, 0, 0, 0, 0, 0, 0, 0, 0, 0, 0])).set 46 (.inl [x5, 0, 0, 0, 0, 0, 0, 0, 0, 0, 0, 0, 0])).set 47 (.inl [x6, 0, 0, 0, 0, 0, 0, 0, 0, 0, 0, 0, 0])).set 48 (.inl [x7, 0, 0, 0, 0, 0, 0, 0, 0, 0, 0, 0, 0])).set 49 (.inl [(-1), 0, 0, 0, 0, 0, 0, 0, 0, 0, 0, 0, 0])) ++ [.inr (.inr (2, [.int x1, .int x2, .int x3, .int x4, .int x4, .int x6, .int x7, .int ((1 <<< (x4 &&& 31) : Int32) ||| (1 <<< (x4 &&& 31) : Int32)), .int (1 <<< (x6 &&& 31) : Int32), .int (-1)]))]), 0, 0) := by
    exact lays0 rfl rfl rfl rfl (by simp) rfl
  refine rrc rfl rfl rfl (do_of g_X9_lays rfl rfl e3) ?_
  refine rr rfl (s_istore rfl) ?_
  refine rr rfl (s_iload rfl) ?_
  refine rr rfl (s_ifT (by decide)) ?_
  refine rr rfl (s_bipush (v := (-3)) (by decide)) ?_
  exact rrt rfl rfl rfl rfl
set_option maxHeartbeats 4000000 in
set_option maxRecDepth 10000 in
theorem rm_Nohh {x1 x2 x3 x4 x5 x6 x7 : Int32} (g1 : x2 = 0) (g2 : ¬ x4 < 0) (g3 : x4 < nI 8) (g4 : ¬ x5 = (-1)) (g5 : ¬ x5 < 0) (g6 : x5 < nI 8) (g7 : ¬ x6 = (-1)) (g8 : ¬ x6 < 0) (g9 : x6 < nI 8) (g10 : ¬ x3 < 0) (g11 : x3 < nI 8) (g12 : x4 = x3) (g13 : ¬ x5 = x3) (g14 : x6 = x3) : a_run MT [] (a_m MT [] 100000 10) 11 (some .int) tabX9_rule 90000 95 (alQ x1 x2 x3 x4 x5 x6 x7) [] ((hF.set 5 (.inl ((List.replicate 8 (0 : Int32)).set (Int32.toNatClampNeg x3) 8))) ++ [.inr (.inr (2, [.int x1, .int x2, .int x3, .int x4, .int x5, .int x6, .int x7, .int ((1 <<< (x4 &&& 31) : Int32) ||| (1 <<< (x5 &&& 31) : Int32)), .int (1 <<< (x6 &&& 31) : Int32), .int (-1)]))]) 0 0 = some (some (.int (-3)), ((((((((((hF.set 5 (.inl ((List.replicate 8 (0 : Int32)).set (Int32.toNatClampNeg x3) 8))).set 42 (.inl [x1, 0, 0, 0, 0, 0, 0, 0, 0, 0, 0, 0, 0])).set 43 (.inl [x2, 0, 0, 0, 0, 0, 0, 0, 0, 0, 0, 0, 0])).set 44 (.inl [x3, 0, 0, 0, 0, 0, 0, 0, 0, 0, 0, 0, 0])).set 45 (.inl [x4, 0, 0, 0, 0, 0, 0, 0, 0, 0, 0, 0, 0])).set 46 (.inl [x5, 0, 0, 0, 0, 0, 0, 0, 0, 0, 0, 0, 0])).set 47 (.inl [x6, 0, 0, 0, 0, 0, 0, 0, 0, 0, 0, 0, 0])).set 48 (.inl [x7, 0, 0, 0, 0, 0, 0, 0, 0, 0, 0, 0, 0])).set 49 (.inl [(-1), 0, 0, 0, 0, 0, 0, 0, 0, 0, 0, 0, 0])) ++ [.inr (.inr (2, [.int x1, .int x2, .int x3, .int x4, .int x5, .int x6, .int x7, .int ((1 <<< (x4 &&& 31) : Int32) ||| (1 <<< (x5 &&& 31) : Int32)), .int (1 <<< (x6 &&& 31) : Int32), .int (-1)]))]), 0, 0) := by
  refine rr rfl (s_aload_n rfl) ?_
  refine rr rfl (s_aload_n rfl) ?_
  refine rr rfl (s_getf rfl rfl) ?_
  refine rr rfl (s_iload_n rfl) ?_
  refine rr rfl (s_iload_n rfl) ?_
  refine rr rfl (s_iload_n rfl) ?_
  refine rr rfl (s_iload rfl) ?_
  refine rr rfl (s_iload rfl) ?_
  refine rr rfl (s_iload rfl) ?_
  refine rr rfl (s_iload rfl) ?_
  have e1 : a_m MT [] 100000 10 miX9_sets [.ref 41, .int 0, .int x1, .int x2, .int x3, .int x4, .int x5, .int x6, .int x7] ((hF.set 5 (.inl ((List.replicate 8 (0 : Int32)).set (Int32.toNatClampNeg x3) 8))) ++ [.inr (.inr (2, [.int x1, .int x2, .int x3, .int x4, .int x5, .int x6, .int x7, .int ((1 <<< (x4 &&& 31) : Int32) ||| (1 <<< (x5 &&& 31) : Int32)), .int (1 <<< (x6 &&& 31) : Int32), .int (-1)]))]) = some (none, ((((((((((hF.set 5 (.inl ((List.replicate 8 (0 : Int32)).set (Int32.toNatClampNeg x3) 8))).set 42 (.inl [x1, 0, 0, 0, 0, 0, 0, 0, 0, 0, 0, 0, 0])).set 43 (.inl [x2, 0, 0, 0, 0, 0, 0, 0, 0, 0, 0, 0, 0])).set 44 (.inl [x3, 0, 0, 0, 0, 0, 0, 0, 0, 0, 0, 0, 0])).set 45 (.inl [x4, 0, 0, 0, 0, 0, 0, 0, 0, 0, 0, 0, 0])).set 46 (.inl [x5, 0, 0, 0, 0, 0, 0, 0, 0, 0, 0, 0, 0])).set 47 (.inl [x6, 0, 0, 0, 0, 0, 0, 0, 0, 0, 0, 0, 0])).set 48 (.inl [x7, 0, 0, 0, 0, 0, 0, 0, 0, 0, 0, 0, 0])).set 49 (.inl [(-1), 0, 0, 0, 0, 0, 0, 0, 0, 0, 0, 0, 0])) ++ [.inr (.inr (2, [.int x1, .int x2, .int x3, .int x4, .int x5, .int x6, .int x7, .int ((1 <<< (x4 &&& 31) : Int32) ||| (1 <<< (x5 &&& 31) : Int32)), .int (1 <<< (x6 &&& 31) : Int32), .int (-1)]))]), 0, 0) := by
    refine me (d := 9) g_X9_sets (Nat.le_of_ble_eq_true rfl) ?_
    refine rr rfl (s_aload_n rfl) ?_
    refine rr rfl (s_getf rfl rfl) ?_
    refine rr rfl (s_iload_n rfl) ?_
    refine rr rfl (s_iload_n rfl) ?_
    refine rr rfl (s_iastore (j := 0) (f' := [x1, 0, 0, 0, 0, 0, 0, 0, 0, 0, 0, 0, 0]) rfl rfl (Nat.le_of_ble_eq_true rfl) rfl (Nat.le_of_ble_eq_true rfl) rfl (h' := (((hF.set 5 (.inl ((List.replicate 8 (0 : Int32)).set (Int32.toNatClampNeg x3) 8))).set 42 (.inl [x1, 0, 0, 0, 0, 0, 0, 0, 0, 0, 0, 0, 0])) ++ [.inr (.inr (2, [.int x1, .int x2, .int x3, .int x4, .int x5, .int x6, .int x7, .int ((1 <<< (x4 &&& 31) : Int32) ||| (1 <<< (x5 &&& 31) : Int32)), .int (1 <<< (x6 &&& 31) : Int32), .int (-1)]))]))) ?_
    refine rr rfl (s_aload_n rfl) ?_
    refine rr rfl (s_getf rfl rfl) ?_
    refine rr rfl (s_iload_n rfl) ?_
    refine rr rfl (s_iload_n rfl) ?_
    refine rr rfl (s_iastore (j := 0) (f' := [x2, 0, 0, 0, 0, 0, 0, 0, 0, 0, 0, 0, 0]) rfl rfl (Nat.le_of_ble_eq_true rfl) rfl (Nat.le_of_ble_eq_true rfl) rfl (h' := ((((hF.set 5 (.inl ((List.replicate 8 (0 : Int32)).set (Int32.toNatClampNeg x3) 8))).set 42 (.inl [x1, 0, 0, 0, 0, 0, 0, 0, 0, 0, 0, 0, 0])).set 43 (.inl [x2, 0, 0, 0, 0, 0, 0, 0, 0, 0, 0, 0, 0])) ++ [.inr (.inr (2, [.int x1, .int x2, .int x3, .int x4, .int x5, .int x6, .int x7, .int ((1 <<< (x4 &&& 31) : Int32) ||| (1 <<< (x5 &&& 31) : Int32)), .int (1 <<< (x6 &&& 31) : Int32), .int (-1)]))]))) ?_
    refine rr rfl (s_aload_n rfl) ?_
    refine rr rfl (s_getf rfl rfl) ?_
    refine rr rfl (s_iload_n rfl) ?_
    refine rr rfl (s_iload rfl) ?_
    refine rr rfl (s_iastore (j := 0) (f' := [x3, 0, 0, 0, 0, 0, 0, 0, 0, 0, 0, 0, 0]) rfl rfl (Nat.le_of_ble_eq_true rfl) rfl (Nat.le_of_ble_eq_true rfl) rfl (h' := (((((hF.set 5 (.inl ((List.replicate 8 (0 : Int32)).set (Int32.toNatClampNeg x3) 8))).set 42 (.inl [x1, 0, 0, 0, 0, 0, 0, 0, 0, 0, 0, 0, 0])).set 43 (.inl [x2, 0, 0, 0, 0, 0, 0, 0, 0, 0, 0, 0, 0])).set 44 (.inl [x3, 0, 0, 0, 0, 0, 0, 0, 0, 0, 0, 0, 0])) ++ [.inr (.inr (2, [.int x1, .int x2, .int x3, .int x4, .int x5, .int x6, .int x7, .int ((1 <<< (x4 &&& 31) : Int32) ||| (1 <<< (x5 &&& 31) : Int32)), .int (1 <<< (x6 &&& 31) : Int32), .int (-1)]))]))) ?_
    refine rr rfl (s_aload_n rfl) ?_
    refine rr rfl (s_getf rfl rfl) ?_
    refine rr rfl (s_iload_n rfl) ?_
    refine rr rfl (s_iload rfl) ?_
    refine rr rfl (s_iastore (j := 0) (f' := [x4, 0, 0, 0, 0, 0, 0, 0, 0, 0, 0, 0, 0]) rfl rfl (Nat.le_of_ble_eq_true rfl) rfl (Nat.le_of_ble_eq_true rfl) rfl (h' := ((((((hF.set 5 (.inl ((List.replicate 8 (0 : Int32)).set (Int32.toNatClampNeg x3) 8))).set 42 (.inl [x1, 0, 0, 0, 0, 0, 0, 0, 0, 0, 0, 0, 0])).set 43 (.inl [x2, 0, 0, 0, 0, 0, 0, 0, 0, 0, 0, 0, 0])).set 44 (.inl [x3, 0, 0, 0, 0, 0, 0, 0, 0, 0, 0, 0, 0])).set 45 (.inl [x4, 0, 0, 0, 0, 0, 0, 0, 0, 0, 0, 0, 0])) ++ [.inr (.inr (2, [.int x1, .int x2, .int x3, .int x4, .int x5, .int x6, .int x7, .int ((1 <<< (x4 &&& 31) : Int32) ||| (1 <<< (x5 &&& 31) : Int32)), .int (1 <<< (x6 &&& 31) : Int32), .int (-1)]))]))) ?_
    refine rr rfl (s_aload_n rfl) ?_
    refine rr rfl (s_getf rfl rfl) ?_
    refine rr rfl (s_iload_n rfl) ?_
    refine rr rfl (s_iload rfl) ?_
    refine rr rfl (s_iastore (j := 0) (f' := [x5, 0, 0, 0, 0, 0, 0, 0, 0, 0, 0, 0, 0]) rfl rfl (Nat.le_of_ble_eq_true rfl) rfl (Nat.le_of_ble_eq_true rfl) rfl (h' := (((((((hF.set 5 (.inl ((List.replicate 8 (0 : Int32)).set (Int32.toNatClampNeg x3) 8))).set 42 (.inl [x1, 0, 0, 0, 0, 0, 0, 0, 0, 0, 0, 0, 0])).set 43 (.inl [x2, 0, 0, 0, 0, 0, 0, 0, 0, 0, 0, 0, 0])).set 44 (.inl [x3, 0, 0, 0, 0, 0, 0, 0, 0, 0, 0, 0, 0])).set 45 (.inl [x4, 0, 0, 0, 0, 0, 0, 0, 0, 0, 0, 0, 0])).set 46 (.inl [x5, 0, 0, 0, 0, 0, 0, 0, 0, 0, 0, 0, 0])) ++ [.inr (.inr (2, [.int x1, .int x2, .int x3, .int x4, .int x5, .int x6, .int x7, .int ((1 <<< (x4 &&& 31) : Int32) ||| (1 <<< (x5 &&& 31) : Int32)), .int (1 <<< (x6 &&& 31) : Int32), .int (-1)]))]))) ?_
    refine rr rfl (s_aload_n rfl) ?_
    refine rr rfl (s_getf rfl rfl) ?_
    refine rr rfl (s_iload_n rfl) ?_
    refine rr rfl (s_iload rfl) ?_
    refine rr rfl (s_iastore (j := 0) (f' := [x6, 0, 0, 0, 0, 0, 0, 0, 0, 0, 0, 0, 0]) rfl rfl (Nat.le_of_ble_eq_true rfl) rfl (Nat.le_of_ble_eq_true rfl) rfl (h' := ((((((((hF.set 5 (.inl ((List.replicate 8 (0 : Int32)).set (Int32.toNatClampNeg x3) 8))).set 42 (.inl [x1, 0, 0, 0, 0, 0, 0, 0, 0, 0, 0, 0, 0])).set 43 (.inl [x2, 0, 0, 0, 0, 0, 0, 0, 0, 0, 0, 0, 0])).set 44 (.inl [x3, 0, 0, 0, 0, 0, 0, 0, 0, 0, 0, 0, 0])).set 45 (.inl [x4, 0, 0, 0, 0, 0, 0, 0, 0, 0, 0, 0, 0])).set 46 (.inl [x5, 0, 0, 0, 0, 0, 0, 0, 0, 0, 0, 0, 0])).set 47 (.inl [x6, 0, 0, 0, 0, 0, 0, 0, 0, 0, 0, 0, 0])) ++ [.inr (.inr (2, [.int x1, .int x2, .int x3, .int x4, .int x5, .int x6, .int x7, .int ((1 <<< (x4 &&& 31) : Int32) ||| (1 <<< (x5 &&& 31) : Int32)), .int (1 <<< (x6 &&& 31) : Int32), .int (-1)]))]))) ?_
    refine rr rfl (s_aload_n rfl) ?_
    refine rr rfl (s_getf rfl rfl) ?_
    refine rr rfl (s_iload_n rfl) ?_
    refine rr rfl (s_iload rfl) ?_
    refine rr rfl (s_iastore (j := 0) (f' := [x7, 0, 0, 0, 0, 0, 0, 0, 0, 0, 0, 0, 0]) rfl rfl (Nat.le_of_ble_eq_true rfl) rfl (Nat.le_of_ble_eq_true rfl) rfl (h' := (((((((((hF.set 5 (.inl ((List.replicate 8 (0 : Int32)).set (Int32.toNatClampNeg x3) 8))).set 42 (.inl [x1, 0, 0, 0, 0, 0, 0, 0, 0, 0, 0, 0, 0])).set 43 (.inl [x2, 0, 0, 0, 0, 0, 0, 0, 0, 0, 0, 0, 0])).set 44 (.inl [x3, 0, 0, 0, 0, 0, 0, 0, 0, 0, 0, 0, 0])).set 45 (.inl [x4, 0, 0, 0, 0, 0, 0, 0, 0, 0, 0, 0, 0])).set 46 (.inl [x5, 0, 0, 0, 0, 0, 0, 0, 0, 0, 0, 0, 0])).set 47 (.inl [x6, 0, 0, 0, 0, 0, 0, 0, 0, 0, 0, 0, 0])).set 48 (.inl [x7, 0, 0, 0, 0, 0, 0, 0, 0, 0, 0, 0, 0])) ++ [.inr (.inr (2, [.int x1, .int x2, .int x3, .int x4, .int x5, .int x6, .int x7, .int ((1 <<< (x4 &&& 31) : Int32) ||| (1 <<< (x5 &&& 31) : Int32)), .int (1 <<< (x6 &&& 31) : Int32), .int (-1)]))]))) ?_
    refine rr rfl (s_aload_n rfl) ?_
    refine rr rfl (s_getf rfl rfl) ?_
    refine rr rfl (s_iload_n rfl) ?_
    refine rr rfl (s_iconst (v := (-1)) (by decide)) ?_
    refine rr rfl (s_iastore (j := 0) (f' := [(-1), 0, 0, 0, 0, 0, 0, 0, 0, 0, 0, 0, 0]) rfl rfl (Nat.le_of_ble_eq_true rfl) rfl (Nat.le_of_ble_eq_true rfl) rfl (h' := ((((((((((hF.set 5 (.inl ((List.replicate 8 (0 : Int32)).set (Int32.toNatClampNeg x3) 8))).set 42 (.inl [x1, 0, 0, 0, 0, 0, 0, 0, 0, 0, 0, 0, 0])).set 43 (.inl [x2, 0, 0, 0, 0, 0, 0, 0, 0, 0, 0, 0, 0])).set 44 (.inl [x3, 0, 0, 0, 0, 0, 0, 0, 0, 0, 0, 0, 0])).set 45 (.inl [x4, 0, 0, 0, 0, 0, 0, 0, 0, 0, 0, 0, 0])).set 46 (.inl [x5, 0, 0, 0, 0, 0, 0, 0, 0, 0, 0, 0, 0])).set 47 (.inl [x6, 0, 0, 0, 0, 0, 0, 0, 0, 0, 0, 0, 0])).set 48 (.inl [x7, 0, 0, 0, 0, 0, 0, 0, 0, 0, 0, 0, 0])).set 49 (.inl [(-1), 0, 0, 0, 0, 0, 0, 0, 0, 0, 0, 0, 0])) ++ [.inr (.inr (2, [.int x1, .int x2, .int x3, .int x4, .int x5, .int x6, .int x7, .int ((1 <<< (x4 &&& 31) : Int32) ||| (1 <<< (x5 &&& 31) : Int32)), .int (1 <<< (x6 &&& 31) : Int32), .int (-1)]))]))) ?_
    exact rrt rfl rfl rfl rfl
  refine rrc rfl rfl rfl (do_of g_X9_sets rfl rfl e1) ?_
  refine rr rfl (s_aload_n rfl) ?_
  refine rr rfl rfl ?_
  refine rr rfl (s_getf rfl rfl) ?_
  refine rr rfl (s_iconst (v := 1) (by decide)) ?_
  refine rr rfl (s_iadd (v := 1) (by decide)) ?_
  refine rr rfl (s_putf rfl rfl (Nat.le_of_ble_eq_true rfl) rfl (Nat.le_of_ble_eq_true rfl) rfl (h' := (((((((((((hF.set 5 (.inl ((List.replicate 8 (0 : Int32)).set (Int32.toNatClampNeg x3) 8))).set 41 (.inr (.inr (9, [.int 4, .int 1, .ref 42, .ref 43, .ref 44, .ref 45, .ref 46, .ref 47, .ref 48, .ref 49, .ref 50, .ref 51, .int 0, .int 0, .int 0, .int 0, .int 0, .int 0, .int 0, .int 0, .ref 52, .int 0, .ref 53, .int 0, .ref 54, .int 0, .ref 55, .ref 56, .ref 57, .ref 58, .int 0, .ref 59, .ref 60])))).set 42 (.inl [x1, 0, 0, 0, 0, 0, 0, 0, 0, 0, 0, 0, 0])).set 43 (.inl [x2, 0, 0, 0, 0, 0, 0, 0, 0, 0, 0, 0, 0])).set 44 (.inl [x3, 0, 0, 0, 0, 0, 0, 0, 0, 0, 0, 0, 0])).set 45 (.inl [x4, 0, 0, 0, 0, 0, 0, 0, 0, 0, 0, 0, 0])).set 46 (.inl [x5, 0, 0, 0, 0, 0, 0, 0, 0, 0, 0, 0, 0])).set 47 (.inl [x6, 0, 0, 0, 0, 0, 0, 0, 0, 0, 0, 0, 0])).set 48 (.inl [x7, 0, 0, 0, 0, 0, 0, 0, 0, 0, 0, 0, 0])).set 49 (.inl [(-1), 0, 0, 0, 0, 0, 0, 0, 0, 0, 0, 0, 0])) ++ [.inr (.inr (2, [.int x1, .int x2, .int x3, .int x4, .int x5, .int x6, .int x7, .int ((1 <<< (x4 &&& 31) : Int32) ||| (1 <<< (x5 &&& 31) : Int32)), .int (1 <<< (x6 &&& 31) : Int32), .int (-1)]))]))) ?_
  refine rr rfl (s_aload_n rfl) ?_
  have e2 : a_m MT [] 100000 10 miX9_lays [.ref 41] (((((((((((hF.set 5 (.inl ((List.replicate 8 (0 : Int32)).set (Int32.toNatClampNeg x3) 8))).set 41 (.inr (.inr (9, [.int 4, .int 1, .ref 42, .ref 43, .ref 44, .ref 45, .ref 46, .ref 47, .ref 48, .ref 49, .ref 50, .ref 51, .int 0, .int 0, .int 0, .int 0, .int 0, .int 0, .int 0, .int 0, .ref 52, .int 0, .ref 53, .int 0, .ref 54, .int 0, .ref 55, .ref 56, .ref 57, .ref 58, .int 0, .ref 59, .ref 60])))).set 42 (.inl [x1, 0, 0, 0, 0, 0, 0, 0, 0, 0, 0, 0, 0])).set 43 (.inl [x2, 0, 0, 0, 0, 0, 0, 0, 0, 0, 0, 0, 0])).set 44 (.inl [x3, 0, 0, 0, 0, 0, 0, 0, 0, 0, 0, 0, 0])).set 45 (.inl [x4, 0, 0, 0, 0, 0, 0, 0, 0, 0, 0, 0, 0])).set 46 (.inl [x5, 0, 0, 0, 0, 0, 0, 0, 0, 0, 0, 0, 0])).set 47 (.inl [x6, 0, 0, 0, 0, 0, 0, 0, 0, 0, 0, 0, 0])).set 48 (.inl [x7, 0, 0, 0, 0, 0, 0, 0, 0, 0, 0, 0, 0])).set 49 (.inl [(-1), 0, 0, 0, 0, 0, 0, 0, 0, 0, 0, 0, 0])) ++ [.inr (.inr (2, [.int x1, .int x2, .int x3, .int x4, .int x5, .int x6, .int x7, .int ((1 <<< (x4 &&& 31) : Int32) ||| (1 <<< (x5 &&& 31) : Int32)), .int (1 <<< (x6 &&& 31) : Int32), .int (-1)]))]) = some ((some (.int 0)), ((((((((((((hF.set 5 (.inl ((List.replicate 8 (0 : Int32)).set (Int32.toNatClampNeg x3) 8))).set 41 (.inr (.inr (9, [.int 4, .int 1, .ref 42, .ref 43, .ref 44, .ref 45, .ref 46, .ref 47, .ref 48, .ref 49, .ref 50, .ref 51, .int 0, .int 0, .int 0, .int 0, .int 0, .int 0, .int 0, .int 0, .ref 52, .int 0, .ref 53, .int 0, .ref 54, .int 0, .ref 55, .ref 56, .ref 57, .ref 58, .int 0, .ref 59, .ref 60])))).set 42 (.inl [x1, 0, 0, 0, 0, 0, 0, 0, 0, 0, 0, 0, 0])).set 43 (.inl [x2, 0, 0, 0, 0, 0, 0, 0, 0, 0, 0, 0, 0])).set 44 (.inl [x3, 0, 0, 0, 0, 0, 0, 0, 0, 0, 0, 0, 0])).set 45 (.inl [x4, 0, 0, 0, 0, 0, 0, 0, 0, 0, 0, 0, 0])).set 46 (.inl [x5, 0, 0, 0, 0, 0, 0, 0, 0, 0, 0, 0, 0])).set 47 (.inl [x6, 0, 0, 0, 0, 0, 0, 0, 0, 0, 0, 0, 0])).set 48 (.inl [x7, 0, 0, 0, 0, 0, 0, 0, 0, 0, 0, 0, 0])).set 49 (.inl [(-1), 0, 0, 0, 0, 0, 0, 0, 0, 0, 0, 0, 0])).set 51 (.inl ((List.replicate 8 (0 : Int32)).set (Int32.toNatClampNeg x3) 8))) ++ [.inr (.inr (2, [.int x1, .int x2, .int x3, .int x4, .int x5, .int x6, .int x7, .int ((1 <<< (x4 &&& 31) : Int32) ||| (1 <<< (x5 &&& 31) : Int32)), .int (1 <<< (x6 &&& 31) : Int32), .int (-1)]))]), 0, 0) := by
    refine me (d := 9) g_X9_lays (Nat.le_of_ble_eq_true rfl) ?_
    refine rr rfl (s_iconst (v := 0) (by decide)) ?_
    refine rr rfl (s_istore_n rfl) ?_
    refine rr rfl (s_iload_n rfl) ?_
    refine rr rfl (s_bipush (v := 8) (by decide)) ?_
    refine rr rfl (s_icF (by decide)) ?_
    refine rr rfl (s_aload_n rfl) ?_
    refine rr rfl (s_getf rfl rfl) ?_
    refine rr rfl (s_iload_n rfl) ?_
    refine rr rfl (s_iconst (v := 0) (by decide)) ?_
    refine rr rfl (s_iastore (j := 0) (f' := (List.replicate 8 0)) rfl rfl (Nat.le_of_ble_eq_true rfl) rfl (Nat.le_of_ble_eq_true rfl) rfl (h' := (((((((((((hF.set 5 (.inl ((List.replicate 8 (0 : Int32)).set (Int32.toNatClampNeg x3) 8))).set 41 (.inr (.inr (9, [.int 4, .int 1, .ref 42, .ref 43, .ref 44, .ref 45, .ref 46, .ref 47, .ref 48, .ref 49, .ref 50, .ref 51, .int 0, .int 0, .int 0, .int 0, .int 0, .int 0, .int 0, .int 0, .ref 52, .int 0, .ref 53, .int 0, .ref 54, .int 0, .ref 55, .ref 56, .ref 57, .ref 58, .int 0, .ref 59, .ref 60])))).set 42 (.inl [x1, 0, 0, 0, 0, 0, 0, 0, 0, 0, 0, 0, 0])).set 43 (.inl [x2, 0, 0, 0, 0, 0, 0, 0, 0, 0, 0, 0, 0])).set 44 (.inl [x3, 0, 0, 0, 0, 0, 0, 0, 0, 0, 0, 0, 0])).set 45 (.inl [x4, 0, 0, 0, 0, 0, 0, 0, 0, 0, 0, 0, 0])).set 46 (.inl [x5, 0, 0, 0, 0, 0, 0, 0, 0, 0, 0, 0, 0])).set 47 (.inl [x6, 0, 0, 0, 0, 0, 0, 0, 0, 0, 0, 0, 0])).set 48 (.inl [x7, 0, 0, 0, 0, 0, 0, 0, 0, 0, 0, 0, 0])).set 49 (.inl [(-1), 0, 0, 0, 0, 0, 0, 0, 0, 0, 0, 0, 0])) ++ [.inr (.inr (2, [.int x1, .int x2, .int x3, .int x4, .int x5, .int x6, .int x7, .int ((1 <<< (x4 &&& 31) : Int32) ||| (1 <<< (x5 &&& 31) : Int32)), .int (1 <<< (x6 &&& 31) : Int32), .int (-1)]))]))) ?_
    refine rr rfl (s_iinc (v := 1) rfl (by decide) rfl) ?_
    refine rr rfl s_goto ?_
    refine rr rfl (s_iload_n rfl) ?_
    refine rr rfl (s_bipush (v := 8) (by decide)) ?_
    refine rr rfl (s_icF (by decide)) ?_
    refine rr rfl (s_aload_n rfl) ?_
    refine rr rfl (s_getf rfl rfl) ?_
    refine rr rfl (s_iload_n rfl) ?_
    refine rr rfl (s_iconst (v := 0) (by decide)) ?_
    refine rr rfl (s_iastore (j := 1) (f' := (List.replicate 8 0)) rfl rfl (Nat.le_of_ble_eq_true rfl) rfl (Nat.le_of_ble_eq_true rfl) rfl (h' := (((((((((((hF.set 5 (.inl ((List.replicate 8 (0 : Int32)).set (Int32.toNatClampNeg x3) 8))).set 41 (.inr (.inr (9, [.int 4, .int 1, .ref 42, .ref 43, .ref 44, .ref 45, .ref 46, .ref 47, .ref 48, .ref 49, .ref 50, .ref 51, .int 0, .int 0, .int 0, .int 0, .int 0, .int 0, .int 0, .int 0, .ref 52, .int 0, .ref 53, .int 0, .ref 54, .int 0, .ref 55, .ref 56, .ref 57, .ref 58, .int 0, .ref 59, .ref 60])))).set 42 (.inl [x1, 0, 0, 0, 0, 0, 0, 0, 0, 0, 0, 0, 0])).set 43 (.inl [x2, 0, 0, 0, 0, 0, 0, 0, 0, 0, 0, 0, 0])).set 44 (.inl [x3, 0, 0, 0, 0, 0, 0, 0, 0, 0, 0, 0, 0])).set 45 (.inl [x4, 0, 0, 0, 0, 0, 0, 0, 0, 0, 0, 0, 0])).set 46 (.inl [x5, 0, 0, 0, 0, 0, 0, 0, 0, 0, 0, 0, 0])).set 47 (.inl [x6, 0, 0, 0, 0, 0, 0, 0, 0, 0, 0, 0, 0])).set 48 (.inl [x7, 0, 0, 0, 0, 0, 0, 0, 0, 0, 0, 0, 0])).set 49 (.inl [(-1), 0, 0, 0, 0, 0, 0, 0, 0, 0, 0, 0, 0])) ++ [.inr (.inr (2, [.int x1, .int x2, .int x3, .int x4, .int x5, .int x6, .int x7, .int ((1 <<< (x4 &&& 31) : Int32) ||| (1 <<< (x5 &&& 31) : Int32)), .int (1 <<< (x6 &&& 31) : Int32), .int (-1)]))]))) ?_
    refine rr rfl (s_iinc (v := 2) rfl (by decide) rfl) ?_
    refine rr rfl s_goto ?_
    refine rr rfl (s_iload_n rfl) ?_
    refine rr rfl (s_bipush (v := 8) (by decide)) ?_
    refine rr rfl (s_icF (by decide)) ?_
    refine rr rfl (s_aload_n rfl) ?_
    refine rr rfl (s_getf rfl rfl) ?_
    refine rr rfl (s_iload_n rfl) ?_
    refine rr rfl (s_iconst (v := 0) (by decide)) ?_
    refine rr rfl (s_iastore (j := 2) (f' := (List.replicate 8 0)) rfl rfl (Nat.le_of_ble_eq_true rfl) rfl (Nat.le_of_ble_eq_true rfl) rfl (h' := (((((((((((hF.set 5 (.inl ((List.replicate 8 (0 : Int32)).set (Int32.toNatClampNeg x3) 8))).set 41 (.inr (.inr (9, [.int 4, .int 1, .ref 42, .ref 43, .ref 44, .ref 45, .ref 46, .ref 47, .ref 48, .ref 49, .ref 50, .ref 51, .int 0, .int 0, .int 0, .int 0, .int 0, .int 0, .int 0, .int 0, .ref 52, .int 0, .ref 53, .int 0, .ref 54, .int 0, .ref 55, .ref 56, .ref 57, .ref 58, .int 0, .ref 59, .ref 60])))).set 42 (.inl [x1, 0, 0, 0, 0, 0, 0, 0, 0, 0, 0, 0, 0])).set 43 (.inl [x2, 0, 0, 0, 0, 0, 0, 0, 0, 0, 0, 0, 0])).set 44 (.inl [x3, 0, 0, 0, 0, 0, 0, 0, 0, 0, 0, 0, 0])).set 45 (.inl [x4, 0, 0, 0, 0, 0, 0, 0, 0, 0, 0, 0, 0])).set 46 (.inl [x5, 0, 0, 0, 0, 0, 0, 0, 0, 0, 0, 0, 0])).set 47 (.inl [x6, 0, 0, 0, 0, 0, 0, 0, 0, 0, 0, 0, 0])).set 48 (.inl [x7, 0, 0, 0, 0, 0, 0, 0, 0, 0, 0, 0, 0])).set 49 (.inl [(-1), 0, 0, 0, 0, 0, 0, 0, 0, 0, 0, 0, 0])) ++ [.inr (.inr (2, [.int x1, .int x2, .int x3, .int x4, .int x5, .int x6, .int x7, .int ((1 <<< (x4 &&& 31) : Int32) ||| (1 <<< (x5 &&& 31) : Int32)), .int (1 <<< (x6 &&& 31) : Int32), .int (-1)]))]))) ?_
    refine rr rfl (s_iinc (v := 3) rfl (by decide) rfl) ?_
    refine rr rfl s_goto ?_
    refine rr rfl (s_iload_n rfl) ?_
    refine rr rfl (s_bipush (v := 8) (by decide)) ?_
    refine rr rfl (s_icF (by decide)) ?_
    refine rr rfl (s_aload_n rfl) ?_
    refine rr rfl (s_getf rfl rfl) ?_
    refine rr rfl (s_iload_n rfl) ?_
    refine rr rfl (s_iconst (v := 0) (by decide)) ?_
    refine rr rfl (s_iastore (j := 3) (f' := (List.replicate 8 0)) rfl rfl (Nat.le_of_ble_eq_true rfl) rfl (Nat.le_of_ble_eq_true rfl) rfl (h' := (((((((((((hF.set 5 (.inl ((List.replicate 8 (0 : Int32)).set (Int32.toNatClampNeg x3) 8))).set 41 (.inr (.inr (9, [.int 4, .int 1, .ref 42, .ref 43, .ref 44, .ref 45, .ref 46, .ref 47, .ref 48, .ref 49, .ref 50, .ref 51, .int 0, .int 0, .int 0, .int 0, .int 0, .int 0, .int 0, .int 0, .ref 52, .int 0, .ref 53, .int 0, .ref 54, .int 0, .ref 55, .ref 56, .ref 57, .ref 58, .int 0, .ref 59, .ref 60])))).set 42 (.inl [x1, 0, 0, 0, 0, 0, 0, 0, 0, 0, 0, 0, 0])).set 43 (.inl [x2, 0, 0, 0, 0, 0, 0, 0, 0, 0, 0, 0, 0])).set 44 (.inl [x3, 0, 0, 0, 0, 0, 0, 0, 0, 0, 0, 0, 0])).set 45 (.inl [x4, 0, 0, 0, 0, 0, 0, 0, 0, 0, 0, 0, 0])).set 46 (.inl [x5, 0, 0, 0, 0, 0, 0, 0, 0, 0, 0, 0, 0])).set 47 (.inl [x6, 0, 0, 0, 0, 0, 0, 0, 0, 0, 0, 0, 0])).set 48 (.inl [x7, 0, 0, 0, 0, 0, 0, 0, 0, 0, 0, 0, 0])).set 49 (.inl [(-1), 0, 0, 0, 0, 0, 0, 0, 0, 0, 0, 0, 0])) ++ [.inr (.inr (2, [.int x1, .int x2, .int x3, .int x4, .int x5, .int x6, .int x7, .int ((1 <<< (x4 &&& 31) : Int32) ||| (1 <<< (x5 &&& 31) : Int32)), .int (1 <<< (x6 &&& 31) : Int32), .int (-1)]))]))) ?_
    refine rr rfl (s_iinc (v := 4) rfl (by decide) rfl) ?_
    refine rr rfl s_goto ?_
    refine rr rfl (s_iload_n rfl) ?_
    refine rr rfl (s_bipush (v := 8) (by decide)) ?_
    refine rr rfl (s_icF (by decide)) ?_
    refine rr rfl (s_aload_n rfl) ?_
    refine rr rfl (s_getf rfl rfl) ?_
    refine rr rfl (s_iload_n rfl) ?_
    refine rr rfl (s_iconst (v := 0) (by decide)) ?_
    refine rr rfl (s_iastore (j := 4) (f' := (List.replicate 8 0)) rfl rfl (Nat.le_of_ble_eq_true rfl) rfl (Nat.le_of_ble_eq_true rfl) rfl (h' := (((((((((((hF.set 5 (.inl ((List.replicate 8 (0 : Int32)).set (Int32.toNatClampNeg x3) 8))).set 41 (.inr (.inr (9, [.int 4, .int 1, .ref 42, .ref 43, .ref 44, .ref 45, .ref 46, .ref 47, .ref 48, .ref 49, .ref 50, .ref 51, .int 0, .int 0, .int 0, .int 0, .int 0, .int 0, .int 0, .int 0, .ref 52, .int 0, .ref 53, .int 0, .ref 54, .int 0, .ref 55, .ref 56, .ref 57, .ref 58, .int 0, .ref 59, .ref 60])))).set 42 (.inl [x1, 0, 0, 0, 0, 0, 0, 0, 0, 0, 0, 0, 0])).set 43 (.inl [x2, 0, 0, 0, 0, 0, 0, 0, 0, 0, 0, 0, 0])).set 44 (.inl [x3, 0, 0, 0, 0, 0, 0, 0, 0, 0, 0, 0, 0])).set 45 (.inl [x4, 0, 0, 0, 0, 0, 0, 0, 0, 0, 0, 0, 0])).set 46 (.inl [x5, 0, 0, 0, 0, 0, 0, 0, 0, 0, 0, 0, 0])).set 47 (.inl [x6, 0, 0, 0, 0, 0, 0, 0, 0, 0, 0, 0, 0])).set 48 (.inl [x7, 0, 0, 0, 0, 0, 0, 0, 0, 0, 0, 0, 0])).set 49 (.inl [(-1), 0, 0, 0, 0, 0, 0, 0, 0, 0, 0, 0, 0])) ++ [.inr (.inr (2, [.int x1, .int x2, .int x3, .int x4, .int x5, .int x6, .int x7, .int ((1 <<< (x4 &&& 31) : Int32) ||| (1 <<< (x5 &&& 31) : Int32)), .int (1 <<< (x6 &&& 31) : Int32), .int (-1)]))]))) ?_
    refine rr rfl (s_iinc (v := 5) rfl (by decide) rfl) ?_
    refine rr rfl s_goto ?_
    refine rr rfl (s_iload_n rfl) ?_
    refine rr rfl (s_bipush (v := 8) (by decide)) ?_
    refine rr rfl (s_icF (by decide)) ?_
    refine rr rfl (s_aload_n rfl) ?_
    refine rr rfl (s_getf rfl rfl) ?_
    refine rr rfl (s_iload_n rfl) ?_
    refine rr rfl (s_iconst (v := 0) (by decide)) ?_
    refine rr rfl (s_iastore (j := 5) (f' := (List.replicate 8 0)) rfl rfl (Nat.le_of_ble_eq_true rfl) rfl (Nat.le_of_ble_eq_true rfl) rfl (h' := (((((((((((hF.set 5 (.inl ((List.replicate 8 (0 : Int32)).set (Int32.toNatClampNeg x3) 8))).set 41 (.inr (.inr (9, [.int 4, .int 1, .ref 42, .ref 43, .ref 44, .ref 45, .ref 46, .ref 47, .ref 48, .ref 49, .ref 50, .ref 51, .int 0, .int 0, .int 0, .int 0, .int 0, .int 0, .int 0, .int 0, .ref 52, .int 0, .ref 53, .int 0, .ref 54, .int 0, .ref 55, .ref 56, .ref 57, .ref 58, .int 0, .ref 59, .ref 60])))).set 42 (.inl [x1, 0, 0, 0, 0, 0, 0, 0, 0, 0, 0, 0, 0])).set 43 (.inl [x2, 0, 0, 0, 0, 0, 0, 0, 0, 0, 0, 0, 0])).set 44 (.inl [x3, 0, 0, 0, 0, 0, 0, 0, 0, 0, 0, 0, 0])).set 45 (.inl [x4, 0, 0, 0, 0, 0, 0, 0, 0, 0, 0, 0, 0])).set 46 (.inl [x5, 0, 0, 0, 0, 0, 0, 0, 0, 0, 0, 0, 0])).set 47 (.inl [x6, 0, 0, 0, 0, 0, 0, 0, 0, 0, 0, 0, 0])).set 48 (.inl [x7, 0, 0, 0, 0, 0, 0, 0, 0, 0, 0, 0, 0])).set 49 (.inl [(-1), 0, 0, 0, 0, 0, 0, 0, 0, 0, 0, 0, 0])) ++ [.inr (.inr (2, [.int x1, .int x2, .int x3, .int x4, .int x5, .int x6, .int x7, .int ((1 <<< (x4 &&& 31) : Int32) ||| (1 <<< (x5 &&& 31) : Int32)), .int (1 <<< (x6 &&& 31) : Int32), .int (-1)]))]))) ?_
    refine rr rfl (s_iinc (v := 6) rfl (by decide) rfl) ?_
    refine rr rfl s_goto ?_
    refine rr rfl (s_iload_n rfl) ?_
    refine rr rfl (s_bipush (v := 8) (by decide)) ?_
    refine rr rfl (s_icF (by decide)) ?_
    refine rr rfl (s_aload_n rfl) ?_
    refine rr rfl (s_getf rfl rfl) ?_
    refine rr rfl (s_iload_n rfl) ?_
    refine rr rfl (s_iconst (v := 0) (by decide)) ?_
    refine rr rfl (s_iastore (j := 6) (f' := (List.replicate 8 0)) rfl rfl (Nat.le_of_ble_eq_true rfl) rfl (Nat.le_of_ble_eq_true rfl) rfl (h' := (((((((((((hF.set 5 (.inl ((List.replicate 8 (0 : Int32)).set (Int32.toNatClampNeg x3) 8))).set 41 (.inr (.inr (9, [.int 4, .int 1, .ref 42, .ref 43, .ref 44, .ref 45, .ref 46, .ref 47, .ref 48, .ref 49, .ref 50, .ref 51, .int 0, .int 0, .int 0, .int 0, .int 0, .int 0, .int 0, .int 0, .ref 52, .int 0, .ref 53, .int 0, .ref 54, .int 0, .ref 55, .ref 56, .ref 57, .ref 58, .int 0, .ref 59, .ref 60])))).set 42 (.inl [x1, 0, 0, 0, 0, 0, 0, 0, 0, 0, 0, 0, 0])).set 43 (.inl [x2, 0, 0, 0, 0, 0, 0, 0, 0, 0, 0, 0, 0])).set 44 (.inl [x3, 0, 0, 0, 0, 0, 0, 0, 0, 0, 0, 0, 0])).set 45 (.inl [x4, 0, 0, 0, 0, 0, 0, 0, 0, 0, 0, 0, 0])).set 46 (.inl [x5, 0, 0, 0, 0, 0, 0, 0, 0, 0, 0, 0, 0])).set 47 (.inl [x6, 0, 0, 0, 0, 0, 0, 0, 0, 0, 0, 0, 0])).set 48 (.inl [x7, 0, 0, 0, 0, 0, 0, 0, 0, 0, 0, 0, 0])).set 49 (.inl [(-1), 0, 0, 0, 0, 0, 0, 0, 0, 0, 0, 0, 0])) ++ [.inr (.inr (2, [.int x1, .int x2, .int x3, .int x4, .int x5, .int x6, .int x7, .int ((1 <<< (x4 &&& 31) : Int32) ||| (1 <<< (x5 &&& 31) : Int32)), .int (1 <<< (x6 &&& 31) : Int32), .int (-1)]))]))) ?_
    refine rr rfl (s_iinc (v := 7) rfl (by decide) rfl) ?_
    refine rr rfl s_goto ?_
    refine rr rfl (s_iload_n rfl) ?_
    refine rr rfl (s_bipush (v := 8) (by decide)) ?_
    refine rr rfl (s_icF (by decide)) ?_
    refine rr rfl (s_aload_n rfl) ?_
    refine rr rfl (s_getf rfl rfl) ?_
    refine rr rfl (s_iload_n rfl) ?_
    refine rr rfl (s_iconst (v := 0) (by decide)) ?_
    refine rr rfl (s_iastore (j := 7) (f' := (List.replicate 8 0)) rfl rfl (Nat.le_of_ble_eq_true rfl) rfl (Nat.le_of_ble_eq_true rfl) rfl (h' := (((((((((((hF.set 5 (.inl ((List.replicate 8 (0 : Int32)).set (Int32.toNatClampNeg x3) 8))).set 41 (.inr (.inr (9, [.int 4, .int 1, .ref 42, .ref 43, .ref 44, .ref 45, .ref 46, .ref 47, .ref 48, .ref 49, .ref 50, .ref 51, .int 0, .int 0, .int 0, .int 0, .int 0, .int 0, .int 0, .int 0, .ref 52, .int 0, .ref 53, .int 0, .ref 54, .int 0, .ref 55, .ref 56, .ref 57, .ref 58, .int 0, .ref 59, .ref 60])))).set 42 (.inl [x1, 0, 0, 0, 0, 0, 0, 0, 0, 0, 0, 0, 0])).set 43 (.inl [x2, 0, 0, 0, 0, 0, 0, 0, 0, 0, 0, 0, 0])).set 44 (.inl [x3, 0, 0, 0, 0, 0, 0, 0, 0, 0, 0, 0, 0])).set 45 (.inl [x4, 0, 0, 0, 0, 0, 0, 0, 0, 0, 0, 0, 0])).set 46 (.inl [x5, 0, 0, 0, 0, 0, 0, 0, 0, 0, 0, 0, 0])).set 47 (.inl [x6, 0, 0, 0, 0, 0, 0, 0, 0, 0, 0, 0, 0])).set 48 (.inl [x7, 0, 0, 0, 0, 0, 0, 0, 0, 0, 0, 0, 0])).set 49 (.inl [(-1), 0, 0, 0, 0, 0, 0, 0, 0, 0, 0, 0, 0])) ++ [.inr (.inr (2, [.int x1, .int x2, .int x3, .int x4, .int x5, .int x6, .int x7, .int ((1 <<< (x4 &&& 31) : Int32) ||| (1 <<< (x5 &&& 31) : Int32)), .int (1 <<< (x6 &&& 31) : Int32), .int (-1)]))]))) ?_
    refine rr rfl (s_iinc (v := 8) rfl (by decide) rfl) ?_
    refine rr rfl s_goto ?_
    refine rr rfl (s_iload_n rfl) ?_
    refine rr rfl (s_bipush (v := 8) (by decide)) ?_
    refine rr rfl (s_icT (by decide)) ?_
    refine rr rfl (s_iconst (v := 1) (by decide)) ?_
    refine rr rfl (s_istore_n rfl) ?_
    refine rr rfl (s_iconst (v := 1) (by decide)) ?_
    refine rr rfl (s_istore_n rfl) ?_
    refine rr rfl (s_iload_n rfl) ?_
    refine rr rfl (s_ifF (by decide)) ?_
    refine rr rfl (s_iload_n rfl) ?_
    refine rr rfl (s_ifF (by decide)) ?_
    refine rr rfl (s_iconst (v := 0) (by decide)) ?_
    refine rr rfl (s_istore_n rfl) ?_
    refine rr rfl (s_iconst (v := 0) (by decide)) ?_
    refine rr rfl (s_istore_n rfl) ?_
    refine rr rfl (s_iload_n rfl) ?_
    refine rr rfl (s_aload_n rfl) ?_
    refine rr rfl (s_getf rfl rfl) ?_
    refine rr rfl (s_icF (by decide)) ?_
    refine rr rfl (s_iconst (v := 0) (by decide)) ?_
    refine rr rfl (s_istore rfl) ?_
    refine rr rfl (s_aload_n rfl) ?_
    refine rr rfl (s_getf rfl rfl) ?_
    refine rr rfl (s_iload_n rfl) ?_
    refine rr rfl (s_iaload (j := 0) rfl rfl rfl) ?_
    refine rr rfl (s_ifF (ic_nne g1)) ?_
    refine rr rfl (s_aload_n rfl) ?_
    refine rr rfl (s_getf rfl rfl) ?_
    refine rr rfl (s_aload_n rfl) ?_
    refine rr rfl (s_getf rfl rfl) ?_
    refine rr rfl (s_iload_n rfl) ?_
    refine rr rfl (s_iaload (j := 0) rfl rfl rfl) ?_
    refine rr rfl (s_ialdR (n := 8) (x := 0) rfl g2 g3) ?_
    refine rr rfl (s_istore rfl) ?_
    refine rr rfl (s_aload_n rfl) ?_
    refine rr rfl (s_getf rfl rfl) ?_
    refine rr rfl (s_iload_n rfl) ?_
    refine rr rfl (s_iaload (j := 0) rfl rfl rfl) ?_
    refine rr rfl (s_iconst (v := (-1)) (by decide)) ?_
    refine rr rfl (s_icF (ic_neq g4)) ?_
    refine rr rfl (s_aload_n rfl) ?_
    refine rr rfl (s_getf rfl rfl) ?_
    refine rr rfl (s_aload_n rfl) ?_
    refine rr rfl (s_getf rfl rfl) ?_
    refine rr rfl (s_iload_n rfl) ?_
    refine rr rfl (s_iaload (j := 0) rfl rfl rfl) ?_
    refine rr rfl (s_ialdR (n := 8) (x := 0) rfl g5 g6) ?_
    refine rr rfl (s_iload rfl) ?_
    refine rr rfl (s_icT (by decide)) ?_
    refine rr rfl (s_iload rfl) ?_
    refine rr rfl (s_istore rfl) ?_
    refine rr rfl (s_aload_n rfl) ?_
    refine rr rfl (s_getf rfl rfl) ?_
    refine rr rfl (s_iload_n rfl) ?_
    refine rr rfl (s_iaload (j := 0) rfl rfl rfl) ?_
    refine rr rfl (s_iconst (v := (-1)) (by decide)) ?_
    refine rr rfl (s_icF (ic_neq g7)) ?_
    refine rr rfl (s_aload_n rfl) ?_
    refine rr rfl (s_getf rfl rfl) ?_
    refine rr rfl (s_aload_n rfl) ?_
    refine rr rfl (s_getf rfl rfl) ?_
    refine rr rfl (s_iload_n rfl) ?_
    refine rr rfl (s_iaload (j := 0) rfl rfl rfl) ?_
    refine rr rfl (s_ialdR (n := 8) (x := 0) rfl g8 g9) ?_
    refine rr rfl (s_iconst (v := 1) (by decide)) ?_
    refine rr rfl (s_iadd (v := 1) (by decide)) ?_
    refine rr rfl (s_iload rfl) ?_
    refine rr rfl (s_icF (by decide)) ?_
    refine rr rfl (s_aload_n rfl) ?_
    refine rr rfl (s_getf rfl rfl) ?_
    refine rr rfl (s_aload_n rfl) ?_
    refine rr rfl (s_getf rfl rfl) ?_
    refine rr rfl (s_iload_n rfl) ?_
    refine rr rfl (s_iaload (j := 0) rfl rfl rfl) ?_
    refine rr rfl (s_ialdR (n := 8) (x := 0) rfl g8 g9) ?_
    refine rr rfl (s_iconst (v := 1) (by decide)) ?_
    refine rr rfl (s_iadd (v := 1) (by decide)) ?_
    refine rr rfl s_goto ?_
    refine rr rfl (s_istore rfl) ?_
    refine rr rfl (s_iload rfl) ?_
    refine rr rfl (s_aload_n rfl) ?_
    refine rr rfl (s_getf rfl rfl) ?_
    refine rr rfl (s_aload_n rfl) ?_
    refine rr rfl (s_getf rfl rfl) ?_
    refine rr rfl (s_iload_n rfl) ?_
    refine rr rfl (s_iaload (j := 0) rfl rfl rfl) ?_
    refine rr rfl (s_ialdR (n := 8) (x := 0) rfl g10 g11) ?_
    refine rr rfl (s_icF (by decide)) ?_
    refine rr rfl (s_aload_n rfl) ?_
    refine rr rfl (s_getf rfl rfl) ?_
    refine rr rfl (s_aload_n rfl) ?_
    refine rr rfl (s_getf rfl rfl) ?_
    refine rr rfl (s_iload_n rfl) ?_
    refine rr rfl (s_iaload (j := 0) rfl rfl rfl) ?_
    refine rr rfl (s_iload rfl) ?_
    refine rr rfl (s_iastR (n := 8) rfl g10 g11 (Nat.le_of_ble_eq_true rfl) rfl (h' := ((((((((((((hF.set 5 (.inl ((List.replicate 8 (0 : Int32)).set (Int32.toNatClampNeg x3) 8))).set 41 (.inr (.inr (9, [.int 4, .int 1, .ref 42, .ref 43, .ref 44, .ref 45, .ref 46, .ref 47, .ref 48, .ref 49, .ref 50, .ref 51, .int 0, .int 0, .int 0, .int 0, .int 0, .int 0, .int 0, .int 0, .ref 52, .int 0, .ref 53, .int 0, .ref 54, .int 0, .ref 55, .ref 56, .ref 57, .ref 58, .int 0, .ref 59, .ref 60])))).set 42 (.inl [x1, 0, 0, 0, 0, 0, 0, 0, 0, 0, 0, 0, 0])).set 43 (.inl [x2, 0, 0, 0, 0, 0, 0, 0, 0, 0, 0, 0, 0])).set 44 (.inl [x3, 0, 0, 0, 0, 0, 0, 0, 0, 0, 0, 0, 0])).set 45 (.inl [x4, 0, 0, 0, 0, 0, 0, 0, 0, 0, 0, 0, 0])).set 46 (.inl [x5, 0, 0, 0, 0, 0, 0, 0, 0, 0, 0, 0, 0])).set 47 (.inl [x6, 0, 0, 0, 0, 0, 0, 0, 0, 0, 0, 0, 0])).set 48 (.inl [x7, 0, 0, 0, 0, 0, 0, 0, 0, 0, 0, 0, 0])).set 49 (.inl [(-1), 0, 0, 0, 0, 0, 0, 0, 0, 0, 0, 0, 0])).set 51 (.inl ((List.replicate 8 (0 : Int32)).set (Int32.toNatClampNeg x3) 1))) ++ [.inr (.inr (2, [.int x1, .int x2, .int x3, .int x4, .int x5, .int x6, .int x7, .int ((1 <<< (x4 &&& 31) : Int32) ||| (1 <<< (x5 &&& 31) : Int32)), .int (1 <<< (x6 &&& 31) : Int32), .int (-1)]))]))) ?_
    refine rr rfl (s_iconst (v := 1) (by decide)) ?_
    refine rr rfl (s_istore_n rfl) ?_
    refine rr rfl (s_iload_n rfl) ?_
    refine rr rfl (s_ifF (by decide)) ?_
    refine rr rfl (s_iload rfl) ?_
    refine rr rfl (s_bipush (v := 8) (by decide)) ?_
    refine rr rfl (s_icF (by decide)) ?_
    refine rr rfl (s_iconst (v := 1) (by decide)) ?_
    refine rr rfl s_goto ?_
    refine rr rfl (s_istore_n rfl) ?_
    refine rr rfl (s_iinc (v := 1) rfl (by decide) rfl) ?_
    refine rr rfl s_goto ?_
    refine rr rfl (s_iload_n rfl) ?_
    refine rr rfl (s_aload_n rfl) ?_
    refine rr rfl (s_getf rfl rfl) ?_
    refine rr rfl (s_icT (by decide)) ?_
    refine rr rfl s_goto ?_
    refine rr rfl (s_iload_n rfl) ?_
    refine rr rfl (s_ifF (by decide)) ?_
    refine rr rfl (s_iload_n rfl) ?_
    refine rr rfl (s_ifF (by decide)) ?_
    refine rr rfl (s_iconst (v := 0) (by decide)) ?_
    refine rr rfl (s_istore_n rfl) ?_
    refine rr rfl (s_iconst (v := 0) (by decide)) ?_
    refine rr rfl (s_istore_n rfl) ?_
    refine rr rfl (s_iload_n rfl) ?_
    refine rr rfl (s_aload_n rfl) ?_
    refine rr rfl (s_getf rfl rfl) ?_
    refine rr rfl (s_icF (by decide)) ?_
    refine rr rfl (s_iconst (v := 0) (by decide)) ?_
    refine rr rfl (s_istore rfl) ?_
    refine rr rfl (s_aload_n rfl) ?_
    refine rr rfl (s_getf rfl rfl) ?_
    refine rr rfl (s_iload_n rfl) ?_
    refine rr rfl (s_iaload (j := 0) rfl rfl rfl) ?_
    refine rr rfl (s_ifF (ic_nne g1)) ?_
    refine rr rfl (s_aload_n rfl) ?_
    refine rr rfl (s_getf rfl rfl) ?_
    refine rr rfl (s_aload_n rfl) ?_
    refine rr rfl (s_getf rfl rfl) ?_
    refine rr rfl (s_iload_n rfl) ?_
    refine rr rfl (s_iaload (j := 0) rfl rfl rfl) ?_
    refine rr rfl (s_ialdH rfl g12 g10 g11) ?_
    refine rr rfl (s_istore rfl) ?_
    refine rr rfl (s_aload_n rfl) ?_
    refine rr rfl (s_getf rfl rfl) ?_
    refine rr rfl (s_iload_n rfl) ?_
    refine rr rfl (s_iaload (j := 0) rfl rfl rfl) ?_
    refine rr rfl (s_iconst (v := (-1)) (by decide)) ?_
    refine rr rfl (s_icF (ic_neq g4)) ?_
    refine rr rfl (s_aload_n rfl) ?_
    refine rr rfl (s_getf rfl rfl) ?_
    refine rr rfl (s_aload_n rfl) ?_
    refine rr rfl (s_getf rfl rfl) ?_
    refine rr rfl (s_iload_n rfl) ?_
    refine rr rfl (s_iaload (j := 0) rfl rfl rfl) ?_
    refine rr rfl (s_ialdN rfl g13 g5 g6 g10) ?_
    refine rr rfl (s_iload rfl) ?_
    refine rr rfl (s_icT (by decide)) ?_
    refine rr rfl (s_iload rfl) ?_
    refine rr rfl (s_istore rfl) ?_
    refine rr rfl (s_aload_n rfl) ?_
    refine rr rfl (s_getf rfl rfl) ?_
    refine rr rfl (s_iload_n rfl) ?_
    refine rr rfl (s_iaload (j := 0) rfl rfl rfl) ?_
    refine rr rfl (s_iconst (v := (-1)) (by decide)) ?_
    refine rr rfl (s_icF (ic_neq g7)) ?_
    refine rr rfl (s_aload_n rfl) ?_
    refine rr rfl (s_getf rfl rfl) ?_
    refine rr rfl (s_aload_n rfl) ?_
    refine rr rfl (s_getf rfl rfl) ?_
    refine rr rfl (s_iload_n rfl) ?_
    refine rr rfl (s_iaload (j := 0) rfl rfl rfl) ?_
    refine rr rfl (s_ialdH rfl g14 g10 g11) ?_
    refine rr rfl (s_iconst (v := 1) (by decide)) ?_
    refine rr rfl (s_iadd (v := 2) (by decide)) ?_
    refine rr rfl (s_iload rfl) ?_
    refine rr rfl (s_icF (by decide)) ?_
    refine rr rfl (s_aload_n rfl) ?_
    refine rr rfl (s_getf rfl rfl) ?_
    refine rr rfl (s_aload_n rfl) ?_
    refine rr rfl (s_getf rfl rfl) ?_
    refine rr rfl (s_iload_n rfl) ?_
    refine rr rfl (s_iaload (j := 0) rfl rfl rfl) ?_
    refine rr rfl (s_ialdH rfl g14 g10 g11) ?_
    refine rr rfl (s_iconst (v := 1) (by decide)) ?_
    refine rr rfl (s_iadd (v := 2) (by decide)) ?_
    refine rr rfl s_goto ?_
    refine rr rfl (s_istore rfl) ?_
    refine rr rfl (s_iload rfl) ?_
    refine rr rfl (s_aload_n rfl) ?_
    refine rr rfl (s_getf rfl rfl) ?_
    refine rr rfl (s_aload_n rfl) ?_
    refine rr rfl (s_getf rfl rfl) ?_
    refine rr rfl (s_iload_n rfl) ?_
    refine rr rfl (s_iaload (j := 0) rfl rfl rfl) ?_
    refine rr rfl (s_ialdH rfl rfl g10 g11) ?_
    refine rr rfl (s_icF (by decide)) ?_
    refine rr rfl (s_aload_n rfl) ?_
    refine rr rfl (s_getf rfl rfl) ?_
    refine rr rfl (s_aload_n rfl) ?_
    refine rr rfl (s_getf rfl rfl) ?_
    refine rr rfl (s_iload_n rfl) ?_
    refine rr rfl (s_iaload (j := 0) rfl rfl rfl) ?_
    refine rr rfl (s_iload rfl) ?_
    refine rr rfl (s_iastH (v := 2) rfl rfl g10 g11 (Nat.le_of_ble_eq_true rfl) rfl (h' := ((((((((((((hF.set 5 (.inl ((List.replicate 8 (0 : Int32)).set (Int32.toNatClampNeg x3) 8))).set 41 (.inr (.inr (9, [.int 4, .int 1, .ref 42, .ref 43, .ref 44, .ref 45, .ref 46, .ref 47, .ref 48, .ref 49, .ref 50, .ref 51, .int 0, .int 0, .int 0, .int 0, .int 0, .int 0, .int 0, .int 0, .ref 52, .int 0, .ref 53, .int 0, .ref 54, .int 0, .ref 55, .ref 56, .ref 57, .ref 58, .int 0, .ref 59, .ref 60])))).set 42 (.inl [x1, 0, 0, 0, 0, 0, 0, 0, 0, 0, 0, 0, 0])).set 43 (.inl [x2, 0, 0, 0, 0, 0, 0, 0, 0, 0, 0, 0, 0])).set 44 (.inl [x3, 0, 0, 0, 0, 0, 0, 0, 0, 0, 0, 0, 0])).set 45 (.inl [x4, 0, 0, 0, 0, 0, 0, 0, 0, 0, 0, 0, 0])).set 46 (.inl [x5, 0, 0, 0, 0, 0, 0, 0, 0, 0, 0, 0, 0])).set 47 (.inl [x6, 0, 0, 0, 0, 0, 0, 0, 0, 0, 0, 0, 0])).set 48 (.inl [x7, 0, 0, 0, 0, 0, 0, 0, 0, 0, 0, 0, 0])).set 49 (.inl [(-1), 0, 0, 0, 0, 0, 0, 0, 0, 0, 0, 0, 0])).set 51 (.inl ((List.replicate 8 (0 : Int32)).set (Int32.toNatClampNeg x3) 2))) ++ [.inr (.inr (2, [.int x1, .int x2, .int x3, .int x4, .int x5, .int x6, .int x7, .int ((1 <<< (x4 &&& 31) : Int32) ||| (1 <<< (x5 &&& 31) : Int32)), .int (1 <<< (x6 &&& 31) : Int32), .int (-1)]))]))) ?_
    refine rr rfl (s_iconst (v := 1) (by decide)) ?_
    refine rr rfl (s_istore_n rfl) ?_
    refine rr rfl (s_iload_n rfl) ?_
    refine rr rfl (s_ifF (by decide)) ?_
    refine rr rfl (s_iload rfl) ?_
    refine rr rfl (s_bipush (v := 8) (by decide)) ?_
    refine rr rfl (s_icF (by decide)) ?_
    refine rr rfl (s_iconst (v := 1) (by decide)) ?_
    refine rr rfl s_goto ?_
    refine rr rfl (s_istore_n rfl) ?_
    refine rr rfl (s_iinc (v := 1) rfl (by decide) rfl) ?_
    refine rr rfl s_goto ?_
    refine rr rfl (s_iload_n rfl) ?_
    refine rr rfl (s_aload_n rfl) ?_
    refine rr rfl (s_getf rfl rfl) ?_
    refine rr rfl (s_icT (by decide)) ?_
    refine rr rfl s_goto ?_
    refine rr rfl (s_iload_n rfl) ?_
    refine rr rfl (s_ifF (by decide)) ?_
    refine rr rfl (s_iload_n rfl) ?_
    refine rr rfl (s_ifF (by decide)) ?_
    refine rr rfl (s_iconst (v := 0) (by decide)) ?_
    refine rr rfl (s_istore_n rfl) ?_
    refine rr rfl (s_iconst (v := 0) (by decide)) ?_
    refine rr rfl (s_istore_n rfl) ?_
    refine rr rfl (s_iload_n rfl) ?_
    refine rr rfl (s_aload_n rfl) ?_
    refine rr rfl (s_getf rfl rfl) ?_
    refine rr rfl (s_icF (by decide)) ?_
    refine rr rfl (s_iconst (v := 0) (by decide)) ?_
    refine rr rfl (s_istore rfl) ?_
    refine rr rfl (s_aload_n rfl) ?_
    refine rr rfl (s_getf rfl rfl) ?_
    refine rr rfl (s_iload_n rfl) ?_
    refine rr rfl (s_iaload (j := 0) rfl rfl rfl) ?_
    refine rr rfl (s_ifF (ic_nne g1)) ?_
    refine rr rfl (s_aload_n rfl) ?_
    refine rr rfl (s_getf rfl rfl) ?_
    refine rr rfl (s_aload_n rfl) ?_
    refine rr rfl (s_getf rfl rfl) ?_
    refine rr rfl (s_iload_n rfl) ?_
    refine rr rfl (s_iaload (j := 0) rfl rfl rfl) ?_
    refine rr rfl (s_ialdH rfl g12 g10 g11) ?_
    refine rr rfl (s_istore rfl) ?_
    refine rr rfl (s_aload_n rfl) ?_
    refine rr rfl (s_getf rfl rfl) ?_
    refine rr rfl (s_iload_n rfl) ?_
    refine rr rfl (s_iaload (j := 0) rfl rfl rfl) ?_
    refine rr rfl (s_iconst (v := (-1)) (by decide)) ?_
    refine rr rfl (s_icF (ic_neq g4)) ?_
    refine rr rfl (s_aload_n rfl) ?_
    refine rr rfl (s_getf rfl rfl) ?_
    refine rr rfl (s_aload_n rfl) ?_
    refine rr rfl (s_getf rfl rfl) ?_
    refine rr rfl (s_iload_n rfl) ?_
    refine rr rfl (s_iaload (j := 0) rfl rfl rfl) ?_
    refine rr rfl (s_ialdN rfl g13 g5 g6 g10) ?_
    refine rr rfl (s_iload rfl) ?_
    refine rr rfl (s_icT (by decide)) ?_
    refine rr rfl (s_iload rfl) ?_
    refine rr rfl (s_istore rfl) ?_
    refine rr rfl (s_aload_n rfl) ?_
    refine rr rfl (s_getf rfl rfl) ?_
    refine rr rfl (s_iload_n rfl) ?_
    refine rr rfl (s_iaload (j := 0) rfl rfl rfl) ?_
    refine rr rfl (s_iconst (v := (-1)) (by decide)) ?_
    refine rr rfl (s_icF (ic_neq g7)) ?_
    refine rr rfl (s_aload_n rfl) ?_
    refine rr rfl (s_getf rfl rfl) ?_
    refine rr rfl (s_aload_n rfl) ?_
    refine rr rfl (s_getf rfl rfl) ?_
    refine rr rfl (s_iload_n rfl) ?_
    refine rr rfl (s_iaload (j := 0) rfl rfl rfl) ?_
    refine rr rfl (s_ialdH rfl g14 g10 g11) ?_
    refine rr rfl (s_iconst (v := 1) (by decide)) ?_
    refine rr rfl (s_iadd (v := 3) (by decide)) ?_
    refine rr rfl (s_iload rfl) ?_
    refine rr rfl (s_icF (by decide)) ?_
    refine rr rfl (s_aload_n rfl) ?_
    refine rr rfl (s_getf rfl rfl) ?_
    refine rr rfl (s_aload_n rfl) ?_
    refine rr rfl (s_getf rfl rfl) ?_
    refine rr rfl (s_iload_n rfl) ?_
    refine rr rfl (s_iaload (j := 0) rfl rfl rfl) ?_
    refine rr rfl (s_ialdH rfl g14 g10 g11) ?_
    refine rr rfl (s_iconst (v := 1) (by decide)) ?_
    refine rr rfl (s_iadd (v := 3) (by decide)) ?_
    refine rr rfl s_goto ?_
    refine rr rfl (s_istore rfl) ?_
    refine rr rfl (s_iload rfl) ?_
    refine rr rfl (s_aload_n rfl) ?_
    refine rr rfl (s_getf rfl rfl) ?_
    refine rr rfl (s_aload_n rfl) ?_
    refine rr rfl (s_getf rfl rfl) ?_
    refine rr rfl (s_iload_n rfl) ?_
    refine rr rfl (s_iaload (j := 0) rfl rfl rfl) ?_
    refine rr rfl (s_ialdH rfl rfl g10 g11) ?_
    refine rr rfl (s_icF (by decide)) ?_
    refine rr rfl (s_aload_n rfl) ?_
    refine rr rfl (s_getf rfl rfl) ?_
    refine rr rfl (s_aload_n rfl) ?_
    refine rr rfl (s_getf rfl rfl) ?_
    refine rr rfl (s_iload_n rfl) ?_
    refine rr rfl (s_iaload (j := 0) rfl rfl rfl) ?_
    refine rr rfl (s_iload rfl) ?_
    refine rr rfl (s_iastH (v := 3) rfl rfl g10 g11 (Nat.le_of_ble_eq_true rfl) rfl (h' := ((((((((((((hF.set 5 (.inl ((List.replicate 8 (0 : Int32)).set (Int32.toNatClampNeg x3) 8))).set 41 (.inr (.inr (9, [.int 4, .int 1, .ref 42, .ref 43, .ref 44, .ref 45, .ref 46, .ref 47, .ref 48, .ref 49, .ref 50, .ref 51, .int 0, .int 0, .int 0, .int 0, .int 0, .int 0, .int 0, .int 0, .ref 52, .int 0, .ref 53, .int 0, .ref 54, .int 0, .ref 55, .ref 56, .ref 57, .ref 58, .int 0, .ref 59, .ref 60])))).set 42 (.inl [x1, 0, 0, 0, 0, 0, 0, 0, 0, 0, 0, 0, 0])).set 43 (.inl [x2, 0, 0, 0, 0, 0, 0, 0, 0, 0, 0, 0, 0])).set 44 (.inl [x3, 0, 0, 0, 0, 0, 0, 0, 0, 0, 0, 0, 0])).set 45 (.inl [x4, 0, 0, 0, 0, 0, 0, 0, 0, 0, 0, 0, 0])).set 46 (.inl [x5, 0, 0, 0, 0, 0, 0, 0, 0, 0, 0, 0, 0])).set 47 (.inl [x6, 0, 0, 0, 0, 0, 0, 0, 0, 0, 0, 0, 0])).set 48 (.inl [x7, 0, 0, 0, 0, 0, 0, 0, 0, 0, 0, 0, 0])).set 49 (.inl [(-1), 0, 0, 0, 0, 0, 0, 0, 0, 0, 0, 0, 0])).set 51 (.inl ((List.replicate 8 (0 : Int32)).set (Int32.toNatClampNeg x3) 3))) ++ [.inr (.inr (2, [.int x1, .int x2, .int x3, .int x4, .int x5, .int x6, .int x7, .int ((1 <<< (x4 &&& 31) : Int32) ||| (1 <<< (x5 &&& 31) : Int32)), .int (1 <<< (x6 &&& 31) : Int32), .int (-1)]))]))) ?_
    refine rr rfl (s_iconst (v := 1) (by decide)) ?_
    refine rr rfl (s_istore_n rfl) ?_
    refine rr rfl (s_iload_n rfl) ?_
    refine rr rfl (s_ifF (by decide)) ?_
    refine rr rfl (s_iload rfl) ?_
    refine rr rfl (s_bipush (v := 8) (by decide)) ?_
    refine rr rfl (s_icF (by decide)) ?_
    refine rr rfl (s_iconst (v := 1) (by decide)) ?_
    refine rr rfl s_goto ?_
    refine rr rfl (s_istore_n rfl) ?_
    refine rr rfl (s_iinc (v := 1) rfl (by decide) rfl) ?_
    refine rr rfl s_goto ?_
    refine rr rfl (s_iload_n rfl) ?_
    refine rr rfl (s_aload_n rfl) ?_
    refine rr rfl (s_getf rfl rfl) ?_
    refine rr rfl (s_icT (by decide)) ?_
    refine rr rfl s_goto ?_
    refine rr rfl (s_iload_n rfl) ?_
    refine rr rfl (s_ifF (by decide)) ?_
    refine rr rfl (s_iload_n rfl) ?_
    refine rr rfl (s_ifF (by decide)) ?_
    refine rr rfl (s_iconst (v := 0) (by decide)) ?_
    refine rr rfl (s_istore_n rfl) ?_
    refine rr rfl (s_iconst (v := 0) (by decide)) ?_
    refine rr rfl (s_istore_n rfl) ?_
    refine rr rfl (s_iload_n rfl) ?_
    refine rr rfl (s_aload_n rfl) ?_
    refine rr rfl (s_getf rfl rfl) ?_
    refine rr rfl (s_icF (by decide)) ?_
    refine rr rfl (s_iconst (v := 0) (by decide)) ?_
    refine rr rfl (s_istore rfl) ?_
    refine rr rfl (s_aload_n rfl) ?_
    refine rr rfl (s_getf rfl rfl) ?_
    refine rr rfl (s_iload_n rfl) ?_
    refine rr rfl (s_iaload (j := 0) rfl rfl rfl) ?_
    refine rr rfl (s_ifF (ic_nne g1)) ?_
    refine rr rfl (s_aload_n rfl) ?_
    refine rr rfl (s_getf rfl rfl) ?_
    refine rr rfl (s_aload_n rfl) ?_
    refine rr rfl (s_getf rfl rfl) ?_
    refine rr rfl (s_iload_n rfl) ?_
    refine rr rfl (s_iaload (j := 0) rfl rfl rfl) ?_
    refine rr rfl (s_ialdH rfl g12 g10 g11) ?_
    refine rr rfl (s_istore rfl) ?_
    refine rr rfl (s_aload_n rfl) ?_
    refine rr rfl (s_getf rfl rfl) ?_
    refine rr rfl (s_iload_n rfl) ?_
    refine rr rfl (s_iaload (j := 0) rfl rfl rfl) ?_
    refine rr rfl (s_iconst (v := (-1)) (by decide)) ?_
    refine rr rfl (s_icF (ic_neq g4)) ?_
    refine rr rfl (s_aload_n rfl) ?_
    refine rr rfl (s_getf rfl rfl) ?_
    refine rr rfl (s_aload_n rfl) ?_
    refine rr rfl (s_getf rfl rfl) ?_
    refine rr rfl (s_iload_n rfl) ?_
    refine rr rfl (s_iaload (j := 0) rfl rfl rfl) ?_
    refine rr rfl (s_ialdN rfl g13 g5 g6 g10) ?_
    refine rr rfl (s_iload rfl) ?_
    refine rr rfl (s_icT (by decide)) ?_
    refine rr rfl (s_iload rfl) ?_
    refine rr rfl (s_istore rfl) ?_
    refine rr rfl (s_aload_n rfl) ?_
    refine rr rfl (s_getf rfl rfl) ?_
    refine rr rfl (s_iload_n rfl) ?_
    refine rr rfl (s_iaload (j := 0) rfl rfl rfl) ?_
    refine rr rfl (s_iconst (v := (-1)) (by decide)) ?_
    refine rr rfl (s_icF (ic_neq g7)) ?_
    refine rr rfl (s_aload_n rfl) ?_
    refine rr rfl (s_getf rfl rfl) ?_
    refine rr rfl (s_aload_n rfl) ?_
    refine rr rfl (s_getf rfl rfl) ?_
    refine rr rfl (s_iload_n rfl) ?_
    refine rr rfl (s_iaload (j := 0) rfl rfl rfl) ?_
    refine rr rfl (s_ialdH rfl g14 g10 g11) ?_
    refine rr rfl (s_iconst (v := 1) (by decide)) ?_
    refine rr rfl (s_iadd (v := 4) (by decide)) ?_
    refine rr rfl (s_iload rfl) ?_
    refine rr rfl (s_icF (by decide)) ?_
    refine rr rfl (s_aload_n rfl) ?_
    refine rr rfl (s_getf rfl rfl) ?_
    refine rr rfl (s_aload_n rfl) ?_
    refine rr rfl (s_getf rfl rfl) ?_
    refine rr rfl (s_iload_n rfl) ?_
    refine rr rfl (s_iaload (j := 0) rfl rfl rfl) ?_
    refine rr rfl (s_ialdH rfl g14 g10 g11) ?_
    refine rr rfl (s_iconst (v := 1) (by decide)) ?_
    refine rr rfl (s_iadd (v := 4) (by decide)) ?_
    refine rr rfl s_goto ?_
    refine rr rfl (s_istore rfl) ?_
    refine rr rfl (s_iload rfl) ?_
    refine rr rfl (s_aload_n rfl) ?_
    refine rr rfl (s_getf rfl rfl) ?_
    refine rr rfl (s_aload_n rfl) ?_
    refine rr rfl (s_getf rfl rfl) ?_
    refine rr rfl (s_iload_n rfl) ?_
    refine rr rfl (s_iaload (j := 0) rfl rfl rfl) ?_
    refine rr rfl (s_ialdH rfl rfl g10 g11) ?_
    refine rr rfl (s_icF (by decide)) ?_
    refine rr rfl (s_aload_n rfl) ?_
    refine rr rfl (s_getf rfl rfl) ?_
    refine rr rfl (s_aload_n rfl) ?_
    refine rr rfl (s_getf rfl rfl) ?_
    refine rr rfl (s_iload_n rfl) ?_
    refine rr rfl (s_iaload (j := 0) rfl rfl rfl) ?_
    refine rr rfl (s_iload rfl) ?_
    refine rr rfl (s_iastH (v := 4) rfl rfl g10 g11 (Nat.le_of_ble_eq_true rfl) rfl (h' := ((((((((((((hF.set 5 (.inl ((List.replicate 8 (0 : Int32)).set (Int32.toNatClampNeg x3) 8))).set 41 (.inr (.inr (9, [.int 4, .int 1, .ref 42, .ref 43, .ref 44, .ref 45, .ref 46, .ref 47, .ref 48, .ref 49, .ref 50, .ref 51, .int 0, .int 0, .int 0, .int 0, .int 0, .int 0, .int 0, .int 0, .ref 52, .int 0, .ref 53, .int 0, .ref 54, .int 0, .ref 55, .ref 56, .ref 57, .ref 58, .int 0, .ref 59, .ref 60])))).set 42 (.inl [x1, 0, 0, 0, 0, 0, 0, 0, 0, 0, 0, 0, 0])).set 43 (.inl [x2, 0, 0, 0, 0, 0, 0, 0, 0, 0, 0, 0, 0])).set 44 (.inl [x3, 0, 0, 0, 0, 0, 0, 0, 0, 0, 0, 0, 0])).set 45 (.inl [x4, 0, 0, 0, 0, 0, 0, 0, 0, 0, 0, 0, 0])).set 46 (.inl [x5, 0, 0, 0, 0, 0, 0, 0, 0, 0, 0, 0, 0])).set 47 (.inl [x6, 0, 0, 0, 0, 0, 0, 0, 0, 0, 0, 0, 0])).set 48 (.inl [x7, 0, 0, 0, 0, 0, 0, 0, 0, 0, 0, 0, 0])).set 49 (.inl [(-1), 0, 0, 0, 0, 0, 0, 0, 0, 0, 0, 0, 0])).set 51 (.inl ((List.replicate 8 (0 : Int32)).set (Int32.toNatClampNeg x3) 4))) ++ [.inr (.inr (2, [.int x1, .int x2, .int x3, .int x4, .int x5, .int x6, .int x7, .int ((1 <<< (x4 &&& 31) : Int32) ||| (1 <<< (x5 &&& 31) : Int32)), .int (1 <<< (x6 &&& 31) : Int32), .int (-1)]))]))) ?_
    refine rr rfl (s_iconst (v := 1) (by decide)) ?_
    refine rr rfl (s_istore_n rfl) ?_
    refine rr rfl (s_iload_n rfl) ?_
    refine rr rfl (s_ifF (by decide)) ?_
    refine rr rfl (s_iload rfl) ?_
    refine rr rfl (s_bipush (v := 8) (by decide)) ?_
    refine rr rfl (s_icF (by decide)) ?_
    refine rr rfl (s_iconst (v := 1) (by decide)) ?_
    refine rr rfl s_goto ?_
    refine rr rfl (s_istore_n rfl) ?_
    refine rr rfl (s_iinc (v := 1) rfl (by decide) rfl) ?_
    refine rr rfl s_goto ?_
    refine rr rfl (s_iload_n rfl) ?_
    refine rr rfl (s_aload_n rfl) ?_
    refine rr rfl (s_getf rfl rfl) ?_
    refine rr rfl (s_icT (by decide)) ?_
    refine rr rfl s_goto ?_
    refine rr rfl (s_iload_n rfl) ?_
    refine rr rfl (s_ifF (by decide)) ?_
    refine rr rfl (s_iload_n rfl) ?_
    refine rr rfl (s_ifF (by decide)) ?_
    refine rr rfl (s_iconst (v := 0) (by decide)) ?_
    refine rr rfl (s_istore_n rfl) ?_
    refine rr rfl (s_iconst (v := 0) (by decide)) ?_
    refine rr rfl (s_istore_n rfl) ?_
    refine rr rfl (s_iload_n rfl) ?_
    refine rr rfl (s_aload_n rfl) ?_
    refine rr rfl (s_getf rfl rfl) ?_
    refine rr rfl (s_icF (by decide)) ?_
    refine rr rfl (s_iconst (v := 0) (by decide)) ?_
    refine rr rfl (s_istore rfl) ?_
    refine rr rfl (s_aload_n rfl) ?_
    refine rr rfl (s_getf rfl rfl) ?_
    refine rr rfl (s_iload_n rfl) ?_
    refine rr rfl (s_iaload (j := 0) rfl rfl rfl) ?_
    refine rr rfl (s_ifF (ic_nne g1)) ?_
    refine rr rfl (s_aload_n rfl) ?_
    refine rr rfl (s_getf rfl rfl) ?_
    refine rr rfl (s_aload_n rfl) ?_
    refine rr rfl (s_getf rfl rfl) ?_
    refine rr rfl (s_iload_n rfl) ?_
    refine rr rfl (s_iaload (j := 0) rfl rfl rfl) ?_
    refine rr rfl (s_ialdH rfl g12 g10 g11) ?_
    refine rr rfl (s_istore rfl) ?_
    refine rr rfl (s_aload_n rfl) ?_
    refine rr rfl (s_getf rfl rfl) ?_
    refine rr rfl (s_iload_n rfl) ?_
    refine rr rfl (s_iaload (j := 0) rfl rfl rfl) ?_
    refine rr rfl (s_iconst (v := (-1)) (by decide)) ?_
    refine rr rfl (s_icF (ic_neq g4)) ?_
    refine rr rfl (s_aload_n rfl) ?_
    refine rr rfl (s_getf rfl rfl) ?_
    refine rr rfl (s_aload_n rfl) ?_
    refine rr rfl (s_getf rfl rfl) ?_
    refine rr rfl (s_iload_n rfl) ?_
    refine rr rfl (s_iaload (j := 0) rfl rfl rfl) ?_
    refine rr rfl (s_ialdN rfl g13 g5 g6 g10) ?_
    refine rr rfl (s_iload rfl) ?_
    refine rr rfl (s_icT (by decide)) ?_
    refine rr rfl (s_iload rfl) ?_
    refine rr rfl (s_istore rfl) ?_
    refine rr rfl (s_aload_n rfl) ?_
    refine rr rfl (s_getf rfl rfl) ?_
    refine rr rfl (s_iload_n rfl) ?_
    refine rr rfl (s_iaload (j := 0) rfl rfl rfl) ?_
    refine rr rfl (s_iconst (v := (-1)) (by decide)) ?_
    refine rr rfl (s_icF (ic_neq g7)) ?_
    refine rr rfl (s_aload_n rfl) ?_
    refine rr rfl (s_getf rfl rfl) ?_
    refine rr rfl (s_aload_n rfl) ?_
    refine rr rfl (s_getf rfl rfl) ?_
    refine rr rfl (s_iload_n rfl) ?_
    refine rr rfl (s_iaload (j := 0) rfl rfl rfl) ?_
    refine rr rfl (s_ialdH rfl g14 g10 g11) ?_
    refine rr rfl (s_iconst (v := 1) (by decide)) ?_
    refine rr rfl (s_iadd (v := 5) (by decide)) ?_
    refine rr rfl (s_iload rfl) ?_
    refine rr rfl (s_icF (by decide)) ?_
    refine rr rfl (s_aload_n rfl) ?_
    refine rr rfl (s_getf rfl rfl) ?_
    refine rr rfl (s_aload_n rfl) ?_
    refine rr rfl (s_getf rfl rfl) ?_
    refine rr rfl (s_iload_n rfl) ?_
    refine rr rfl (s_iaload (j := 0) rfl rfl rfl) ?_
    refine rr rfl (s_ialdH rfl g14 g10 g11) ?_
    refine rr rfl (s_iconst (v := 1) (by decide)) ?_
    refine rr rfl (s_iadd (v := 5) (by decide)) ?_
    refine rr rfl s_goto ?_
    refine rr rfl (s_istore rfl) ?_
    refine rr rfl (s_iload rfl) ?_
    refine rr rfl (s_aload_n rfl) ?_
    refine rr rfl (s_getf rfl rfl) ?_
    refine rr rfl (s_aload_n rfl) ?_
    refine rr rfl (s_getf rfl rfl) ?_
    refine rr rfl (s_iload_n rfl) ?_
    refine rr rfl (s_iaload (j := 0) rfl rfl rfl) ?_
    refine rr rfl (s_ialdH rfl rfl g10 g11) ?_
    refine rr rfl (s_icF (by decide)) ?_
    refine rr rfl (s_aload_n rfl) ?_
    refine rr rfl (s_getf rfl rfl) ?_
    refine rr rfl (s_aload_n rfl) ?_
    refine rr rfl (s_getf rfl rfl) ?_
    refine rr rfl (s_iload_n rfl) ?_
    refine rr rfl (s_iaload (j := 0) rfl rfl rfl) ?_
    refine rr rfl (s_iload rfl) ?_
    refine rr rfl (s_iastH (v := 5) rfl rfl g10 g11 (Nat.le_of_ble_eq_true rfl) rfl (h' := ((((((((((((hF.set 5 (.inl ((List.replicate 8 (0 : Int32)).set (Int32.toNatClampNeg x3) 8))).set 41 (.inr (.inr (9, [.int 4, .int 1, .ref 42, .ref 43, .ref 44, .ref 45, .ref 46, .ref 47, .ref 48, .ref 49, .ref 50, .ref 51, .int 0, .int 0, .int 0, .int 0, .int 0, .int 0, .int 0, .int 0, .ref 52, .int 0, .ref 53, .int 0, .ref 54, .int 0, .ref 55, .ref 56, .ref 57, .ref 58, .int 0, .ref 59, .ref 60])))).set 42 (.inl [x1, 0, 0, 0, 0, 0, 0, 0, 0, 0, 0, 0, 0])).set 43 (.inl [x2, 0, 0, 0, 0, 0, 0, 0, 0, 0, 0, 0, 0])).set 44 (.inl [x3, 0, 0, 0, 0, 0, 0, 0, 0, 0, 0, 0, 0])).set 45 (.inl [x4, 0, 0, 0, 0, 0, 0, 0, 0, 0, 0, 0, 0])).set 46 (.inl [x5, 0, 0, 0, 0, 0, 0, 0, 0, 0, 0, 0, 0])).set 47 (.inl [x6, 0, 0, 0, 0, 0, 0, 0, 0, 0, 0, 0, 0])).set 48 (.inl [x7, 0, 0, 0, 0, 0, 0, 0, 0, 0, 0, 0, 0])).set 49 (.inl [(-1), 0, 0, 0, 0, 0, 0, 0, 0, 0, 0, 0, 0])).set 51 (.inl ((List.replicate 8 (0 : Int32)).set (Int32.toNatClampNeg x3) 5))) ++ [.inr (.inr (2, [.int x1, .int x2, .int x3, .int x4, .int x5, .int x6, .int x7, .int ((1 <<< (x4 &&& 31) : Int32) ||| (1 <<< (x5 &&& 31) : Int32)), .int (1 <<< (x6 &&& 31) : Int32), .int (-1)]))]))) ?_
    refine rr rfl (s_iconst (v := 1) (by decide)) ?_
    refine rr rfl (s_istore_n rfl) ?_
    refine rr rfl (s_iload_n rfl) ?_
    refine rr rfl (s_ifF (by decide)) ?_
    refine rr rfl (s_iload rfl) ?_
    refine rr rfl (s_bipush (v := 8) (by decide)) ?_
    refine rr rfl (s_icF (by decide)) ?_
    refine rr rfl (s_iconst (v := 1) (by decide)) ?_
    refine rr rfl s_goto ?_
    refine rr rfl (s_istore_n rfl) ?_
    refine rr rfl (s_iinc (v := 1) rfl (by decide) rfl) ?_
    refine rr rfl s_goto ?_
    refine rr rfl (s_iload_n rfl) ?_
    refine rr rfl (s_aload_n rfl) ?_
    refine rr rfl (s_getf rfl rfl) ?_
    refine rr rfl (s_icT (by decide)) ?_
    refine rr rfl s_goto ?_
    refine rr rfl (s_iload_n rfl) ?_
    refine rr rfl (s_ifF (by decide)) ?_
    refine rr rfl (s_iload_n rfl) ?_
    refine rr rfl (s_ifF (by decide)) ?_
    refine rr rfl (s_iconst (v := 0) (by decide)) ?_
    refine rr rfl (s_istore_n rfl) ?_
    refine rr rfl (s_iconst (v := 0) (by decide)) ?_
    refine rr rfl (s_istore_n rfl) ?_
    refine rr rfl (s_iload_n rfl) ?_
    refine rr rfl (s_aload_n rfl) ?_
    refine rr rfl (s_getf rfl rfl) ?_
    refine rr rfl (s_icF (by decide)) ?_
    refine rr rfl (s_iconst (v := 0) (by decide)) ?_
    refine rr rfl (s_istore rfl) ?_
    refine rr rfl (s_aload_n rfl) ?_
    refine rr rfl (s_getf rfl rfl) ?_
    refine rr rfl (s_iload_n rfl) ?_
    refine rr rfl (s_iaload (j := 0) rfl rfl rfl) ?_
    refine rr rfl (s_ifF (ic_nne g1)) ?_
    refine rr rfl (s_aload_n rfl) ?_
    refine rr rfl (s_getf rfl rfl) ?_
    refine rr rfl (s_aload_n rfl) ?_
    refine rr rfl (s_getf rfl rfl) ?_
    refine rr rfl (s_iload_n rfl) ?_
    refine rr rfl (s_iaload (j := 0) rfl rfl rfl) ?_
    refine rr rfl (s_ialdH rfl g12 g10 g11) ?_
    refine rr rfl (s_istore rfl) ?_
    refine rr rfl (s_aload_n rfl) ?_
    refine rr rfl (s_getf rfl rfl) ?_
    refine rr rfl (s_iload_n rfl) ?_
    refine rr rfl (s_iaload (j := 0) rfl rfl rfl) ?_
    refine rr rfl (s_iconst (v := (-1)) (by decide)) ?_
    refine rr rfl (s_icF (ic_neq g4)) ?_
    refine rr rfl (s_aload_n rfl) ?_
    refine rr rfl (s_getf rfl rfl) ?_
    refine rr rfl (s_aload_n rfl) ?_
    refine rr rfl (s_getf rfl rfl) ?_
    refine rr rfl (s_iload_n rfl) ?_
    refine rr rfl (s_iaload (j := 0) rfl rfl rfl) ?_
    refine rr rfl (s_ialdN rfl g13 g5 g6 g10) ?_
    refine rr rfl (s_iload rfl) ?_
    refine rr rfl (s_icT (by decide)) ?_
    refine rr rfl (s_iload rfl) ?_
    refine rr rfl (s_istore rfl) ?_
    refine rr rfl (s_aload_n rfl) ?_
    refine rr rfl (s_getf rfl rfl) ?_
    refine rr rfl (s_iload_n rfl) ?_
    refine rr rfl (s_iaload (j := 0) rfl rfl rfl) ?_
    refine rr rfl (s_iconst (v := (-1)) (by decide)) ?_
    refine rr rfl (s_icF (ic_neq g7)) ?_
    refine rr rfl (s_aload_n rfl) ?_
    refine rr rfl (s_getf rfl rfl) ?_
    refine rr rfl (s_aload_n rfl) ?_
    refine rr rfl (s_getf rfl rfl) ?_
    refine rr rfl (s_iload_n rfl) ?_
    refine rr rfl (s_iaload (j := 0) rfl rfl rfl) ?_
    refine rr rfl (s_ialdH rfl g14 g10 g11) ?_
    refine rr rfl (s_iconst (v := 1) (by decide)) ?_
    refine rr rfl (s_iadd (v := 6) (by decide)) ?_
    refine rr rfl (s_iload rfl) ?_
    refine rr rfl (s_icF (by decide)) ?_
    refine rr rfl (s_aload_n rfl) ?_
    refine rr rfl (s_getf rfl rfl) ?_
    refine rr rfl (s_aload_n rfl) ?_
    refine rr rfl (s_getf rfl rfl) ?_
    refine rr rfl (s_iload_n rfl) ?_
    refine rr rfl (s_iaload (j := 0) rfl rfl rfl) ?_
    refine rr rfl (s_ialdH rfl g14 g10 g11) ?_
    refine rr rfl (s_iconst (v := 1) (by decide)) ?_
    refine rr rfl (s_iadd (v := 6) (by decide)) ?_
    refine rr rfl s_goto ?_
    refine rr rfl (s_istore rfl) ?_
    refine rr rfl (s_iload rfl) ?_
    refine rr rfl (s_aload_n rfl) ?_
    refine rr rfl (s_getf rfl rfl) ?_
    refine rr rfl (s_aload_n rfl) ?_
    refine rr rfl (s_getf rfl rfl) ?_
    refine rr rfl (s_iload_n rfl) ?_
    refine rr rfl (s_iaload (j := 0) rfl rfl rfl) ?_
    refine rr rfl (s_ialdH rfl rfl g10 g11) ?_
    refine rr rfl (s_icF (by decide)) ?_
    refine rr rfl (s_aload_n rfl) ?_
    refine rr rfl (s_getf rfl rfl) ?_
    refine rr rfl (s_aload_n rfl) ?_
    refine rr rfl (s_getf rfl rfl) ?_
    refine rr rfl (s_iload_n rfl) ?_
    refine rr rfl (s_iaload (j := 0) rfl rfl rfl) ?_
    refine rr rfl (s_iload rfl) ?_
    refine rr rfl (s_iastH (v := 6) rfl rfl g10 g11 (Nat.le_of_ble_eq_true rfl) rfl (h' := ((((((((((((hF.set 5 (.inl ((List.replicate 8 (0 : Int32)).set (Int32.toNatClampNeg x3) 8))).set 41 (.inr (.inr (9, [.int 4, .int 1, .ref 42, .ref 43, .ref 44, .ref 45, .ref 46, .ref 47, .ref 48, .ref 49, .ref 50, .ref 51, .int 0, .int 0, .int 0, .int 0, .int 0, .int 0, .int 0, .int 0, .ref 52, .int 0, .ref 53, .int 0, .ref 54, .int 0, .ref 55, .ref 56, .ref 57, .ref 58, .int 0, .ref 59, .ref 60])))).set 42 (.inl [x1, 0, 0, 0, 0, 0, 0, 0, 0, 0, 0, 0, 0])).set 43 (.inl [x2, 0, 0, 0, 0, 0, 0, 0, 0, 0, 0, 0, 0])).set 44 (.inl [x3, 0, 0, 0, 0, 0, 0, 0, 0, 0, 0, 0, 0])).set 45 (.inl [x4, 0, 0, 0, 0, 0, 0, 0, 0, 0, 0, 0, 0])).set 46 (.inl [x5, 0, 0, 0, 0, 0, 0, 0, 0, 0, 0, 0, 0])).set 47 (.inl [x6, 0, 0, 0, 0, 0, 0, 0, 0, 0, 0, 0, 0])).set 48 (.inl [x7, 0, 0, 0, 0, 0, 0, 0, 0, 0, 0, 0, 0])).set 49 (.inl [(-1), 0, 0, 0, 0, 0, 0, 0, 0, 0, 0, 0, 0])).set 51 (.inl ((List.replicate 8 (0 : Int32)).set (Int32.toNatClampNeg x3) 6))) ++ [.inr (.inr (2, [.int x1, .int x2, .int x3, .int x4, .int x5, .int x6, .int x7, .int ((1 <<< (x4 &&& 31) : Int32) ||| (1 <<< (x5 &&& 31) : Int32)), .int (1 <<< (x6 &&& 31) : Int32), .int (-1)]))]))) ?_
    refine rr rfl (s_iconst (v := 1) (by decide)) ?_
    refine rr rfl (s_istore_n rfl) ?_
    refine rr rfl (s_iload_n rfl) ?_
    refine rr rfl (s_ifF (by decide)) ?_
    refine rr rfl (s_iload rfl) ?_
    refine rr rfl (s_bipush (v := 8) (by decide)) ?_
    refine rr rfl (s_icF (by decide)) ?_
    refine rr rfl (s_iconst (v := 1) (by decide)) ?_
    refine rr rfl s_goto ?_
    refine rr rfl (s_istore_n rfl) ?_
    refine rr rfl (s_iinc (v := 1) rfl (by decide) rfl) ?_
    refine rr rfl s_goto ?_
    refine rr rfl (s_iload_n rfl) ?_
    refine rr rfl (s_aload_n rfl) ?_
    refine rr rfl (s_getf rfl rfl) ?_
    refine rr rfl (s_icT (by decide)) ?_
    refine rr rfl s_goto ?_
    refine rr rfl (s_iload_n rfl) ?_
    refine rr rfl (s_ifF (by decide)) ?_
    refine rr rfl (s_iload_n rfl) ?_
    refine rr rfl (s_ifF (by decide)) ?_
    refine rr rfl (s_iconst (v := 0) (by decide)) ?_
    refine rr rfl (s_istore_n rfl) ?_
    refine rr rfl (s_iconst (v := 0) (by decide)) ?_
    refine rr rfl (s_istore_n rfl) ?_
    refine rr rfl (s_iload_n rfl) ?_
    refine rr rfl (s_aload_n rfl) ?_
    refine rr rfl (s_getf rfl rfl) ?_
    refine rr rfl (s_icF (by decide)) ?_
    refine rr rfl (s_iconst (v := 0) (by decide)) ?_
    refine rr rfl (s_istore rfl) ?_
    refine rr rfl (s_aload_n rfl) ?_
    refine rr rfl (s_getf rfl rfl) ?_
    refine rr rfl (s_iload_n rfl) ?_
    refine rr rfl (s_iaload (j := 0) rfl rfl rfl) ?_
    refine rr rfl (s_ifF (ic_nne g1)) ?_
    refine rr rfl (s_aload_n rfl) ?_
    refine rr rfl (s_getf rfl rfl) ?_
    refine rr rfl (s_aload_n rfl) ?_
    refine rr rfl (s_getf rfl rfl) ?_
    refine rr rfl (s_iload_n rfl) ?_
    refine rr rfl (s_iaload (j := 0) rfl rfl rfl) ?_
    refine rr rfl (s_ialdH rfl g12 g10 g11) ?_
    refine rr rfl (s_istore rfl) ?_
    refine rr rfl (s_aload_n rfl) ?_
    refine rr rfl (s_getf rfl rfl) ?_
    refine rr rfl (s_iload_n rfl) ?_
    refine rr rfl (s_iaload (j := 0) rfl rfl rfl) ?_
    refine rr rfl (s_iconst (v := (-1)) (by decide)) ?_
    refine rr rfl (s_icF (ic_neq g4)) ?_
    refine rr rfl (s_aload_n rfl) ?_
    refine rr rfl (s_getf rfl rfl) ?_
    refine rr rfl (s_aload_n rfl) ?_
    refine rr rfl (s_getf rfl rfl) ?_
    refine rr rfl (s_iload_n rfl) ?_
    refine rr rfl (s_iaload (j := 0) rfl rfl rfl) ?_
    refine rr rfl (s_ialdN rfl g13 g5 g6 g10) ?_
    refine rr rfl (s_iload rfl) ?_
    refine rr rfl (s_icT (by decide)) ?_
    refine rr rfl (s_iload rfl) ?_
    refine rr rfl (s_istore rfl) ?_
    refine rr rfl (s_aload_n rfl) ?_
    refine rr rfl (s_getf rfl rfl) ?_
    refine rr rfl (s_iload_n rfl) ?_
    refine rr rfl (s_iaload (j := 0) rfl rfl rfl) ?_
    refine rr rfl (s_iconst (v := (-1)) (by decide)) ?_
    refine rr rfl (s_icF (ic_neq g7)) ?_
    refine rr rfl (s_aload_n rfl) ?_
    refine rr rfl (s_getf rfl rfl) ?_
    refine rr rfl (s_aload_n rfl) ?_
    refine rr rfl (s_getf rfl rfl) ?_
    refine rr rfl (s_iload_n rfl) ?_
    refine rr rfl (s_iaload (j := 0) rfl rfl rfl) ?_
    refine rr rfl (s_ialdH rfl g14 g10 g11) ?_
    refine rr rfl (s_iconst (v := 1) (by decide)) ?_
    refine rr rfl (s_iadd (v := 7) (by decide)) ?_
    refine rr rfl (s_iload rfl) ?_
    refine rr rfl (s_icF (by decide)) ?_
    refine rr rfl (s_aload_n rfl) ?_
    refine rr rfl (s_getf rfl rfl) ?_
    refine rr rfl (s_aload_n rfl) ?_
    refine rr rfl (s_getf rfl rfl) ?_
    refine rr rfl (s_iload_n rfl) ?_
    refine rr rfl (s_iaload (j := 0) rfl rfl rfl) ?_
    refine rr rfl (s_ialdH rfl g14 g10 g11) ?_
    refine rr rfl (s_iconst (v := 1) (by decide)) ?_
    refine rr rfl (s_iadd (v := 7) (by decide)) ?_
    refine rr rfl s_goto ?_
    refine rr rfl (s_istore rfl) ?_
    refine rr rfl (s_iload rfl) ?_
    refine rr rfl (s_aload_n rfl) ?_
    refine rr rfl (s_getf rfl rfl) ?_
    refine rr rfl (s_aload_n rfl) ?_
    refine rr rfl (s_getf rfl rfl) ?_
    refine rr rfl (s_iload_n rfl) ?_
    refine rr rfl (s_iaload (j := 0) rfl rfl rfl) ?_
    refine rr rfl (s_ialdH rfl rfl g10 g11) ?_
    refine rr rfl (s_icF (by decide)) ?_
    refine rr rfl (s_aload_n rfl) ?_
    refine rr rfl (s_getf rfl rfl) ?_
    refine rr rfl (s_aload_n rfl) ?_
    refine rr rfl (s_getf rfl rfl) ?_
    refine rr rfl (s_iload_n rfl) ?_
    refine rr rfl (s_iaload (j := 0) rfl rfl rfl) ?_
    refine rr rfl (s_iload rfl) ?_
    refine rr rfl (s_iastH (v := 7) rfl rfl g10 g11 (Nat.le_of_ble_eq_true rfl) rfl (h' := ((((((((((((hF.set 5 (.inl ((List.replicate 8 (0 : Int32)).set (Int32.toNatClampNeg x3) 8))).set 41 (.inr (.inr (9, [.int 4, .int 1, .ref 42, .ref 43, .ref 44, .ref 45, .ref 46, .ref 47, .ref 48, .ref 49, .ref 50, .ref 51, .int 0, .int 0, .int 0, .int 0, .int 0, .int 0, .int 0, .int 0, .ref 52, .int 0, .ref 53, .int 0, .ref 54, .int 0, .ref 55, .ref 56, .ref 57, .ref 58, .int 0, .ref 59, .ref 60])))).set 42 (.inl [x1, 0, 0, 0, 0, 0, 0, 0, 0, 0, 0, 0, 0])).set 43 (.inl [x2, 0, 0, 0, 0, 0, 0, 0, 0, 0, 0, 0, 0])).set 44 (.inl [x3, 0, 0, 0, 0, 0, 0, 0, 0, 0, 0, 0, 0])).set 45 (.inl [x4, 0, 0, 0, 0, 0, 0, 0, 0, 0, 0, 0, 0])).set 46 (.inl [x5, 0, 0, 0, 0, 0, 0, 0, 0, 0, 0, 0, 0])).set 47 (.inl [x6, 0, 0, 0, 0, 0, 0, 0, 0, 0, 0, 0, 0])).set 48 (.inl [x7, 0, 0, 0, 0, 0, 0, 0, 0, 0, 0, 0, 0])).set 49 (.inl [(-1), 0, 0, 0, 0, 0, 0, 0, 0, 0, 0, 0, 0])).set 51 (.inl ((List.replicate 8 (0 : Int32)).set (Int32.toNatClampNeg x3) 7))) ++ [.inr (.inr (2, [.int x1, .int x2, .int x3, .int x4, .int x5, .int x6, .int x7, .int ((1 <<< (x4 &&& 31) : Int32) ||| (1 <<< (x5 &&& 31) : Int32)), .int (1 <<< (x6 &&& 31) : Int32), .int (-1)]))]))) ?_
    refine rr rfl (s_iconst (v := 1) (by decide)) ?_
    refine rr rfl (s_istore_n rfl) ?_
    refine rr rfl (s_iload_n rfl) ?_
    refine rr rfl (s_ifF (by decide)) ?_
    refine rr rfl (s_iload rfl) ?_
    refine rr rfl (s_bipush (v := 8) (by decide)) ?_
    refine rr rfl (s_icF (by decide)) ?_
    refine rr rfl (s_iconst (v := 1) (by decide)) ?_
    refine rr rfl s_goto ?_
    refine rr rfl (s_istore_n rfl) ?_
    refine rr rfl (s_iinc (v := 1) rfl (by decide) rfl) ?_
    refine rr rfl s_goto ?_
    refine rr rfl (s_iload_n rfl) ?_
    refine rr rfl (s_aload_n rfl) ?_
    refine rr rfl (s_getf rfl rfl) ?_
    refine rr rfl (s_icT (by decide)) ?_
    refine rr rfl s_goto ?_
    refine rr rfl (s_iload_n rfl) ?_
    refine rr rfl (s_ifF (by decide)) ?_
    refine rr rfl (s_iload_n rfl) ?_
    refine rr rfl (s_ifF (by decide)) ?_
    refine rr rfl (s_iconst (v := 0) (by decide)) ?_
    refine rr rfl (s_istore_n rfl) ?_
    refine rr rfl (s_iconst (v := 0) (by decide)) ?_
    refine rr rfl (s_istore_n rfl) ?_
    refine rr rfl (s_iload_n rfl) ?_
    refine rr rfl (s_aload_n rfl) ?_
    refine rr rfl (s_getf rfl rfl) ?_
    refine rr rfl (s_icF (by decide)) ?_
    refine rr rfl (s_iconst (v := 0) (by decide)) ?_
    refine rr rfl (s_istore rfl) ?_
    refine rr rfl (s_aload_n rfl) ?_
    refine rr rfl (s_getf rfl rfl) ?_
    refine rr rfl (s_iload_n rfl) ?_
    refine rr rfl (s_iaload (j := 0) rfl rfl rfl) ?_
    refine rr rfl (s_ifF (ic_nne g1)) ?_
    refine rr rfl (s_aload_n rfl) ?_
    refine rr rfl (s_getf rfl rfl) ?_
    refine rr rfl (s_aload_n rfl) ?_
    refine rr rfl (s_getf rfl rfl) ?_
    refine rr rfl (s_iload_n rfl) ?_
    refine rr rfl (s_iaload (j := 0) rfl rfl rfl) ?_
    refine rr rfl (s_ialdH rfl g12 g10 g11) ?_
    refine rr rfl (s_istore rfl) ?_
    refine rr rfl (s_aload_n rfl) ?_
    refine rr rfl (s_getf rfl rfl) ?_
    refine rr rfl (s_iload_n rfl) ?_
    refine rr rfl (s_iaload (j := 0) rfl rfl rfl) ?_
    refine rr rfl (s_iconst (v := (-1)) (by decide)) ?_
    refine rr rfl (s_icF (ic_neq g4)) ?_
    refine rr rfl (s_aload_n rfl) ?_
    refine rr rfl (s_getf rfl rfl) ?_
    refine rr rfl (s_aload_n rfl) ?_
    refine rr rfl (s_getf rfl rfl) ?_
    refine rr rfl (s_iload_n rfl) ?_
    refine rr rfl (s_iaload (j := 0) rfl rfl rfl) ?_
    refine rr rfl (s_ialdN rfl g13 g5 g6 g10) ?_
    refine rr rfl (s_iload rfl) ?_
    refine rr rfl (s_icT (by decide)) ?_
    refine rr rfl (s_iload rfl) ?_
    refine rr rfl (s_istore rfl) ?_
    refine rr rfl (s_aload_n rfl) ?_
    refine rr rfl (s_getf rfl rfl) ?_
    refine rr rfl (s_iload_n rfl) ?_
    refine rr rfl (s_iaload (j := 0) rfl rfl rfl) ?_
    refine rr rfl (s_iconst (v := (-1)) (by decide)) ?_
    refine rr rfl (s_icF (ic_neq g7)) ?_
    refine rr rfl (s_aload_n rfl) ?_
    refine rr rfl (s_getf rfl rfl) ?_
    refine rr rfl (s_aload_n rfl) ?_
    refine rr rfl (s_getf rfl rfl) ?_
    refine rr rfl (s_iload_n rfl) ?_
    refine rr rfl (s_iaload (j := 0) rfl rfl rfl) ?_
    refine rr rfl (s_ialdH rfl g14 g10 g11) ?_
    refine rr rfl (s_iconst (v := 1) (by decide)) ?_
    refine rr rfl (s_iadd (v := 8) (by decide)) ?_
    refine rr rfl (s_iload rfl) ?_
    refine rr rfl (s_icF (by decide)) ?_
    refine rr rfl (s_aload_n rfl) ?_
    refine rr rfl (s_getf rfl rfl) ?_
    refine rr rfl (s_aload_n rfl) ?_
    refine rr rfl (s_getf rfl rfl) ?_
    refine rr rfl (s_iload_n rfl) ?_
    refine rr rfl (s_iaload (j := 0) rfl rfl rfl) ?_
    refine rr rfl (s_ialdH rfl g14 g10 g11) ?_
    refine rr rfl (s_iconst (v := 1) (by decide)) ?_
    refine rr rfl (s_iadd (v := 8) (by decide)) ?_
    refine rr rfl s_goto ?_
    refine rr rfl (s_istore rfl) ?_
    refine rr rfl (s_iload rfl) ?_
    refine rr rfl (s_aload_n rfl) ?_
    refine rr rfl (s_getf rfl rfl) ?_
    refine rr rfl (s_aload_n rfl) ?_
    refine rr rfl (s_getf rfl rfl) ?_
    refine rr rfl (s_iload_n rfl) ?_
    refine rr rfl (s_iaload (j := 0) rfl rfl rfl) ?_
    refine rr rfl (s_ialdH rfl rfl g10 g11) ?_
    refine rr rfl (s_icF (by decide)) ?_
    refine rr rfl (s_aload_n rfl) ?_
    refine rr rfl (s_getf rfl rfl) ?_
    refine rr rfl (s_aload_n rfl) ?_
    refine rr rfl (s_getf rfl rfl) ?_
    refine rr rfl (s_iload_n rfl) ?_
    refine rr rfl (s_iaload (j := 0) rfl rfl rfl) ?_
    refine rr rfl (s_iload rfl) ?_
    refine rr rfl (s_iastH (v := 8) rfl rfl g10 g11 (Nat.le_of_ble_eq_true rfl) rfl (h' := ((((((((((((hF.set 5 (.inl ((List.replicate 8 (0 : Int32)).set (Int32.toNatClampNeg x3) 8))).set 41 (.inr (.inr (9, [.int 4, .int 1, .ref 42, .ref 43, .ref 44, .ref 45, .ref 46, .ref 47, .ref 48, .ref 49, .ref 50, .ref 51, .int 0, .int 0, .int 0, .int 0, .int 0, .int 0, .int 0, .int 0, .ref 52, .int 0, .ref 53, .int 0, .ref 54, .int 0, .ref 55, .ref 56, .ref 57, .ref 58, .int 0, .ref 59, .ref 60])))).set 42 (.inl [x1, 0, 0, 0, 0, 0, 0, 0, 0, 0, 0, 0, 0])).set 43 (.inl [x2, 0, 0, 0, 0, 0, 0, 0, 0, 0, 0, 0, 0])).set 44 (.inl [x3, 0, 0, 0, 0, 0, 0, 0, 0, 0, 0, 0, 0])).set 45 (.inl [x4, 0, 0, 0, 0, 0, 0, 0, 0, 0, 0, 0, 0])).set 46 (.inl [x5, 0, 0, 0, 0, 0, 0, 0, 0, 0, 0, 0, 0])).set 47 (.inl [x6, 0, 0, 0, 0, 0, 0, 0, 0, 0, 0, 0, 0])).set 48 (.inl [x7, 0, 0, 0, 0, 0, 0, 0, 0, 0, 0, 0, 0])).set 49 (.inl [(-1), 0, 0, 0, 0, 0, 0, 0, 0, 0, 0, 0, 0])).set 51 (.inl ((List.replicate 8 (0 : Int32)).set (Int32.toNatClampNeg x3) 8))) ++ [.inr (.inr (2, [.int x1, .int x2, .int x3, .int x4, .int x5, .int x6, .int x7, .int ((1 <<< (x4 &&& 31) : Int32) ||| (1 <<< (x5 &&& 31) : Int32)), .int (1 <<< (x6 &&& 31) : Int32), .int (-1)]))]))) ?_
    refine rr rfl (s_iconst (v := 1) (by decide)) ?_
    refine rr rfl (s_istore_n rfl) ?_
    refine rr rfl (s_iload_n rfl) ?_
    refine rr rfl (s_ifF (by decide)) ?_
    refine rr rfl (s_iload rfl) ?_
    refine rr rfl (s_bipush (v := 8) (by decide)) ?_
    refine rr rfl (s_icT (by decide)) ?_
    refine rr rfl (s_iconst (v := 0) (by decide)) ?_
    refine rr rfl (s_istore_n rfl) ?_
    refine rr rfl (s_iinc (v := 1) rfl (by decide) rfl) ?_
    refine rr rfl s_goto ?_
    refine rr rfl (s_iload_n rfl) ?_
    refine rr rfl (s_aload_n rfl) ?_
    refine rr rfl (s_getf rfl rfl) ?_
    refine rr rfl (s_icT (by decide)) ?_
    refine rr rfl s_goto ?_
    refine rr rfl (s_iload_n rfl) ?_
    refine rr rfl (s_ifF (by decide)) ?_
    refine rr rfl (s_iload_n rfl) ?_
    refine rr rfl (s_ifT (by decide)) ?_
    refine rr rfl (s_iload_n rfl) ?_
    exact rrt rfl rfl rfl rfl
  refine rrc rfl rfl rfl (do_of g_X9_lays rfl rfl e2) ?_
  refine rr rfl (s_istore rfl) ?_
  refine rr rfl (s_iload rfl) ?_
  refine rr rfl (s_ifT (by decide)) ?_
  refine rr rfl (s_aload_n rfl) ?_
  refine rr rfl rfl ?_
  refine rr rfl (s_getf rfl rfl) ?_
  refine rr rfl (s_iconst (v := 1) (by decide)) ?_
  refine rr rfl (s_isub (v := 0) (by decide)) ?_
  refine rr rfl (s_putf rfl rfl (Nat.le_of_ble_eq_true rfl) rfl (Nat.le_of_ble_eq_true rfl) rfl (h' := (((((((((((hF.set 5 (.inl ((List.replicate 8 (0 : Int32)).set (Int32.toNatClampNeg x3) 8))).set 42 (.inl [x1, 0, 0, 0, 0, 0, 0, 0, 0, 0, 0, 0, 0])).set 43 (.inl [x2, 0, 0, 0, 0, 0, 0, 0, 0, 0, 0, 0, 0])).set 44 (.inl [x3, 0, 0, 0, 0, 0, 0, 0, 0, 0, 0, 0, 0])).set 45 (.inl [x4, 0, 0, 0, 0, 0, 0, 0, 0, 0, 0, 0, 0])).set 46 (.inl [x5, 0, 0, 0, 0, 0, 0, 0, 0, 0, 0, 0, 0])).set 47 (.inl [x6, 0, 0, 0, 0, 0, 0, 0, 0, 0, 0, 0, 0])).set 48 (.inl [x7, 0, 0, 0, 0, 0, 0, 0, 0, 0, 0, 0, 0])).set 49 (.inl [(-1), 0, 0, 0, 0, 0, 0, 0, 0, 0, 0, 0, 0])).set 51 (.inl ((List.replicate 8 (0 : Int32)).set (Int32.toNatClampNeg x3) 8))) ++ [.inr (.inr (2, [.int x1, .int x2, .int x3, .int x4, .int x5, .int x6, .int x7, .int ((1 <<< (x4 &&& 31) : Int32) ||| (1 <<< (x5 &&& 31) : Int32)), .int (1 <<< (x6 &&& 31) : Int32), .int (-1)]))]))) ?_
  refine rr rfl (s_aload_n rfl) ?_
  have e3 : a_m MT [] 100000 10 miX9_lays [.ref 41] (((((((((((hF.set 5 (.inl ((List.replicate 8 (0 : Int32)).set (Int32.toNatClampNeg x3) 8))).set 42 (.inl [x1, 0, 0, 0, 0, 0, 0, 0, 0, 0, 0, 0, 0])).set 43 (.inl [x2, 0, 0, 0, 0, 0, 0, 0, 0, 0, 0, 0, 0])).set 44 (.inl [x3, 0, 0, 0, 0, 0, 0, 0, 0, 0, 0, 0, 0])).set 45 (.inl [x4, 0, 0, 0, 0, 0, 0, 0, 0, 0, 0, 0, 0])).set 46 (.inl [x5, 0, 0, 0, 0, 0, 0, 0, 0, 0, 0, 0, 0])).set 47 (.inl [x6, 0, 0, 0, 0, 0, 0, 0, 0, 0, 0, 0, 0])).set 48 (.inl [x7, 0, 0, 0, 0, 0, 0, 0, 0, 0, 0, 0, 0])).set 49 (.inl [(-1), 0, 0, 0, 0, 0, 0, 0, 0, 0, 0, 0, 0])).set 51 (.inl ((List.replicate 8 (0 : Int32)).set (Int32.toNatClampNeg x3) 8))) ++ [.inr (.inr (2, [.int x1, .int x2, .int x3, .int x4, .int x5, .int x6, .int x7, .int ((1 <<< (x4 &&& 31) : Int32) ||| (1 <<< (x5 &&& 31) : Int32)), .int (1 <<< (x6 &&& 31) : Int32), .int (-1)]))]) = some ((some (.int 1)), ((((((((((hF.set 5 (.inl ((List.replicate 8 (0 : Int32)).set (Int32.toNatClampNeg x3) 8))).set 42 (.inl [x1, 0, 0, 0, 0, 0, 0, 0, 0, 0, 0, 0, 0])).set 43 (.inl [x2, 0, 0, 0, 0, 0, 0, 0, 0, 0, 0, 0, 0])).set 44 (.inl [x3, 0, 0, 0, 0, 0, 0, 0, 0, 0, 0, 0, 0])).set 45 (.inl [x4, 0, 0, 0, 0, 0, 0, 0, 0, 0, 0, 0, 0])).set 46 (.inl [x5, 0, 0, 0, 0, 0, 0, 0, 0, 0, 0, 0, 0])).set 47 (.inl [x6, 0, 0, 0, 0, 0, 0, 0, 0, 0, 0, 0, 0])).set 48 (.inl [x7, 0, 0, 0, 0, 0, 0, 0, 0, 0, 0, 0, 0])).set 49 (.inl [(-1), 0, 0, 0, 0, 0, 0, 0, 0, 0, 0, 0, 0])) ++ [.inr (.inr (2, [.int x1, .int x2, .int x3, .int x4, .int x5, .int x6, .int x7, .int ((1 <<< (x4 &&& 31) : Int32) ||| (1 <<< (x5 &&& 31) : Int32)), .int (1 <<< (x6 &&& 31) : Int32), .int (-1)]))]), 0, 0) := by
    exact lays0 rfl rfl rfl rfl (by simp) rfl
  refine rrc rfl rfl rfl (do_of g_X9_lays rfl rfl e3) ?_
  refine rr rfl (s_istore rfl) ?_
  refine rr rfl (s_iload rfl) ?_
  refine rr rfl (s_ifT (by decide)) ?_
  refine rr rfl (s_bipush (v := (-3)) (by decide)) ?_
  exact rrt rfl rfl rfl rfl
set_option maxHeartbeats 4000000 in
set_option maxRecDepth 10000 in
theorem rm_Nhhh {x1 x2 x3 x4 x5 x6 x7 : Int32} (g1 : x2 = 0) (g2 : ¬ x4 < 0) (g3 : x4 < nI 8) (g4 : ¬ x5 = (-1)) (g5 : ¬ x5 < 0) (g6 : x5 < nI 8) (g7 : ¬ x6 = (-1)) (g8 : ¬ x6 < 0) (g9 : x6 < nI 8) (g10 : ¬ x3 < 0) (g11 : x3 < nI 8) (g12 : x4 = x3) (g13 : x5 = x3) (g14 : x6 = x3) : a_run MT [] (a_m MT [] 100000 10) 11 (some .int) tabX9_rule 90000 95 (alQ x1 x2 x3 x4 x5 x6 x7) [] ((hF.set 5 (.inl ((List.replicate 8 (0 : Int32)).set (Int32.toNatClampNeg x3) 8))) ++ [.inr (.inr (2, [.int x1, .int x2, .int x3, .int x4, .int x5, .int x6, .int x7, .int ((1 <<< (x4 &&& 31) : Int32) ||| (1 <<< (x5 &&& 31) : Int32)), .int (1 <<< (x6 &&& 31) : Int32), .int (-1)]))]) 0 0 = some (some (.int (-3)), ((((((((((hF.set 5 (.inl ((List.replicate 8 (0 : Int32)).set (Int32.toNatClampNeg x3) 8))).set 42 (.inl [x1, 0, 0, 0, 0, 0, 0, 0, 0, 0, 0, 0, 0])).set 43 (.inl [x2, 0, 0, 0, 0, 0, 0, 0, 0, 0, 0, 0, 0])).set 44 (.inl [x3, 0, 0, 0, 0, 0, 0, 0, 0, 0, 0, 0, 0])).set 45 (.inl [x4, 0, 0, 0, 0, 0, 0, 0, 0, 0, 0, 0, 0])).set 46 (.inl [x5, 0, 0, 0, 0, 0, 0, 0, 0, 0, 0, 0, 0])).set 47 (.inl [x6, 0, 0, 0, 0, 0, 0, 0, 0, 0, 0, 0, 0])).set 48 (.inl [x7, 0, 0, 0, 0, 0, 0, 0, 0, 0, 0, 0, 0])).set 49 (.inl [(-1), 0, 0, 0, 0, 0, 0, 0, 0, 0, 0, 0, 0])) ++ [.inr (.inr (2, [.int x1, .int x2, .int x3, .int x4, .int x5, .int x6, .int x7, .int ((1 <<< (x4 &&& 31) : Int32) ||| (1 <<< (x5 &&& 31) : Int32)), .int (1 <<< (x6 &&& 31) : Int32), .int (-1)]))]), 0, 0) := by
  refine rr rfl (s_aload_n rfl) ?_
  refine rr rfl (s_aload_n rfl) ?_
  refine rr rfl (s_getf rfl rfl) ?_
  refine rr rfl (s_iload_n rfl) ?_
  refine rr rfl (s_iload_n rfl) ?_
  refine rr rfl (s_iload_n rfl) ?_
  refine rr rfl (s_iload rfl) ?_
  refine rr rfl (s_iload rfl) ?_
  refine rr rfl (s_iload rfl) ?_
  refine rr rfl (s_iload rfl) ?_
  have e1 : a_m MT [] 100000 10 miX9_sets [.ref 41, .int 0, .int x1, .int x2, .int x3, .int x4, .int x5, .int x6, .int x7] ((hF.set 5 (.inl ((List.replicate 8 (0 : Int32)).set (Int32.toNatClampNeg x3) 8))) ++ [.inr (.inr (2, [.int x1, .int x2, .int x3, .int x4, .int x5, .int x6, .int x7, .int ((1 <<< (x4 &&& 31) : Int32) ||| (1 <<< (x5 &&& 31) : Int32)), .int (1 <<< (x6 &&& 31) : Int32), .int (-1)]))]) = some (none, ((((((((((hF.set 5 (.inl ((List.replicate 8 (0 : Int32)).set (Int32.toNatClampNeg x3) 8))).set 42 (.inl [x1, 0, 0, 0, 0, 0, 0, 0, 0, 0, 0, 0, 0])).set 43 (.inl [x2, 0, 0, 0, 0, 0, 0, 0, 0, 0, 0, 0, 0])).set 44 (.inl [x3, 0, 0, 0, 0, 0, 0, 0, 0, 0, 0, 0, 0])).set 45 (.inl [x4, 0, 0, 0, 0, 0, 0, 0, 0, 0, 0, 0, 0])).set 46 (.inl [x5, 0, 0, 0, 0, 0, 0, 0, 0, 0, 0, 0, 0])).set 47 (.inl [x6, 0, 0, 0, 0, 0, 0, 0, 0, 0, 0, 0, 0])).set 48 (.inl [x7, 0, 0, 0, 0, 0, 0, 0, 0, 0, 0, 0, 0])).set 49 (.inl [(-1), 0, 0, 0, 0, 0, 0, 0, 0, 0, 0, 0, 0])) ++ [.inr (.inr (2, [.int x1, .int x2, .int x3, .int x4, .int x5, .int x6, .int x7, .int ((1 <<< (x4 &&& 31) : Int32) ||| (1 <<< (x5 &&& 31) : Int32)), .int (1 <<< (x6 &&& 31) : Int32), .int (-1)]))]), 0, 0) := by
    refine me (d := 9) g_X9_sets (Nat.le_of_ble_eq_true rfl) ?_
    refine rr rfl (s_aload_n rfl) ?_
    refine rr rfl (s_getf rfl rfl) ?_
    refine rr rfl (s_iload_n rfl) ?_
    refine rr rfl (s_iload_n rfl) ?_
    refine rr rfl (s_iastore (j := 0) (f' := [x1, 0, 0, 0, 0, 0, 0, 0, 0, 0, 0, 0, 0]) rfl rfl (Nat.le_of_ble_eq_true rfl) rfl (Nat.le_of_ble_eq_true rfl) rfl (h' := (((hF.set 5 (.inl ((List.replicate 8 (0 : Int32)).set (Int32.toNatClampNeg x3) 8))).set 42 (.inl [x1, 0, 0, 0, 0, 0, 0, 0, 0, 0, 0, 0, 0])) ++ [.inr (.inr (2, [.int x1, .int x2, .int x3, .int x4, .int x5, .int x6, .int x7, .int ((1 <<< (x4 &&& 31) : Int32) ||| (1 <<< (x5 &&& 31) : Int32)), .int (1 <<< (x6 &&& 31) : Int32), .int (-1)]))]))) ?_
    refine rr rfl (s_aload_n rfl) ?_
    refine rr rfl (s_getf rfl rfl) ?_
    refine rr rfl (s_iload_n rfl) ?_
    refine rr rfl (s_iload_n rfl) ?_
    refine rr rfl (s_iastore (j := 0) (f' := [x2, 0, 0, 0, 0, 0, 0, 0, 0, 0, 0, 0, 0]) rfl rfl (Nat.le_of_ble_eq_true rfl) rfl (Nat.le_of_ble_eq_true rfl) rfl (h' := ((((hF.set 5 (.inl ((List.replicate 8 (0 : Int32)).set (Int32.toNatClampNeg x3) 8))).set 42 (.inl [x1, 0, 0, 0, 0, 0, 0, 0, 0, 0, 0, 0, 0])).set 43 (.inl [x2, 0, 0, 0, 0, 0, 0, 0, 0, 0, 0, 0, 0])) ++ [.inr (.inr (2, [.int x1, .int x2, .int x3, .int x4, .int x5, .int x6, .int x7, .int ((1 <<< (x4 &&& 31) : Int32) ||| (1 <<< (x5 &&& 31) : Int32)), .int (1 <<< (x6 &&& 31) : Int32), .int (-1)]))]))) ?_
    refine rr rfl (s_aload_n rfl) ?_
    refine rr rfl (s_getf rfl rfl) ?_
    refine rr rfl (s_iload_n rfl) ?_
    refine rr rfl (s_iload rfl) ?_
    refine rr rfl (s_iastore (j := 0) (f' := [x3, 0, 0, 0, 0, 0, 0, 0, 0, 0, 0, 0, 0]) rfl rfl (Nat.le_of_ble_eq_true rfl) rfl (Nat.le_of_ble_eq_true rfl) rfl (h' := (((((hF.set 5 (.inl ((List.replicate 8 (0 : Int32)).set (Int32.toNatClampNeg x3) 8))).set 42 (.inl [x1, 0, 0, 0, 0, 0, 0, 0, 0, 0, 0, 0, 0])).set 43 (.inl [x2, 0, 0, 0, 0, 0, 0, 0, 0, 0, 0, 0, 0])).set 44 (.inl [x3, 0, 0, 0, 0, 0, 0, 0, 0, 0, 0, 0, 0])) ++ [.inr (.inr (2, [.int x1, .int x2, .int x3, .int x4, .int x5, .int x6, .int x7, .int ((1 <<< (x4 &&& 31) : Int32) ||| (1 <<< (x5 &&& 31) : Int32)), .int (1 <<< (x6 &&& 31) : Int32), .int (-1)]))]))) ?_
    refine rr rfl (s_aload_n rfl) ?_
    refine rr rfl (s_getf rfl rfl) ?_
    refine rr rfl (s_iload_n rfl) ?_
    refine rr rfl (s_iload rfl) ?_
    refine rr rfl (s_iastore (j := 0) (f' := [x4, 0, 0, 0, 0, 0, 0, 0, 0, 0, 0, 0, 0]) rfl rfl (Nat.le_of_ble_eq_true rfl) rfl (Nat.le_of_ble_eq_true rfl) rfl (h' := ((((((hF.set 5 (.inl ((List.replicate 8 (0 : Int32)).set (Int32.toNatClampNeg x3) 8))).set 42 (.inl [x1, 0, 0, 0, 0, 0, 0, 0, 0, 0, 0, 0, 0])).set 43 (.inl [x2, 0, 0, 0, 0, 0, 0, 0, 0, 0, 0, 0, 0])).set 44 (.inl [x3, 0, 0, 0, 0, 0, 0, 0, 0, 0, 0, 0, 0])).set 45 (.inl [x4, 0, 0, 0, 0, 0, 0, 0, 0, 0, 0, 0, 0])) ++ [.inr (.inr (2, [.int x1, .int x2, .int x3, .int x4, .int x5, .int x6, .int x7, .int ((1 <<< (x4 &&& 31) : Int32) ||| (1 <<< (x5 &&& 31) : Int32)), .int (1 <<< (x6 &&& 31) : Int32), .int (-1)]))]))) ?_
    refine rr rfl (s_aload_n rfl) ?_
    refine rr rfl (s_getf rfl rfl) ?_
    refine rr rfl (s_iload_n rfl) ?_
    refine rr rfl (s_iload rfl) ?_
    refine rr rfl (s_iastore (j := 0) (f' := [x5, 0, 0, 0, 0, 0, 0, 0, 0, 0, 0, 0, 0]) rfl rfl (Nat.le_of_ble_eq_true rfl) rfl (Nat.le_of_ble_eq_true rfl) rfl (h' := (((((((hF.set 5 (.inl ((List.replicate 8 (0 : Int32)).set (Int32.toNatClampNeg x3) 8))).set 42 (.inl [x1, 0, 0, 0, 0, 0, 0, 0, 0, 0, 0, 0, 0])).set 43 (.inl [x2, 0, 0, 0, 0, 0, 0, 0, 0, 0, 0, 0, 0])).set 44 (.inl [x3, 0, 0, 0, 0, 0, 0, 0, 0, 0, 0, 0, 0])).set 45 (.inl [x4, 0, 0, 0, 0, 0, 0, 0, 0, 0, 0, 0, 0])).set 46 (.inl [x5, 0, 0, 0, 0, 0, 0, 0, 0, 0, 0, 0, 0])) ++ [.inr (.inr (2, [.int x1, .int x2, .int x3, .int x4, .int x5, .int x6, .int x7, .int ((1 <<< (x4 &&& 31) : Int32) ||| (1 <<< (x5 &&& 31) : Int32)), .int (1 <<< (x6 &&& 31) : Int32), .int (-1)]))]))) ?_
    refine rr rfl (s_aload_n rfl) ?_
    refine rr rfl (s_getf rfl rfl) ?_
    refine rr rfl (s_iload_n rfl) ?_
    refine rr rfl (s_iload rfl) ?_
    refine rr rfl (s_iastore (j := 0) (f' := [x6, 0, 0, 0, 0, 0, 0, 0, 0, 0, 0, 0, 0]) rfl rfl (Nat.le_of_ble_eq_true rfl) rfl (Nat.le_of_ble_eq_true rfl) rfl (h' := ((((((((hF.set 5 (.inl ((List.replicate 8 (0 : Int32)).set (Int32.toNatClampNeg x3) 8))).set 42 (.inl [x1, 0, 0, 0, 0, 0, 0, 0, 0, 0, 0, 0, 0])).set 43 (.inl [x2, 0, 0, 0, 0, 0, 0, 0, 0, 0, 0, 0, 0])).set 44 (.inl [x3, 0, 0, 0, 0, 0, 0, 0, 0, 0, 0, 0, 0])).set 45 (.inl [x4, 0, 0, 0, 0, 0, 0, 0, 0, 0, 0, 0, 0])).set 46 (.inl [x5, 0, 0, 0, 0, 0, 0, 0, 0, 0, 0, 0, 0])).set 47 (.inl [x6, 0, 0, 0, 0, 0, 0, 0, 0, 0, 0, 0, 0])) ++ [.inr (.inr (2, [.int x1, .int x2, .int x3, .int x4, .int x5, .int x6, .int x7, .int ((1 <<< (x4 &&& 31) : Int32) ||| (1 <<< (x5 &&& 31) : Int32)), .int (1 <<< (x6 &&& 31) : Int32), .int (-1)]))]))) ?_
    refine rr rfl (s_aload_n rfl) ?_
    refine rr rfl (s_getf rfl rfl) ?_
    refine rr rfl (s_iload_n rfl) ?_
    refine rr rfl (s_iload rfl) ?_
    refine rr rfl (s_iastore (j := 0) (f' := [x7, 0, 0, 0, 0, 0, 0, 0, 0, 0, 0, 0, 0]) rfl rfl (Nat.le_of_ble_eq_true rfl) rfl (Nat.le_of_ble_eq_true rfl) rfl (h' := (((((((((hF.set 5 (.inl ((List.replicate 8 (0 : Int32)).set (Int32.toNatClampNeg x3) 8))).set 42 (.inl [x1, 0, 0, 0, 0, 0, 0, 0, 0, 0, 0, 0, 0])).set 43 (.inl [x2, 0, 0, 0, 0, 0, 0, 0, 0, 0, 0, 0, 0])).set 44 (.inl [x3, 0, 0, 0, 0, 0, 0, 0, 0, 0, 0, 0, 0])).set 45 (.inl [x4, 0, 0, 0, 0, 0, 0, 0, 0, 0, 0, 0, 0])).set 46 (.inl [x5, 0, 0, 0, 0, 0, 0, 0, 0, 0, 0, 0, 0])).set 47 (.inl [x6, 0, 0, 0, 0, 0, 0, 0, 0, 0, 0, 0, 0])).set 48 (.inl [x7, 0, 0, 0, 0, 0, 0, 0, 0, 0, 0, 0, 0])) ++ [.inr (.inr (2, [.int x1, .int x2, .int x3, .int x4, .int x5, .int x6, .int x7, .int ((1 <<< (x4 &&& 31) : Int32) ||| (1 <<< (x5 &&& 31) : Int32)), .int (1 <<< (x6 &&& 31) : Int32), .int (-1)]))]))) ?_
    refine rr rfl (s_aload_n rfl) ?_
    refine rr rfl (s_getf rfl rfl) ?_
    refine rr rfl (s_iload_n rfl) ?_
    refine rr rfl (s_iconst (v := (-1)) (by decide)) ?_
    refine rr rfl (s_iastore (j := 0) (f' := [(-1), 0, 0, 0, 0, 0, 0, 0, 0, 0, 0, 0, 0]) rfl rfl (Nat.le_of_ble_eq_true rfl) rfl (Nat.le_of_ble_eq_true rfl) rfl (h' := ((((((((((hF.set 5 (.inl ((List.replicate 8 (0 : Int32)).set (Int32.toNatClampNeg x3) 8))).set 42 (.inl [x1, 0, 0, 0, 0, 0, 0, 0, 0, 0, 0, 0, 0])).set 43 (.inl [x2, 0, 0, 0, 0, 0, 0, 0, 0, 0, 0, 0, 0])).set 44 (.inl [x3, 0, 0, 0, 0, 0, 0, 0, 0, 0, 0, 0, 0])).set 45 (.inl [x4, 0, 0, 0, 0, 0, 0, 0, 0, 0, 0, 0, 0])).set 46 (.inl [x5, 0, 0, 0, 0, 0, 0, 0, 0, 0, 0, 0, 0])).set 47 (.inl [x6, 0, 0, 0, 0, 0, 0, 0, 0, 0, 0, 0, 0])).set 48 (.inl [x7, 0, 0, 0, 0, 0, 0, 0, 0, 0, 0, 0, 0])).set 49 (.inl [(-1), 0, 0, 0, 0, 0, 0, 0, 0, 0, 0, 0, 0])) ++ [.inr (.inr (2, [.int x1, .int x2, .int x3, .int x4, .int x5, .int x6, .int x7, .int ((1 <<< (x4 &&& 31) : Int32) ||| (1 <<< (x5 &&& 31) : Int32)), .int (1 <<< (x6 &&& 31) : Int32), .int (-1)]))]))) ?_
    exact rrt rfl rfl rfl rfl
  refine rrc rfl rfl rfl (do_of g_X9_sets rfl rfl e1) ?_
  refine rr rfl (s_aload_n rfl) ?_
  refine rr rfl rfl ?_
  refine rr rfl (s_getf rfl rfl) ?_
  refine rr rfl (s_iconst (v := 1) (by decide)) ?_
  refine rr rfl (s_iadd (v := 1) (by decide)) ?_
  refine rr rfl (s_putf rfl rfl (Nat.le_of_ble_eq_true rfl) rfl (Nat.le_of_ble_eq_true rfl) rfl (h' := (((((((((((hF.set 5 (.inl ((List.replicate 8 (0 : Int32)).set (Int32.toNatClampNeg x3) 8))).set 41 (.inr (.inr (9, [.int 4, .int 1, .ref 42, .ref 43, .ref 44, .ref 45, .ref 46, .ref 47, .ref 48, .ref 49, .ref 50, .ref 51, .int 0, .int 0, .int 0, .int 0, .int 0, .int 0, .int 0, .int 0, .ref 52, .int 0, .ref 53, .int 0, .ref 54, .int 0, .ref 55, .ref 56, .ref 57, .ref 58, .int 0, .ref 59, .ref 60])))).set 42 (.inl [x1, 0, 0, 0, 0, 0, 0, 0, 0, 0, 0, 0, 0])).set 43 (.inl [x2, 0, 0, 0, 0, 0, 0, 0, 0, 0, 0, 0, 0])).set 44 (.inl [x3, 0, 0, 0, 0, 0, 0, 0, 0, 0, 0, 0, 0])).set 45 (.inl [x4, 0, 0, 0, 0, 0, 0, 0, 0, 0, 0, 0, 0])).set 46 (.inl [x5, 0, 0, 0, 0, 0, 0, 0, 0, 0, 0, 0, 0])).set 47 (.inl [x6, 0, 0, 0, 0, 0, 0, 0, 0, 0, 0, 0, 0])).set 48 (.inl [x7, 0, 0, 0, 0, 0, 0, 0, 0, 0, 0, 0, 0])).set 49 (.inl [(-1), 0, 0, 0, 0, 0, 0, 0, 0, 0, 0, 0, 0])) ++ [.inr (.inr (2, [.int x1, .int x2, .int x3, .int x4, .int x5, .int x6, .int x7, .int ((1 <<< (x4 &&& 31) : Int32) ||| (1 <<< (x5 &&& 31) : Int32)), .int (1 <<< (x6 &&& 31) : Int32), .int (-1)]))]))) ?_
  refine rr rfl (s_aload_n rfl) ?_
  have e2 : a_m MT [] 100000 10 miX9_lays [.ref 41] (((((((((((hF.set 5 (.inl ((List.replicate 8 (0 : Int32)).set (Int32.toNatClampNeg x3) 8))).set 41 (.inr (.inr (9, [.int 4, .int 1, .ref 42, .ref 43, .ref 44, .ref 45, .ref 46, .ref 47, .ref 48, .ref 49, .ref 50, .ref 51, .int 0, .int 0, .int 0, .int 0, .int 0, .int 0, .int 0, .int 0, .ref 52, .int 0, .ref 53, .int 0, .ref 54, .int 0, .ref 55, .ref 56, .ref 57, .ref 58, .int 0, .ref 59, .ref 60])))).set 42 (.inl [x1, 0, 0, 0, 0, 0, 0, 0, 0, 0, 0, 0, 0])).set 43 (.inl [x2, 0, 0, 0, 0, 0, 0, 0, 0, 0, 0, 0, 0])).set 44 (.inl [x3, 0, 0, 0, 0, 0, 0, 0, 0, 0, 0, 0, 0])).set 45 (.inl [x4, 0, 0, 0, 0, 0, 0, 0, 0, 0, 0, 0, 0])).set 46 (.inl [x5, 0, 0, 0, 0, 0, 0, 0, 0, 0, 0, 0, 0])).set 47 (.inl [x6, 0, 0, 0, 0, 0, 0, 0, 0, 0, 0, 0, 0])).set 48 (.inl [x7, 0, 0, 0, 0, 0, 0, 0, 0, 0, 0, 0, 0])).set 49 (.inl [(-1), 0, 0, 0, 0, 0, 0, 0, 0, 0, 0, 0, 0])) ++ [.inr (.inr (2, [.int x1, .int x2, .int x3, .int x4, .int x5, .int x6, .int x7, .int ((1 <<< (x4 &&& 31) : Int32) ||| (1 <<< (x5 &&& 31) : Int32)), .int (1 <<< (x6 &&& 31) : Int32), .int (-1)]))]) = some ((some (.int 0)), ((((((((((((hF.set 5 (.inl ((List.replicate 8 (0 : Int32)).set (Int32.toNatClampNeg x3) 8))).set 41 (.inr (.inr (9, [.int 4, .int 1, .ref 42, .ref 43, .ref 44, .ref 45, .ref 46, .ref 47, .ref 48, .ref 49, .ref 50, .ref 51, .int 0, .int 0, .int 0, .int 0, .int 0, .int 0, .int 0, .int 0, .ref 52, .int 0, .ref 53, .int 0, .ref 54, .int 0, .ref 55, .ref 56, .ref 57, .ref 58, .int 0, .ref 59, .ref 60])))).set 42 (.inl [x1, 0, 0, 0, 0, 0, 0, 0, 0, 0, 0, 0, 0])).set 43 (.inl [x2, 0, 0, 0, 0, 0, 0, 0, 0, 0, 0, 0, 0])).set 44 (.inl [x3, 0, 0, 0, 0, 0, 0, 0, 0, 0, 0, 0, 0])).set 45 (.inl [x4, 0, 0, 0, 0, 0, 0, 0, 0, 0, 0, 0, 0])).set 46 (.inl [x5, 0, 0, 0, 0, 0, 0, 0, 0, 0, 0, 0, 0])).set 47 (.inl [x6, 0, 0, 0, 0, 0, 0, 0, 0, 0, 0, 0, 0])).set 48 (.inl [x7, 0, 0, 0, 0, 0, 0, 0, 0, 0, 0, 0, 0])).set 49 (.inl [(-1), 0, 0, 0, 0, 0, 0, 0, 0, 0, 0, 0, 0])).set 51 (.inl ((List.replicate 8 (0 : Int32)).set (Int32.toNatClampNeg x3) 8))) ++ [.inr (.inr (2, [.int x1, .int x2, .int x3, .int x4, .int x5, .int x6, .int x7, .int ((1 <<< (x4 &&& 31) : Int32) ||| (1 <<< (x5 &&& 31) : Int32)), .int (1 <<< (x6 &&& 31) : Int32), .int (-1)]))]), 0, 0) := by
    refine me (d := 9) g_X9_lays (Nat.le_of_ble_eq_true rfl) ?_
    refine rr rfl (s_iconst (v := 0) (by decide)) ?_
    refine rr rfl (s_istore_n rfl) ?_
    refine rr rfl (s_iload_n rfl) ?_
    refine rr rfl (s_bipush (v := 8) (by decide)) ?_
    refine rr rfl (s_icF (by decide)) ?_
    refine rr rfl (s_aload_n rfl) ?_
    refine rr rfl (s_getf rfl rfl) ?_
    refine rr rfl (s_iload_n rfl) ?_
    refine rr rfl (s_iconst (v := 0) (by decide)) ?_
    refine rr rfl (s_iastore (j := 0) (f' := (List.replicate 8 0)) rfl rfl (Nat.le_of_ble_eq_true rfl) rfl (Nat.le_of_ble_eq_true rfl) rfl (h' := (((((((((((hF.set 5 (.inl ((List.replicate 8 (0 : Int32)).set (Int32.toNatClampNeg x3) 8))).set 41 (.inr (.inr (9, [.int 4, .int 1, .ref 42, .ref 43, .ref 44, .ref 45, .ref 46, .ref 47, .ref 48, .ref 49, .ref 50, .ref 51, .int 0, .int 0, .int 0, .int 0, .int 0, .int 0, .int 0, .int 0, .ref 52, .int 0, .ref 53, .int 0, .ref 54, .int 0, .ref 55, .ref 56, .ref 57, .ref 58, .int 0, .ref 59, .ref 60])))).set 42 (.inl [x1, 0, 0, 0, 0, 0, 0, 0, 0, 0, 0, 0, 0])).set 43 (.inl [x2, 0, 0, 0, 0, 0, 0, 0, 0, 0, 0, 0, 0])).set 44 (.inl [x3, 0, 0, 0, 0, 0, 0, 0, 0, 0, 0, 0, 0])).set 45 (.inl [x4, 0, 0, 0, 0, 0, 0, 0, 0, 0, 0, 0, 0])).set 46 (.inl [x5, 0, 0, 0, 0, 0, 0, 0, 0, 0, 0, 0, 0])).set 47 (.inl [x6, 0, 0, 0, 0, 0, 0, 0, 0, 0, 0, 0, 0])).set 48 (.inl [x7, 0, 0, 0, 0, 0, 0, 0, 0, 0, 0, 0, 0])).set 49 (.inl [(-1), 0, 0, 0, 0, 0, 0, 0, 0, 0, 0, 0, 0])) ++ [.inr (.inr (2, [.int x1, .int x2, .int x3, .int x4, .int x5, .int x6, .int x7, .int ((1 <<< (x4 &&& 31) : Int32) ||| (1 <<< (x5 &&& 31) : Int32)), .int (1 <<< (x6 &&& 31) : Int32), .int (-1)]))]))) ?_
    refine rr rfl (s_iinc (v := 1) rfl (by decide) rfl) ?_
    refine rr rfl s_goto ?_
    refine rr rfl (s_iload_n rfl) ?_
    refine rr rfl (s_bipush (v := 8) (by decide)) ?_
    refine rr rfl (s_icF (by decide)) ?_
    refine rr rfl (s_aload_n rfl) ?_
    refine rr rfl (s_getf rfl rfl) ?_
    refine rr rfl (s_iload_n rfl) ?_
    refine rr rfl (s_iconst (v := 0) (by decide)) ?_
    refine rr rfl (s_iastore (j := 1) (f' := (List.replicate 8 0)) rfl rfl (Nat.le_of_ble_eq_true rfl) rfl (Nat.le_of_ble_eq_true rfl) rfl (h' := (((((((((((hF.set 5 (.inl ((List.replicate 8 (0 : Int32)).set (Int32.toNatClampNeg x3) 8))).set 41 (.inr (.inr (9, [.int 4, .int 1, .ref 42, .ref 43, .ref 44, .ref 45, .ref 46, .ref 47, .ref 48, .ref 49, .ref 50, .ref 51, .int 0, .int 0, .int 0, .int 0, .int 0, .int 0, .int 0, .int 0, .ref 52, .int 0, .ref 53, .int 0, .ref 54, .int 0, .ref 55, .ref 56, .ref 57, .ref 58, .int 0, .ref 59, .ref 60])))).set 42 (.inl [x1, 0, 0, 0, 0, 0, 0, 0, 0, 0, 0, 0, 0])).set 43 (.inl [x2, 0, 0, 0, 0, 0, 0, 0, 0, 0, 0, 0, 0])).set 44 (.inl [x3, 0, 0, 0, 0, 0, 0, 0, 0, 0, 0, 0, 0])).set 45 (.inl [x4, 0, 0, 0, 0, 0, 0, 0, 0, 0, 0, 0, 0])).set 46 (.inl [x5, 0, 0, 0, 0, 0, 0, 0, 0, 0, 0, 0, 0])).set 47 (.inl [x6, 0, 0, 0, 0, 0, 0, 0, 0, 0, 0, 0, 0])).set 48 (.inl [x7, 0, 0, 0, 0, 0, 0, 0, 0, 0, 0, 0, 0])).set 49 (.inl [(-1), 0, 0, 0, 0, 0, 0, 0, 0, 0, 0, 0, 0])) ++ [.inr (.inr (2, [.int x1, .int x2, .int x3, .int x4, .int x5, .int x6, .int x7, .int ((1 <<< (x4 &&& 31) : Int32) ||| (1 <<< (x5 &&& 31) : Int32)), .int (1 <<< (x6 &&& 31) : Int32), .int (-1)]))]))) ?_
    refine rr rfl (s_iinc (v := 2) rfl (by decide) rfl) ?_
    refine rr rfl s_goto ?_
    refine rr rfl (s_iload_n rfl) ?_
    refine rr rfl (s_bipush (v := 8) (by decide)) ?_
    refine rr rfl (s_icF (by decide)) ?_
    refine rr rfl (s_aload_n rfl) ?_
    refine rr rfl (s_getf rfl rfl) ?_
    refine rr rfl (s_iload_n rfl) ?_
    refine rr rfl (s_iconst (v := 0) (by decide)) ?_
    refine rr rfl (s_iastore (j := 2) (f' := (List.replicate 8 0)) rfl rfl (Nat.le_of_ble_eq_true rfl) rfl (Nat.le_of_ble_eq_true rfl) rfl (h' := (((((((((((hF.set 5 (.inl ((List.replicate 8 (0 : Int32)).set (Int32.toNatClampNeg x3) 8))).set 41 (.inr (.inr (9, [.int 4, .int 1, .ref 42, .ref 43, .ref 44, .ref 45, .ref 46, .ref 47, .ref 48, .ref 49, .ref 50, .ref 51, .int 0, .int 0, .int 0, .int 0, .int 0, .int 0, .int 0, .int 0, .ref 52, .int 0, .ref 53, .int 0, .ref 54, .int 0, .ref 55, .ref 56, .ref 57, .ref 58, .int 0, .ref 59, .ref 60])))).set 42 (.inl [x1, 0, 0, 0, 0, 0, 0, 0, 0, 0, 0, 0, 0])).set 43 (.inl [x2, 0, 0, 0, 0, 0, 0, 0, 0, 0, 0, 0, 0])).set 44 (.inl [x3, 0, 0, 0, 0, 0, 0, 0, 0, 0, 0, 0, 0])).set 45 (.inl [x4, 0, 0, 0, 0, 0, 0, 0, 0, 0, 0, 0, 0])).set 46 (.inl [x5, 0, 0, 0, 0, 0, 0, 0, 0, 0, 0, 0, 0])).set 47 (.inl [x6, 0, 0, 0, 0, 0, 0, 0, 0, 0, 0, 0, 0])).set 48 (.inl [x7, 0, 0, 0, 0, 0, 0, 0, 0, 0, 0, 0, 0])).set 49 (.inl [(-1), 0, 0, 0, 0, 0, 0, 0, 0, 0, 0, 0, 0])) ++ [.inr (.inr (2, [.int x1, .int x2, .int x3, .int x4, .int x5, .int x6, .int x7, .int ((1 <<< (x4 &&& 31) : Int32) ||| (1 <<< (x5 &&& 31) : Int32)), .int (1 <<< (x6 &&& 31) : Int32), .int (-1)]))]))) ?_
    refine rr rfl (s_iinc (v := 3) rfl (by decide) rfl) ?_
    refine rr rfl s_goto ?_
    refine rr rfl (s_iload_n rfl) ?_
    refine rr rfl (s_bipush (v := 8) (by decide)) ?_
    refine rr rfl (s_icF (by decide)) ?_
    refine rr rfl (s_aload_n rfl) ?_
    refine rr rfl (s_getf rfl rfl) ?_
    refine rr rfl (s_iload_n rfl) ?_
    refine rr rfl (s_iconst (v := 0) (by decide)) ?_
    refine rr rfl (s_iastore (j := 3) (f' := (List.replicate 8 0)) rfl rfl (Nat.le_of_ble_eq_true rfl) rfl (Nat.le_of_ble_eq_true rfl) rfl (h' := (((((((((((hF.set 5 (.inl ((List.replicate 8 (0 : Int32)).set (Int32.toNatClampNeg x3) 8))).set 41 (.inr (.inr (9, [.int 4, .int 1, .ref 42, .ref 43, .ref 44, .ref 45, .ref 46, .ref 47, .ref 48, .ref 49, .ref 50, .ref 51, .int 0, .int 0, .int 0, .int 0, .int 0, .int 0, .int 0, .int 0, .ref 52, .int 0, .ref 53, .int 0, .ref 54, .int 0, .ref 55, .ref 56, .ref 57, .ref 58, .int 0, .ref 59, .ref 60])))).set 42 (.inl [x1, 0, 0, 0, 0, 0, 0, 0, 0, 0, 0, 0, 0])).set 43 (.inl [x2, 0, 0, 0, 0, 0, 0, 0, 0, 0, 0, 0, 0])).set 44 (.inl [x3, 0, 0, 0, 0, 0, 0, 0, 0, 0, 0, 0, 0])).set 45 (.inl [x4, 0, 0, 0, 0, 0, 0, 0, 0, 0, 0, 0, 0])).set 46 (.inl [x5, 0, 0, 0, 0, 0, 0, 0, 0, 0, 0, 0, 0])).set 47 (.inl [x6, 0, 0, 0, 0, 0, 0, 0, 0, 0, 0, 0, 0])).set 48 (.inl [x7, 0, 0, 0, 0, 0, 0, 0, 0, 0, 0, 0, 0])).set 49 (.inl [(-1), 0, 0, 0, 0, 0, 0, 0, 0, 0, 0, 0, 0])) ++ [.inr (.inr (2, [.int x1, .int x2, .int x3, .int x4, .int x5, .int x6, .int x7, .int ((1 <<< (x4 &&& 31) : Int32) ||| (1 <<< (x5 &&& 31) : Int32)), .int (1 <<< (x6 &&& 31) : Int32), .int (-1)]))]))) ?_
    refine rr rfl (s_iinc (v := 4) rfl (by decide) rfl) ?_
    refine rr rfl s_goto ?_
    refine rr rfl (s_iload_n rfl) ?_
    refine rr rfl (s_bipush (v := 8) (by decide)) ?_
    refine rr rfl (s_icF (by decide)) ?_
    refine rr rfl (s_aload_n rfl) ?_
    refine rr rfl (s_getf rfl rfl) ?_
    refine rr rfl (s_iload_n rfl) ?_
    refine rr rfl (s_iconst (v := 0) (by decide)) ?_
    refine rr rfl (s_iastore (j := 4) (f' := (List.replicate 8 0)) rfl rfl (Nat.le_of_ble_eq_true rfl) rfl (Nat.le_of_ble_eq_true rfl) rfl (h' := (((((((((((hF.set 5 (.inl ((List.replicate 8 (0 : Int32)).set (Int32.toNatClampNeg x3) 8))).set 41 (.inr (.inr (9, [.int 4, .int 1, .ref 42, .ref 43, .ref 44, .ref 45, .ref 46, .ref 47, .ref 48, .ref 49, .ref 50, .ref 51, .int 0, .int 0, .int 0, .int 0, .int 0, .int 0, .int 0, .int 0, .ref 52, .int 0, .ref 53, .int 0, .ref 54, .int 0, .ref 55, .ref 56, .ref 57, .ref 58, .int 0, .ref 59, .ref 60])))).set 42 (.inl [x1, 0, 0, 0, 0, 0, 0, 0, 0, 0, 0, 0, 0])).set 43 (.inl [x2, 0, 0, 0, 0, 0, 0, 0, 0, 0, 0, 0, 0])).set 44 (.inl [x3, 0, 0, 0, 0, 0, 0, 0, 0, 0, 0, 0, 0])).set 45 (.inl [x4, 0, 0, 0, 0, 0, 0, 0, 0, 0, 0, 0, 0])).set 46 (.inl [x5, 0, 0, 0, 0, 0, 0, 0, 0, 0, 0, 0, 0])).set 47 (.inl [x6, 0, 0, 0, 0, 0, 0, 0, 0, 0, 0, 0, 0])).set 48 (.inl [x7, 0, 0, 0, 0, 0, 0, 0, 0, 0, 0, 0, 0])).set 49 (.inl [(-1), 0, 0, 0, 0, 0, 0, 0, 0, 0, 0, 0, 0])) ++ [.inr (.inr (2, [.int x1, .int x2, .int x3, .int x4, .int x5, .int x6, .int x7, .int ((1 <<< (x4 &&& 31) : Int32) ||| (1 <<< (x5 &&& 31) : Int32)), .int (1 <<< (x6 &&& 31) : Int32), .int (-1)]))]))) ?_
    refine rr rfl (s_iinc (v := 5) rfl (by decide) rfl) ?_
    refine rr rfl s_goto ?_
    refine rr rfl (s_iload_n rfl) ?_
    refine rr rfl (s_bipush (v := 8) (by decide)) ?_
    refine rr rfl (s_icF (by decide)) ?_
    refine rr rfl (s_aload_n rfl) ?_
    refine rr rfl (s_getf rfl rfl) ?_
    refine rr rfl (s_iload_n rfl) ?_
    refine rr rfl (s_iconst (v := 0) (by decide)) ?_
    refine rr rfl (s_iastore (j := 5) (f' := (List.replicate 8 0)) rfl rfl (Nat.le_of_ble_eq_true rfl) rfl (Nat.le_of_ble_eq_true rfl) rfl (h' := (((((((((((hF.set 5 (.inl ((List.replicate 8 (0 : Int32)).set (Int32.toNatClampNeg x3) 8))).set 41 (.inr (.inr (9, [.int 4, .int 1, .ref 42, .ref 43, .ref 44, .ref 45, .ref 46, .ref 47, .ref 48, .ref 49, .ref 50, .ref 51, .int 0, .int 0, .int 0, .int 0, .int 0, .int 0, .int 0, .int 0, .ref 52, .int 0, .ref 53, .int 0, .ref 54, .int 0, .ref 55, .ref 56, .ref 57, .ref 58, .int 0, .ref 59, .ref 60])))).set 42 (.inl [x1, 0, 0, 0, 0, 0, 0, 0, 0, 0, 0, 0, 0])).set 43 (.inl [x2, 0, 0, 0, 0, 0, 0, 0, 0, 0, 0, 0, 0])).set 44 (.inl [x3, 0, 0, 0, 0, 0, 0, 0, 0, 0, 0, 0, 0])).set 45 (.inl [x4, 0, 0, 0, 0, 0, 0, 0, 0, 0, 0, 0, 0])).set 46 (.inl [x5, 0, 0, 0, 0, 0, 0, 0, 0, 0, 0, 0, 0])).set 47 (.inl [x6, 0, 0, 0, 0, 0, 0, 0, 0, 0, 0, 0, 0])).set 48 (.inl [x7, 0, 0, 0, 0, 0, 0, 0, 0, 0, 0, 0, 0])).set 49 (.inl [(-1), 0, 0, 0, 0, 0, 0, 0, 0, 0, 0, 0, 0])) ++ [.inr (.inr (2, [.int x1, .int x2, .int x3, .int x4, .int x5, .int x6, .int x7, .int ((1 <<< (x4 &&& 31) : Int32) ||| (1 <<< (x5 &&& 31) : Int32)), .int (1 <<< (x6 &&& 31) : Int32), .int (-1)]))]))) ?_
    refine rr rfl (s_iinc (v := 6) rfl (by decide) rfl) ?_
    refine rr rfl s_goto ?_
    refine rr rfl (s_iload_n rfl) ?_
    refine rr rfl (s_bipush (v := 8) (by decide)) ?_
    refine rr rfl (s_icF (by decide)) ?_
    refine rr rfl (s_aload_n rfl) ?_
    refine rr rfl (s_getf rfl rfl) ?_
    refine rr rfl (s_iload_n rfl) ?_
    refine rr rfl (s_iconst (v := 0) (by decide)) ?_
    refine rr rfl (s_iastore (j := 6) (f' := (List.replicate 8 0)) rfl rfl (Nat.le_of_ble_eq_true rfl) rfl (Nat.le_of_ble_eq_true rfl) rfl (h' := (((((((((((hF.set 5 (.inl ((List.replicate 8 (0 : Int32)).set (Int32.toNatClampNeg x3) 8))).set 41 (.inr (.inr (9, [.int 4, .int 1, .ref 42, .ref 43, .ref 44, .ref 45, .ref 46, .ref 47, .ref 48, .ref 49, .ref 50, .ref 51, .int 0, .int 0, .int 0, .int 0, .int 0, .int 0, .int 0, .int 0, .ref 52, .int 0, .ref 53, .int 0, .ref 54, .int 0, .ref 55, .ref 56, .ref 57, .ref 58, .int 0, .ref 59, .ref 60])))).set 42 (.inl [x1, 0, 0, 0, 0, 0, 0, 0, 0, 0, 0, 0, 0])).set 43 (.inl [x2, 0, 0, 0, 0, 0, 0, 0, 0, 0, 0, 0, 0])).set 44 (.inl [x3, 0, 0, 0, 0, 0, 0, 0, 0, 0, 0, 0, 0])).set 45 (.inl [x4, 0, 0, 0, 0, 0, 0, 0, 0, 0, 0, 0, 0])).set 46 (.inl [x5, 0, 0, 0, 0, 0, 0, 0, 0, 0, 0, 0, 0])).set 47 (.inl [x6, 0, 0, 0, 0, 0, 0, 0, 0, 0, 0, 0, 0])).set 48 (.inl [x7, 0, 0, 0, 0, 0, 0, 0, 0, 0, 0, 0, 0])).set 49 (.inl [(-1), 0, 0, 0, 0, 0, 0, 0, 0, 0, 0, 0, 0])) ++ [.inr (.inr (2, [.int x1, .int x2, .int x3, .int x4, .int x5, .int x6, .int x7, .int ((1 <<< (x4 &&& 31) : Int32) ||| (1 <<< (x5 &&& 31) : Int32)), .int (1 <<< (x6 &&& 31) : Int32), .int (-1)]))]))) ?_
    refine rr rfl (s_iinc (v := 7) rfl (by decide) rfl) ?_
    refine rr rfl s_goto ?_
    refine rr rfl (s_iload_n rfl) ?_
    refine rr rfl (s_bipush (v := 8) (by decide)) ?_
    refine rr rfl (s_icF (by decide)) ?_
    refine rr rfl (s_aload_n rfl) ?_
    refine rr rfl (s_getf rfl rfl) ?_
    refine rr rfl (s_iload_n rfl) ?_
    refine rr rfl (s_iconst (v := 0) (by decide)) ?_
    refine rr rfl (s_iastore (j := 7) (f' := (List.replicate 8 0)) rfl rfl (Nat.le_of_ble_eq_true rfl) rfl (Nat.le_of_ble_eq_true rfl) rfl (h' := (((((((((((hF.set 5 (.inl ((List.replicate 8 (0 : Int32)).set (Int32.toNatClampNeg x3) 8))).set 41 (.inr (.inr (9, [.int 4, .int 1, .ref 42, .ref 43, .ref 44, .ref 45, .ref 46, .ref 47, .ref 48, .ref 49, .ref 50, .ref 51, .int 0, .int 0, .int 0, .int 0, .int 0, .int 0, .int 0, .int 0, .ref 52, .int 0, .ref 53, .int 0, .ref 54, .int 0, .ref 55, .ref 56, .ref 57, .ref 58, .int 0, .ref 59, .ref 60])))).set 42 (.inl [x1, 0, 0, 0, 0, 0, 0, 0, 0, 0, 0, 0, 0])).set 43 (.inl [x2, 0, 0, 0, 0, 0, 0, 0, 0, 0, 0, 0, 0])).set 44 (.inl [x3, 0, 0, 0, 0, 0, 0, 0, 0, 0, 0, 0, 0])).set 45 (.inl [x4, 0, 0, 0, 0, 0, 0, 0, 0, 0, 0, 0, 0])).set 46 (.inl [x5, 0, 0, 0, 0, 0, 0, 0, 0, 0, 0, 0, 0])).set 47 (.inl [x6, 0, 0, 0, 0, 0, 0, 0, 0, 0, 0, 0, 0])).set 48 (.inl [x7, 0, 0, 0, 0, 0, 0, 0, 0, 0, 0, 0, 0])).set 49 (.inl [(-1), 0, 0, 0, 0, 0, 0, 0, 0, 0, 0, 0, 0])) ++ [.inr (.inr (2, [.int x1, .int x2, .int x3, .int x4, .int x5, .int x6, .int x7, .int ((1 <<< (x4 &&& 31) : Int32) ||| (1 <<< (x5 &&& 31) : Int32)), .int (1 <<< (x6 &&& 31) : Int32), .int (-1)]))]))) ?_
    refine rr rfl (s_iinc (v := 8) rfl (by decide) rfl) ?_
    refine rr rfl s_goto ?_
    refine rr rfl (s_iload_n rfl) ?_
    refine rr rfl (s_bipush (v := 8) (by decide)) ?_
    refine rr rfl (s_icT (by decide)) ?_
    refine rr rfl (s_iconst (v := 1) (by decide)) ?_
    refine rr rfl (s_istore_n rfl) ?_
    refine rr rfl (s_iconst (v := 1) (by decide)) ?_
    refine rr rfl (s_istore_n rfl) ?_
    refine rr rfl (s_iload_n rfl) ?_
    refine rr rfl (s_ifF (by decide)) ?_
    refine rr rfl (s_iload_n rfl) ?_
    refine rr rfl (s_ifF (by decide)) ?_
    refine rr rfl (s_iconst (v := 0) (by decide)) ?_
    refine rr rfl (s_istore_n rfl) ?_
    refine rr rfl (s_iconst (v := 0) (by decide)) ?_
    refine rr rfl (s_istore_n rfl) ?_
    refine rr rfl (s_iload_n rfl) ?_
    refine rr rfl (s_aload_n rfl) ?_
    refine rr rfl (s_getf rfl rfl) ?_
    refine rr rfl (s_icF (by decide)) ?_
    refine rr rfl (s_iconst (v := 0) (by decide)) ?_
    refine rr rfl (s_istore rfl) ?_
    refine rr rfl (s_aload_n rfl) ?_
    refine rr rfl (s_getf rfl rfl) ?_
    refine rr rfl (s_iload_n rfl) ?_
    refine rr rfl (s_iaload (j := 0) rfl rfl rfl) ?_
    refine rr rfl (s_ifF (ic_nne g1)) ?_
    refine rr rfl (s_aload_n rfl) ?_
    refine rr rfl (s_getf rfl rfl) ?_
    refine rr rfl (s_aload_n rfl) ?_
    refine rr rfl (s_getf rfl rfl) ?_
    refine rr rfl (s_iload_n rfl) ?_
    refine rr rfl (s_iaload (j := 0) rfl rfl rfl) ?_
    refine rr rfl (s_ialdR (n := 8) (x := 0) rfl g2 g3) ?_
    refine rr rfl (s_istore rfl) ?_
    refine rr rfl (s_aload_n rfl) ?_
    refine rr rfl (s_getf rfl rfl) ?_
    refine rr rfl (s_iload_n rfl) ?_
    refine rr rfl (s_iaload (j := 0) rfl rfl rfl) ?_
    refine rr rfl (s_iconst (v := (-1)) (by decide)) ?_
    refine rr rfl (s_icF (ic_neq g4)) ?_
    refine rr rfl (s_aload_n rfl) ?_
    refine rr rfl (s_getf rfl rfl) ?_
    refine rr rfl (s_aload_n rfl) ?_
    refine rr rfl (s_getf rfl rfl) ?_
    refine rr rfl (s_iload_n rfl) ?_
    refine rr rfl (s_iaload (j := 0) rfl rfl rfl) ?_
    refine rr rfl (s_ialdR (n := 8) (x := 0) rfl g5 g6) ?_
    refine rr rfl (s_iload rfl) ?_
    refine rr rfl (s_icT (by decide)) ?_
    refine rr rfl (s_iload rfl) ?_
    refine rr rfl (s_istore rfl) ?_
    refine rr rfl (s_aload_n rfl) ?_
    refine rr rfl (s_getf rfl rfl) ?_
    refine rr rfl (s_iload_n rfl) ?_
    refine rr rfl (s_iaload (j := 0) rfl rfl rfl) ?_
    refine rr rfl (s_iconst (v := (-1)) (by decide)) ?_
    refine rr rfl (s_icF (ic_neq g7)) ?_
    refine rr rfl (s_aload_n rfl) ?_
    refine rr rfl (s_getf rfl rfl) ?_
    refine rr rfl (s_aload_n rfl) ?_
    refine rr rfl (s_getf rfl rfl) ?_
    refine rr rfl (s_iload_n rfl) ?_
    refine rr rfl (s_iaload (j := 0) rfl rfl rfl) ?_
    refine rr rfl (s_ialdR (n := 8) (x := 0) rfl g8 g9) ?_
    refine rr rfl (s_iconst (v := 1) (by decide)) ?_
    refine rr rfl (s_iadd (v := 1) (by decide)) ?_
    refine rr rfl (s_iload rfl) ?_
    refine rr rfl (s_icF (by decide)) ?_
    refine rr rfl (s_aload_n rfl) ?_
    refine rr rfl (s_getf rfl rfl) ?_
    refine rr rfl (s_aload_n rfl) ?_
    refine rr rfl (s_getf rfl rfl) ?_
    refine rr rfl (s_iload_n rfl) ?_
    refine rr rfl (s_iaload (j := 0) rfl rfl rfl) ?_
    refine rr rfl (s_ialdR (n := 8) (x := 0) rfl g8 g9) ?_
    refine rr rfl (s_iconst (v := 1) (by decide)) ?_
    refine rr rfl (s_iadd (v := 1) (by decide)) ?_
    refine rr rfl s_goto ?_
    refine rr rfl (s_istore rfl) ?_
    refine rr rfl (s_iload rfl) ?_
    refine rr rfl (s_aload_n rfl) ?_
    refine rr rfl (s_getf rfl rfl) ?_
    refine rr rfl (s_aload_n rfl) ?_
    refine rr rfl (s_getf rfl rfl) ?_
    refine rr rfl (s_iload_n rfl) ?_
    refine rr rfl (s_iaload (j := 0) rfl rfl rfl) ?_
    refine rr rfl (s_ialdR (n := 8) (x := 0) rfl g10 g11) ?_
    refine rr rfl (s_icF (by decide)) ?_
    refine rr rfl (s_aload_n rfl) ?_
    refine rr rfl (s_getf rfl rfl) ?_
    refine rr rfl (s_aload_n rfl) ?_
    refine rr rfl (s_getf rfl rfl) ?_
    refine rr rfl (s_iload_n rfl) ?_
    refine rr rfl (s_iaload (j := 0) rfl rfl rfl) ?_
    refine rr rfl (s_iload rfl) ?_
    refine rr rfl (s_iastR (n := 8) rfl g10 g11 (Nat.le_of_ble_eq_true rfl) rfl (h' := ((((((((((((hF.set 5 (.inl ((List.replicate 8 (0 : Int32)).set (Int32.toNatClampNeg x3) 8))).set 41 (.inr (.inr (9, [.int 4, .int 1, .ref 42, .ref 43, .ref 44, .ref 45, .ref 46, .ref 47, .ref 48, .ref 49, .ref 50, .ref 51, .int 0, .int 0, .int 0, .int 0, .int 0, .int 0, .int 0, .int 0, .ref 52, .int 0, .ref 53, .int 0, .ref 54, .int 0, .ref 55, .ref 56, .ref 57, .ref 58, .int 0, .ref 59, .ref 60])))).set 42 (.inl [x1, 0, 0, 0, 0, 0, 0, 0, 0, 0, 0, 0, 0])).set 43 (.inl [x2, 0, 0, 0, 0, 0, 0, 0, 0, 0, 0, 0, 0])).set 44 (.inl [x3, 0, 0, 0, 0, 0, 0, 0, 0, 0, 0, 0, 0])).set 45 (.inl [x4, 0, 0, 0, 0, 0, 0, 0, 0, 0, 0, 0, 0])).set 46 (.inl [x5, 0, 0, 0, 0, 0, 0, 0, 0, 0, 0, 0, 0])).set 47 (.inl [x6, 0, 0, 0, 0, 0, 0, 0, 0, 0, 0, 0, 0])).set 48 (.inl [x7, 0, 0, 0, 0, 0, 0, 0, 0, 0, 0, 0, 0])).set 49 (.inl [(-1), 0, 0, 0, 0, 0, 0, 0, 0, 0, 0, 0, 0])).set 51 (.inl ((List.replicate 8 (0 : Int32)).set (Int32.toNatClampNeg x3) 1))) ++ [.inr (.inr (2, [.int x1, .int x2, .int x3, .int x4, .int x5, .int x6, .int x7, .int ((1 <<< (x4 &&& 31) : Int32) ||| (1 <<< (x5 &&& 31) : Int32)), .int (1 <<< (x6 &&& 31) : Int32), .int (-1)]))]))) ?_
    refine rr rfl (s_iconst (v := 1) (by decide)) ?_
    refine rr rfl (s_istore_n rfl) ?_
    refine rr rfl (s_iload_n rfl) ?_
    refine rr rfl (s_ifF (by decide)) ?_
    refine rr rfl (s_iload rfl) ?_
    refine rr rfl (s_bipush (v := 8) (by decide)) ?_
    refine rr rfl (s_icF (by decide)) ?_
    refine rr rfl (s_iconst (v := 1) (by decide)) ?_
    refine rr rfl s_goto ?_
    refine rr rfl (s_istore_n rfl) ?_
    refine rr rfl (s_iinc (v := 1) rfl (by decide) rfl) ?_
    refine rr rfl s_goto ?_
    refine rr rfl (s_iload_n rfl) ?_
    refine rr rfl (s_aload_n rfl) ?_
    refine rr rfl (s_getf rfl rfl) ?_
    refine rr rfl (s_icT (by decide)) ?_
    refine rr rfl s_goto ?_
    refine rr rfl (s_iload_n rfl) ?_
    refine rr rfl (s_ifF (by decide)) ?_
    refine rr rfl (s_iload_n rfl) ?_
    refine rr rfl (s_ifF (by decide)) ?_
    refine rr rfl (s_iconst (v := 0) (by decide)) ?_
    refine rr rfl (s_istore_n rfl) ?_
    refine rr rfl (s_iconst (v := 0) (by decide)) ?_
    refine rr rfl (s_istore_n rfl) ?_
    refine rr rfl (s_iload_n rfl) ?_
    refine rr rfl (s_aload_n rfl) ?_
    refine rr rfl (s_getf rfl rfl) ?_
    refine rr rfl (s_icF (by decide)) ?_
    refine rr rfl (s_iconst (v := 0) (by decide)) ?_
    refine rr rfl (s_istore rfl) ?_
    refine rr rfl (s_aload_n rfl) ?_
    refine rr rfl (s_getf rfl rfl) ?_
    refine rr rfl (s_iload_n rfl) ?_
    refine rr rfl (s_iaload (j := 0) rfl rfl rfl) ?_
    refine rr rfl (s_ifF (ic_nne g1)) ?_
    refine rr rfl (s_aload_n rfl) ?_
    refine rr rfl (s_getf rfl rfl) ?_
    refine rr rfl (s_aload_n rfl) ?_
    refine rr rfl (s_getf rfl rfl) ?_
    refine rr rfl (s_iload_n rfl) ?_
    refine rr rfl (s_iaload (j := 0) rfl rfl rfl) ?_
    refine rr rfl (s_ialdH rfl g12 g10 g11) ?_
    refine rr rfl (s_istore rfl) ?_
    refine rr rfl (s_aload_n rfl) ?_
    refine rr rfl (s_getf rfl rfl) ?_
    refine rr rfl (s_iload_n rfl) ?_
    refine rr rfl (s_iaload (j := 0) rfl rfl rfl) ?_
    refine rr rfl (s_iconst (v := (-1)) (by decide)) ?_
    refine rr rfl (s_icF (ic_neq g4)) ?_
    refine rr rfl (s_aload_n rfl) ?_
    refine rr rfl (s_getf rfl rfl) ?_
    refine rr rfl (s_aload_n rfl) ?_
    refine rr rfl (s_getf rfl rfl) ?_
    refine rr rfl (s_iload_n rfl) ?_
    refine rr rfl (s_iaload (j := 0) rfl rfl rfl) ?_
    refine rr rfl (s_ialdH rfl g13 g10 g11) ?_
    refine rr rfl (s_iload rfl) ?_
    refine rr rfl (s_icT (by decide)) ?_
    refine rr rfl (s_iload rfl) ?_
    refine rr rfl (s_istore rfl) ?_
    refine rr rfl (s_aload_n rfl) ?_
    refine rr rfl (s_getf rfl rfl) ?_
    refine rr rfl (s_iload_n rfl) ?_
    refine rr rfl (s_iaload (j := 0) rfl rfl rfl) ?_
    refine rr rfl (s_iconst (v := (-1)) (by decide)) ?_
    refine rr rfl (s_icF (ic_neq g7)) ?_
    refine rr rfl (s_aload_n rfl) ?_
    refine rr rfl (s_getf rfl rfl) ?_
    refine rr rfl (s_aload_n rfl) ?_
    refine rr rfl (s_getf rfl rfl) ?_
    refine rr rfl (s_iload_n rfl) ?_
    refine rr rfl (s_iaload (j := 0) rfl rfl rfl) ?_
    refine rr rfl (s_ialdH rfl g14 g10 g11) ?_
    refine rr rfl (s_iconst (v := 1) (by decide)) ?_
    refine rr rfl (s_iadd (v := 2) (by decide)) ?_
    refine rr rfl (s_iload rfl) ?_
    refine rr rfl (s_icF (by decide)) ?_
    refine rr rfl (s_aload_n rfl) ?_
    refine rr rfl (s_getf rfl rfl) ?_
    refine rr rfl (s_aload_n rfl) ?_
    refine rr rfl (s_getf rfl rfl) ?_
    refine rr rfl (s_iload_n rfl) ?_
    refine rr rfl (s_iaload (j := 0) rfl rfl rfl) ?_
    refine rr rfl (s_ialdH rfl g14 g10 g11) ?_
    refine rr rfl (s_iconst (v := 1) (by decide)) ?_
    refine rr rfl (s_iadd (v := 2) (by decide)) ?_
    refine rr rfl s_goto ?_
    refine rr rfl (s_istore rfl) ?_
    refine rr rfl (s_iload rfl) ?_
    refine rr rfl (s_aload_n rfl) ?_
    refine rr rfl (s_getf rfl rfl) ?_
    refine rr rfl (s_aload_n rfl) ?_
    refine rr rfl (s_getf rfl rfl) ?_
    refine rr rfl (s_iload_n rfl) ?_
    refine rr rfl (s_iaload (j := 0) rfl rfl rfl) ?_
    refine rr rfl (s_ialdH rfl rfl g10 g11) ?_
    refine rr rfl (s_icF (by decide)) ?_
    refine rr rfl (s_aload_n rfl) ?_
    refine rr rfl (s_getf rfl rfl) ?_
    refine rr rfl (s_aload_n rfl) ?_
    refine rr rfl (s_getf rfl rfl) ?_
    refine rr rfl (s_iload_n rfl) ?_
    refine rr rfl (s_iaload (j := 0) rfl rfl rfl) ?_
    refine rr rfl (s_iload rfl) ?_
    refine rr rfl (s_iastH (v := 2) rfl rfl g10 g11 (Nat.le_of_ble_eq_true rfl) rfl (h' := ((((((((((((hF.set 5 (.inl ((List.replicate 8 (0 : Int32)).set (Int32.toNatClampNeg x3) 8))).set 41 (.inr (.inr (9, [.int 4, .int 1, .ref 42, .ref 43, .ref 44, .ref 45, .ref 46, .ref 47, .ref 48, .ref 49, .ref 50, .ref 51, .int 0, .int 0, .int 0, .int 0, .int 0, .int 0, .int 0, .int 0, .ref 52, .int 0, .ref 53, .int 0, .ref 54, .int 0, .ref 55, .ref 56, .ref 57, .ref 58, .int 0, .ref 59, .ref 60])))).set 42 (.inl [x1, 0, 0, 0, 0, 0, 0, 0, 0, 0, 0, 0, 0])).set 43 (.inl [x2, 0, 0, 0, 0, 0, 0, 0, 0, 0, 0, 0, 0])).set 44 (.inl [x3, 0, 0, 0, 0, 0, 0, 0, 0, 0, 0, 0, 0])).set 45 (.inl [x4, 0, 0, 0, 0, 0, 0, 0, 0, 0, 0, 0, 0])).set 46 (.inl [x5, 0, 0, 0, 0, 0, 0, 0, 0, 0, 0, 0, 0])).set 47 (.inl [x6, 0, 0, 0, 0, 0, 0, 0, 0, 0, 0, 0, 0])).set 48 (.inl [x7, 0, 0, 0, 0, 0, 0, 0, 0, 0, 0, 0, 0])).set 49 (.inl [(-1), 0, 0, 0, 0, 0, 0, 0, 0, 0, 0, 0, 0])).set 51 (.inl ((List.replicate 8 (0 : Int32)).set (Int32.toNatClampNeg x3) 2))) ++ [.inr (.inr (2, [.int x1, .int x2, .int x3, .int x4, .int x5, .int x6, .int x7, .int ((1 <<< (x4 &&& 31) : Int32) ||| (1 <<< (x5 &&& 31) : Int32)), .int (1 <<< (x6 &&& 31) : Int32), .int (-1)]))]))) ?_
    refine rr rfl (s_iconst (v := 1) (by decide)) ?_
    refine rr rfl (s_istore_n rfl) ?_
    refine rr rfl (s_iload_n rfl) ?_
    refine rr rfl (s_ifF (by decide)) ?_
    refine rr rfl (s_iload rfl) ?_
    refine rr rfl (s_bipush (v := 8) (by decide)) ?_
    refine rr rfl (s_icF (by decide)) ?_
    refine rr rfl (s_iconst (v := 1) (by decide)) ?_
    refine rr rfl s_goto ?_
    refine rr rfl (s_istore_n rfl) ?_
    refine rr rfl (s_iinc (v := 1) rfl (by decide) rfl) ?_
    refine rr rfl s_goto ?_
    refine rr rfl (s_iload_n rfl) ?_
    refine rr rfl (s_aload_n rfl) ?_
    refine rr rfl (s_getf rfl rfl) ?_
    refine rr rfl (s_icT (by decide)) ?_
    refine rr rfl s_goto ?_
    refine rr rfl (s_iload_n rfl) ?_
    refine rr rfl (s_ifF (by decide)) ?_
    refine rr rfl (s_iload_n rfl) ?_
    refine rr rfl (s_ifF (by decide)) ?_
    refine rr rfl (s_iconst (v := 0) (by decide)) ?_
    refine rr rfl (s_istore_n rfl) ?_
    refine rr rfl (s_iconst (v := 0) (by decide)) ?_
    refine rr rfl (s_istore_n rfl) ?_
    refine rr rfl (s_iload_n rfl) ?_
    refine rr rfl (s_aload_n rfl) ?_
    refine rr rfl (s_getf rfl rfl) ?_
    refine rr rfl (s_icF (by decide)) ?_
    refine rr rfl (s_iconst (v := 0) (by decide)) ?_
    refine rr rfl (s_istore rfl) ?_
    refine rr rfl (s_aload_n rfl) ?_
    refine rr rfl (s_getf rfl rfl) ?_
    refine rr rfl (s_iload_n rfl) ?_
    refine rr rfl (s_iaload (j := 0) rfl rfl rfl) ?_
    refine rr rfl (s_ifF (ic_nne g1)) ?_
    refine rr rfl (s_aload_n rfl) ?_
    refine rr rfl (s_getf rfl rfl) ?_
    refine rr rfl (s_aload_n rfl) ?_
    refine rr rfl (s_getf rfl rfl) ?_
    refine rr rfl (s_iload_n rfl) ?_
    refine rr rfl (s_iaload (j := 0) rfl rfl rfl) ?_
    refine rr rfl (s_ialdH rfl g12 g10 g11) ?_
    refine rr rfl (s_istore rfl) ?_
    refine rr rfl (s_aload_n rfl) ?_
    refine rr rfl (s_getf rfl rfl) ?_
    refine rr rfl (s_iload_n rfl) ?_
    refine rr rfl (s_iaload (j := 0) rfl rfl rfl) ?_
    refine rr rfl (s_iconst (v := (-1)) (by decide)) ?_
    refine rr rfl (s_icF (ic_neq g4)) ?_
    refine rr rfl (s_aload_n rfl) ?_
    refine rr rfl (s_getf rfl rfl) ?_
    refine rr rfl (s_aload_n rfl) ?_
    refine rr rfl (s_getf rfl rfl) ?_
    refine rr rfl (s_iload_n rfl) ?_
    refine rr rfl (s_iaload (j := 0) rfl rfl rfl) ?_
    refine rr rfl (s_ialdH rfl g13 g10 g11) ?_
    refine rr rfl (s_iload rfl) ?_
    refine rr rfl (s_icT (by decide)) ?_
    refine rr rfl (s_iload rfl) ?_
    refine rr rfl (s_istore rfl) ?_
    refine rr rfl (s_aload_n rfl) ?_
    refine rr rfl (s_getf rfl rfl) ?_
    refine rr rfl (s_iload_n rfl) ?_
    refine rr rfl (s_iaload (j := 0) rfl rfl rfl) ?_
    refine rr rfl (s_iconst (v := (-1)) (by decide)) ?_
    refine rr rfl (s_icF (ic_neq g7)) ?_
    refine rr rfl (s_aload_n rfl) ?_
    refine rr rfl (s_getf rfl rfl) ?_
    refine rr rfl (s_aload_n rfl) ?_
    refine rr rfl (s_getf rfl rfl) ?_
    refine rr rfl (s_iload_n rfl) ?_
    refine rr rfl (s_iaload (j := 0) rfl rfl rfl) ?_
    refine rr rfl (s_ialdH rfl g14 g10 g11) ?_
    refine rr rfl (s_iconst (v := 1) (by decide)) ?_
    refine rr rfl (s_iadd (v := 3) (by decide)) ?_
    refine rr rfl (s_iload rfl) ?_
    refine rr rfl (s_icF (by decide)) ?_
    refine rr rfl (s_aload_n rfl) ?_
    refine rr rfl (s_getf rfl rfl) ?_
    refine rr rfl (s_aload_n rfl) ?_
    refine rr rfl (s_getf rfl rfl) ?_
    refine rr rfl (s_iload_n rfl) ?_
    refine rr rfl (s_iaload (j := 0) rfl rfl rfl) ?_
    refine rr rfl (s_ialdH rfl g14 g10 g11) ?_
    refine rr rfl (s_iconst (v := 1) (by decide)) ?_
    refine rr rfl (s_iadd (v := 3) (by decide)) ?_
    refine rr rfl s_goto ?_
    refine rr rfl (s_istore rfl) ?_
    refine rr rfl (s_iload rfl) ?_
    refine rr rfl (s_aload_n rfl) ?_
    refine rr rfl (s_getf rfl rfl) ?_
    refine rr rfl (s_aload_n rfl) ?_
    refine rr rfl (s_getf rfl rfl) ?_
    refine rr rfl (s_iload_n rfl) ?_
    refine rr rfl (s_iaload (j := 0) rfl rfl rfl) ?_
    refine rr rfl (s_ialdH rfl rfl g10 g11) ?_
    refine rr rfl (s_icF (by decide)) ?_
    refine rr rfl (s_aload_n rfl) ?_
    refine rr rfl (s_getf rfl rfl) ?_
    refine rr rfl (s_aload_n rfl) ?_
    refine rr rfl (s_getf rfl rfl) ?_
    refine rr rfl (s_iload_n rfl) ?_
    refine rr rfl (s_iaload (j := 0) rfl rfl rfl) ?_
    refine rr rfl (s_iload rfl) ?_
    refine rr rfl (s_iastH (v := 3) rfl rfl g10 g11 (Nat.le_of_ble_eq_true rfl) rfl (h' := ((((((((((((hF.set 5 (.inl ((List.replicate 8 (0 : Int32)).set (Int32.toNatClampNeg x3) 8))).set 41 (.inr (.inr (9, [.int 4, .int 1, .ref 42, .ref 43, .ref 44, .ref 45, .ref 46, .ref 47, .ref 48, .ref 49, .ref 50, .ref 51, .int 0, .int 0, .int 0, .int 0, .int 0, .int 0, .int 0, .int 0, .ref 52, .int 0, .ref 53, .int 0, .ref 54, .int 0, .ref 55, .ref 56, .ref 57, .ref 58, .int 0, .ref 59, .ref 60])))).set 42 (.inl [x1, 0, 0, 0, 0, 0, 0, 0, 0, 0, 0, 0, 0])).set 43 (.inl [x2, 0, 0, 0, 0, 0, 0, 0, 0, 0, 0, 0, 0])).set 44 (.inl [x3, 0, 0, 0, 0, 0, 0, 0, 0, 0, 0, 0, 0])).set 45 (.inl [x4, 0, 0, 0, 0, 0, 0, 0, 0, 0, 0, 0, 0])).set 46 (.inl [x5, 0, 0, 0, 0, 0, 0, 0, 0, 0, 0, 0, 0])).set 47 (.inl [x6, 0, 0, 0, 0, 0, 0, 0, 0, 0, 0, 0, 0])).set 48 (.inl [x7, 0, 0, 0, 0, 0, 0, 0, 0, 0, 0, 0, 0])).set 49 (.inl [(-1), 0, 0, 0, 0, 0, 0, 0, 0, 0, 0, 0, 0])).set 51 (.inl ((List.replicate 8 (0 : Int32)).set (Int32.toNatClampNeg x3) 3))) ++ [.inr (.inr (2, [.int x1, .int x2, .int x3, .int x4, .int x5, .int x6, .int x7, .int ((1 <<< (x4 &&& 31) : Int32) ||| (1 <<< (x5 &&& 31) : Int32)), .int (1 <<< (x6 &&& 31) : Int32), .int (-1)]))]))) ?_
    refine rr rfl (s_iconst (v := 1) (by decide)) ?_
    refine rr rfl (s_istore_n rfl) ?_
    refine rr rfl (s_iload_n rfl) ?_
    refine rr rfl (s_ifF (by decide)) ?_
    refine rr rfl (s_iload rfl) ?_
    refine rr rfl (s_bipush (v := 8) (by decide)) ?_
    refine rr rfl (s_icF (by decide)) ?_
    refine rr rfl (s_iconst (v := 1) (by decide)) ?_
    refine rr rfl s_goto ?_
    refine rr rfl (s_istore_n rfl) ?_
    refine rr rfl (s_iinc (v := 1) rfl (by decide) rfl) ?_
    refine rr rfl s_goto ?_
    refine rr rfl (s_iload_n rfl) ?_
    refine rr rfl (s_aload_n rfl) ?_
    refine rr rfl (s_getf rfl rfl) ?_
    refine rr rfl (s_icT (by decide)) ?_
    refine rr rfl s_goto ?_
    refine rr rfl (s_iload_n rfl) ?_
    refine rr rfl (s_ifF (by decide)) ?_
    refine rr rfl (s_iload_n rfl) ?_
    refine rr rfl (s_ifF (by decide)) ?_
    refine rr rfl (s_iconst (v := 0) (by decide)) ?_
    refine rr rfl (s_istore_n rfl) ?_
    refine rr rfl (s_iconst (v := 0) (by decide)) ?_
    refine rr rfl (s_istore_n rfl) ?_
    refine rr rfl (s_iload_n rfl) ?_
    refine rr rfl (s_aload_n rfl) ?_
    refine rr rfl (s_getf rfl rfl) ?_
    refine rr rfl (s_icF (by decide)) ?_
    refine rr rfl (s_iconst (v := 0) (by decide)) ?_
    refine rr rfl (s_istore rfl) ?_
    refine rr rfl (s_aload_n rfl) ?_
    refine rr rfl (s_getf rfl rfl) ?_
    refine rr rfl (s_iload_n rfl) ?_
    refine rr rfl (s_iaload (j := 0) rfl rfl rfl) ?_
    refine rr rfl (s_ifF (ic_nne g1)) ?_
    refine rr rfl (s_aload_n rfl) ?_
    refine rr rfl (s_getf rfl rfl) ?_
    refine rr rfl (s_aload_n rfl) ?_
    refine rr rfl (s_getf rfl rfl) ?_
    refine rr rfl (s_iload_n rfl) ?_
    refine rr rfl (s_iaload (j := 0) rfl rfl rfl) ?_
    refine rr rfl (s_ialdH rfl g12 g10 g11) ?_
    refine rr rfl (s_istore rfl) ?_
    refine rr rfl (s_aload_n rfl) ?_
    refine rr rfl (s_getf rfl rfl) ?_
    refine rr rfl (s_iload_n rfl) ?_
    refine rr rfl (s_iaload (j := 0) rfl rfl rfl) ?_
    refine rr rfl (s_iconst (v := (-1)) (by decide)) ?_
    refine rr rfl (s_icF (ic_neq g4)) ?_
    refine rr rfl (s_aload_n rfl) ?_
    refine rr rfl (s_getf rfl rfl) ?_
    refine rr rfl (s_aload_n rfl) ?_
    refine rr rfl (s_getf rfl rfl) ?_
    refine rr rfl (s_iload_n rfl) ?_
    refine rr rfl (s_iaload (j := 0) rfl rfl rfl) ?_
    refine rr rfl (s_ialdH rfl g13 g10 g11) ?_
    refine rr rfl (s_iload rfl) ?_
    refine rr rfl (s_icT (by decide)) ?_
    refine rr rfl (s_iload rfl) ?_
    refine rr rfl (s_istore rfl) ?_
    refine rr rfl (s_aload_n rfl) ?_
    refine rr rfl (s_getf rfl rfl) ?_
    refine rr rfl (s_iload_n rfl) ?_
    refine rr rfl (s_iaload (j := 0) rfl rfl rfl) ?_
    refine rr rfl (s_iconst (v := (-1)) (by decide)) ?_
    refine rr rfl (s_icF (ic_neq g7)) ?_
    refine rr rfl (s_aload_n rfl) ?_
    refine rr rfl (s_getf rfl rfl) ?_
    refine rr rfl (s_aload_n rfl) ?_
    refine rr rfl (s_getf rfl rfl) ?_
    refine rr rfl (s_iload_n rfl) ?_
    refine rr rfl (s_iaload (j := 0) rfl rfl rfl) ?_
    refine rr rfl (s_ialdH rfl g14 g10 g11) ?_
    refine rr rfl (s_iconst (v := 1) (by decide)) ?_
    refine rr rfl (s_iadd (v := 4) (by decide)) ?_
    refine rr rfl (s_iload rfl) ?_
    refine rr rfl (s_icF (by decide)) ?_
    refine rr rfl (s_aload_n rfl) ?_
    refine rr rfl (s_getf rfl rfl) ?_
    refine rr rfl (s_aload_n rfl) ?_
    refine rr rfl (s_getf rfl rfl) ?_
    refine rr rfl (s_iload_n rfl) ?_
    refine rr rfl (s_iaload (j := 0) rfl rfl rfl) ?_
    refine rr rfl (s_ialdH rfl g14 g10 g11) ?_
    refine rr rfl (s_iconst (v := 1) (by decide)) ?_
    refine rr rfl (s_iadd (v := 4) (by decide)) ?_
    refine rr rfl s_goto ?_
    refine rr rfl (s_istore rfl) ?_
    refine rr rfl (s_iload rfl) ?_
    refine rr rfl (s_aload_n rfl) ?_
    refine rr rfl (s_getf rfl rfl) ?_
    refine rr rfl (s_aload_n rfl) ?_
    refine rr rfl (s_getf rfl rfl) ?_
    refine rr rfl (s_iload_n rfl) ?_
    refine rr rfl (s_iaload (j := 0) rfl rfl rfl) ?_
    refine rr rfl (s_ialdH rfl rfl g10 g11) ?_
    refine rr rfl (s_icF (by decide)) ?_
    refine rr rfl (s_aload_n rfl) ?_
    refine rr rfl (s_getf rfl rfl) ?_
    refine rr rfl (s_aload_n rfl) ?_
    refine rr rfl (s_getf rfl rfl) ?_
    refine rr rfl (s_iload_n rfl) ?_
    refine rr rfl (s_iaload (j := 0) rfl rfl rfl) ?_
    refine rr rfl (s_iload rfl) ?_
    refine rr rfl (s_iastH (v := 4) rfl rfl g10 g11 (Nat.le_of_ble_eq_true rfl) rfl (h' := ((((((((((((hF.set 5 (.inl ((List.replicate 8 (0 : Int32)).set (Int32.toNatClampNeg x3) 8))).set 41 (.inr (.inr (9, [.int 4, .int 1, .ref 42, .ref 43, .ref 44, .ref 45, .ref 46, .ref 47, .ref 48, .ref 49, .ref 50, .ref 51, .int 0, .int 0, .int 0, .int 0, .int 0, .int 0, .int 0, .int 0, .ref 52, .int 0, .ref 53, .int 0, .ref 54, .int 0, .ref 55, .ref 56, .ref 57, .ref 58, .int 0, .ref 59, .ref 60])))).set 42 (.inl [x1, 0, 0, 0, 0, 0, 0, 0, 0, 0, 0, 0, 0])).set 43 (.inl [x2, 0, 0, 0, 0, 0, 0, 0, 0, 0, 0, 0, 0])).set 44 (.inl [x3, 0, 0, 0, 0, 0, 0, 0, 0, 0, 0, 0, 0])).set 45 (.inl [x4, 0, 0, 0, 0, 0, 0, 0, 0, 0, 0, 0, 0])).set 46 (.inl [x5, 0, 0, 0, 0, 0, 0, 0, 0, 0, 0, 0, 0])).set 47 (.inl [x6, 0, 0, 0, 0, 0, 0, 0, 0, 0, 0, 0, 0])).set 48 (.inl [x7, 0, 0, 0, 0, 0, 0, 0, 0, 0, 0, 0, 0])).set 49 (.inl [(-1), 0, 0, 0, 0, 0, 0, 0, 0, 0, 0, 0, 0])).set 51 (.inl ((List.replicate 8 (0 : Int32)).set (Int32.toNatClampNeg x3) 4))) ++ [.inr (.inr (2, [.int x1, .int x2, .int x3, .int x4, .int x5, .int x6, .int x7, .int ((1 <<< (x4 &&& 31) : Int32) ||| (1 <<< (x5 &&& 31) : Int32)), .int (1 <<< (x6 &&& 31) : Int32), .int (-1)]))]))) ?_
    refine rr rfl (s_iconst (v := 1) (by decide)) ?_
    refine rr rfl (s_istore_n rfl) ?_
    refine rr rfl (s_iload_n rfl) ?_
    refine rr rfl (s_ifF (by decide)) ?_
    refine rr rfl (s_iload rfl) ?_
    refine rr rfl (s_bipush (v := 8) (by decide)) ?_
    refine rr rfl (s_icF (by decide)) ?_
    refine rr rfl (s_iconst (v := 1) (by decide)) ?_
    refine rr rfl s_goto ?_
    refine rr rfl (s_istore_n rfl) ?_
    refine rr rfl (s_iinc (v := 1) rfl (by decide) rfl) ?_
    refine rr rfl s_goto ?_
    refine rr rfl (s_iload_n rfl) ?_
    refine rr rfl (s_aload_n rfl) ?_
    refine rr rfl (s_getf rfl rfl) ?_
    refine rr rfl (s_icT (by decide)) ?_
    refine rr rfl s_goto ?_
    refine rr rfl (s_iload_n rfl) ?_
    refine rr rfl (s_ifF (by decide)) ?_
    refine rr rfl (s_iload_n rfl) ?_
    refine rr rfl (s_ifF (by decide)) ?_
    refine rr rfl (s_iconst (v := 0) (by decide)) ?_
    refine rr rfl (s_istore_n rfl) ?_
    refine rr rfl (s_iconst (v := 0) (by decide)) ?_
    refine rr rfl (s_istore_n rfl) ?_
    refine rr rfl (s_iload_n rfl) ?_
    refine rr rfl (s_aload_n rfl) ?_
    refine rr rfl (s_getf rfl rfl) ?_
    refine rr rfl (s_icF (by decide)) ?_
    refine rr rfl (s_iconst (v := 0) (by decide)) ?_
    refine rr rfl (s_istore rfl) ?_
    refine rr rfl (s_aload_n rfl) ?_
    refine rr rfl (s_getf rfl rfl) ?_
    refine rr rfl (s_iload_n rfl) ?_
    refine rr rfl (s_iaload (j := 0) rfl rfl rfl) ?_
    refine rr rfl (s_ifF (ic_nne g1)) ?_
    refine rr rfl (s_aload_n rfl) ?_
    refine rr rfl (s_getf rfl rfl) ?_
    refine rr rfl (s_aload_n rfl) ?_
    refine rr rfl (s_getf rfl rfl) ?_
    refine rr rfl (s_iload_n rfl) ?_
    refine rr rfl (s_iaload (j := 0) rfl rfl rfl) ?_
    refine rr rfl (s_ialdH rfl g12 g10 g11) ?_
    refine rr rfl (s_istore rfl) ?_
    refine rr rfl (s_aload_n rfl) ?_
    refine rr rfl (s_getf rfl rfl) ?_
    refine rr rfl (s_iload_n rfl) ?_
    refine rr rfl (s_iaload (j := 0) rfl rfl rfl) ?_
    refine rr rfl (s_iconst (v := (-1)) (by decide)) ?_
    refine rr rfl (s_icF (ic_neq g4)) ?_
    refine rr rfl (s_aload_n rfl) ?_
    refine rr rfl (s_getf rfl rfl) ?_
    refine rr rfl (s_aload_n rfl) ?_
    refine rr rfl (s_getf rfl rfl) ?_
    refine rr rfl (s_iload_n rfl) ?_
    refine rr rfl (s_iaload (j := 0) rfl rfl rfl) ?_
    refine rr rfl (s_ialdH rfl g13 g10 g11) ?_
    refine rr rfl (s_iload rfl) ?_
    refine rr rfl (s_icT (by decide)) ?_
    refine rr rfl (s_iload rfl) ?_
    refine rr rfl (s_istore rfl) ?_
    refine rr rfl (s_aload_n rfl) ?_
    refine rr rfl (s_getf rfl rfl) ?_
    refine rr rfl (s_iload_n rfl) ?_
    refine rr rfl (s_iaload (j := 0) rfl rfl rfl) ?_
    refine rr rfl (s_iconst (v := (-1)) (by decide)) ?_
    refine rr rfl (s_icF (ic_neq g7)) ?_
    refine rr rfl (s_aload_n rfl) ?_
    refine rr rfl (s_getf rfl rfl) ?_
    refine rr rfl (s_aload_n rfl) ?_
    refine rr rfl (s_getf rfl rfl) ?_
    refine rr rfl (s_iload_n rfl) ?_
    refine rr rfl (s_iaload (j := 0) rfl rfl rfl) ?_
    refine rr rfl (s_ialdH rfl g14 g10 g11) ?_
    refine rr rfl (s_iconst (v := 1) (by decide)) ?_
    refine rr rfl (s_iadd (v := 5) (by decide)) ?_
    refine rr rfl (s_iload rfl) ?_
    refine rr rfl (s_icF (by decide)) ?_
    refine rr rfl (s_aload_n rfl) ?_
    refine rr rfl (s_getf rfl rfl) ?_
    refine rr rfl (s_aload_n rfl) ?_
    refine rr rfl (s_getf rfl rfl) ?_
    refine rr rfl (s_iload_n rfl) ?_
    refine rr rfl (s_iaload (j := 0) rfl rfl rfl) ?_
    refine rr rfl (s_ialdH rfl g14 g10 g11) ?_
    refine rr rfl (s_iconst (v := 1) (by decide)) ?_
    refine rr rfl (s_iadd (v := 5) (by decide)) ?_
    refine rr rfl s_goto ?_
    refine rr rfl (s_istore rfl) ?_
    refine rr rfl (s_iload rfl) ?_
    refine rr rfl (s_aload_n rfl) ?_
    refine rr rfl (s_getf rfl rfl) ?_
    refine rr rfl (s_aload_n rfl) ?_
    refine rr rfl (s_getf rfl rfl) ?_
    refine rr rfl (s_iload_n rfl) ?_
    refine rr rfl (s_iaload (j := 0) rfl rfl rfl) ?_
    refine rr rfl (s_ialdH rfl rfl g10 g11) ?_
    refine rr rfl (s_icF (by decide)) ?_
    refine rr rfl (s_aload_n rfl) ?_
    refine rr rfl (s_getf rfl rfl) ?_
    refine rr rfl (s_aload_n rfl) ?_
    refine rr rfl (s_getf rfl rfl) ?_
    refine rr rfl (s_iload_n rfl) ?_
    refine rr rfl (s_iaload (j := 0) rfl rfl rfl) ?_
    refine rr rfl (s_iload rfl) ?_
    refine rr rfl (s_iastH (v := 5) rfl rfl g10 g11 (Nat.le_of_ble_eq_true rfl) rfl (h' := ((((((((((((hF.set 5 (.inl ((List.replicate 8 (0 : Int32)).set (Int32.toNatClampNeg x3) 8))).set 41 (.inr (.inr (9, [.int 4, .int 1, .ref 42, .ref 43, .ref 44, .ref 45, .ref 46, .ref 47, .ref 48, .ref 49, .ref 50, .ref 51, .int 0, .int 0, .int 0, .int 0, .int 0, .int 0, .int 0, .int 0, .ref 52, .int 0, .ref 53, .int 0, .ref 54, .int 0, .ref 55, .ref 56, .ref 57, .ref 58, .int 0, .ref 59, .ref 60])))).set 42 (.inl [x1, 0, 0, 0, 0, 0, 0, 0, 0, 0, 0, 0, 0])).set 43 (.inl [x2, 0, 0, 0, 0, 0, 0, 0, 0, 0, 0, 0, 0])).set 44 (.inl [x3, 0, 0, 0, 0, 0, 0, 0, 0, 0, 0, 0, 0])).set 45 (.inl [x4, 0, 0, 0, 0, 0, 0, 0, 0, 0, 0, 0, 0])).set 46 (.inl [x5, 0, 0, 0, 0, 0, 0, 0, 0, 0, 0, 0, 0])).set 47 (.inl [x6, 0, 0, 0, 0, 0, 0, 0, 0, 0, 0, 0, 0])).set 48 (.inl [x7, 0, 0, 0, 0, 0, 0, 0, 0, 0, 0, 0, 0])).set 49 (.inl [(-1), 0, 0, 0, 0, 0, 0, 0, 0, 0, 0, 0, 0])).set 51 (.inl ((List.replicate 8 (0 : Int32)).set (Int32.toNatClampNeg x3) 5))) ++ [.inr (.inr (2, [.int x1, .int x2, .int x3, .int x4, .int x5, .int x6, .int x7, .int ((1 <<< (x4 &&& 31) : Int32) ||| (1 <<< (x5 &&& 31) : Int32)), .int (1 <<< (x6 &&& 31) : Int32), .int (-1)]))]))) ?_
    refine rr rfl (s_iconst (v := 1) (by decide)) ?_
    refine rr rfl (s_istore_n rfl) ?_
    refine rr rfl (s_iload_n rfl) ?_
    refine rr rfl (s_ifF (by decide)) ?_
    refine rr rfl (s_iload rfl) ?_
    refine rr rfl (s_bipush (v := 8) (by decide)) ?_
    refine rr rfl (s_icF (by decide)) ?_
    refine rr rfl (s_iconst (v := 1) (by decide)) ?_
    refine rr rfl s_goto ?_
    refine rr rfl (s_istore_n rfl) ?_
    refine rr rfl (s_iinc (v := 1) rfl (by decide) rfl) ?_
    refine rr rfl s_goto ?_
    refine rr rfl (s_iload_n rfl) ?_
    refine rr rfl (s_aload_n rfl) ?_
    refine rr rfl (s_getf rfl rfl) ?_
    refine rr rfl (s_icT (by decide)) ?_
    refine rr rfl s_goto ?_
    refine rr rfl (s_iload_n rfl) ?_
    refine rr rfl (s_ifF (by decide)) ?_
    refine rr rfl (s_iload_n rfl) ?_
    refine rr rfl (s_ifF (by decide)) ?_
    refine rr rfl (s_iconst (v := 0) (by decide)) ?_
    refine rr rfl (s_istore_n rfl) ?_
    refine rr rfl (s_iconst (v := 0) (by decide)) ?_
    refine rr rfl (s_istore_n rfl) ?_
    refine rr rfl (s_iload_n rfl) ?_
    refine rr rfl (s_aload_n rfl) ?_
    refine rr rfl (s_getf rfl rfl) ?_
    refine rr rfl (s_icF (by decide)) ?_
    refine rr rfl (s_iconst (v := 0) (by decide)) ?_
    refine rr rfl (s_istore rfl) ?_
    refine rr rfl (s_aload_n rfl) ?_
    refine rr rfl (s_getf rfl rfl) ?_
    refine rr rfl (s_iload_n rfl) ?_
    refine rr rfl (s_iaload (j := 0) rfl rfl rfl) ?_
    refine rr rfl (s_ifF (ic_nne g1)) ?_
    refine rr rfl (s_aload_n rfl) ?_
    refine rr rfl (s_getf rfl rfl) ?_
    refine rr rfl (s_aload_n rfl) ?_
    refine rr rfl (s_getf rfl rfl) ?_
    refine rr rfl (s_iload_n rfl) ?_
    refine rr rfl (s_iaload (j := 0) rfl rfl rfl) ?_
    refine rr rfl (s_ialdH rfl g12 g10 g11) ?_
    refine rr rfl (s_istore rfl) ?_
    refine rr rfl (s_aload_n rfl) ?_
    refine rr rfl (s_getf rfl rfl) ?_
    refine rr rfl (s_iload_n rfl) ?_
    refine rr rfl (s_iaload (j := 0) rfl rfl rfl) ?_
    refine rr rfl (s_iconst (v := (-1)) (by decide)) ?_
    refine rr rfl (s_icF (ic_neq g4)) ?_
    refine rr rfl (s_aload_n rfl) ?_
    refine rr rfl (s_getf rfl rfl) ?_
    refine rr rfl (s_aload_n rfl) ?_
    refine rr rfl (s_getf rfl rfl) ?_
    refine rr rfl (s_iload_n rfl) ?_
    refine rr rfl (s_iaload (j := 0) rfl rfl rfl) ?_
    refine rr rfl (s_ialdH rfl g13 g10 g11) ?_
    refine rr rfl (s_iload rfl) ?_
    refine rr rfl (s_icT (by decide)) ?_
    refine rr rfl (s_iload rfl) ?_
    refine rr rfl (s_istore rfl) ?_
    refine rr rfl (s_aload_n rfl) ?_
    refine rr rfl (s_getf rfl rfl) ?_
    refine rr rfl (s_iload_n rfl) ?_
    refine rr rfl (s_iaload (j := 0) rfl rfl rfl) ?_
    refine rr rfl (s_iconst (v := (-1)) (by decide)) ?_
    refine rr rfl (s_icF (ic_neq g7)) ?_
    refine rr rfl (s_aload_n rfl) ?_
    refine rr rfl (s_getf rfl rfl) ?_
    refine rr rfl (s_aload_n rfl) ?_
    refine rr rfl (s_getf rfl rfl) ?_
    refine rr rfl (s_iload_n rfl) ?_
    refine rr rfl (s_iaload (j := 0) rfl rfl rfl) ?_
    refine rr rfl (s_ialdH rfl g14 g10 g11) ?_
    refine rr rfl (s_iconst (v := 1) (by decide)) ?_
    refine rr rfl (s_iadd (v := 6) (by decide)) ?_
    refine rr rfl (s_iload rfl) ?_
    refine rr rfl (s_icF (by decide)) ?_
    refine rr rfl (s_aload_n rfl) ?_
    refine rr rfl (s_getf rfl rfl) ?_
    refine rr rfl (s_aload_n rfl) ?_
    refine rr rfl (s_getf rfl rfl) ?_
    refine rr rfl (s_iload_n rfl) ?_
    refine rr rfl (s_iaload (j := 0) rfl rfl rfl) ?_
    refine rr rfl (s_ialdH rfl g14 g10 g11) ?_
    refine rr rfl (s_iconst (v := 1) (by decide)) ?_
    refine rr rfl (s_iadd (v := 6) (by decide)) ?_
    refine rr rfl s_goto ?_
    refine rr rfl (s_istore rfl) ?_
    refine rr rfl (s_iload rfl) ?_
    refine rr rfl (s_aload_n rfl) ?_
    refine rr rfl (s_getf rfl rfl) ?_
    refine rr rfl (s_aload_n rfl) ?_
    refine rr rfl (s_getf rfl rfl) ?_
    refine rr rfl (s_iload_n rfl) ?_
    refine rr rfl (s_iaload (j := 0) rfl rfl rfl) ?_
    refine rr rfl (s_ialdH rfl rfl g10 g11) ?_
    refine rr rfl (s_icF (by decide)) ?_
    refine rr rfl (s_aload_n rfl) ?_
    refine rr rfl (s_getf rfl rfl) ?_
    refine rr rfl (s_aload_n rfl) ?_
    refine rr rfl (s_getf rfl rfl) ?_
    refine rr rfl (s_iload_n rfl) ?_
    refine rr rfl (s_iaload (j := 0) rfl rfl rfl) ?_
    refine rr rfl (s_iload rfl) ?_
    refine rr rfl (s_iastH (v := 6) rfl rfl g10 g11 (Nat.le_of_ble_eq_true rfl) rfl (h' := ((((((((((((hF.set 5 (.inl ((List.replicate 8 (0 : Int32)).set (Int32.toNatClampNeg x3) 8))).set 41 (.inr (.inr (9, [.int 4, .int 1, .ref 42, .ref 43, .ref 44, .ref 45, .ref 46, .ref 47, .ref 48, .ref 49, .ref 50, .ref 51, .int 0, .int 0, .int 0, .int 0, .int 0, .int 0, .int 0, .int 0, .ref 52, .int 0, .ref 53, .int 0, .ref 54, .int 0, .ref 55, .ref 56, .ref 57, .ref 58, .int 0, .ref 59, .ref 60])))).set 42 (.inl [x1, 0, 0, 0, 0, 0, 0, 0, 0, 0, 0, 0, 0])).set 43 (.inl [x2, 0, 0, 0, 0, 0, 0, 0, 0, 0, 0, 0, 0])).set 44 (.inl [x3, 0, 0, 0, 0, 0, 0, 0, 0, 0, 0, 0, 0])).set 45 (.inl [x4, 0, 0, 0, 0, 0, 0, 0, 0, 0, 0, 0, 0])).set 46 (.inl [x5, 0, 0, 0, 0, 0, 0, 0, 0, 0, 0, 0, 0])).set 47 (.inl [x6, 0, 0, 0, 0, 0, 0, 0, 0, 0, 0, 0, 0])).set 48 (.inl [x7, 0, 0, 0, 0, 0, 0, 0, 0, 0, 0, 0, 0])).set 49 (.inl [(-1), 0, 0, 0, 0, 0, 0, 0, 0, 0, 0, 0, 0])).set 51 (.inl ((List.replicate 8 (0 : Int32)).set (Int32.toNatClampNeg x3) 6))) ++ [.inr (.inr (2, [.int x1, .int x2, .int x3, .int x4, .int x5, .int x6, .int x7, .int ((1 <<< (x4 &&& 31) : Int32) ||| (1 <<< (x5 &&& 31) : Int32)), .int (1 <<< (x6 &&& 31) : Int32), .int (-1)]))]))) ?_
    refine rr rfl (s_iconst (v := 1) (by decide)) ?_
    refine rr rfl (s_istore_n rfl) ?_
    refine rr rfl (s_iload_n rfl) ?_
    refine rr rfl (s_ifF (by decide)) ?_
    refine rr rfl (s_iload rfl) ?_
    refine rr rfl (s_bipush (v := 8) (by decide)) ?_
    refine rr rfl (s_icF (by decide)) ?_
    refine rr rfl (s_iconst (v := 1) (by decide)) ?_
    refine rr rfl s_goto ?_
    refine rr rfl (s_istore_n rfl) ?_
    refine rr rfl (s_iinc (v := 1) rfl (by decide) rfl) ?_
    refine rr rfl s_goto ?_
    refine rr rfl (s_iload_n rfl) ?_
    refine rr rfl (s_aload_n rfl) ?_
    refine rr rfl (s_getf rfl rfl) ?_
    refine rr rfl (s_icT (by decide)) ?_
    refine rr rfl s_goto ?_
    refine rr rfl (s_iload_n rfl) ?_
    refine rr rfl (s_ifF (by decide)) ?_
    refine rr rfl (s_iload_n rfl) ?_
    refine rr rfl (s_ifF (by decide)) ?_
    refine rr rfl (s_iconst (v := 0) (by decide)) ?_
    refine rr rfl (s_istore_n rfl) ?_
    refine rr rfl (s_iconst (v := 0) (by decide)) ?_
    refine rr rfl (s_istore_n rfl) ?_
    refine rr rfl (s_iload_n rfl) ?_
    refine rr rfl (s_aload_n rfl) ?_
    refine rr rfl (s_getf rfl rfl) ?_
    refine rr rfl (s_icF (by decide)) ?_
    refine rr rfl (s_iconst (v := 0) (by decide)) ?_
    refine rr rfl (s_istore rfl) ?_
    refine rr rfl (s_aload_n rfl) ?_
    refine rr rfl (s_getf rfl rfl) ?_
    refine rr rfl (s_iload_n rfl) ?_
    refine rr rfl (s_iaload (j := 0) rfl rfl rfl) ?_
    refine rr rfl (s_ifF (ic_nne g1)) ?_
    refine rr rfl (s_aload_n rfl) ?_
    refine rr rfl (s_getf rfl rfl) ?_
    refine rr rfl (s_aload_n rfl) ?_
    refine rr rfl (s_getf rfl rfl) ?_
    refine rr rfl (s_iload_n rfl) ?_
    refine rr rfl (s_iaload (j := 0) rfl rfl rfl) ?_
    refine rr rfl (s_ialdH rfl g12 g10 g11) ?_
    refine rr rfl (s_istore rfl) ?_
    refine rr rfl (s_aload_n rfl) ?_
    refine rr rfl (s_getf rfl rfl) ?_
    refine rr rfl (s_iload_n rfl) ?_
    refine rr rfl (s_iaload (j := 0) rfl rfl rfl) ?_
    refine rr rfl (s_iconst (v := (-1)) (by decide)) ?_
    refine rr rfl (s_icF (ic_neq g4)) ?_
    refine rr rfl (s_aload_n rfl) ?_
    refine rr rfl (s_getf rfl rfl) ?_
    refine rr rfl (s_aload_n rfl) ?_
    refine rr rfl (s_getf rfl rfl) ?_
    refine rr rfl (s_iload_n rfl) ?_
    refine rr rfl (s_iaload (j := 0) rfl rfl rfl) ?_
    refine rr rfl (s_ialdH rfl g13 g10 g11) ?_
    refine rr rfl (s_iload rfl) ?_
    refine rr rfl (s_icT (by decide)) ?_
    refine rr rfl (s_iload rfl) ?_
    refine rr rfl (s_istore rfl) ?_
    refine rr rfl (s_aload_n rfl) ?_
    refine rr rfl (s_getf rfl rfl) ?_
    refine rr rfl (s_iload_n rfl) ?_
    refine rr rfl (s_iaload (j := 0) rfl rfl rfl) ?_
    refine rr rfl (s_iconst (v := (-1)) (by decide)) ?_
    refine rr rfl (s_icF (ic_neq g7)) ?_
    refine rr rfl (s_aload_n rfl) ?_
    refine rr rfl (s_getf rfl rfl) ?_
    refine rr rfl (s_aload_n rfl) ?_
    refine rr rfl (s_getf rfl rfl) ?_
    refine rr rfl (s_iload_n rfl) ?_
    refine rr rfl (s_iaload (j := 0) rfl rfl rfl) ?_
    refine rr rfl (s_ialdH rfl g14 g10 g11) ?_
    refine rr rfl (s_iconst (v := 1) (by decide)) ?_
    refine rr rfl (s_iadd (v := 7) (by decide)) ?_
    refine rr rfl (s_iload rfl) ?_
    refine rr rfl (s_icF (by decide)) ?_
    refine rr rfl (s_aload_n rfl) ?_
    refine rr rfl (s_getf rfl rfl) ?_
    refine rr rfl (s_aload_n rfl) ?_
    refine rr rfl (s_getf rfl rfl) ?_
    refine rr rfl (s_iload_n rfl) ?_
    refine rr rfl (s_iaload (j := 0) rfl rfl rfl) ?_
    refine rr rfl (s_ialdH rfl g14 g10 g11) ?_
    refine rr rfl (s_iconst (v := 1) (by decide)) ?_
    refine rr rfl (s_iadd (v := 7) (by decide)) ?_
    refine rr rfl s_goto ?_
    refine rr rfl (s_istore rfl) ?_
    refine rr rfl (s_iload rfl) ?_
    refine rr rfl (s_aload_n rfl) ?_
    refine rr rfl (s_getf rfl rfl) ?_
    refine rr rfl (s_aload_n rfl) ?_
    refine rr rfl (s_getf rfl rfl) ?_
    refine rr rfl (s_iload_n rfl) ?_
    refine rr rfl (s_iaload (j := 0) rfl rfl rfl) ?_
    refine rr rfl (s_ialdH rfl rfl g10 g11) ?_
    refine rr rfl (s_icF (by decide)) ?_
    refine rr rfl (s_aload_n rfl) ?_
    refine rr rfl (s_getf rfl rfl) ?_
    refine rr rfl (s_aload_n rfl) ?_
    refine rr rfl (s_getf rfl rfl) ?_
    refine rr rfl (s_iload_n rfl) ?_
    refine rr rfl (s_iaload (j := 0) rfl rfl rfl) ?_
    refine rr rfl (s_iload rfl) ?_
    refine rr rfl (s_iastH (v := 7) rfl rfl g10 g11 (Nat.le_of_ble_eq_true rfl) rfl (h' := ((((((((((((hF.set 5 (.inl ((List.replicate 8 (0 : Int32)).set (Int32.toNatClampNeg x3) 8))).set 41 (.inr (.inr (9, [.int 4, .int 1, .ref 42, .ref 43, .ref 44, .ref 45, .ref 46, .ref 47, .ref 48, .ref 49, .ref 50, .ref 51, .int 0, .int 0, .int 0, .int 0, .int 0, .int 0, .int 0, .int 0, .ref 52, .int 0, .ref 53, .int 0, .ref 54, .int 0, .ref 55, .ref 56, .ref 57, .ref 58, .int 0, .ref 59, .ref 60])))).set 42 (.inl [x1, 0, 0, 0, 0, 0, 0, 0, 0, 0, 0, 0, 0])).set 43 (.inl [x2, 0, 0, 0, 0, 0, 0, 0, 0, 0, 0, 0, 0])).set 44 (.inl [x3, 0, 0, 0, 0, 0, 0, 0, 0, 0, 0, 0, 0])).set 45 (.inl [x4, 0, 0, 0, 0, 0, 0, 0, 0, 0, 0, 0, 0])).set 46 (.inl [x5, 0, 0, 0, 0, 0, 0, 0, 0, 0, 0, 0, 0])).set 47 (.inl [x6, 0, 0, 0, 0, 0, 0, 0, 0, 0, 0, 0, 0])).set 48 (.inl [x7, 0, 0, 0, 0, 0, 0, 0, 0, 0, 0, 0, 0])).set 49 (.inl [(-1), 0, 0, 0, 0, 0, 0, 0, 0, 0, 0, 0, 0])).set 51 (.inl ((List.replicate 8 (0 : Int32)).set (Int32.toNatClampNeg x3) 7))) ++ [.inr (.inr (2, [.int x1, .int x2, .int x3, .int x4, .int x5, .int x6, .int x7, .int ((1 <<< (x4 &&& 31) : Int32) ||| (1 <<< (x5 &&& 31) : Int32)), .int (1 <<< (x6 &&& 31) : Int32), .int (-1)]))]))) ?_
    refine rr rfl (s_iconst (v := 1) (by decide)) ?_
    refine rr rfl (s_istore_n rfl) ?_
    refine rr rfl (s_iload_n rfl) ?_
    refine rr rfl (s_ifF (by decide)) ?_
    refine rr rfl (s_iload rfl) ?_
    refine rr rfl (s_bipush (v := 8) (by decide)) ?_
    refine rr rfl (s_icF (by decide)) ?_
    refine rr rfl (s_iconst (v := 1) (by decide)) ?_
    refine rr rfl s_goto ?_
    refine rr rfl (s_istore_n rfl) ?_
    refine rr rfl (s_iinc (v := 1) rfl (by decide) rfl) ?_
    refine rr rfl s_goto ?_
    refine rr rfl (s_iload_n rfl) ?_
    refine rr rfl (s_aload_n rfl) ?_
    refine rr rfl (s_getf rfl rfl) ?_
    refine rr rfl (s_icT (by decide)) ?_
    refine rr rfl s_goto ?_
    refine rr rfl (s_iload_n rfl) ?_
    refine rr rfl (s_ifF (by decide)) ?_
    refine rr rfl (s_iload_n rfl) ?_
    refine rr rfl (s_ifF (by decide)) ?_
    refine rr rfl (s_iconst (v := 0) (by decide)) ?_
    refine rr rfl (s_istore_n rfl) ?_
    refine rr rfl (s_iconst (v := 0) (by decide)) ?_
    refine rr rfl (s_istore_n rfl) ?_
    refine rr rfl (s_iload_n rfl) ?_
    refine rr rfl (s_aload_n rfl) ?_
    refine rr rfl (s_getf rfl rfl) ?_
    refine rr rfl (s_icF (by decide)) ?_
    refine rr rfl (s_iconst (v := 0) (by decide)) ?_
    refine rr rfl (s_istore rfl) ?_
    refine rr rfl (s_aload_n rfl) ?_
    refine rr rfl (s_getf rfl rfl) ?_
    refine rr rfl (s_iload_n rfl) ?_
    refine rr rfl (s_iaload (j := 0) rfl rfl rfl) ?_
    refine rr rfl (s_ifF (ic_nne g1)) ?_
    refine rr rfl (s_aload_n rfl) ?_
    refine rr rfl (s_getf rfl rfl) ?_
    refine rr rfl (s_aload_n rfl) ?_
    refine rr rfl (s_getf rfl rfl) ?_
    refine rr rfl (s_iload_n rfl) ?_
    refine rr rfl (s_iaload (j := 0) rfl rfl rfl) ?_
    refine rr rfl (s_ialdH rfl g12 g10 g11) ?_
    refine rr rfl (s_istore rfl) ?_
    refine rr rfl (s_aload_n rfl) ?_
    refine rr rfl (s_getf rfl rfl) ?_
    refine rr rfl (s_iload_n rfl) ?_
    refine rr rfl (s_iaload (j := 0) rfl rfl rfl) ?_
    refine rr rfl (s_iconst (v := (-1)) (by decide)) ?_
    refine rr rfl (s_icF (ic_neq g4)) ?_
    refine rr rfl (s_aload_n rfl) ?_
    refine rr rfl (s_getf rfl rfl) ?_
    refine rr rfl (s_aload_n rfl) ?_
    refine rr rfl (s_getf rfl rfl) ?_
    refine rr rfl (s_iload_n rfl) ?_
    refine rr rfl (s_iaload (j := 0) rfl rfl rfl) ?_
    refine rr rfl (s_ialdH rfl g13 g10 g11) ?_
    refine rr rfl (s_iload rfl) ?_
    refine rr rfl (s_icT (by decide)) ?_
    refine rr rfl (s_iload rfl) ?_
    refine rr rfl (s_istore rfl) ?_
    refine rr rfl (s_aload_n rfl) ?_
    refine rr rfl (s_getf rfl rfl) ?_
    refine rr rfl (s_iload_n rfl) ?_
    refine rr rfl (s_iaload (j := 0) rfl rfl rfl) ?_
    refine rr rfl (s_iconst (v := (-1)) (by decide)) ?_
    refine rr rfl (s_icF (ic_neq g7)) ?_
    refine rr rfl (s_aload_n rfl) ?_
    refine rr rfl (s_getf rfl rfl) ?_
    refine rr rfl (s_aload_n rfl) ?_
    refine rr rfl (s_getf rfl rfl) ?_
    refine rr rfl (s_iload_n rfl) ?_
    refine rr rfl (s_iaload (j := 0) rfl rfl rfl) ?_
    refine rr rfl (s_ialdH rfl g14 g10 g11) ?_
    refine rr rfl (s_iconst (v := 1) (by decide)) ?_
    refine rr rfl (s_iadd (v := 8) (by decide)) ?_
    refine rr rfl (s_iload rfl) ?_
    refine rr rfl (s_icF (by decide)) ?_
    refine rr rfl (s_aload_n rfl) ?_
    refine rr rfl (s_getf rfl rfl) ?_
    refine rr rfl (s_aload_n rfl) ?_
    refine rr rfl (s_getf rfl rfl) ?_
    refine rr rfl (s_iload_n rfl) ?_
    refine rr rfl (s_iaload (j := 0) rfl rfl rfl) ?_
    refine rr rfl (s_ialdH rfl g14 g10 g11) ?_
    refine rr rfl (s_iconst (v := 1) (by decide)) ?_
    refine rr rfl (s_iadd (v := 8) (by decide)) ?_
    refine rr rfl s_goto ?_
    refine rr rfl (s_istore rfl) ?_
    refine rr rfl (s_iload rfl) ?_
    refine rr rfl (s_aload_n rfl) ?_
    refine rr rfl (s_getf rfl rfl) ?_
    refine rr rfl (s_aload_n rfl) ?_
    refine rr rfl (s_getf rfl rfl) ?_
    refine rr rfl (s_iload_n rfl) ?_
    refine rr rfl (s_iaload (j := 0) rfl rfl rfl) ?_
    refine rr rfl (s_ialdH rfl rfl g10 g11) ?_
    refine rr rfl (s_icF (by decide)) ?_
    refine rr rfl (s_aload_n rfl) ?_
    refine rr rfl (s_getf rfl rfl) ?_
    refine rr rfl (s_aload_n rfl) ?_
    refine rr rfl (s_getf rfl rfl) ?_
    refine rr rfl (s_iload_n rfl) ?_
    refine rr rfl (s_iaload (j := 0) rfl rfl rfl) ?_
    refine rr rfl (s_iload rfl) ?_
    refine rr rfl (s_iastH (v := 8) rfl rfl g10 g11 (Nat.le_of_ble_eq_true rfl) rfl (h' := ((((((((((((hF.set 5 (.inl ((List.replicate 8 (0 : Int32)).set (Int32.toNatClampNeg x3) 8))).set 41 (.inr (.inr (9, [.int 4, .int 1, .ref 42, .ref 43, .ref 44, .ref 45, .ref 46, .ref 47, .ref 48, .ref 49, .ref 50, .ref 51, .int 0, .int 0, .int 0, .int 0, .int 0, .int 0, .int 0, .int 0, .ref 52, .int 0, .ref 53, .int 0, .ref 54, .int 0, .ref 55, .ref 56, .ref 57, .ref 58, .int 0, .ref 59, .ref 60])))).set 42 (.inl [x1, 0, 0, 0, 0, 0, 0, 0, 0, 0, 0, 0, 0])).set 43 (.inl [x2, 0, 0, 0, 0, 0, 0, 0, 0, 0, 0, 0, 0])).set 44 (.inl [x3, 0, 0, 0, 0, 0, 0, 0, 0, 0, 0, 0, 0])).set 45 (.inl [x4, 0, 0, 0, 0, 0, 0, 0, 0, 0, 0, 0, 0])).set 46 (.inl [x5, 0, 0, 0, 0, 0, 0, 0, 0, 0, 0, 0, 0])).set 47 (.inl [x6, 0, 0, 0, 0, 0, 0, 0, 0, 0, 0, 0, 0])).set 48 (.inl [x7, 0, 0, 0, 0, 0, 0, 0, 0, 0, 0, 0, 0])).set 49 (.inl [(-1), 0, 0, 0, 0, 0, 0, 0, 0, 0, 0, 0, 0])).set 51 (.inl ((List.replicate 8 (0 : Int32)).set (Int32.toNatClampNeg x3) 8))) ++ [.inr (.inr (2, [.int x1, .int x2, .int x3, .int x4, .int x5, .int x6, .int x7, .int ((1 <<< (x4 &&& 31) : Int32) ||| (1 <<< (x5 &&& 31) : Int32)), .int (1 <<< (x6 &&& 31) : Int32), .int (-1)]))]))) ?_
    refine rr rfl (s_iconst (v := 1) (by decide)) ?_
    refine rr rfl (s_istore_n rfl) ?_
    refine rr rfl (s_iload_n rfl) ?_
    refine rr rfl (s_ifF (by decide)) ?_
    refine rr rfl (s_iload rfl) ?_
    refine rr rfl (s_bipush (v := 8) (by decide)) ?_
    refine rr rfl (s_icT (by decide)) ?_
    refine rr rfl (s_iconst (v := 0) (by decide)) ?_
    refine rr rfl (s_istore_n rfl) ?_
    refine rr rfl (s_iinc (v := 1) rfl (by decide) rfl) ?_
    refine rr rfl s_goto ?_
    refine rr rfl (s_iload_n rfl) ?_
    refine rr rfl (s_aload_n rfl) ?_
    refine rr rfl (s_getf rfl rfl) ?_
    refine rr rfl (s_icT (by decide)) ?_
    refine rr rfl s_goto ?_
    refine rr rfl (s_iload_n rfl) ?_
    refine rr rfl (s_ifF (by decide)) ?_
    refine rr rfl (s_iload_n rfl) ?_
    refine rr rfl (s_ifT (by decide)) ?_
    refine rr rfl (s_iload_n rfl) ?_
    exact rrt rfl rfl rfl rfl
  refine rrc rfl rfl rfl (do_of g_X9_lays rfl rfl e2) ?_
  refine rr rfl (s_istore rfl) ?_
  refine rr rfl (s_iload rfl) ?_
  refine rr rfl (s_ifT (by decide)) ?_
  refine rr rfl (s_aload_n rfl) ?_
  refine rr rfl rfl ?_
  refine rr rfl (s_getf rfl rfl) ?_
  refine rr rfl (s_iconst (v := 1) (by decide)) ?_
  refine rr rfl (s_isub (v := 0) (by decide)) ?_
  refine rr rfl (s_putf rfl rfl (Nat.le_of_ble_eq_true rfl) rfl (Nat.le_of_ble_eq_true rfl) rfl (h' := (((((((((((hF.set 5 (.inl ((List.replicate 8 (0 : Int32)).set (Int32.toNatClampNeg x3) 8))).set 42 (.inl [x1, 0, 0, 0, 0, 0, 0, 0, 0, 0, 0, 0, 0])).set 43 (.inl [x2, 0, 0, 0, 0, 0, 0, 0, 0, 0, 0, 0, 0])).set 44 (.inl [x3, 0, 0, 0, 0, 0, 0, 0, 0, 0, 0, 0, 0])).set 45 (.inl [x4, 0, 0, 0, 0, 0, 0, 0, 0, 0, 0, 0, 0])).set 46 (.inl [x5, 0, 0, 0, 0, 0, 0, 0, 0, 0, 0, 0, 0])).set 47 (.inl [x6, 0, 0, 0, 0, 0, 0, 0, 0, 0, 0, 0, 0])).set 48 (.inl [x7, 0, 0, 0, 0, 0, 0, 0, 0, 0, 0, 0, 0])).set 49 (.inl [(-1), 0, 0, 0, 0, 0, 0, 0, 0, 0, 0, 0, 0])).set 51 (.inl ((List.replicate 8 (0 : Int32)).set (Int32.toNatClampNeg x3) 8))) ++ [.inr (.inr (2, [.int x1, .int x2, .int x3, .int x4, .int x5, .int x6, .int x7, .int ((1 <<< (x4 &&& 31) : Int32) ||| (1 <<< (x5 &&& 31) : Int32)), .int (1 <<< (x6 &&& 31) : Int32), .int (-1)]))]))) ?_
  refine rr rfl (s_aload_n rfl) ?_
  have e3 : a_m MT [] 100000 10 miX9_lays [.ref 41] (((((((((((hF.set 5 (.inl ((List.replicate 8 (0 : Int32)).set (Int32.toNatClampNeg x3) 8))).set 42 (.inl [x1, 0, 0, 0, 0, 0, 0, 0, 0, 0, 0, 0, 0])).set 43 (.inl [x2, 0, 0, 0, 0, 0, 0, 0, 0, 0, 0, 0, 0])).set 44 (.inl [x3, 0, 0, 0, 0, 0, 0, 0, 0, 0, 0, 0, 0])).set 45 (.inl [x4, 0, 0, 0, 0, 0, 0, 0, 0, 0, 0, 0, 0])).set 46 (.inl [x5, 0, 0, 0, 0, 0, 0, 0, 0, 0, 0, 0, 0])).set 47 (.inl [x6, 0, 0, 0, 0, 0, 0, 0, 0, 0, 0, 0, 0])).set 48 (.inl [x7, 0, 0, 0, 0, 0, 0, 0, 0, 0, 0, 0, 0])).set 49 (.inl [(-1), 0, 0, 0, 0, 0, 0, 0, 0, 0, 0, 0, 0])).set 51 (.inl ((List.replicate 8 (0 : Int32)).set (Int32.toNatClampNeg x3) 8))) ++ [.inr (.inr (2, [.int x1, .int x2, .int x3, .int x4, .int x5, .int x6, .int x7, .int ((1 <<< (x4 &&& 31) : Int32) ||| (1 <<< (x5 &&& 31) : Int32)), .int (1 <<< (x6 &&& 31) : Int32), .int (-1)]))]) = some ((some (.int 1)), ((((((((((hF.set 5 (.inl ((List.replicate 8 (0 : Int32)).set (Int32.toNatClampNeg x3) 8))).set 42 (.inl [x1, 0, 0, 0, 0, 0, 0, 0, 0, 0, 0, 0, 0])).set 43 (.inl [x2, 0, 0, 0, 0, 0, 0, 0, 0, 0, 0, 0, 0])).set 44 (.inl [x3, 0, 0, 0, 0, 0, 0, 0, 0, 0, 0, 0, 0])).set 45 (.inl [x4, 0, 0, 0, 0, 0, 0, 0, 0, 0, 0, 0, 0])).set 46 (.inl [x5, 0, 0, 0, 0, 0, 0, 0, 0, 0, 0, 0, 0])).set 47 (.inl [x6, 0, 0, 0, 0, 0, 0, 0, 0, 0, 0, 0, 0])).set 48 (.inl [x7, 0, 0, 0, 0, 0, 0, 0, 0, 0, 0, 0, 0])).set 49 (.inl [(-1), 0, 0, 0, 0, 0, 0, 0, 0, 0, 0, 0, 0])) ++ [.inr (.inr (2, [.int x1, .int x2, .int x3, .int x4, .int x5, .int x6, .int x7, .int ((1 <<< (x4 &&& 31) : Int32) ||| (1 <<< (x5 &&& 31) : Int32)), .int (1 <<< (x6 &&& 31) : Int32), .int (-1)]))]), 0, 0) := by
    exact lays0 rfl rfl rfl rfl (by simp) rfl
  refine rrc rfl rfl rfl (do_of g_X9_lays rfl rfl e3) ?_
  refine rr rfl (s_istore rfl) ?_
  refine rr rfl (s_iload rfl) ?_
  refine rr rfl (s_ifT (by decide)) ?_
  refine rr rfl (s_bipush (v := (-3)) (by decide)) ?_
  exact rrt rfl rfl rfl rfl
