/-! What makes cells and changes shapes -/
theorem mapIdx_snoc {α β : Type} {f : Nat → α → β} {l : List α} {x : α} : (l ++ [x]).mapIdx f = l.mapIdx f ++ [f l.length x] := by simp [List.mapIdx_concat]
theorem hp_snoc {Z : List SH} {M M' : Mem} {s : SH} (h : ∀ q, q < Z.length → M' q = M q) : hp Z M ++ [cellOf s (M' Z.length)] = hp (Z ++ [s]) M' := by
  unfold hp
  rw [mapIdx_snoc]
  congr 1
  apply List.ext_getElem?
  intro i
  by_cases hi : i < Z.length
  · simp [h i hi]
  · simp [hi]
theorem zz_snoc {E : Value} {T : List SH} {s : SH} : zz E T ++ [s] = zz E (T ++ [s]) := rfl
theorem zz_len {E : Value} {T : List SH} : (zz E T).length = 61 + T.length := by
  show (zz E [] ++ T).length = _
  rw [List.length_append]
  rfl
theorem zz_set {E : Value} {T : List SH} {k : Nat} {s : SH} : (zz E T).set (61 + k) s = zz E (T.set k s) := by
  apply List.ext_getElem?
  intro i
  rw [show zz E T = zz E [] ++ T from rfl, show zz E (T.set k s) = zz E [] ++ T.set k s from rfl]
  have h61 : (zz E []).length = 61 := rfl
  by_cases hi : i < 61
  · rw [List.getElem?_set_ne (by omega), List.getElem?_append_left (by omega), List.getElem?_append_left (by omega)]
  · rw [List.getElem?_append_right (by omega), h61]
    by_cases hk : i = 61 + k
    · subst hk
      rw [show 61 + k - 61 = k by omega]
      by_cases hl : k < T.length
      · rw [List.getElem?_set_self (by rw [List.length_append, h61]; omega), List.getElem?_set_self hl]
      · rw [List.getElem?_eq_none (by rw [List.length_set, List.length_append, h61]; omega), List.getElem?_eq_none (by rw [List.length_set]; omega)]
    · rw [List.getElem?_set_ne (by omega), List.getElem?_append_right (by omega), h61, List.getElem?_set_ne (by omega)]
theorem hp_shape {Z : List SH} {M : Mem} {q : Nat} {s : SH} (hq : q < Z.length) : (hp Z M).set q (cellOf s (M q)) = hp (Z.set q s) M := by
  apply List.ext_getElem?
  intro i
  by_cases hi : q = i
  · subst hi
    rw [List.getElem?_set_self (by rw [hp_len]; exact hq)]
    simp [hp, hq]
  · rw [List.getElem?_set_ne hi]
    simp [hp, List.getElem?_set_ne hi]
section AL
variable {xs : List Int32} {d : Nat} {ret : Option FieldType} {tab : List ARow} {pc : Nat} {al : AL} {st : List Value} {h : AH} {c s : Nat} {Q : QT} {Z : List SH} {M : Mem} {len a b n : Nat}
theorem g_aloadL {ins : Instr} {z : Int64} (hr : a_row tab pc = some (pc, ins, len, a, b)) (hn : pc + len = n) (hs : a_step (d + 1) xs (pc, ins, len, a, b) al st h = some (pc + len, al, .long z :: st, h, 0, 0)) (_ : True = True) (kk : Go xs d ret tab n al (.long z :: st) h c s Q) : Go xs d ret tab pc al st h c s Q := by
  subst hn
  exact go_step hr hs kk
theorem g_alenL (hr : a_row tab pc = some (pc, .arraylength, len, a, b)) (hn : pc + len = n) (kk : Go xs d ret tab n al (.int 0 :: st) h c s Q) : Go xs d ret tab pc al (.long 0 :: st) h c s Q := by
  subst hn
  exact go_step hr rfl kk
theorem g_alenR {q : Nat} {rs : List (Option Nat)} (hr : a_row tab pc = some (pc, .arraylength, len, a, b)) (hn : pc + len = n) (hz : a_at Z q = some (.inr (.inl rs))) (kk : Go xs d ret tab n al (.int (Int32.ofNat rs.length) :: st) (hp Z M) c s Q) : Go xs d ret tab pc al (.ref q :: st) (hp Z M) c s Q := by
  subst hn
  refine go_step (pc' := pc + len) (al' := al) (st' := .int (Int32.ofNat rs.length) :: st) (h' := hp Z M) (dc := 0) (ds := 0) hr ?_ kk
  simp only [a_step, hp_at hz, cellOf, fN_eq]
theorem g_gst {k : Nat} (hr : a_row tab pc = some (pc, .getstatic k, len, a, b)) (hn : pc + len = n) (kk : Go xs d ret tab n al (.long 0 :: st) h c s Q) : Go xs d ret tab pc al st h c s Q := by
  subst hn
  exact go_step hr rfl kk
theorem g_ldcC {k : Nat} (hr : a_row tab pc = some (pc, .ldc k, len, a, 5)) (hn : pc + len = n) (kk : Go xs d ret tab n al (.long 2 :: st) h c s Q) : Go xs d ret tab pc al st h c s Q := by
  subst hn
  exact go_step hr rfl kk
theorem g_acT {f : Int} {v w : Value} (hr : a_row tab pc = some (pc, .if_acmp .eq f, len, a, b)) (hv : a_acmp v w = some true) (kk : Go xs d ret tab a al st h c s Q) : Go xs d ret tab pc al (w :: v :: st) h c s Q := by
  refine go_step (pc' := a) (al' := al) (st' := st) (h' := h) (dc := 0) (ds := 0) hr ?_ kk
  simp only [a_step, hv, cond_true]
theorem g_anT {f : Int} {v w : Value} (hr : a_row tab pc = some (pc, .if_acmp .ne f, len, a, b)) (hn : pc + len = n) (hv : a_acmp v w = some true) (kk : Go xs d ret tab n al st h c s Q) : Go xs d ret tab pc al (w :: v :: st) h c s Q := by
  subst hn
  refine go_step (pc' := pc + len) (al' := al) (st' := st) (h' := h) (dc := 0) (ds := 0) hr ?_ kk
  simp only [a_step, hv, cond_true]
theorem g_getCl {k q : Nat} {rs : List (Option Nat)} (hr : a_row tab pc = some (pc, .invokevirtual k, len, a, 2)) (hn : pc + len = n) (hz : a_at Z q = some (.inr (.inl rs))) (hl : st.length ≤ 8) (kk : Go xs d ret tab n al (.long 2 :: st) (hp Z M) c s Q) : Go xs d ret tab pc al (.ref q :: st) (hp Z M) c s Q := by
  subst hn
  refine go_step (pc' := pc + len) (al' := al) (st' := .long 2 :: st) (h' := hp Z M) (dc := 0) (ds := 0) hr ?_ kk
  have g0 : Nat.beq 2 2 = true := rfl
  have g1 : Nat.blt 0 (d + 1) = true := Nat.blt_eq.mpr (by omega)
  have g2 : Nat.ble (Value.ref q :: st).length 9 = true := Nat.ble_eq.mpr (by simp; omega)
  simp only [a_step, g0, g1, g2, Bool.and_self, cond_true, hp_at hz, cellOf]
theorem g_objI {k : Nat} {q : Nat} (hr : a_row tab pc = some (pc, .invokespecial k, len, a, 2)) (hn : pc + len = n) (hl : st.length ≤ 8) (kk : Go xs d ret tab n al st h c s Q) : Go xs d ret tab pc al (.ref q :: st) h c s Q := by
  subst hn
  refine go_step (pc' := pc + len) (al' := al) (st' := st) (h' := h) (dc := 0) (ds := 0) hr ?_ kk
  have g0 : Nat.beq 2 2 = true := rfl
  have g1 : Nat.blt 0 (d + 1) = true := Nat.blt_eq.mpr (by omega)
  have g2 : Nat.ble (Value.ref q :: st).length 9 = true := Nat.ble_eq.mpr (by simp; omega)
  simp only [a_step, g0, g1, g2, Bool.and_self, cond_true]
theorem g_newR {k : Nat} (hr : a_row tab pc = some (pc, .new k, len, 2, 10)) (hn : pc + len = n) (kk : Go xs d ret tab n al (.ref Z.length :: st) (hp (Z ++ [ruleSh]) (mfl M Z.length 0)) (c + 1) (s + 10) Q) : Go xs d ret tab pc al st (hp Z M) c s Q := by
  subst hn
  refine go_step (pc' := pc + len) (al' := al) (st' := .ref Z.length :: st) (h' := hp (Z ++ [ruleSh]) (mfl M Z.length 0)) (dc := 1) (ds := 10) hr ?_ kk
  have e : hp Z M ++ [(.inr (.inr (2, (List.range 10).map (fun j => a_def (a_ty 2 j)))) : AC)] = hp (Z ++ [ruleSh]) (mfl M Z.length 0) := by
    rw [← hp_snoc (M := M) (M' := mfl M Z.length 0) (fun q hq => mfl_q (by omega))]
    congr 2
    show _ = (.inr (.inr (2, fvs (mfl M Z.length 0 Z.length) 0 [none, none, none, none, none, none, none, none, none, none])) : AC)
    simp only [fvs, mfl_same]
    rfl
  simp only [a_step, a_snoc_eq, hp_len, e]
theorem g_anew {k j : Nat} {i : Int32} (hr : a_row tab pc = some (pc, .anewarray k, len, a, b)) (hn : pc + len = n) (hi : i = Int32.ofNat j) (hj : j ≤ 100) (kk : Go xs d ret tab n al (.ref Z.length :: st) (hp (Z ++ [.inr (.inl (List.replicate j none))]) M) (c + 1) (s + j) Q) : Go xs d ret tab pc al (.int i :: st) (hp Z M) c s Q := by
  subst hn hi
  refine go_step (pc' := pc + len) (al' := al) (st' := .ref Z.length :: st) (h' := hp (Z ++ [.inr (.inl (List.replicate j none))]) M) (dc := 1) (ds := j) hr ?_ kk
  have h1 : a_idx (Int32.ofNat j) = some j := idx_nI (by omega)
  have h2 : Nat.blt 100000 j = false := by
    cases hb : Nat.blt 100000 j with
    | false => rfl
    | true => exact absurd (Nat.blt_eq.mp hb) (by omega)
  have e : hp Z M ++ [(.inr (.inl (List.replicate j none)) : AC)] = hp (Z ++ [.inr (.inl (List.replicate j none))]) M := by
    rw [← hp_snoc (M := M) (M' := M) (fun q hq => rfl)]
    rfl
  simp only [a_step, h1, h2, cond_false, a_snoc_eq, hp_len, e]
theorem g_aast {q j v : Nat} {i : Int32} {rs : List (Option Nat)} (hr : a_row tab pc = some (pc, .aastore, len, a, b)) (hn : pc + len = n) (hz : a_at Z q = some (.inr (.inl rs))) (hv : a_at Z v = some ruleSh) (hi : i = Int32.ofNat j) (hj : j < rs.length) (hj2 : j < 1000) (kk : Go xs d ret tab n al st (hp (Z.set q (.inr (.inl (rs.set j (some v))))) M) c s Q) : Go xs d ret tab pc al (.ref v :: .int i :: .ref q :: st) (hp Z M) c s Q := by
  subst hn hi
  refine go_step (pc' := pc + len) (al' := al) (st' := st) (h' := hp (Z.set q (.inr (.inl (rs.set j (some v))))) M) (dc := 0) (ds := 0) hr ?_ kk
  have h1 : a_idx (Int32.ofNat j) = some j := idx_nI (by omega)
  have h2 : Nat.beq 2 2 = true := rfl
  have e : (hp Z M).set q (.inr (.inl (rs.set j (some v)))) = hp (Z.set q (.inr (.inl (rs.set j (some v))))) M := hp_shape (M := M) (s := .inr (.inl (rs.set j (some v)))) (at_lt hz)
  have hq : q < (hp Z M).length := by rw [hp_len]; exact at_lt hz
  simp only [a_step, hp_at hz, hp_at hv, cellOf, h1, h2, cond_true, a_set_eq, if_pos hj, if_pos hq, e]
theorem g_putE {k e : Nat} {E : Value} {T : List SH} (hr : a_row tab pc = some (pc, .putfield k, len, 0, 1)) (hn : pc + len = n) (kk : Go xs d ret tab n al st (hp (zz (.ref e) T) M) c s Q) : Go xs d ret tab pc al (.ref e :: .ref 3 :: st) (hp (zz E T) M) c s Q := by
  subst hn
  refine go_step (pc' := pc + len) (al' := al) (st' := st) (h' := hp (zz (.ref e) T) M) (dc := 0) (ds := 0) hr ?_ kk
  have hz : a_at (zz E T) 3 = some (.inr (.inr (0, [none, some E, none]))) := z_3
  have h1 : (Nat.beq 0 0 && a_fok (a_ty 0 1) (.ref e)) = true := rfl
  have hq : 3 < (hp (zz E T) M).length := by rw [hp_len, zz_len]; omega
  have e1 : (hp (zz E T) M).set 3 (.inr (.inr (0, (fvs (M 3) 0 [none, some E, none]).set 1 (.ref e)))) = hp (zz (.ref e) T) M := by
    have := hp_shape (Z := zz E T) (M := M) (q := 3) (s := .inr (.inr (0, [none, some (.ref e), none]))) (by rw [zz_len]; omega)
    rw [show (zz E T).set 3 (.inr (.inr (0, [none, some (.ref e), none]))) = zz (.ref e) T from rfl] at this
    rw [← this]
    rfl
  simp only [a_step, hp_at hz, cellOf, h1, cond_true, a_set_eq, fvs_len]
  rw [if_pos (show 1 < [none, some E, none].length from by simp), if_pos hq, e1]
/-- System.arraycopy of a whole row of rules -/
theorem g_copyR {q0 q1 : Nat} {f g : List (Option Nat)} {k j : Nat} {kI : Int32} (hr : a_row tab pc = some (pc, .invokestatic k, len, a, 2)) (hn : pc + len = n) (hl : st.length ≤ 8) (hz0 : a_at Z q0 = some (.inr (.inl f))) (hz1 : a_at Z q1 = some (.inr (.inl g))) (hk : kI = Int32.ofNat j) (hf : f.length = j) (hg : j ≤ g.length) (hj : j < 1000) (hall : ∀ v, some v ∈ f → a_at Z v = some ruleSh) (kk : Go xs d ret tab n al st (hp (Z.set q1 (.inr (.inl (f ++ g.drop j)))) M) c s Q) : Go xs d ret tab pc al (.int kI :: .int 0 :: .ref q1 :: .int 0 :: .ref q0 :: st) (hp Z M) c s Q := by
  subst hn hk
  refine go_step (pc' := pc + len) (al' := al) (st' := st) (h' := hp (Z.set q1 (.inr (.inl (f ++ g.drop j)))) M) (dc := 0) (ds := 0) hr ?_ kk
  have g0 : Nat.beq 2 2 = true := rfl
  have g1 : Nat.blt 0 (d + 1) = true := Nat.blt_eq.mpr (by omega)
  have g2 : Nat.ble (Value.int (Int32.ofNat j) :: .int 0 :: .ref q1 :: .int 0 :: .ref q0 :: st).length 13 = true := Nat.ble_eq.mpr (by simp; omega)
  have g3 : a_idx (Int32.ofNat j) = some j := idx_nI (by omega)
  have g4 : a_idx 0 = some 0 := by decide
  have ha : f.all (a_rule (hp Z M)) = true := by
    apply List.all_eq_true.mpr
    intro o ho
    cases o with
    | none => rfl
    | some v =>
      unfold a_rule
      simp only [hp_at (hall v ho), cellOf]
      rfl
  have g5 : (Nat.ble (0 + j) f.length && (Nat.ble (0 + j) g.length && f.all (a_rule (hp Z M)))) = true := by
    rw [ha]
    simp only [Bool.and_eq_true, Nat.ble_eq, and_true]
    omega
  have hq : q1 < (hp Z M).length := by rw [hp_len]; exact at_lt hz1
  have e : (hp Z M).set q1 (.inr (.inl (g.take 0 ++ ((f.drop 0).take j ++ g.drop (0 + j))))) = hp (Z.set q1 (.inr (.inl (f ++ g.drop j)))) M := by
    rw [List.take_zero, List.nil_append, List.drop_zero, Nat.zero_add, List.take_of_length_le (by omega)]
    exact hp_shape (M := M) (s := .inr (.inl (f ++ g.drop j))) (at_lt hz1)
  simp only [a_step, g0, g1, g2, Bool.and_self, cond_true, hp_at hz0, hp_at hz1, cellOf, g3, g4, g5, a_set_eq, if_pos hq, e]
end AL
section GG
variable {xs : List Int32} {d : Nat} {ret : Option FieldType} {tab : List ARow} {pc : Nat} {al : AL} {st : List Value} {h : AH} {c s : Nat} {Q : QT} {len a b n : Nat}
theorem g_cG1 {ins : Instr} {rc : Bool} {m : AM} {Q1 : QT} {v1 : Value} (hr : a_row tab pc = some (pc, ins, len, a, b)) (hn : pc + len = n) (hst : a_step (d + 1) xs (pc, ins, len, a, b) al (v1 :: st) h = none) (hcall : a_call (pc, ins, len, a, b) = some rc) (hm : a_at MT a = some m) (hnp : (bif rc then m.2.2.2.2.2.1 + 1 else m.2.2.2.2.2.1) = 1) (hl : Nat.ble st.length 8 = true) (hrk : (!rc || a_rok h [v1] m.2.2.2.2.1) = true) (e : EvG d a [v1] h Q1) (k : ∀ v h' c1 s1, Q1 v h' c1 s1 → Go xs d ret tab n al (a_push v st) h' (c + c1) (s + s1) Q) : Go xs d ret tab pc al (v1 :: st) h c s Q := by
  subst hn
  exact go_call (vs := [v1]) (st' := st) hr hst hcall hm (args_eq (vs := [v1]) hnp rfl) (by rw [hnp, hl]; rfl) hrk e k
theorem g_cG2 {ins : Instr} {rc : Bool} {m : AM} {Q1 : QT} {v1 v2 : Value} (hr : a_row tab pc = some (pc, ins, len, a, b)) (hn : pc + len = n) (hst : a_step (d + 1) xs (pc, ins, len, a, b) al (v2 :: v1 :: st) h = none) (hcall : a_call (pc, ins, len, a, b) = some rc) (hm : a_at MT a = some m) (hnp : (bif rc then m.2.2.2.2.2.1 + 1 else m.2.2.2.2.2.1) = 2) (hl : Nat.ble st.length 8 = true) (hrk : (!rc || a_rok h [v1, v2] m.2.2.2.2.1) = true) (e : EvG d a [v1, v2] h Q1) (k : ∀ v h' c1 s1, Q1 v h' c1 s1 → Go xs d ret tab n al (a_push v st) h' (c + c1) (s + s1) Q) : Go xs d ret tab pc al (v2 :: v1 :: st) h c s Q := by
  subst hn
  exact go_call (vs := [v1, v2]) (st' := st) hr hst hcall hm (args_eq (vs := [v1, v2]) hnp rfl) (by rw [hnp, hl]; rfl) hrk e k
theorem g_cG3 {ins : Instr} {rc : Bool} {m : AM} {Q1 : QT} {v1 v2 v3 : Value} (hr : a_row tab pc = some (pc, ins, len, a, b)) (hn : pc + len = n) (hst : a_step (d + 1) xs (pc, ins, len, a, b) al (v3 :: v2 :: v1 :: st) h = none) (hcall : a_call (pc, ins, len, a, b) = some rc) (hm : a_at MT a = some m) (hnp : (bif rc then m.2.2.2.2.2.1 + 1 else m.2.2.2.2.2.1) = 3) (hl : Nat.ble st.length 8 = true) (hrk : (!rc || a_rok h [v1, v2, v3] m.2.2.2.2.1) = true) (e : EvG d a [v1, v2, v3] h Q1) (k : ∀ v h' c1 s1, Q1 v h' c1 s1 → Go xs d ret tab n al (a_push v st) h' (c + c1) (s + s1) Q) : Go xs d ret tab pc al (v3 :: v2 :: v1 :: st) h c s Q := by
  subst hn
  exact go_call (vs := [v1, v2, v3]) (st' := st) hr hst hcall hm (args_eq (vs := [v1, v2, v3]) hnp rfl) (by rw [hnp, hl]; rfl) hrk e k
theorem g_cG4 {ins : Instr} {rc : Bool} {m : AM} {Q1 : QT} {v1 v2 v3 v4 : Value} (hr : a_row tab pc = some (pc, ins, len, a, b)) (hn : pc + len = n) (hst : a_step (d + 1) xs (pc, ins, len, a, b) al (v4 :: v3 :: v2 :: v1 :: st) h = none) (hcall : a_call (pc, ins, len, a, b) = some rc) (hm : a_at MT a = some m) (hnp : (bif rc then m.2.2.2.2.2.1 + 1 else m.2.2.2.2.2.1) = 4) (hl : Nat.ble st.length 8 = true) (hrk : (!rc || a_rok h [v1, v2, v3, v4] m.2.2.2.2.1) = true) (e : EvG d a [v1, v2, v3, v4] h Q1) (k : ∀ v h' c1 s1, Q1 v h' c1 s1 → Go xs d ret tab n al (a_push v st) h' (c + c1) (s + s1) Q) : Go xs d ret tab pc al (v4 :: v3 :: v2 :: v1 :: st) h c s Q := by
  subst hn
  exact go_call (vs := [v1, v2, v3, v4]) (st' := st) hr hst hcall hm (args_eq (vs := [v1, v2, v3, v4]) hnp rfl) (by rw [hnp, hl]; rfl) hrk e k
theorem g_cG5 {ins : Instr} {rc : Bool} {m : AM} {Q1 : QT} {v1 v2 v3 v4 v5 : Value} (hr : a_row tab pc = some (pc, ins, len, a, b)) (hn : pc + len = n) (hst : a_step (d + 1) xs (pc, ins, len, a, b) al (v5 :: v4 :: v3 :: v2 :: v1 :: st) h = none) (hcall : a_call (pc, ins, len, a, b) = some rc) (hm : a_at MT a = some m) (hnp : (bif rc then m.2.2.2.2.2.1 + 1 else m.2.2.2.2.2.1) = 5) (hl : Nat.ble st.length 8 = true) (hrk : (!rc || a_rok h [v1, v2, v3, v4, v5] m.2.2.2.2.1) = true) (e : EvG d a [v1, v2, v3, v4, v5] h Q1) (k : ∀ v h' c1 s1, Q1 v h' c1 s1 → Go xs d ret tab n al (a_push v st) h' (c + c1) (s + s1) Q) : Go xs d ret tab pc al (v5 :: v4 :: v3 :: v2 :: v1 :: st) h c s Q := by
  subst hn
  exact go_call (vs := [v1, v2, v3, v4, v5]) (st' := st) hr hst hcall hm (args_eq (vs := [v1, v2, v3, v4, v5]) hnp rfl) (by rw [hnp, hl]; rfl) hrk e k
theorem g_cG6 {ins : Instr} {rc : Bool} {m : AM} {Q1 : QT} {v1 v2 v3 v4 v5 v6 : Value} (hr : a_row tab pc = some (pc, ins, len, a, b)) (hn : pc + len = n) (hst : a_step (d + 1) xs (pc, ins, len, a, b) al (v6 :: v5 :: v4 :: v3 :: v2 :: v1 :: st) h = none) (hcall : a_call (pc, ins, len, a, b) = some rc) (hm : a_at MT a = some m) (hnp : (bif rc then m.2.2.2.2.2.1 + 1 else m.2.2.2.2.2.1) = 6) (hl : Nat.ble st.length 8 = true) (hrk : (!rc || a_rok h [v1, v2, v3, v4, v5, v6] m.2.2.2.2.1) = true) (e : EvG d a [v1, v2, v3, v4, v5, v6] h Q1) (k : ∀ v h' c1 s1, Q1 v h' c1 s1 → Go xs d ret tab n al (a_push v st) h' (c + c1) (s + s1) Q) : Go xs d ret tab pc al (v6 :: v5 :: v4 :: v3 :: v2 :: v1 :: st) h c s Q := by
  subst hn
  exact go_call (vs := [v1, v2, v3, v4, v5, v6]) (st' := st) hr hst hcall hm (args_eq (vs := [v1, v2, v3, v4, v5, v6]) hnp rfl) (by rw [hnp, hl]; rfl) hrk e k
theorem g_cG7 {ins : Instr} {rc : Bool} {m : AM} {Q1 : QT} {v1 v2 v3 v4 v5 v6 v7 : Value} (hr : a_row tab pc = some (pc, ins, len, a, b)) (hn : pc + len = n) (hst : a_step (d + 1) xs (pc, ins, len, a, b) al (v7 :: v6 :: v5 :: v4 :: v3 :: v2 :: v1 :: st) h = none) (hcall : a_call (pc, ins, len, a, b) = some rc) (hm : a_at MT a = some m) (hnp : (bif rc then m.2.2.2.2.2.1 + 1 else m.2.2.2.2.2.1) = 7) (hl : Nat.ble st.length 8 = true) (hrk : (!rc || a_rok h [v1, v2, v3, v4, v5, v6, v7] m.2.2.2.2.1) = true) (e : EvG d a [v1, v2, v3, v4, v5, v6, v7] h Q1) (k : ∀ v h' c1 s1, Q1 v h' c1 s1 → Go xs d ret tab n al (a_push v st) h' (c + c1) (s + s1) Q) : Go xs d ret tab pc al (v7 :: v6 :: v5 :: v4 :: v3 :: v2 :: v1 :: st) h c s Q := by
  subst hn
  exact go_call (vs := [v1, v2, v3, v4, v5, v6, v7]) (st' := st) hr hst hcall hm (args_eq (vs := [v1, v2, v3, v4, v5, v6, v7]) hnp rfl) (by rw [hnp, hl]; rfl) hrk e k
theorem g_cG8 {ins : Instr} {rc : Bool} {m : AM} {Q1 : QT} {v1 v2 v3 v4 v5 v6 v7 v8 : Value} (hr : a_row tab pc = some (pc, ins, len, a, b)) (hn : pc + len = n) (hst : a_step (d + 1) xs (pc, ins, len, a, b) al (v8 :: v7 :: v6 :: v5 :: v4 :: v3 :: v2 :: v1 :: st) h = none) (hcall : a_call (pc, ins, len, a, b) = some rc) (hm : a_at MT a = some m) (hnp : (bif rc then m.2.2.2.2.2.1 + 1 else m.2.2.2.2.2.1) = 8) (hl : Nat.ble st.length 8 = true) (hrk : (!rc || a_rok h [v1, v2, v3, v4, v5, v6, v7, v8] m.2.2.2.2.1) = true) (e : EvG d a [v1, v2, v3, v4, v5, v6, v7, v8] h Q1) (k : ∀ v h' c1 s1, Q1 v h' c1 s1 → Go xs d ret tab n al (a_push v st) h' (c + c1) (s + s1) Q) : Go xs d ret tab pc al (v8 :: v7 :: v6 :: v5 :: v4 :: v3 :: v2 :: v1 :: st) h c s Q := by
  subst hn
  exact go_call (vs := [v1, v2, v3, v4, v5, v6, v7, v8]) (st' := st) hr hst hcall hm (args_eq (vs := [v1, v2, v3, v4, v5, v6, v7, v8]) hnp rfl) (by rw [hnp, hl]; rfl) hrk e k
end GG
