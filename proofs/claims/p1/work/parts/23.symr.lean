/-! More rows: cells that come and change, one place of a row of zeros -/
section SR
variable {xs : List Int32} {d pc len a b : Nat} {al : AL} {st : List Value} {h h' : AH}
theorem s_aloadL {k : Fin 4} {z : Int64} (hg : a_get al k.val = some (.long z)) : a_step d xs (pc, .aload_n k, len, a, b) al st h = some (pc + len, al, .long z :: st, h, 0, 0) := by simp only [a_step, hg]
theorem s_new {k q : Nat} (hq : h.length = q) (hh : h ++ [.inr (.inr (a, (List.range b).map (fun j => a_def (a_ty a j))))] = h') : a_step d xs (pc, .new k, len, a, b) al st h = some (pc + len, al, .ref q :: st, h', 1, b) := by simp only [a_step, a_snoc_eq, hq, hh]
theorem s_dup {v : Value} : a_step d xs (pc, .dup, len, a, b) al (v :: st) h = some (pc + len, al, v :: v :: st, h, 0, 0) := rfl
theorem s_astore_n {k : Fin 4} {q : Nat} {al' : AL} (ha : al.filter (fun q => !(Nat.beq q.1 k.val)) = al') : a_step d xs (pc, .astore_n k, len, a, b) al (.ref q :: st) h = some (pc + len, (k.val, .ref q) :: al', st, h, 0, 0) := by simp only [a_step, a_del_eq, ha]
theorem s_astore {k q : Nat} {al' : AL} (ha : al.filter (fun q => !(Nat.beq q.1 k)) = al') : a_step d xs (pc, .astore k, len, a, b) al (.ref q :: st) h = some (pc + len, (k, .ref q) :: al', st, h, 0, 0) := by simp only [a_step, a_del_eq, ha]
theorem s_aload {k q : Nat} (hg : a_get al k = some (.ref q)) : a_step d xs (pc, .aload k, len, a, b) al st h = some (pc + len, al, .ref q :: st, h, 0, 0) := by simp only [a_step, hg]
theorem s_aastore {i : Int32} {v q j : Nat} {fs : List Value} {f f' : List (Option Nat)} (hv : a_at h v = some (.inr (.inr (2, fs)))) (hh : a_at h q = some (.inr (.inl f))) (hj : a_idx i = some j) (hl : j < f.length) (hf : f.set j (some v) = f') (hq : q < h.length) (hh' : h.set q (.inr (.inl f')) = h') : a_step d xs (pc, .aastore, len, a, b) al (.ref v :: .int i :: .ref q :: st) h = some (pc + len, al, st, h', 0, 0) := by
  have h2 : Nat.beq 2 2 = true := rfl
  simp only [a_step, hv, hh, hj, h2, cond_true, a_set_eq, if_pos hl, if_pos hq, hf, hh']
theorem s_aaload {i : Int32} {q j z : Nat} {f : List (Option Nat)} (hh : a_at h q = some (.inr (.inl f))) (hj : a_idx i = some j) (hz : a_at f j = some (some z)) : a_step d xs (pc, .aaload, len, a, b) al (.int i :: .ref q :: st) h = some (pc + len, al, .ref z :: st, h, 0, 0) := by simp only [a_step, hh, hj, hz, a_opt]
theorem s_anew {k q j : Nat} {v : Int32} (hj : a_idx v = some j) (hb : Nat.blt 100000 j = false) (hq : h.length = q) (hh : h ++ [.inr (.inl (List.replicate j none))] = h') : a_step d xs (pc, .anewarray k, len, a, b) al (.int v :: st) h = some (pc + len, al, .ref q :: st, h', 1, j) := by simp only [a_step, hj, hb, cond_false, a_snoc_eq, hq, hh]
theorem s_alen0 : a_step d xs (pc, .arraylength, len, a, b) al (.long 0 :: st) h = some (pc + len, al, .int 0 :: st, h, 0, 0) := by
  simp only [a_step, decide_true, cond_true]
theorem s_max {k : Nat} {x y v : Int32} (hd : Nat.blt 0 d = true) (hl : st.length ≤ 8) (hv : (if x < y then y else x) = v) : a_step d xs (pc, .invokestatic k, len, a, 3) al (.int y :: .int x :: st) h = some (pc + len, al, .int v :: st, h, 0, 0) := by
  have h2 : Nat.beq 3 2 = false := rfl
  have h3 : Nat.beq 3 3 = true := rfl
  have hl2 : Nat.ble (Value.int y :: Value.int x :: st).length 10 = true := Nat.ble_eq.mpr (by simp only [List.length_cons]; omega)
  subst hv
  by_cases hq : x < y
  · rw [if_pos hq]
    simp only [a_step, h2, h3, hd, hl2, a_key_lt, decide_eq_true hq, Bool.false_and, Bool.and_self, cond_true, cond_false]
  · rw [if_neg hq]
    simp only [a_step, h2, h3, hd, hl2, a_key_lt, decide_eq_false hq, Bool.false_and, Bool.and_self, cond_true, cond_false]
theorem s_copy8 {k q0 q1 : Nat} {f g : List Int32} (hd : Nat.blt 0 d = true) (hl : st.length ≤ 8) (h0 : a_at h q0 = some (.inl f)) (h1 : a_at h q1 = some (.inl g)) (lf : f.length = 8) (lg : g.length = 8) (hq : q1 < h.length) (hh' : h.set q1 (.inl f) = h') : a_step d xs (pc, .invokestatic k, len, a, 2) al (.int 8 :: .int 0 :: .ref q1 :: .int 0 :: .ref q0 :: st) h = some (pc + len, al, st, h', 0, 0) := by
  have h2 : Nat.beq 2 2 = true := rfl
  have hl2 : Nat.ble (Value.int 8 :: Value.int 0 :: Value.ref q1 :: Value.int 0 :: Value.ref q0 :: st).length 13 = true := Nat.ble_eq.mpr (by simp only [List.length_cons]; omega)
  have i8 : a_idx 8 = some 8 := rfl
  have i0 : a_idx 0 = some 0 := rfl
  have e1 : Nat.ble (0 + 8) f.length = true := by rw [lf]; rfl
  have e2 : Nat.ble (0 + 8) g.length = true := by rw [lg]; rfl
  have e3 : g.take 0 ++ ((f.drop 0).take 8 ++ g.drop (0 + 8)) = f := by
    rw [List.take_zero, List.drop_zero, List.take_of_length_le (by omega), List.drop_of_length_le (by omega), List.nil_append, List.append_nil]
  simp only [a_step, h2, hd, hl2, Bool.and_self, cond_true, h0, h1, i8, i0, e1, e2, a_set_eq, if_pos hq, e3, hh']
theorem nI_lt_inv {j n : Nat} (hj : j < 2 ^ 31) (h : nI j < nI n) : j < n := by
  rcases Nat.lt_or_ge j n with g | g
  · exact g
  · exact absurd h (nI_nlt g hj)
theorem s_iastR {n q : Nat} {i x : Int32} (hh : a_at h q = some (.inl (List.replicate n 0))) (h0 : ¬ i < 0) (h1 : i < nI n) (hq : q < h.length) (hh' : h.set q (.inl ((List.replicate n (0 : Int32)).set (Int32.toNatClampNeg i) x)) = h') : a_step d xs (pc, .iastore, len, a, b) al (.int x :: .int i :: .ref q :: st) h = some (pc + len, al, st, h', 0, 0) := by
  obtain ⟨j, hj, rfl⟩ := nI_of h0
  have hl := nI_lt_inv hj h1
  rw [nI_clamp hj] at hh'
  exact s_iastore (idx_nI hj) hh (by rw [List.length_replicate]; exact hl) rfl hq hh'
theorem s_iastH {n q : Nat} {i z k v : Int32} (hh : a_at h q = some (.inl ((List.replicate n 0).set (Int32.toNatClampNeg z) k))) (hi : i = z) (h0 : ¬ z < 0) (h1 : z < nI n) (hq : q < h.length) (hh' : h.set q (.inl ((List.replicate n (0 : Int32)).set (Int32.toNatClampNeg z) v)) = h') : a_step d xs (pc, .iastore, len, a, b) al (.int v :: .int i :: .ref q :: st) h = some (pc + len, al, st, h', 0, 0) := by
  subst hi
  obtain ⟨j, hj, rfl⟩ := nI_of h0
  have hl := nI_lt_inv hj h1
  rw [nI_clamp hj] at hh' hh
  exact s_iastore (idx_nI hj) hh (by rw [List.length_set, List.length_replicate]; exact hl) (List.set_set ..) hq hh'
theorem s_ialdH {n q : Nat} {i z k : Int32} (hh : a_at h q = some (.inl ((List.replicate n 0).set (Int32.toNatClampNeg z) k))) (hi : i = z) (h0 : ¬ z < 0) (h1 : z < nI n) : a_step d xs (pc, .iaload, len, a, b) al (.int i :: .ref q :: st) h = some (pc + len, al, .int k :: st, h, 0, 0) := by
  subst hi
  obtain ⟨j, hj, rfl⟩ := nI_of h0
  have hl := nI_lt_inv hj h1
  rw [nI_clamp hj] at hh
  refine s_iaload (idx_nI hj) hh ?_
  rw [a_at_eq, List.getElem?_set_self (by rw [List.length_replicate]; exact hl)]
theorem s_ialdN {n q : Nat} {i z k : Int32} (hh : a_at h q = some (.inl ((List.replicate n 0).set (Int32.toNatClampNeg z) k))) (hi : ¬ i = z) (h0 : ¬ i < 0) (h1 : i < nI n) (hz : ¬ z < 0) : a_step d xs (pc, .iaload, len, a, b) al (.int i :: .ref q :: st) h = some (pc + len, al, .int 0 :: st, h, 0, 0) := by
  obtain ⟨j, hj, rfl⟩ := nI_of h0
  obtain ⟨jz, hjz, rfl⟩ := nI_of hz
  have hl := nI_lt_inv hj h1
  have hne : jz ≠ j := fun q => hi (by rw [q])
  rw [nI_clamp hjz] at hh
  refine s_iaload (idx_nI hj) hh ?_
  rw [a_at_eq, List.getElem?_set_ne hne, List.getElem?_replicate, if_pos hl]
end SR
theorem fill_n {q n d : Nat} {v y : Int32} {h h' : AH} (hh : a_at h q = some (.inl (List.replicate n y))) (hn : n ≤ 2000) (hh' : h.set q (.inl (List.replicate n v)) = h') : a_m MT [] 100000 d miJ7_fill_53178 [.ref q, .int v] h = some (none, h', 0, 0) := by
  have e := fill_ok (xs := []) (N := 100000) (d := d) (v := v) hh (by rw [List.length_replicate]; exact hn) (by decide)
  rw [List.length_replicate, hh'] at e
  exact e
theorem fuel_up {xs : List Int32} {cf : AFun} {d : Nat} {ret : Option FieldType} {tab : List ARow} {res : ARes} : ∀ (N M pc : Nat) (al : AL) (st : List Value) (h : AH) (c s : Nat), N ≤ M → a_run MT xs cf d ret tab N pc al st h c s = some res → a_run MT xs cf d ret tab M pc al st h c s = some res := by
  intro N
  induction N with
  | zero => intro M pc al st h c s _ hr; cases hr
  | succ N ih =>
    intro M pc al st h c s hM hr
    obtain ⟨K, rfl⟩ : ∃ K, M = K + 1 := ⟨M - 1, by omega⟩
    rw [a_run_succ] at hr ⊢
    split at hr
    · cases hr
    · split at hr
      · exact ih _ _ _ _ _ _ _ (by omega) hr
      · split at hr
        · split at hr
          · exact ih _ _ _ _ _ _ _ (by omega) hr
          · cases hr
        · exact hr
