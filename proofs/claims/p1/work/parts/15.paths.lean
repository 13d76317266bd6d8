theorem me {xs : List Int32} {N d mi : Nat} {m : AM} {vs : List Value} {h : AH} {res : ARes} (hm : a_at MT mi = some m) (hv : vs.length ≤ m.2.2.1) (k : a_run MT xs (a_m MT xs N d) (d + 1) m.2.2.2.1 m.2.2.2.2.2.2.2 N 0 (a_entry 0 vs) [] h 0 0 = some res) : a_m MT xs N (d + 1) mi vs h = some res := by
  rw [a_m_succ, a_meth_at hm hv]
  exact k
theorem s_tswO {xs : List Int32} {d pc len a b t : Nat} {al : AL} {st : List Value} {h : AH} {df lo hi : Int} {offs : Array Int} {x : Int32} (hx : x.toInt < lo ∨ hi < x.toInt) (ht : (pc : Int) + df = (t : Int)) : a_step d xs (pc, .tableswitch df lo hi offs, len, a, b) al (.int x :: st) h = some (t, al, st, h, 0, 0) := by
  have h1 : (decide (x.toInt < lo) || decide (hi < x.toInt)) = true := by
    rw [Bool.or_eq_true]
    rcases hx with q | q
    · exact Or.inl (decide_eq_true q)
    · exact Or.inr (decide_eq_true q)
  have h2 : decide (0 ≤ (t : Int)) = true := decide_eq_true (by omega)
  simp only [a_step, h1, ht, h2, cond_true, fN_eq, Int.toNat_natCast]
/-- on fresh objects class and reference answer alike -/
def Agree (mx mm : Nat) (as : List Value) : Prop := ∃ (r : Int32) (h1 h2 : AH) (c1 s1 c2 s2 : Nat), a_m MT [] 100000 11 mx (.ref 0 :: as) hF = some (some (.int r), h1, c1, s1) ∧ a_m MT [] 100000 11 mm (.ref 41 :: as) h1 = some (some (.int r), h2, c2, s2) ∧ c1 + c2 ≤ 100 ∧ s1 + s2 ≤ 1000 ∧ a_recv h1 41 9 = true
theorem agr_ok {mx mm : Nat} {as : List Value} (h : agr mx mm as = true) : Agree mx mm as := by
  unfold agr at h
  split at h
  · rename_i r h1 c1 s1 e1
    split at h
    · rename_i r2 h2 c2 s2 e2
      simp only [Bool.and_eq_true, Nat.ble_eq] at h
      have hr : r = r2 := eqI_spec r r2 h.1
      subst hr
      exact ⟨r, h1, h2, c1, s1, c2, s2, f_ok (by decide) _ _ _ _ _ e1, f_ok (by decide) _ _ _ _ _ e2, h.2.1, h.2.2.1, h.2.2.2⟩
    · cases h
  · cases h
theorem z_ishr {y : Int32} : (0 : Int32) >>> y = 0 := Int32.zero_shiftRight
theorem z_ishl {y : Int32} : (0 : Int32) <<< y = 0 := Int32.zero_shiftLeft
theorem z_andL {y : Int32} : (0 : Int32) &&& y = 0 := Int32.zero_and
theorem z_andR {y : Int32} : y &&& (0 : Int32) = 0 := Int32.and_zero
theorem s_iushr {xs : List Int32} {d pc len a b : Nat} {al : AL} {st : List Value} {h : AH} {x y v : Int32} (hv : (x.toUInt32 >>> (y.toUInt32 &&& Int32.toUInt32 31)).toInt32 = v) : a_step d xs (pc, .iushr, len, a, b) al (.int y :: .int x :: st) h = some (pc + len, al, .int v :: st, h, 0, 0) := by simp only [a_step, fI_eq, hv]
theorem s_ldc {xs : List Int32} {d pc len a b k : Nat} {al : AL} {st : List Value} {h : AH} {v : Int32} (hv : Int32.ofNat a = v) : a_step d xs (pc, .ldc k, len, a, b) al st h = some (pc + len, al, .int v :: st, h, 0, 0) := by simp only [a_step, hv]
theorem s_ldc_w {xs : List Int32} {d pc len a b k : Nat} {al : AL} {st : List Value} {h : AH} {v : Int32} (hv : Int32.ofNat a = v) : a_step d xs (pc, .ldc_w k, len, a, b) al st h = some (pc + len, al, .int v :: st, h, 0, 0) := by simp only [a_step, hv]
theorem nI_lt_of {x : Int32} {n : Nat} (h : x < nI n) : x < nI n := h
/-- a place of a row that holds the same everywhere -/
theorem s_ialdR {xs : List Int32} {d pc len a b q n : Nat} {al : AL} {st : List Value} {h : AH} {i x : Int32} (hh : a_at h q = some (.inl (List.replicate n x))) (h0 : ¬ i < 0) (h1 : i < nI n) : a_step d xs (pc, .iaload, len, a, b) al (.int i :: .ref q :: st) h = some (pc + len, al, .int x :: st, h, 0, 0) := by
  obtain ⟨j, hj, rfl⟩ := nI_of h0
  have hjn : j < n := by
    rcases Nat.lt_or_ge j n with g | g
    · exact g
    · exact absurd h1 (nI_nlt g hj)
  refine s_iaload (j := j) (idx_nI hj) hh ?_
  rw [a_at_eq, List.getElem?_replicate, if_pos hjn]
