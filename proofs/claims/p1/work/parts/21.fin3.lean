theorem big_j {x : Int32} (h : 227 < x) : ∃ j : Nat, 228 ≤ j ∧ j < 2 ^ 31 ∧ x = nI j := by
  have h0 : ¬ x < 0 := fun q => by
    rw [Int32.lt_iff_toInt_lt] at q h
    have e1 : (227 : Int32).toInt = 227 := by decide
    have e2 : (0 : Int32).toInt = 0 := by decide
    omega
  obtain ⟨j, hj, rfl⟩ := nI_of h0
  refine ⟨j, ?_, hj, rfl⟩
  rcases Nat.lt_or_ge j 228 with g | g
  · exact absurd h (nI_nlt (b := j) (a := 227) (by omega) (by decide))
  · exact g
theorem big_shr {x : Int32} (h : 227 < x) : (4 : Int32) < ((x - 200) >>> (2 &&& 31) : Int32) := by
  obtain ⟨j, h1, h2, rfl⟩ := big_j h
  have e1 : nI j - 200 = nI (j - 200) := pk_sub (a := j) (b := 200) (by omega)
  rw [e1, pk_shrN (by omega) (2 &&& 31) 2 (by decide)]
  exact nI_lt (a := 4) (by omega) (by omega)
theorem big_div {x : Int32} (h : 227 < x) : 4 < ((x - 200) / 4) := by
  obtain ⟨j, h1, h2, rfl⟩ := big_j h
  have e1 : nI j - 200 = nI (j - 200) := pk_sub (a := j) (b := 200) (by omega)
  have e2 : nI (j - 200) / 4 = nI ((j - 200) / 4) := pk_div (d := 4) (by omega) (by omega) (by omega)
  rw [e1, e2]
  exact nI_lt (a := 4) (by omega) (by omega)
set_option maxRecDepth 100000 in
theorem fn_blow : ∀ jx : Nat, jx ≤ 227 → agr miX8_blow miX9_blow [.int (nI jx)] = true := by decide +kernel
set_option maxRecDepth 100000 in
theorem fw_s4 : ∀ j : Nat, j ≤ 227 → 200 ≤ j ∨ ((4 : Int32) ≤ ((nI j) >>> (4 &&& 31) : Int32) ↔ 4 ≤ ((nI j) / 16)) := by decide +kernel
set_option maxRecDepth 100000 in
theorem fw_eq : ∀ j : Nat, j ≤ 227 → 200 ≤ j ∨ ((((nI j) >>> (2 &&& 31) : Int32) &&& 3) = ((nI j) &&& 3) ↔ (((nI j) / 4) - ((nI j) / 4) / 4 * 4) = ((nI j) - (nI j) / 4 * 4)) := by decide +kernel
set_option maxRecDepth 100000 in
theorem fw_s2 : ∀ j : Nat, j ≤ 227 → j < 200 ∨ ((4 : Int32) < (((nI j) - 200) >>> (2 &&& 31) : Int32) ↔ 4 < (((nI j) - 200) / 4)) := by decide +kernel
