set_option maxRecDepth 100000 in
theorem fn_end : ∀ jx : Nat, jx ≤ 6 → agr miX8_end miX9_end [.int (nI jx)] = true := by decide +kernel
set_option maxRecDepth 100000 in
theorem fn_layer : ∀ jx : Nat, jx ≤ 7 → agr miX8_layer miX9_layer [.int (nI jx)] = true := by decide +kernel
set_option maxRecDepth 100000 in
theorem fn_first : ∀ jx : Nat, jx ≤ 3 → ∀ jy : Nat, jy ≤ 7 → ∀ jz : Nat, jz ≤ 1 → agr miX8_first miX9_first [.int (nI jx), .int (nI jy), .int (nI jz)] = true := by decide +kernel
set_option maxRecDepth 100000 in
theorem fn_bounds : ∀ jx : Nat, jx ≤ 2 → ∀ jy : Nat, jy ≤ 2 → ∀ jz : Nat, jz ≤ 6 → agr miX8_bounds miX9_bounds [.int (nI jx), .int (nI jy), .int (nI jz)] = true := by decide +kernel
set_option maxRecDepth 100000 in
theorem fn_count : ∀ jx : Nat, jx ≤ 4 → agr miX8_count miX9_count [.int (nI jx)] = true := by decide +kernel
