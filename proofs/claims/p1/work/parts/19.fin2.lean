set_option maxRecDepth 100000 in
theorem fc_promise_0 : ∀ jx : Nat, jx ≤ 3 → ¬ (nI jx) < 0 := by decide +kernel
set_option maxRecDepth 100000 in
theorem fc_promise_1 : ∀ jx : Nat, jx ≤ 3 → ¬ 4 ≤ (nI jx) := by decide +kernel
set_option maxRecDepth 100000 in
theorem fc_promise_2 : ∀ jy : Nat, jy ≤ 7 → ¬ (nI jy) < 0 := by decide +kernel
set_option maxRecDepth 100000 in
theorem fc_promise_3 : ∀ jy : Nat, jy ≤ 7 → ¬ 8 ≤ (nI jy) := by decide +kernel
set_option maxRecDepth 100000 in
theorem fc_promise_4 : ∀ jz : Nat, jz ≤ 3 → ¬ (nI jz) < 0 := by decide +kernel
set_option maxRecDepth 100000 in
theorem fc_promise_5 : ∀ jz : Nat, jz ≤ 3 → ¬ 4 ≤ (nI jz) := by decide +kernel
set_option maxRecDepth 100000 in
theorem fc_promise_6 : ∀ jw : Nat, jw ≤ 7 → ¬ (nI jw) < 0 := by decide +kernel
set_option maxRecDepth 100000 in
theorem fc_promise_7 : ∀ jw : Nat, jw ≤ 7 → ¬ 8 ≤ (nI jw) := by decide +kernel
set_option maxRecDepth 100000 in
theorem fc_promise_8 : ∀ jx : Nat, jx ≤ 3 → ¬ 3 < (nI jx) := by decide +kernel
set_option maxRecDepth 100000 in
theorem fc_promise_9 : ∀ jy : Nat, jy ≤ 7 → ¬ 7 < (nI jy) := by decide +kernel
set_option maxRecDepth 100000 in
theorem fc_promise_10 : ∀ jz : Nat, jz ≤ 3 → ¬ 3 < (nI jz) := by decide +kernel
set_option maxRecDepth 100000 in
theorem fc_promise_11 : ∀ jw : Nat, jw ≤ 7 → ¬ 7 < (nI jw) := by decide +kernel
set_option maxRecDepth 100000 in
theorem fc_facts_0 : ∀ jx : Nat, jx ≤ 3 → ¬ (nI jx) < 0 := by decide +kernel
set_option maxRecDepth 100000 in
theorem fc_facts_1 : ∀ jx : Nat, jx ≤ 3 → ¬ 4 ≤ (nI jx) := by decide +kernel
set_option maxRecDepth 100000 in
theorem fc_facts_2 : ∀ jy : Nat, jy ≤ 4 → ¬ (nI jy) < 0 := by decide +kernel
set_option maxRecDepth 100000 in
theorem fc_facts_3 : ∀ jy : Nat, jy ≤ 4 → ¬ 4 < (nI jy) := by decide +kernel
set_option maxRecDepth 100000 in
theorem fc_facts_4 : ∀ jy : Nat, jy ≤ 4 → (nI jy) < 7 := by decide +kernel
set_option maxRecDepth 100000 in
theorem fc_facts_5 : ∀ jx : Nat, jx ≤ 3 → ¬ 3 < (nI jx) := by decide +kernel
set_option maxRecDepth 100000 in
theorem fc_facts_6 : ∀ jx : Nat, jx ≤ 3 → ∀ jy : Nat, jy ≤ 4 → ¬ ((4 * (nI jy)) + (nI jx)) < 0 := by decide +kernel
set_option maxRecDepth 100000 in
theorem fc_facts_7 : ∀ jx : Nat, jx ≤ 3 → ∀ jy : Nat, jy ≤ 4 → ((4 * (nI jy)) + (nI jx)) < 28 := by decide +kernel
set_option maxRecDepth 100000 in
theorem fc_letters_0 : ∀ jx : Nat, jx ≤ 4 → ¬ (nI jx) < 0 := by decide +kernel
set_option maxRecDepth 100000 in
theorem fc_letters_1 : ∀ jx : Nat, jx ≤ 4 → ¬ 4 < (nI jx) := by decide +kernel
set_option maxRecDepth 100000 in
theorem fc_letters_2 : ∀ jy : Nat, jy ≤ 3 → ¬ (nI jy) < 0 := by decide +kernel
set_option maxRecDepth 100000 in
theorem fc_letters_3 : ∀ jy : Nat, jy ≤ 3 → ¬ 4 ≤ (nI jy) := by decide +kernel
set_option maxRecDepth 100000 in
theorem fc_letters_4 : ∀ jz : Nat, jz ≤ 3 → ¬ (nI jz) < 0 := by decide +kernel
set_option maxRecDepth 100000 in
theorem fc_letters_5 : ∀ jz : Nat, jz ≤ 3 → ¬ 4 ≤ (nI jz) := by decide +kernel
set_option maxRecDepth 100000 in
theorem fc_letters_6 : ∀ jx : Nat, jx ≤ 4 → ∀ jy : Nat, jy ≤ 3 → ¬ ((4 * (nI jx)) + (nI jy)) < 0 := by decide +kernel
set_option maxRecDepth 100000 in
theorem fc_letters_7 : ∀ jx : Nat, jx ≤ 4 → ∀ jy : Nat, jy ≤ 3 → ((4 * (nI jx)) + (nI jy)) < 28 := by decide +kernel
set_option maxRecDepth 100000 in
theorem fc_letters_8 : ∀ jy : Nat, jy ≤ 3 → ¬ 3 < (nI jy) := by decide +kernel
set_option maxRecDepth 100000 in
theorem fc_letters_9 : ∀ jz : Nat, jz ≤ 3 → ¬ 3 < (nI jz) := by decide +kernel
set_option maxRecDepth 100000 in
theorem fc_letters_10 : ∀ jx : Nat, jx ≤ 4 → ∀ jy : Nat, jy ≤ 3 → ∀ jz : Nat, jz ≤ 3 → ¬ (((16 * (nI jx)) + (4 * (nI jy))) + (nI jz)) < 0 := by decide +kernel
set_option maxRecDepth 100000 in
theorem fc_letters_11 : ∀ jx : Nat, jx ≤ 4 → ∀ jy : Nat, jy ≤ 3 → ∀ jz : Nat, jz ≤ 3 → (((16 * (nI jx)) + (4 * (nI jy))) + (nI jz)) < 112 := by decide +kernel
set_option maxRecDepth 100000 in
theorem fc_why_0 : ∀ jx : Nat, jx ≤ 3 → ¬ (nI jx) < 0 := by decide +kernel
set_option maxRecDepth 100000 in
theorem fc_why_1 : ∀ jx : Nat, jx ≤ 3 → ¬ 4 ≤ (nI jx) := by decide +kernel
set_option maxRecDepth 100000 in
theorem fc_why_2 : ∀ jy : Nat, jy ≤ 4 → ¬ (nI jy) < 0 := by decide +kernel
set_option maxRecDepth 100000 in
theorem fc_why_3 : ∀ jy : Nat, jy ≤ 4 → ¬ 4 < (nI jy) := by decide +kernel
set_option maxRecDepth 100000 in
theorem fc_why_4 : ∀ jz : Nat, jz ≤ 7 → ¬ (nI jz) < 0 := by decide +kernel
set_option maxRecDepth 100000 in
theorem fc_why_5 : ∀ jz : Nat, jz ≤ 7 → ¬ 8 ≤ (nI jz) := by decide +kernel
set_option maxRecDepth 100000 in
theorem fc_why_6 : ∀ jy : Nat, jy ≤ 4 → (nI jy) < 7 := by decide +kernel
set_option maxRecDepth 100000 in
theorem fc_why_7 : ∀ jx : Nat, jx ≤ 3 → ¬ 3 < (nI jx) := by decide +kernel
set_option maxRecDepth 100000 in
theorem fc_why_8 : ∀ jz : Nat, jz ≤ 7 → ¬ 7 < (nI jz) := by decide +kernel
set_option maxRecDepth 100000 in
theorem fc_why_9 : ∀ jx : Nat, jx ≤ 3 → ∀ jy : Nat, jy ≤ 4 → ¬ ((4 * (nI jy)) + (nI jx)) < 0 := by decide +kernel
set_option maxRecDepth 100000 in
theorem fc_why_10 : ∀ jx : Nat, jx ≤ 3 → ∀ jy : Nat, jy ≤ 4 → ((4 * (nI jy)) + (nI jx)) < 28 := by decide +kernel
