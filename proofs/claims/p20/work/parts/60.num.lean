/-! Numbers: shifts and masks of what is not below 0 -/
theorem jn_shr4 {n : Nat} (h : n < 2147483648) : Int32.ofNat n >>> ((4 : Int32) &&& 31) = Int32.ofNat (n / 16) := by
  apply Int32.toInt_inj.mp
  rw [jn_toInt (by omega)]
  show ((Int32.ofNat n).toBitVec.sshiftRight' _).toInt = _
  rw [BitVec.toInt_sshiftRight', show (((4 : Int32) &&& 31).toBitVec.smod 32).toNat = 4 from by decide]
  show (Int32.ofNat n).toInt >>> 4 = _
  rw [jn_toInt h, Int.shiftRight_eq_div_pow]
  omega
theorem jn_shr2 {n : Nat} (h : n < 2147483648) : Int32.ofNat n >>> ((2 : Int32) &&& 31) = Int32.ofNat (n / 4) := by
  apply Int32.toInt_inj.mp
  rw [jn_toInt (by omega)]
  show ((Int32.ofNat n).toBitVec.sshiftRight' _).toInt = _
  rw [BitVec.toInt_sshiftRight', show (((2 : Int32) &&& 31).toBitVec.smod 32).toNat = 2 from by decide]
  show (Int32.ofNat n).toInt >>> 2 = _
  rw [jn_toInt h, Int.shiftRight_eq_div_pow]
  omega
theorem jn_and3 {n : Nat} (h : n < 2147483648) : Int32.ofNat n &&& 3 = Int32.ofNat (n % 4) := by
  apply Int32.toBitVec_inj.mp
  apply BitVec.eq_of_toNat_eq
  show (BitVec.ofNat 32 n &&& 3#32).toNat = (BitVec.ofNat 32 (n % 4)).toNat
  rw [BitVec.toNat_and, BitVec.toNat_ofNat, BitVec.toNat_ofNat, BitVec.toNat_ofNat, Nat.mod_eq_of_lt (show n < 2 ^ 32 by omega), Nat.mod_eq_of_lt (show n % 4 < 2 ^ 32 by omega)]
  exact Nat.and_two_pow_sub_one_eq_mod n 2
theorem and255 (x : Int32) : ∃ k, k < 256 ∧ x &&& 255 = Int32.ofNat k := by
  refine ⟨x.toBitVec.toNat % 256, Nat.mod_lt _ (by decide), ?_⟩
  apply Int32.toBitVec_inj.mp
  apply BitVec.eq_of_toNat_eq
  show (x.toBitVec &&& 255#32).toNat = (BitVec.ofNat 32 (x.toBitVec.toNat % 256)).toNat
  rw [BitVec.toNat_and, BitVec.toNat_ofNat, BitVec.toNat_ofNat, Nat.mod_eq_of_lt (show x.toBitVec.toNat % 256 < 2 ^ 32 by omega)]
  exact Nat.and_two_pow_sub_one_eq_mod _ 8
section GX
variable {xs : List Int32} {d : Nat} {ret : Option FieldType} {tab : List ARow} {pc : Nat} {al : AL} {st : List Value} {h : AH} {c s : Nat} {Q : QT} {Z : List SH} {M : Mem} {len a b n : Nat}
theorem g_null (hr : a_row tab pc = some (pc, .aconst_null, len, a, b)) (hn : pc + len = n) (kk : Go xs d ret tab n al (.null :: st) h c s Q) : Go xs d ret tab pc al st h c s Q := by
  subst hn
  exact go_step hr rfl kk
theorem g_aald {q j r : Nat} {i : Int32} {rs : List (Option Nat)} (hr : a_row tab pc = some (pc, .aaload, len, a, b)) (hn : pc + len = n) (hz : a_at Z q = some (.inr (.inl rs))) (hi : i = Int32.ofNat j) (hj : j < 2147483648) (hx : a_at rs j = some (some r)) (kk : Go xs d ret tab n al (.ref r :: st) (hp Z M) c s Q) : Go xs d ret tab pc al (.int i :: .ref q :: st) (hp Z M) c s Q := by
  subst hn hi
  refine go_step (pc' := pc + len) (al' := al) (st' := .ref r :: st) (h' := hp Z M) (dc := 0) (ds := 0) hr ?_ kk
  have h1 : a_idx (Int32.ofNat j) = some j := idx_nI hj
  simp only [a_step, hp_at hz, cellOf, h1, hx, a_opt]
theorem sp_fill {q w : Nat} {v : Int32} (hz : a_at Z q = some (.inl w)) (hw : Nat.ble w 2000 = true) : EvV d miJ7_fill_53178 [.ref q, .int v] Z M (fun M' => M' = mfl M q v) := by
  have hw := Nat.le_of_ble_eq_true hw
  refine ⟨none, hp Z (mfl M q v), 0, 0, ⟨rfl, rfl, rfl, _, rfl, rfl⟩, 20000, fun N hN => ?_⟩
  have h1 := fill_ok (xs := []) (N := N) (d := d) (q := q) (v := v) (f := (List.range w).map (M q)) (h := hp Z M) (hp_at hz) (by simpa using hw) hN
  rw [h1]
  congr 2
  rw [← hp_set (M := M) (M' := mfl M q v) hz (fun a ha => mfl_q ha)]
  congr 2
  show (Sum.inl _ : AC) = Sum.inl _
  congr 1
  apply List.ext_getElem?
  intro i
  by_cases hi : i < w
  · simp [hi, mfl_same]
  · simp [hi]
end GX
