/-! Rows for runs of the small machine, an instruction each -/
section SY
variable {xs : List Int32} {cf : AFun} {d : Nat} {ret : Option FieldType} {tab : List ARow} {N pc : Nat} {al : AL} {st : List Value} {h : AH} {c s : Nat} {res : ARes}
theorem rr {r : ARow} {pc' : Nat} {al' : AL} {st' : List Value} {h' : AH} {dc ds : Nat} (hrow : a_row tab pc = some r) (hst : a_step d xs r al st h = some (pc', al', st', h', dc, ds)) (k : a_run MT xs cf d ret tab N pc' al' st' h' (c + dc) (s + ds) = some res) : a_run MT xs cf d ret tab (N + 1) pc al st h c s = some res := by
  rw [a_run_succ, hrow]
  simp only [hst]
  exact k
theorem rrc {r : ARow} {rc : Bool} {v : Option Value} {h' : AH} {c1 s1 : Nat} {st' : List Value} (hrow : a_row tab pc = some r) (hst : a_step d xs r al st h = none) (hcall : a_call r = some rc) (hdo : a_do MT cf rc r.2.2.2.1 st h = some ((v, h', c1, s1), st')) (k : a_run MT xs cf d ret tab N (r.1 + r.2.2.1) al (a_push v st') h' (c + c1) (s + s1) = some res) : a_run MT xs cf d ret tab (N + 1) pc al st h c s = some res := by
  rw [a_run_succ, hrow]
  simp only [hst, hcall, hdo]
  exact k
theorem rrt {r : ARow} {v : Option Value} (hrow : a_row tab pc = some r) (hst : a_step d xs r al st h = none) (hcall : a_call r = none) (hret : a_ret ret r.2.1 st = some v) : a_run MT xs cf d ret tab (N + 1) pc al st h c s = some (v, h, c, s) := by
  rw [a_run_succ, hrow]
  simp only [hst, hcall, hret]
theorem do_of {rc : Bool} {mi : Nat} {m : AM} {vs st' : List Value} {r : ARes} (hm : a_at MT mi = some m) (ha : a_args rc m.2.2.2.2.2.1 st = (vs, st')) (hk : (Nat.ble st'.length 8 && (Nat.beq vs.length (bif rc then m.2.2.2.2.2.1 + 1 else m.2.2.2.2.2.1) && (!rc || a_rok h vs m.2.2.2.2.1))) = true) (hr : cf mi vs h = some r) : a_do MT cf rc mi st h = some (r, st') := by
  unfold a_do
  rw [hm]
  simp only [ha, hk, cond_true, hr]
-- instructions
variable {len a b n : Nat}
theorem s_iload_n {k : Fin 4} {x : Int32} (hg : a_get al k.val = some (.int x)) : a_step d xs (pc, .iload_n k, len, a, b) al st h = some (pc + len, al, .int x :: st, h, 0, 0) := by simp only [a_step, hg]
theorem s_iload {k : Nat} {x : Int32} (hg : a_get al k = some (.int x)) : a_step d xs (pc, .iload k, len, a, b) al st h = some (pc + len, al, .int x :: st, h, 0, 0) := by simp only [a_step, hg]
theorem s_aload_n {k : Fin 4} {q : Nat} (hg : a_get al k.val = some (.ref q)) : a_step d xs (pc, .aload_n k, len, a, b) al st h = some (pc + len, al, .ref q :: st, h, 0, 0) := by simp only [a_step, hg]
theorem s_iconst {k : Int} {v : Int32} (hv : Int32.ofInt k = v) : a_step d xs (pc, .iconst k, len, a, b) al st h = some (pc + len, al, .int v :: st, h, 0, 0) := by simp only [a_step, fI_eq, hv]
theorem s_bipush {k : Int} {v : Int32} (hv : (Int8.ofInt k).toInt32 = v) : a_step d xs (pc, .bipush k, len, a, b) al st h = some (pc + len, al, .int v :: st, h, 0, 0) := by simp only [a_step, fI_eq, hv]
theorem s_sipush {k : Int} {v : Int32} (hv : (Int16.ofInt k).toInt32 = v) : a_step d xs (pc, .sipush k, len, a, b) al st h = some (pc + len, al, .int v :: st, h, 0, 0) := by simp only [a_step, fI_eq, hv]
theorem s_istore_n {k : Fin 4} {x : Int32} {al' : AL} (ha : al.filter (fun q => !(Nat.beq q.1 k.val)) = al') : a_step d xs (pc, .istore_n k, len, a, b) al (.int x :: st) h = some (pc + len, (k.val, .int x) :: al', st, h, 0, 0) := by simp only [a_step, a_del_eq, ha]
theorem s_istore {k : Nat} {x : Int32} {al' : AL} (ha : al.filter (fun q => !(Nat.beq q.1 k)) = al') : a_step d xs (pc, .istore k, len, a, b) al (.int x :: st) h = some (pc + len, (k, .int x) :: al', st, h, 0, 0) := by simp only [a_step, a_del_eq, ha]
theorem s_iinc {k : Nat} {j : Int} {x v : Int32} {al' : AL} (hg : a_get al k = some (.int x)) (hv : x + Int32.ofInt j = v) (ha : al.filter (fun q => !(Nat.beq q.1 k)) = al') : a_step d xs (pc, .iinc k j, len, a, b) al st h = some (pc + len, (k, .int v) :: al', st, h, 0, 0) := by simp only [a_step, hg, fI_eq, a_del_eq, hv, ha]
theorem s_iadd {x y v : Int32} (hv : x + y = v) : a_step d xs (pc, .iadd, len, a, b) al (.int y :: .int x :: st) h = some (pc + len, al, .int v :: st, h, 0, 0) := by simp only [a_step, fI_eq, hv]
theorem s_isub {x y v : Int32} (hv : x - y = v) : a_step d xs (pc, .isub, len, a, b) al (.int y :: .int x :: st) h = some (pc + len, al, .int v :: st, h, 0, 0) := by simp only [a_step, fI_eq, hv]
theorem s_imul {x y v : Int32} (hv : x * y = v) : a_step d xs (pc, .imul, len, a, b) al (.int y :: .int x :: st) h = some (pc + len, al, .int v :: st, h, 0, 0) := by simp only [a_step, fI_eq, hv]
theorem s_iand {x y v : Int32} (hv : x &&& y = v) : a_step d xs (pc, .iand, len, a, b) al (.int y :: .int x :: st) h = some (pc + len, al, .int v :: st, h, 0, 0) := by simp only [a_step, fI_eq, hv]
theorem s_ior {x y v : Int32} (hv : x ||| y = v) : a_step d xs (pc, .ior, len, a, b) al (.int y :: .int x :: st) h = some (pc + len, al, .int v :: st, h, 0, 0) := by simp only [a_step, fI_eq, hv]
theorem s_ishl {x y v : Int32} (hv : x <<< (y &&& 31) = v) : a_step d xs (pc, .ishl, len, a, b) al (.int y :: .int x :: st) h = some (pc + len, al, .int v :: st, h, 0, 0) := by simp only [a_step, fI_eq, hv]
theorem s_ishr {x y v : Int32} (hv : x >>> (y &&& 31) = v) : a_step d xs (pc, .ishr, len, a, b) al (.int y :: .int x :: st) h = some (pc + len, al, .int v :: st, h, 0, 0) := by simp only [a_step, fI_eq, hv]
theorem s_idiv {x y v : Int32} (hy : Nat.beq y.toBitVec.toNat 0 = false) (hv : x / y = v) : a_step d xs (pc, .idiv, len, a, b) al (.int y :: .int x :: st) h = some (pc + len, al, .int v :: st, h, 0, 0) := by simp only [a_step, fI_eq, hv, hy, cond_false]
theorem s_irem {x y v : Int32} (hy : Nat.beq y.toBitVec.toNat 0 = false) (hv : x - x / y * y = v) : a_step d xs (pc, .irem, len, a, b) al (.int y :: .int x :: st) h = some (pc + len, al, .int v :: st, h, 0, 0) := by simp only [a_step, fI_eq, hv, hy, cond_false]
theorem s_goto {f : Int} : a_step d xs (pc, .goto f, len, a, b) al st h = some (a, al, st, h, 0, 0) := rfl
theorem s_ifT {cd : ClassFile.Cond} {f : Int} {x : Int32} (hc : a_icmp cd x 0 = true) : a_step d xs (pc, .ifCond cd f, len, a, b) al (.int x :: st) h = some (a, al, st, h, 0, 0) := by simp only [a_step, hc, cond_true]
theorem s_ifF {cd : ClassFile.Cond} {f : Int} {x : Int32} (hc : a_icmp cd x 0 = false) : a_step d xs (pc, .ifCond cd f, len, a, b) al (.int x :: st) h = some (pc + len, al, st, h, 0, 0) := by simp only [a_step, hc, cond_false]
theorem s_icT {cd : ClassFile.Cond} {f : Int} {x y : Int32} (hc : a_icmp cd x y = true) : a_step d xs (pc, .if_icmp cd f, len, a, b) al (.int y :: .int x :: st) h = some (a, al, st, h, 0, 0) := by simp only [a_step, hc, cond_true]
theorem s_icF {cd : ClassFile.Cond} {f : Int} {x y : Int32} (hc : a_icmp cd x y = false) : a_step d xs (pc, .if_icmp cd f, len, a, b) al (.int y :: .int x :: st) h = some (pc + len, al, st, h, 0, 0) := by simp only [a_step, hc, cond_false]
theorem s_iastore {i x : Int32} {q j : Nat} {f f' : List Int32} {h' : AH} (hj : a_idx i = some j) (hh : a_at h q = some (.inl f)) (hl : j < f.length) (hf : f.set j x = f') (hq : q < h.length) (hh' : h.set q (.inl f') = h') : a_step d xs (pc, .iastore, len, a, b) al (.int x :: .int i :: .ref q :: st) h = some (pc + len, al, st, h', 0, 0) := by simp only [a_step, hh, hj, a_set_eq, if_pos hl, if_pos hq, hf, hh']
theorem s_iaload {i x : Int32} {q j : Nat} {f : List Int32} (hj : a_idx i = some j) (hh : a_at h q = some (.inl f)) (hx : a_at f j = some x) : a_step d xs (pc, .iaload, len, a, b) al (.int i :: .ref q :: st) h = some (pc + len, al, .int x :: st, h, 0, 0) := by simp only [a_step, hh, hj, hx]
theorem s_alen {q : Nat} {f : List Int32} {v : Int32} (hh : a_at h q = some (.inl f)) (hv : Int32.ofNat f.length = v) : a_step d xs (pc, .arraylength, len, a, b) al (.ref q :: st) h = some (pc + len, al, .int v :: st, h, 0, 0) := by simp only [a_step, hh, fN_eq, hv]
theorem s_getf {k q : Nat} {fs : List Value} {v : Value} (hh : a_at h q = some (.inr (.inr (a, fs)))) (hv : a_at fs b = some v) : a_step d xs (pc, .getfield k, len, a, b) al (.ref q :: st) h = some (pc + len, al, v :: st, h, 0, 0) := by
  have ha : Nat.beq a a = true := Nat.beq_refl a
  simp only [a_step, hh, ha, hv, cond_true]
theorem s_putf {k q : Nat} {fs fs' : List Value} {v : Value} {h' : AH} (hh : a_at h q = some (.inr (.inr (a, fs)))) (hk : a_fok (a_ty a b) v = true) (hl : b < fs.length) (hf : fs.set b v = fs') (hq : q < h.length) (hh' : h.set q (.inr (.inr (a, fs'))) = h') : a_step d xs (pc, .putfield k, len, a, b) al (v :: .ref q :: st) h = some (pc + len, al, st, h', 0, 0) := by
  have ha : Nat.beq a a = true := Nat.beq_refl a
  simp only [a_step, hh, ha, hk, Bool.and_self, cond_true, a_set_eq, if_pos hl, hf, if_pos hq, hh']
end SY
theorem ic_lt {x y : Int32} (h : x < y) : a_icmp .lt x y = true := (a_key_lt x y).trans (decide_eq_true h)
theorem ic_nlt {x y : Int32} (h : ¬ x < y) : a_icmp .lt x y = false := (a_key_lt x y).trans (decide_eq_false h)
theorem ic_le {x y : Int32} (h : x ≤ y) : a_icmp .le x y = true := (a_key_le x y).trans (decide_eq_true h)
theorem ic_nle {x y : Int32} (h : ¬ x ≤ y) : a_icmp .le x y = false := (a_key_le x y).trans (decide_eq_false h)
theorem ic_ge {x y : Int32} (h : y ≤ x) : a_icmp .ge x y = true := (a_key_le y x).trans (decide_eq_true h)
theorem ic_nge {x y : Int32} (h : ¬ y ≤ x) : a_icmp .ge x y = false := (a_key_le y x).trans (decide_eq_false h)
theorem ic_gt {x y : Int32} (h : y < x) : a_icmp .gt x y = true := (a_key_lt y x).trans (decide_eq_true h)
theorem ic_ngt {x y : Int32} (h : ¬ y < x) : a_icmp .gt x y = false := (a_key_lt y x).trans (decide_eq_false h)
theorem ic_eq {x y : Int32} (h : x = y) : a_icmp .eq x y = true := (a_key_eq x y).trans (decide_eq_true h)
theorem ic_neq {x y : Int32} (h : ¬ x = y) : a_icmp .eq x y = false := (a_key_eq x y).trans (decide_eq_false h)
theorem ic_ne {x y : Int32} (h : ¬ x = y) : a_icmp .ne x y = true := by
  show (!(Nat.beq x.toBitVec.toNat y.toBitVec.toNat)) = true
  rw [a_key_eq, decide_eq_false h]
  rfl
theorem ic_nne {x y : Int32} (h : x = y) : a_icmp .ne x y = false := by
  show (!(Nat.beq x.toBitVec.toNat y.toBitVec.toNat)) = false
  rw [a_key_eq, decide_eq_true h]
  rfl
theorem idx_nI {j : Nat} (hj : j < 2 ^ 31) : a_idx (Int32.ofNat j) = some j := by
  unfold a_idx
  have h1 : (Int32.ofNat j).toBitVec.toNat = j := by
    show (BitVec.ofNat 32 j).toNat = j
    rw [BitVec.toNat_ofNat]
    exact Nat.mod_eq_of_lt (by omega)
  rw [h1, Nat.blt_eq.mpr hj]
  rfl
theorem get_filter {al : AL} {i k : Nat} (h : k ≠ i) : a_get (al.filter (fun q => !(Nat.beq q.1 i))) k = a_get al k := by
  induction al with
  | nil => rfl
  | cons q r ih =>
    cases hb : Nat.beq q.1 i with
    | true =>
      rw [List.filter_cons_of_neg (by simp [hb]), ih]
      have hq := Nat.eq_of_beq_eq_true hb
      show _ = (bif Nat.beq q.1 k then some q.2 else a_get r k)
      have hk : Nat.beq q.1 k = false := by
        cases hh : Nat.beq q.1 k with
        | false => rfl
        | true => exact absurd ((Nat.eq_of_beq_eq_true hh).symm.trans hq) h
      rw [hk]
      rfl
    | false =>
      rw [List.filter_cons_of_pos (by simp [hb])]
      show (bif Nat.beq q.1 k then some q.2 else a_get _ k) = (bif Nat.beq q.1 k then some q.2 else a_get r k)
      rw [ih]
theorem a_m_succ {xs : List Int32} {N d : Nat} : a_m MT xs N (d + 1) = a_meth MT xs N (d + 1) (a_m MT xs N d) := rfl
theorem a_m_zero {xs : List Int32} {N : Nat} : a_m MT xs N 0 = a_meth MT xs N 0 (fun _ _ _ => none) := rfl
theorem a_meth_at {xs : List Int32} {N d mi : Nat} {cf : AFun} {m : AM} {vs : List Value} {h : AH} (hm : a_at MT mi = some m) (hv : vs.length ≤ m.2.2.1) : a_meth MT xs N d cf mi vs h = a_run MT xs cf d m.2.2.2.1 m.2.2.2.2.2.2.2 N 0 (a_entry 0 vs) [] h 0 0 := by
  unfold a_meth
  rw [hm]
  simp only [Nat.ble_eq.mpr hv, cond_true]
theorem g_fill : a_at MT miJ7_fill_53178 = some amJ7_fill_53178 := rfl
-- Arrays.fill
set_option maxRecDepth 10000 in
theorem fill_loop {xs : List Int32} {cf : AFun} {d q n : Nat} {v : Int32} (hn : n < 2 ^ 30) : ∀ (k i N : Nat) (f : List Int32) (al : AL) (h : AH) (c s : Nat), i + k = n → f.length = n → a_at h q = some (.inl f) → 9 * k + 4 ≤ N → a_get al 0 = some (.ref q) → a_get al 1 = some (.int v) → a_get al 2 = some (.int (Int32.ofNat i)) → a_get al 3 = some (.int (Int32.ofNat n)) →
    a_run MT xs cf d none tabJ7_fill_53178 N 5 al [] h c s = some (none, h.set q (.inl (f.take i ++ List.replicate k v)), c, s) := by
  intro k
  induction k with
  | zero =>
    intro i N f al h c s hik hf hh hN g0 g1 g2 g3
    obtain ⟨M, rfl⟩ : ∃ M, N = M + 4 := ⟨N - 4, by omega⟩
    refine rr rfl (s_iload_n g2) ?_
    refine rr rfl (s_iload_n g3) ?_
    refine rr rfl (s_icT (ic_ge (by rw [show i = n by omega]; exact Int32.le_refl _))) ?_
    have e1 : h.set q (.inl (f.take i ++ List.replicate 0 v)) = h := by
      rw [a_at_eq] at hh
      have : f.take i ++ List.replicate 0 v = f := by
        rw [List.replicate_zero, List.append_nil]
        exact List.take_of_length_le (by omega)
      rw [this]
      apply List.ext_getElem?
      intro j
      by_cases hj : q = j
      · subst hj
        rw [List.getElem?_set_self (lt_of hh), hh]
      · rw [List.getElem?_set_ne hj]
    rw [e1]
    exact rrt rfl rfl rfl rfl
  | succ k ih =>
    intro i N f al h c s hik hf hh hN g0 g1 g2 g3
    obtain ⟨M, rfl⟩ : ∃ M, N = M + 9 := ⟨N - 9, by omega⟩
    have hq : q < h.length := by rw [a_at_eq] at hh; exact lt_of hh
    have hlt : ¬ (Int32.ofNat n ≤ Int32.ofNat i) := nI_ge (by omega) (by omega)
    refine rr rfl (s_iload_n g2) ?_
    refine rr rfl (s_iload_n g3) ?_
    refine rr rfl (s_icF (ic_nge hlt)) ?_
    refine rr rfl (s_aload_n g0) ?_
    refine rr rfl (s_iload_n g2) ?_
    refine rr rfl (s_iload_n g1) ?_
    refine rr rfl (s_iastore (idx_nI (by omega)) hh (by omega) rfl hq rfl) ?_
    refine rr rfl (s_iinc g2 (v := Int32.ofNat (i + 1)) (nI_1 i) rfl) ?_
    refine rr rfl s_goto ?_
    rw [ih (i + 1) M (f.set i v) _ (h.set q (.inl (f.set i v))) _ _ (by omega) (by rw [List.length_set]; exact hf) (by rw [a_at_eq, List.getElem?_set_self hq]) (by omega) ?_ ?_ ?_ ?_]
    · congr 2
      rw [List.set_set]
      congr 2
      have h1 : (f.set i v).take (i + 1) = f.take i ++ [v] := by
        rw [List.take_succ, List.getElem?_set_self (by omega), List.take_set_of_le (Nat.le_refl i)]
        rfl
      rw [h1, List.append_assoc]
      rfl
    · exact (get_filter (by decide)).trans g0
    · exact (get_filter (by decide)).trans g1
    · rfl
    · exact (get_filter (by decide)).trans g3
theorem fill_ok {xs : List Int32} {N d q : Nat} {v : Int32} {f : List Int32} {h : AH} (hh : a_at h q = some (.inl f)) (hf : f.length ≤ 2000) (hN : 20000 ≤ N) : a_m MT xs N d miJ7_fill_53178 [.ref q, .int v] h = some (none, h.set q (.inl (List.replicate f.length v)), 0, 0) := by
  obtain ⟨M, rfl⟩ : ∃ M, N = M + 5 := ⟨N - 5, by omega⟩
  have main : ∀ (cf : AFun) (d : Nat), a_run MT xs cf d none tabJ7_fill_53178 (M + 5) 0 [(0, .ref q), (1, .int v)] [] h 0 0 = some (none, h.set q (.inl (List.replicate f.length v)), 0, 0) := by
    intro cf d
    refine rr rfl (s_iconst (v := Int32.ofNat 0) (by decide)) ?_
    refine rr rfl (s_istore_n rfl) ?_
    refine rr rfl (s_aload_n rfl) ?_
    refine rr rfl (s_alen hh rfl) ?_
    refine rr rfl (s_istore_n rfl) ?_
    rw [fill_loop (q := q) (v := v) (n := f.length) (by omega) f.length 0 M f _ h _ _ (by omega) rfl hh (by omega) rfl rfl rfl rfl]
    rfl
  cases d with
  | zero =>
    rw [a_m_zero, a_meth_at g_fill (Nat.le_of_ble_eq_true rfl)]
    exact main _ 0
  | succ d =>
    rw [a_m_succ, a_meth_at g_fill (Nat.le_of_ble_eq_true rfl)]
    exact main _ (d + 1)

-- other calls, another script: what a run leaves as it is
theorem do_mono {cf cf' : AFun} (hcf : ∀ mi vs h res, cf mi vs h = some res → cf' mi vs h = some res) {rc : Bool} {mi : Nat} {st : List Value} {h : AH} {z : ARes × List Value} (hd : a_do MT cf rc mi st h = some z) : a_do MT cf' rc mi st h = some z := by
  obtain ⟨res, st'⟩ := z
  unfold a_do at hd ⊢
  split at hd
  · cases hd
  · simp only at hd ⊢
    split at hd
    · rename_i res2 hc
      simp only [hcf _ _ _ _ hc]
      exact hd
    · simp at hd
theorem run_cf_mono {xs : List Int32} {cf cf' : AFun} (hcf : ∀ mi vs h res, cf mi vs h = some res → cf' mi vs h = some res) {d : Nat} {ret : Option FieldType} {tab : List ARow} {res : ARes} : ∀ (N pc : Nat) (al : AL) (st : List Value) (h : AH) (c s : Nat), a_run MT xs cf d ret tab N pc al st h c s = some res → a_run MT xs cf' d ret tab N pc al st h c s = some res := by
  intro N
  induction N with
  | zero => intro pc al st h c s hr; cases hr
  | succ N ih =>
    intro pc al st h c s hr
    rw [a_run_succ] at hr ⊢
    split at hr
    · cases hr
    · split at hr
      · exact ih _ _ _ _ _ _ hr
      · split at hr
        · split at hr
          · rename_i hdo
            simp only [do_mono hcf hdo]
            exact ih _ _ _ _ _ _ hr
          · cases hr
        · exact hr
theorem step_xs {d : Nat} (hd : d ≤ 11) (xs : List Int32) (r : ARow) (al : AL) (st : List Value) (h : AH) : a_step d xs r al st h = a_step d [] r al st h := by
  have hb : Nat.blt 11 d = false := by
    cases hz : Nat.blt 11 d with
    | false => rfl
    | true => exact absurd (Nat.blt_eq.mp hz) (by omega)
  obtain ⟨pc, ins, len, a, b⟩ := r
  cases ins
  case iaload =>
    simp only [a_step, hb, Bool.false_and, cond_false]
    split
    · rfl
    · split
      · split <;> split <;> rfl
      · rfl
    · rfl
  case arraylength =>
    simp only [a_step, hb, Bool.false_and, cond_false]
  case if_acmp cd f => cases cd <;> rfl
  case newarray t => cases t <;> rfl
  all_goals rfl
theorem run_xs {d : Nat} (hd : d ≤ 11) (xs : List Int32) (cf : AFun) (ret : Option FieldType) (tab : List ARow) : ∀ (N pc : Nat) (al : AL) (st : List Value) (h : AH) (c s : Nat), a_run MT xs cf d ret tab N pc al st h c s = a_run MT [] cf d ret tab N pc al st h c s := by
  intro N
  induction N with
  | zero => intros; rfl
  | succ N ih =>
    intro pc al st h c s
    rw [a_run_succ, a_run_succ]
    simp only [step_xs hd xs, ih]
theorem m_xs (xs : List Int32) (N : Nat) : ∀ d : Nat, d ≤ 11 → a_m MT xs N d = a_m MT [] N d := by
  intro d
  induction d with
  | zero =>
    intro hd
    funext mi vs h
    rw [a_m_zero, a_m_zero]
    unfold a_meth
    simp only [run_xs hd xs]
  | succ d ih =>
    intro hd
    funext mi vs h
    rw [a_m_succ, a_m_succ, ih (by omega)]
    unfold a_meth
    simp only [run_xs hd xs]
/-- the answer of Arrays.fill, at once -/
def fillRes (vs : List Value) (h : AH) : Option ARes := match vs with
  | [.ref q, .int v] => match a_at h q with
    | some (.inl f) => bif Nat.ble f.length 2000 then a_set h q (.inl (List.replicate f.length v)) (fun h => some (none, h, 0, 0)) else none
    | _ => none
  | _ => none
def fcf (cf : AFun) : AFun := fun mi vs h => bif Nat.beq mi miJ7_fill_53178 then fillRes vs h else cf mi vs h
/-- methods as a_m has them, but that Arrays.fill is done at once -/
noncomputable def f_m (N : Nat) (d : Nat) : AFun :=
  Nat.rec (motive := fun _ => AFun) (a_meth MT [] N 0 (fun _ _ _ => none)) (fun d ih => a_meth MT [] N (d + 1) (fcf ih)) d
theorem fillRes_ok {N d : Nat} (hN : 20000 ≤ N) {vs : List Value} {h : AH} {res : ARes} (hr : fillRes vs h = some res) : a_m MT [] N d miJ7_fill_53178 vs h = some res := by
  unfold fillRes at hr
  split at hr
  · split at hr
    · rename_i q v f hh
      cases hz : Nat.ble f.length 2000 with
      | false => rw [hz] at hr; cases hr
      | true =>
        rw [hz] at hr
        simp only [cond_true, a_set_eq] at hr
        split at hr
        · cases hr
          exact fill_ok hh (by simpa using hz) hN
        · cases hr
    · cases hr
  · cases hr
theorem f_ok {N : Nat} (hN : 20000 ≤ N) : ∀ (d mi : Nat) (vs : List Value) (h : AH) (res : ARes), f_m N d mi vs h = some res → a_m MT [] N d mi vs h = some res := by
  intro d
  induction d with
  | zero => intro mi vs h res hr; exact hr
  | succ d ih =>
    intro mi vs h res hr
    have hr : a_meth MT [] N (d + 1) (fcf (f_m N d)) mi vs h = some res := hr
    rw [a_m_succ]
    unfold a_meth at hr ⊢
    split at hr
    · cases hr
    · revert hr
      cases Nat.ble vs.length _ with
      | false => intro hr; cases hr
      | true =>
        intro hr
        refine run_cf_mono (fun mi vs h res hc => ?_) _ _ _ _ _ _ _ hr
        unfold fcf at hc
        cases hz : Nat.beq mi miJ7_fill_53178 with
        | false => rw [hz] at hc; exact ih _ _ _ _ hc
        | true =>
          rw [hz] at hc
          rw [Nat.eq_of_beq_eq_true hz]
          exact fillRes_ok hN hc
