-- ===== end of PART A; then your names; then what follows =====
/-! THE CLAIM OUT OF ONE WALK OF THE LAW'S BODY. Your part is whole_start (and what it stands on); all else here is the same for every law, but numbers. -/
def R_law : String := "BlowSeekerLaw"
def lw_P (b : Addr) (xs : List Int32) (args : Array Value) (s : State) : Prop := args = #[.ref b] ∧ s.IntsAt b xs ∧ xs.length ≤ 4096 ∧ (Jvm.Cond.and given_1 narrow_1).before args s = true
def lw_Q (_ : Array Value) (s : State) (o : Outcome) (t : State) : Prop := o = .returned (some (.int 1)) ∧ Framed s o t [] 600000 7302250
def lw_Z (below : List Frame) (a : Array Value) (s : State) : State → Prop := fun t => ∃ o, t.status = .running ∧ Ended t below o ∧ lw_Q a s o t
/-- the law's own end, with 1 on the stack, nothing written that was there before, its room as the claim has it -/
theorem lw_ret {p : Program} {l : Launch} {e : Env} {s : State} {m : MethodId} {below : List Frame} {meth : Method} {c : Code} {b : Nat} (hx : p.tables.exec = Jvm.exec) (hb : c.code = code) (hr : meth.sig.returnType = ret) (hlocks : meth.locks = false) {pc : Nat} {H : Heap} {ls : Array Slot} (hdg : decode code pc = .ok (.ireturn, 1)) : W p l e room_1 s m #[Value.ref b] below meth c H [] 600000 7302250 (lw_Z below #[Value.ref b] s) (F0 m pc ls [.int 1]) := by
  intro T hT X
  obtain ⟨fs, hret, hrun, hended, hW, hframe⟩ := X.leave (v := some (.int 1)) (hlocks := hlocks) (fun h => by rw [hr] at h; cases h)
  have hmeth' : T.vm.method? m = some meth := X.method'
  refine ⟨T.setFrames fs, ?_, .returned (some (.int 1)), hrun, hended, rfl, ⟨_, rfl⟩, hW, hframe⟩
  jvm_step X.here [X.here.top, hx, hb, hdg, hmeth', hr, ret, narrow_b1]
  (try refine ⟨rfl, ?_⟩); (try refine ⟨rfl, ?_⟩)
  first | (intro acts; rw [hret _ acts rfl rfl rfl]) | rw [hret _ _ rfl rfl rfl]
  exact Steps.refl _
/-- what holds at the law's entry: the machine, the code, the tables' words (any of lw_tbl by 'hts w (by decide +kernel)'), the script of L ints xs at the cell b, what the Statement gives of the start (any of its parts by flat_of_before) -/
def lw_At (p : Program) (s : State) (m : MethodId) (meth : Method) (c : Code) (b L : Nat) (xs : Nat → Int32) : Prop :=
  p.tables.exec = Jvm.exec ∧ c.code = code ∧ meth.sig.returnType = ret ∧ c.maxLocals = 4 ∧ s.vm.findClass R_law = some m.cls ∧ (∀ w ∈ lw_tbl, w.before #[Value.ref b] s = true) ∧ va_X b L xs s s.heap ∧ b < s.heap.size ∧ meth.locks = false ∧ (Jvm.Cond.and given_1 narrow_1).before #[Value.ref b] s = true

/-- what is owed of the small machine: on every script of at most 4096 ints the law's rows come to 1 -/
def lawOK : Prop := ∀ xs : List Int32, xs.length ≤ 4096 → ∃ (M : Nat) (h' : AH) (c s : Nat), a_run MT xs (a_m MT xs M 11) 12 (some .boolean) tabL_law M 0 [(0, .long 1)] [] [] 0 0 = some (some (.int 1), h', c, s) ∧ c ≤ 600000 ∧ s ≤ 7302250
set_option maxHeartbeats 4000000 in
theorem law_start {p : Program} {e : Env} {s : State} {m : MethodId} {below : List Frame} {meth : Method} {c : Code} (hlaw : lawOK) (l : Launch) {b L : Nat} {xs : Nat → Int32} (hL : L ≤ 4096) (C0 : lw_At p s m meth c b L xs) : W p l e room_1 s m #[Value.ref b] below meth c s.heap [] 0 0 (lw_Z below #[Value.ref b] s) (entryFrame m ([Value.ref b] : List Value).toArray 4) := by
  obtain ⟨hx, hb, hr, hml, hown, hts, hX, hbl, hlocks, hgv⟩ := id C0
  have hGW : ∀ w ∈ GW, w.before #[Value.ref b] s = true := fun w hw => hts w (GW_tbl w hw)
  have hf := flat_of_before _ hgv
  -- the classes
  have hkn : ∀ (k : Nat) (q : vw_C), vwCl[k]? = some q → ∃ (cC : ClassId) (iS : Nat → Nat), u_Kn s q.1 q.2.1 q.2.2 cC iS := by
    intro k q hq
    have hi : ∀ q ∈ vwCl, ∃ n, Cond.instantiable q.1 n ∈ lw_tbl := by
      intro q hq
      have key : ∀ q ∈ vwCl, Cond.instantiable q.1 q.2.2 ∈ lw_tbl := by decide +kernel
      exact ⟨_, key q hq⟩
    obtain ⟨n, hn⟩ := hi q (List.mem_of_getElem? hq)
    exact u_known (n := n) hGW (cls_ws k q hq) (hts _ hn)
  obtain ⟨dC, dI, hKc⟩ : ∃ (dC : Nat → ClassId) (dI : Nat → Nat → Nat), ∀ (k : Nat) (q : vw_C), vwCl[k]? = some q → u_Kn s q.1 q.2.1 q.2.2 (dC k) (dI k) := by
    have h1 : ∀ k : Nat, ∃ z : ClassId × (Nat → Nat), ∀ q : vw_C, vwCl[k]? = some q → u_Kn s q.1 q.2.1 q.2.2 z.1 z.2 := by
      intro k
      cases hq : vwCl[k]? with
      | none => exact ⟨(0, fun _ => 0), fun q h => by cases h⟩
      | some q =>
        obtain ⟨cC, iS, h⟩ := hkn k q hq
        exact ⟨(cC, iS), fun q2 h2 => by cases h2; exact h⟩
    exact ⟨fun k => (Classical.choose (h1 k)).1, fun k => (Classical.choose (h1 k)).2, fun k => Classical.choose_spec (h1 k)⟩
  obtain ⟨cI, kI, compI, i1, i2, i3⟩ := Cond.arrayClass_spec (hGW _ gw_arr)
  have hover : (Cond.arrayOver (.object "java/lang/Object")).before #[Value.ref b] s = true := hts _ (by decide +kernel)
  obtain ⟨compO, cO, kO, o1, -, o2, o3, o4⟩ := Cond.arrayOver_spec hover
  -- the static row
  have hA0 : ∀ B2 : Nat × Nat × Nat, ∀ a : Nat, a < s.heap.size → ¬ AA (s.heap.size, B2) a := fun B2 a h q => by
    have q : s.heap.size ≤ a := q
    omega
  have tl : (Term.length (.static "java/util/ArrayList" "DEFAULTCAPACITY_EMPTY_ELEMENTDATA" "[Ljava/lang/Object;")).eval #[Value.ref b] s none [] s = some (.int (Int32.ofNat 0)) := va_eqt (hf _ (by decide +kernel))
  obtain ⟨dE, hdE, hdT⟩ := va_Tof (N := 0) (f := fun _ => .null) (A := fun q => s.heap.size ≤ q) (by decide) (hf (.arrayOf (.static "java/util/ArrayList" "DEFAULTCAPACITY_EMPTY_ELEMENTDATA" "[Ljava/lang/Object;") (.object "java/lang/Object")) (by decide +kernel)) tl (fun j hj => absurd hj (by omega)) (fun a h q => by omega)
  have hdl : dE < s.heap.size := by
    obtain ⟨cell, g1, -⟩ := hdT
    exact (Array.getElem?_eq_some_iff.mp g1).1
  have hdZ := va_Zref (A := fun q => s.heap.size ≤ q) (hts (.laysStatic "java/util/ArrayList" "DEFAULTCAPACITY_EMPTY_ELEMENTDATA" "[Ljava/lang/Object;") (by decide +kernel)) (hts (.initialized "java/util/ArrayList") (by decide +kernel)) hdE (fun a h q => by omega)
  -- the script
  obtain ⟨M, h', cE, sE, hrun, hcE, hsE⟩ := hlaw ((List.range L).map xs) (by simpa using hL)
  have hlen : ((List.range L).map xs).length = L := by simp
  have hX2 : va_X b ((List.range L).map xs).length (fun j => ((List.range L).map xs).getD j 0) s s.heap := by
    obtain ⟨scr, g1, g2, g3, g4, g5⟩ := hX
    refine ⟨scr, g1, g2, g3, by rw [hlen]; exact g4, fun j hj => ?_⟩
    rw [hlen] at hj
    rw [g5 j hj]
    simp [hj]
  obtain ⟨mi, hmi⟩ := va_Mi.of (C := "[Ljava/lang/Object;") (hf _ (by decide +kernel))
  have hdc := va_Dc.of (hts (.declares getClassN) (by decide +kernel))
  have hKX : KX (dC, dI) (cI, cO) (s.heap.size, dE, b, mi) ((List.range L).map xs) s := by
    refine ⟨⟨hKc, ?_⟩, fun w hw => ?_, va_Nw.of rfl (hts (.castable RX2 "java/lang/Object") (by decide +kernel)), va_AO.of hover, hdZ, hdT, hX2, hdl, hbl, Nat.le_refl _, hmi, hdc⟩
    · intro k q hq
      match k, hq with
      | 0, hq => cases hq; exact ⟨fun n z => ⟨fun k h => (by cases h), kI, i2, compI, i3⟩, i1⟩
      | 1, hq => cases hq; exact ⟨fun n z => ⟨fun k h => (by cases h), kO, o2, compO, o3⟩, kO, compO, o2, o3, o1, o4⟩
      | k + 2, hq => simp [aTys] at hq
    · have h1 := hts w (NWL_in w hw)
      simp only [NWL, List.mem_cons, List.not_mem_nil, or_false] at hw
      rcases hw with rfl | rfl | rfl | rfl | rfl <;> exact va_Nw.of rfl h1
  have F : Fx p s m #[Value.ref b] meth c room_1 (dC, dI) (cI, cO) (s.heap.size, dE, b, mi) ((List.range L).map xs) 12 oL yL_law 4 code := ⟨hx, hb, hml, hown, hGW, hKX, rfl, rfl, fun q => absurd q (by decide), ok_T, by rw [hlen]; omega⟩
  rw [lg_entry_eq]
  have hl := lv_entry ([.ref b]) (n := 4) (Nat.le_of_ble_eq_true rfl)
  have e0 : cv (s.heap.size, dE, b, mi) (.long 1) = .ref b := by
    show (if (1 : Int64) = 0 then Value.ref dE else if (1 : Int64) = 1 then Value.ref b else Value.ref mi) = _
    rw [if_neg (by decide), if_pos rfl]
  have hl2 : lv_has ((lg_sl [Value.ref b] ++ List.replicate (4 - (lg_sl [Value.ref b]).length) Slot.unset).toArray) 4 (cvl (s.heap.size, dE, b, mi) [(0, .long 1)]) := by
    show lv_has _ 4 [(0, cv (s.heap.size, dE, b, mi) (.long 1))]
    rw [e0]
    exact hl
  refine run_sound F ok_law (cf := a_m MT ((List.range L).map xs) M 11) (fun mi m2 vs h res g1 g2 => ⟨11, rfl, m_sound l _ _ _ _ (by rw [hlen]; omega) ok_T M 11 mi m2 vs h res g1 g2⟩) hcE hsE ?_ M 0 [(0, .long 1)] [] [] 0 0 s.heap [] _ hrun (fun k q h => by simp [cw] at h) va_S.rf hl2 (by simp)
  intro pc' ins st' H' locs' ls' hd hrr hP' hS' hN'
  have hst : ins = .ireturn ∧ st' = [.int 1] := by
    unfold a_ret at hrr
    split at hrr
    · cases hrr
    · rename_i h0
      cases h0
    · rename_i x h0
      cases hzz : decide (x = 0 ∨ x = 1) with
      | false => rw [hzz] at hrr; cases hrr
      | true =>
        rw [hzz] at hrr
        cases hrr
        exact ⟨rfl, rfl⟩
    · cases hrr
    · cases hrr
    · cases hrr
  obtain ⟨rfl, rfl⟩ := hst
  refine va_forget (fun q hq => hS'.2.2 q hq) ?_
  refine W.widen (k := 600000) (n := 7302250) hcE hsE ?_
  exact lw_ret hx hb hr hlocks hd
