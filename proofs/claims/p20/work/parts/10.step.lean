/-! An instruction of the small machine is one of the JVM -/
abbrev cvl (B : AB) (al : AL) : List (Nat × Value) := al.map (fun q => (q.1, cv B q.2))
theorem al_get {B : AB} {ls : Array Slot} {nL : Nat} {al : AL} {i : Nat} {v : Value} (hL : lv_has ls nL (cvl B al)) (h : a_get al i = some v) : ls[i]? = some (.val (cv B v)) := by
  have hm : (i, v) ∈ al := by
    induction al with
    | nil => cases h
    | cons q r ih =>
      unfold a_get at h
      cases hb : Nat.beq q.1 i with
      | false =>
        rw [hb] at h
        exact List.mem_cons_of_mem _ (ih ⟨hL.1, hL.2.1, fun x hx => hL.2.2 x (List.mem_cons_of_mem _ hx)⟩ h)
      | true =>
        rw [hb] at h
        cases h
        have := Nat.eq_of_beq_eq_true hb
        subst this
        exact List.mem_cons_self
  exact hL.2.2 (i, cv B v) (List.mem_map.mpr ⟨(i, v), hm, rfl⟩)
theorem al_idx {B : AB} {al : AL} {i : Nat} {v : Value} (h : a_get al i = some v) : ∃ k : Nat, (cvl B al)[k]? = some (i, cv B v) := by
  induction al with
  | nil => cases h
  | cons q r ih =>
    unfold a_get at h
    cases hb : Nat.beq q.1 i with
    | false =>
      rw [hb] at h
      obtain ⟨k, hk⟩ := ih h
      exact ⟨k + 1, by simpa using hk⟩
    | true =>
      rw [hb] at h
      cases h
      have := Nat.eq_of_beq_eq_true hb
      subst this
      exact ⟨0, rfl⟩
theorem al_del {B : AB} (al : AL) (i : Nat) : (cvl B al).filter (fun q => !(q.1 == i) && !(q.1 + 1 == i && q.2.category == 2)) = cvl B (al.filter (fun q => !(Nat.beq q.1 i))) := by
  induction al with
  | nil => rfl
  | cons q r ih =>
    show List.filter _ ((q.1, cv B q.2) :: cvl B r) = _
    have hc : ((cv B q.2).category == 2) = false := by rw [cv_cat]; rfl
    have hq : (q.1 == i) = Nat.beq q.1 i := by
      rw [Bool.eq_iff_iff]
      simp
    cases hb : Nat.beq q.1 i with
    | false =>
      rw [List.filter_cons_of_pos (by simp [hq, hb, hc]), List.filter_cons_of_pos (by simp [hb]), ih]
      rfl
    | true =>
      rw [List.filter_cons_of_neg (by simp [hq, hb]), List.filter_cons_of_neg (by simp [hb]), ih]
theorem idx_in {i : Int32} {j n : Nat} (h : a_idx i = some j) (hj : j < n) : vp_in i n := by
  obtain ⟨h1, h2, -⟩ := a_idx_spec h
  intro q
  rcases q with q | q
  · exact h1 q
  · rw [h2] at q
    omega
theorem getD_of {α : Type} {l : List α} {j : Nat} {x d : α} (h : l[j]? = some x) : l.getD j d = x := by
  rw [List.getD_eq_getElem?_getD, h]
  rfl
theorem lt_of {α : Type} {l : List α} {j : Nat} {x : α} (h : l[j]? = some x) : j < l.length := (List.getElem?_eq_some_iff.mp h).1
theorem upd_set {f : List Int32} {j : Nat} {x : Int32} (h : j < f.length) : upd (fun k => f.getD k 0) j x = fun k => (f.set j x).getD k 0 := by
  funext k
  by_cases hk : k = j
  · subst hk
    simp [upd, List.getD_eq_getElem?_getD, h]
  · simp [upd, hk, List.getD_eq_getElem?_getD, List.getElem?_set, Ne.symm hk]
theorem up_set {B : AB} {f : List (Option Nat)} {j v : Nat} (h : j < f.length) : va_up (fun k => (f.getD k none).map (fun z => B.1 + z)) j (some (B.1 + v)) = fun k => ((f.set j (some v)).getD k none).map (fun z => B.1 + z) := by
  funext k
  by_cases hk : k = j
  · subst hk
    simp [va_up, List.getD_eq_getElem?_getD, h]
  · simp [va_up, hk, List.getD_eq_getElem?_getD, List.getElem?_set, Ne.symm hk]
theorem cpy_take {f g : List Int32} {sp dp n : Nat} (h1 : sp + n ≤ f.length) (h2 : dp + n ≤ g.length) : va_cpy (fun k => f.getD k 0) (fun k => g.getD k 0) sp dp n = fun k => (g.take dp ++ ((f.drop sp).take n ++ g.drop (dp + n))).getD k 0 := by
  funext k
  have hl1 : (g.take dp).length = dp := by simp; omega
  have hl2 : ((f.drop sp).take n).length = n := by simp; omega
  simp only [va_cpy, List.getD_eq_getElem?_getD]
  by_cases hk : k < dp
  · rw [if_neg (by omega), List.getElem?_append_left (by rw [hl1]; exact hk), List.getElem?_take, if_pos hk]
  · rw [List.getElem?_append_right (by rw [hl1]; omega), hl1]
    by_cases hk2 : k < dp + n
    · rw [if_pos ⟨by omega, hk2⟩, List.getElem?_append_left (by rw [hl2]; omega), List.getElem?_take, if_pos (by omega), List.getElem?_drop]
    · rw [if_neg (by omega), List.getElem?_append_right (by rw [hl2]; omega), hl2, List.getElem?_drop]
      congr 2
      omega
theorem cpy_len {f g : List Int32} {sp dp n : Nat} (h1 : sp + n ≤ f.length) (h2 : dp + n ≤ g.length) : (g.take dp ++ ((f.drop sp).take n ++ g.drop (dp + n))).length = g.length := by
  simp
  omega
theorem cpy_lenQ {f g : List (Option Nat)} {sp dp n : Nat} (h1 : sp + n ≤ f.length) (h2 : dp + n ≤ g.length) : (g.take dp ++ ((f.drop sp).take n ++ g.drop (dp + n))).length = g.length := by
  simp
  omega
theorem cpy_takeQ {f g : List (Option Nat)} {sp dp n b : Nat} (h1 : sp + n ≤ f.length) (h2 : dp + n ≤ g.length) : va_cpy (fun k => (f.getD k none).map (fun z => b + z)) (fun k => (g.getD k none).map (fun z => b + z)) sp dp n = fun k => ((g.take dp ++ ((f.drop sp).take n ++ g.drop (dp + n))).getD k none).map (fun z => b + z) := by
  funext k
  have hl1 : (g.take dp).length = dp := by simp; omega
  have hl2 : ((f.drop sp).take n).length = n := by simp; omega
  simp only [va_cpy, List.getD_eq_getElem?_getD]
  by_cases hk : k < dp
  · rw [if_neg (by omega), List.getElem?_append_left (by rw [hl1]; exact hk), List.getElem?_take, if_pos hk]
  · rw [List.getElem?_append_right (by rw [hl1]; omega), hl1]
    by_cases hk2 : k < dp + n
    · rw [if_pos ⟨by omega, hk2⟩, List.getElem?_append_left (by rw [hl2]; omega), List.getElem?_take, if_pos (by omega), List.getElem?_drop]
    · rw [if_neg (by omega), List.getElem?_append_right (by rw [hl2]; omega), hl2, List.getElem?_drop]
      congr 3
      omega
theorem rule_cell {s : State} {H : Heap} {D : va_G} {I : ClassId × ClassId} {B : AB} {h : AH} {f : List (Option Nat)} {k v y : Nat} (hK : va_K D vwCl (aTys I) s) (hP : va_P D vwCl (cw I B h) H) (hall : f.all (a_rule h) = true) (hg : f.getD k none = some v) (hy : (f.getD k none).map (fun z => B.1 + z) = some y) : ∃ cell : Cell, H[y]? = some cell ∧ cell.vm.isStatics = false ∧ s.vm.findClass RX2 = some cell.cls := by
  rw [hg] at hy
  cases hy
  have hm : some v ∈ f := by
    rw [List.getD_eq_getElem?_getD] at hg
    cases hf : f[k]? with
    | none => rw [hf] at hg; cases hg
    | some o =>
      rw [hf] at hg
      have hg : o = some v := hg
      subst hg
      exact List.mem_of_getElem? hf
  have h1 := List.all_eq_true.mp hall _ hm
  unfold a_rule at h1
  simp only [a_at_eq] at h1
  split at h1
  · rename_i ci fs hc
    have := Nat.eq_of_beq_eq_true h1
    subst this
    exact va_recv (q := (RX2, TX2, 10)) hK hP rfl (cw_get hc)
  · cases h1
theorem cat_sum (B : AB) (st : List Value) : ((st.map (cv B)).map fun v => v.category).sum = st.length := by
  induction st with
  | nil => rfl
  | cons v r ih =>
    simp only [List.map_cons, List.sum_cons, cv_cat, ih, List.length_cons]
    omega
theorem acmp_spec {B : AB} {v w : Value} {t : Bool} (hB : B.2.1 < B.1) (h : a_acmp v w = some t) : ∃ rx ry : Nat, cv B v = .ref rx ∧ cv B w = .ref ry ∧ (t = true ↔ rx = ry) := by
  unfold a_acmp at h
  split at h
  · cases h
    exact ⟨_, _, rfl, rfl, by simp⟩
  · split at h
    · rename_i hz
      cases h
      subst hz
      refine ⟨_, B.2.1, rfl, rfl, ?_⟩
      simp
      omega
    · cases h
  · split at h
    · rename_i hz
      cases h
      subst hz
      refine ⟨B.2.1, _, rfl, rfl, ?_⟩
      simp
      omega
    · cases h
  · split at h
    · rename_i hz
      cases h
      obtain ⟨h1, h2⟩ := hz
      subst h1
      subst h2
      exact ⟨B.2.1, B.2.1, rfl, rfl, by simp⟩
    · split at h
      · rename_i hz
        cases h
        obtain ⟨h1, h2⟩ := hz
        subst h1
        subst h2
        exact ⟨B.2.2.2, B.2.2.2, rfl, rfl, by simp⟩
      · cases h
  · cases h
section AS
variable {p : Program} {l : Launch} {e : Env} {R : Room} {s : State} {m : MethodId} {args : Array Value} {below : List Frame} {meth : Method} {c : Code} {Q : State → Prop}
/-- what stands fast while a method runs -/
def Fx (p : Program) (s : State) (m : MethodId) (args : Array Value) (meth : Method) (c : Code) (R : Room) (D : va_G) (I : ClassId × ClassId) (B : AB) (xs : List Int32) (d o : Nat) (y : MethodName) (maxL : Nat) (cc : ByteArray) : Prop :=
  p.tables.exec = Jvm.exec ∧ c.code = cc ∧ c.maxLocals = maxL ∧ s.vm.findClass (ON o) = some m.cls ∧ (∀ w ∈ GW, w.before args s = true) ∧ KX D I B xs s ∧ R.frames = d ∧ R.locals = 38 * d + 22 ∧ (y.name = "<init>" → meth.name = "<init>") ∧ okT ∧ xs.length < 2 ^ 31
set_option maxHeartbeats 8000000 in
set_option maxRecDepth 100000 in
theorem step_sound {D : va_G} {I : ClassId × ClassId} {B : AB} {xs : List Int32} {d o : Nat} {y : MethodName} {maxL : Nat} {cc : ByteArray} (F : Fx p s m args meth c R D I B xs d o y maxL cc)
    {r : ARow} (hok : okR o y maxL cc r = true) {al al' : AL} {st st' : List Value} {h h' : AH} {pc' dc ds c0 s0 : Nat} (hst : a_step d xs r al st h = some (pc', al', st', h', dc, ds))
    {H : Heap} {locs : List Loc} {ls : Array Slot} (hP : va_P D vwCl (cw I B h) H) (hS : va_S (AA B) s.heap H locs) (hL : lv_has ls maxL (cvl B al)) (hN : s.heap.size + c0 = B.1 + h.length) (hc : c0 + dc ≤ R.cells) (hs : s0 + ds ≤ R.slots)
    (K : ∀ (H' : Heap) (locs' : List Loc) (ls' : Array Slot), va_P D vwCl (cw I B h') H' → va_S (AA B) s.heap H' locs' → lv_has ls' maxL (cvl B al') → s.heap.size + (c0 + dc) = B.1 + h'.length → W p l e R s m args below meth c H' locs' (c0 + dc) (s0 + ds) Q (F0 m pc' ls' (st'.map (cv B)))) :
    W p l e R s m args below meth c H locs c0 s0 Q (F0 m r.1 ls (st.map (cv B))) := by
  obtain ⟨hx, hb, hml, hown, hts, hKX, hRf, hRl, hinit, hT, hxs⟩ := F
  obtain ⟨tF, tN, tC, tK, tO, tP, tS, tA, tL, tM, tX, tY, tD, tG⟩ := hT
  have hK := hKX.1
  have hD : va_D (AA B) (cw I B h) := cw_D
  have hA : ∀ q : Nat, s.heap.size ≤ q → AA B q := fun q hq => Nat.le_trans hKX.2.2.2.2.2.2.2.2.2.1 hq
  obtain ⟨pc, ins, len, a, b⟩ := r
  obtain ⟨hd, hl, hi⟩ := okR_spec hok
  dsimp only at hd hl hi ⊢
  cases ins
  case iconst k =>
    have hl : len = 1 := hl
    subst hl
    simp only [a_step, fI_eq, Option.some.injEq, Prod.mk.injEq] at hst
    obtain ⟨rfl, rfl, rfl, rfl, rfl, rfl⟩ := hst
    exact lv_iconst hx hb hd rfl (K H locs ls hP hS hL hN)
  case bipush k =>
    have hl : len = 2 := hl
    subst hl
    simp only [a_step, fI_eq, Option.some.injEq, Prod.mk.injEq] at hst
    obtain ⟨rfl, rfl, rfl, rfl, rfl, rfl⟩ := hst
    exact lv_bipush hx hb hd rfl (K H locs ls hP hS hL hN)
  case sipush k =>
    have hl : len = 3 := hl
    subst hl
    simp only [a_step, fI_eq, Option.some.injEq, Prod.mk.injEq] at hst
    obtain ⟨rfl, rfl, rfl, rfl, rfl, rfl⟩ := hst
    exact lv_sipush hx hb hd rfl (K H locs ls hP hS hL hN)
  case ldc k =>
    have hl : len = 2 := hl
    subst hl
    cases hb5 : Nat.beq b 5 with
    | false =>
      simp only [a_step, hb5, cond_false, Option.some.injEq, Prod.mk.injEq] at hst
      obtain ⟨rfl, rfl, rfl, rfl, rfl, rfl⟩ := hst
      simp only [okI, hb5, cond_false] at hi
      exact lv_ldc hx hb hown (hts _ (inW_spec (tK _ (of_decide_eq_true hi)))) hd (K H locs ls hP hS hL hN)
    | true =>
      simp only [a_step, hb5, cond_true, Option.some.injEq, Prod.mk.injEq] at hst
      obtain ⟨rfl, rfl, rfl, rfl, rfl, rfl⟩ := hst
      simp only [okI, hb5, cond_true] at hi
      exact va_ldcM hx hb hown (hts _ (inW_spec (tD _ (of_decide_eq_true hi)))) hKX.2.2.2.2.2.2.2.2.2.2.1 hd (K H locs ls hP hS hL hN)
  case ldc_w k =>
    have hl : len = 3 := hl
    subst hl
    simp only [a_step, fI_eq, Option.some.injEq, Prod.mk.injEq] at hst
    obtain ⟨rfl, rfl, rfl, rfl, rfl, rfl⟩ := hst
    exact lv_ldcw hx hb hown (hts _ (inW_spec (tK _ (of_decide_eq_true hi)))) hd (K H locs ls hP hS hL hN)
  case aconst_null =>
    have hl : len = 1 := hl
    subst hl
    simp only [a_step, Option.some.injEq, Prod.mk.injEq] at hst
    obtain ⟨rfl, rfl, rfl, rfl, rfl, rfl⟩ := hst
    exact lv_null hx hb hd (K H locs ls hP hS hL hN)
  case iload_n k =>
    have hl : len = 1 := hl
    subst hl
    simp only [a_step] at hst
    split at hst
    · rename_i x hg
      simp only [Option.some.injEq, Prod.mk.injEq] at hst
      obtain ⟨rfl, rfl, rfl, rfl, rfl, rfl⟩ := hst
      exact lv_iload_n hx hb hd rfl (al_get hL hg) (K H locs ls hP hS hL hN)
    · cases hst
  case iload k =>
    have hl : len = 2 := hl
    subst hl
    simp only [a_step] at hst
    split at hst
    · rename_i x hg
      simp only [Option.some.injEq, Prod.mk.injEq] at hst
      obtain ⟨rfl, rfl, rfl, rfl, rfl, rfl⟩ := hst
      exact lv_iload hx hb hd (al_get hL hg) (K H locs ls hP hS hL hN)
    · cases hst
  case aload_n k =>
    have hl : len = 1 := hl
    subst hl
    simp only [a_step] at hst
    split at hst
    · rename_i x hg
      simp only [Option.some.injEq, Prod.mk.injEq] at hst
      obtain ⟨rfl, rfl, rfl, rfl, rfl, rfl⟩ := hst
      exact lv_aload_n hx hb hd rfl (al_get hL hg) (K H locs ls hP hS hL hN)
    · rename_i z hg
      simp only [Option.some.injEq, Prod.mk.injEq] at hst
      obtain ⟨rfl, rfl, rfl, rfl, rfl, rfl⟩ := hst
      obtain ⟨q, hq⟩ : ∃ q : Nat, cv B (.long z) = .ref q := by
        simp only [cv]
        split <;> (try split) <;> exact ⟨_, rfl⟩
      have h1 := al_get hL hg
      have K1 := K H locs ls hP hS hL hN
      rw [List.map_cons, hq] at K1
      rw [hq] at h1
      exact lv_aload_n hx hb hd rfl h1 K1
    · cases hst
  case aload k =>
    have hl : len = 2 := hl
    subst hl
    simp only [a_step] at hst
    split at hst
    · rename_i x hg
      simp only [Option.some.injEq, Prod.mk.injEq] at hst
      obtain ⟨rfl, rfl, rfl, rfl, rfl, rfl⟩ := hst
      exact lv_aload hx hb hd (al_get hL hg) (K H locs ls hP hS hL hN)
    · rename_i z hg
      simp only [Option.some.injEq, Prod.mk.injEq] at hst
      obtain ⟨rfl, rfl, rfl, rfl, rfl, rfl⟩ := hst
      obtain ⟨q, hq⟩ : ∃ q : Nat, cv B (.long z) = .ref q := by
        simp only [cv]
        split <;> (try split) <;> exact ⟨_, rfl⟩
      have h1 := al_get hL hg
      have K1 := K H locs ls hP hS hL hN
      rw [List.map_cons, hq] at K1
      rw [hq] at h1
      exact lv_aload hx hb hd h1 K1
    · cases hst
  case istore_n k =>
    have hl : len = 1 := hl
    subst hl
    simp only [a_step] at hst
    split at hst
    · simp only [a_del_eq, Option.some.injEq, Prod.mk.injEq] at hst
      obtain ⟨rfl, rfl, rfl, rfl, rfl, rfl⟩ := hst
      exact lv_istore_n hx hb hd rfl hL (by simpa [okI] using hi) (by rw [al_del]; rfl) (fun ls' hL' => K H locs ls' hP hS hL' hN)
    · cases hst
  case istore k =>
    have hl : len = 2 := hl
    subst hl
    simp only [a_step] at hst
    split at hst
    · simp only [a_del_eq, Option.some.injEq, Prod.mk.injEq] at hst
      obtain ⟨rfl, rfl, rfl, rfl, rfl, rfl⟩ := hst
      exact lv_istore hx hb hd hL (by simpa [okI] using hi) (by rw [al_del]; rfl) (fun ls' hL' => K H locs ls' hP hS hL' hN)
    · cases hst
  case astore_n k =>
    have hl : len = 1 := hl
    subst hl
    simp only [a_step] at hst
    split at hst
    · simp only [a_del_eq, Option.some.injEq, Prod.mk.injEq] at hst
      obtain ⟨rfl, rfl, rfl, rfl, rfl, rfl⟩ := hst
      exact lv_astore_n hx hb hd rfl hL (by simpa [okI] using hi) (by rw [al_del]; rfl) (fun ls' hL' => K H locs ls' hP hS hL' hN)
    · cases hst
  case astore k =>
    have hl : len = 2 := hl
    subst hl
    simp only [a_step] at hst
    split at hst
    · simp only [a_del_eq, Option.some.injEq, Prod.mk.injEq] at hst
      obtain ⟨rfl, rfl, rfl, rfl, rfl, rfl⟩ := hst
      exact lv_astore hx hb hd hL (by simpa [okI] using hi) (by rw [al_del]; rfl) (fun ls' hL' => K H locs ls' hP hS hL' hN)
    · cases hst
  case iinc k n =>
    have hl : len = 3 := hl
    subst hl
    simp only [a_step] at hst
    split at hst
    · rename_i x hg
      simp only [fI_eq, a_del_eq, Option.some.injEq, Prod.mk.injEq] at hst
      obtain ⟨rfl, rfl, rfl, rfl, rfl, rfl⟩ := hst
      obtain ⟨k2, hk2⟩ := al_idx (B := B) hg
      exact lv_iinc hx hb hd hL hk2 rfl (by simpa [okI] using hi) (by rw [al_del]; rfl) (fun ls' hL' => K H locs ls' hP hS hL' hN)
    · cases hst
  case iadd =>
    have hl : len = 1 := hl
    subst hl
    simp only [a_step] at hst
    split at hst
    · simp only [fI_eq, Option.some.injEq, Prod.mk.injEq] at hst
      obtain ⟨rfl, rfl, rfl, rfl, rfl, rfl⟩ := hst
      exact lv_iadd hx hb hd (K H locs ls hP hS hL hN)
    · cases hst
  case isub =>
    have hl : len = 1 := hl
    subst hl
    simp only [a_step] at hst
    split at hst
    · simp only [fI_eq, Option.some.injEq, Prod.mk.injEq] at hst
      obtain ⟨rfl, rfl, rfl, rfl, rfl, rfl⟩ := hst
      exact lv_isub hx hb hd (K H locs ls hP hS hL hN)
    · cases hst
  case imul =>
    have hl : len = 1 := hl
    subst hl
    simp only [a_step] at hst
    split at hst
    · simp only [fI_eq, Option.some.injEq, Prod.mk.injEq] at hst
      obtain ⟨rfl, rfl, rfl, rfl, rfl, rfl⟩ := hst
      exact lv_imul hx hb hd (K H locs ls hP hS hL hN)
    · cases hst
  case iand =>
    have hl : len = 1 := hl
    subst hl
    simp only [a_step] at hst
    split at hst
    · simp only [fI_eq, Option.some.injEq, Prod.mk.injEq] at hst
      obtain ⟨rfl, rfl, rfl, rfl, rfl, rfl⟩ := hst
      exact lv_iand hx hb hd (K H locs ls hP hS hL hN)
    · cases hst
  case ior =>
    have hl : len = 1 := hl
    subst hl
    simp only [a_step] at hst
    split at hst
    · simp only [fI_eq, Option.some.injEq, Prod.mk.injEq] at hst
      obtain ⟨rfl, rfl, rfl, rfl, rfl, rfl⟩ := hst
      exact lv_ior hx hb hd (K H locs ls hP hS hL hN)
    · cases hst
  case ixor =>
    have hl : len = 1 := hl
    subst hl
    simp only [a_step] at hst
    split at hst
    · simp only [fI_eq, Option.some.injEq, Prod.mk.injEq] at hst
      obtain ⟨rfl, rfl, rfl, rfl, rfl, rfl⟩ := hst
      exact lv_ixor hx hb hd (K H locs ls hP hS hL hN)
    · cases hst
  case ishl =>
    have hl : len = 1 := hl
    subst hl
    simp only [a_step] at hst
    split at hst
    · simp only [fI_eq, Option.some.injEq, Prod.mk.injEq] at hst
      obtain ⟨rfl, rfl, rfl, rfl, rfl, rfl⟩ := hst
      exact lv_ishl hx hb hd (K H locs ls hP hS hL hN)
    · cases hst
  case ishr =>
    have hl : len = 1 := hl
    subst hl
    simp only [a_step] at hst
    split at hst
    · simp only [fI_eq, Option.some.injEq, Prod.mk.injEq] at hst
      obtain ⟨rfl, rfl, rfl, rfl, rfl, rfl⟩ := hst
      exact lv_ishr hx hb hd (K H locs ls hP hS hL hN)
    · cases hst
  case iushr =>
    have hl : len = 1 := hl
    subst hl
    simp only [a_step] at hst
    split at hst
    · simp only [fI_eq, Option.some.injEq, Prod.mk.injEq] at hst
      obtain ⟨rfl, rfl, rfl, rfl, rfl, rfl⟩ := hst
      exact lv_iushr hx hb hd rfl (K H locs ls hP hS hL hN)
    · cases hst
  case idiv =>
    have hl : len = 1 := hl
    subst hl
    simp only [a_step] at hst
    split at hst
    · rename_i y x st
      cases hz : Nat.beq y.toBitVec.toNat 0 with
      | true => rw [hz] at hst; cases hst
      | false =>
        rw [hz] at hst
        simp only [cond_false, fI_eq, Option.some.injEq, Prod.mk.injEq] at hst
        obtain ⟨rfl, rfl, rfl, rfl, rfl, rfl⟩ := hst
        have hne : ¬ y = 0 := by
          intro q
          subst q
          cases hz
        exact lv_idiv hx hb hd hne (K H locs ls hP hS hL hN)
    · cases hst
  case irem =>
    have hl : len = 1 := hl
    subst hl
    simp only [a_step] at hst
    split at hst
    · rename_i y x st
      cases hz : Nat.beq y.toBitVec.toNat 0 with
      | true => rw [hz] at hst; cases hst
      | false =>
        rw [hz] at hst
        simp only [cond_false, fI_eq, Option.some.injEq, Prod.mk.injEq] at hst
        obtain ⟨rfl, rfl, rfl, rfl, rfl, rfl⟩ := hst
        have hne : ¬ y = 0 := by
          intro q
          subst q
          cases hz
        exact lv_irem hx hb hd hne (K H locs ls hP hS hL hN)
    · cases hst
  case goto f =>
    have hl : len = 3 := hl
    subst hl
    simp only [a_step, Option.some.injEq, Prod.mk.injEq] at hst
    obtain ⟨rfl, rfl, rfl, rfl, rfl, rfl⟩ := hst
    exact lv_goto hx hb hd (of_decide_eq_true hi) (K H locs ls hP hS hL hN)
  case ifCond cd f =>
    have hl : len = 3 := hl
    subst hl
    have ht := of_decide_eq_true hi
    simp only [a_step] at hst
    split at hst
    · rename_i x st
      have key : ∀ (P : Prop), (a_icmp cd x 0 = true ↔ P) → (P → W p l e R s m args below meth c H locs c0 s0 Q (F0 m a ls (st.map (cv B)))) ∧ (¬ P → W p l e R s m args below meth c H locs c0 s0 Q (F0 m (pc + 3) ls (st.map (cv B)))) := by
        intro P hPP
        refine ⟨fun hp => ?_, fun hp => ?_⟩
        · rw [hPP.mpr hp] at hst
          simp only [cond_true, Option.some.injEq, Prod.mk.injEq] at hst
          obtain ⟨rfl, rfl, rfl, rfl, rfl, rfl⟩ := hst
          exact K H locs ls hP hS hL hN
        · rw [Bool.eq_false_iff.mpr (fun q => hp (hPP.mp q))] at hst
          simp only [cond_false, Option.some.injEq, Prod.mk.injEq] at hst
          obtain ⟨rfl, rfl, rfl, rfl, rfl, rfl⟩ := hst
          exact K H locs ls hP hS hL hN
      cases cd
      · have k1 := key (x = 0) (Eq.to_iff (congrArg (· = true) (a_key_eq x 0)) |>.trans decide_eq_true_iff)
        exact lv_if_eq hx hb hd ht k1.1 k1.2
      · have k1 := key (¬ x = 0) (by
          show (!(Nat.beq x.toBitVec.toNat (0 : Int32).toBitVec.toNat)) = true ↔ _
          rw [a_key_eq]
          simp)
        exact lv_if_ne hx hb hd ht k1.1 (fun q => k1.2 (fun z => z q))
      · have k1 := key (x < 0) (Eq.to_iff (congrArg (· = true) (a_key_lt x 0)) |>.trans decide_eq_true_iff)
        exact lv_if_lt hx hb hd ht k1.1 k1.2
      · have k1 := key (0 ≤ x) (Eq.to_iff (congrArg (· = true) (a_key_le 0 x)) |>.trans decide_eq_true_iff)
        exact lv_if_ge hx hb hd ht k1.1 k1.2
      · have k1 := key (0 < x) (Eq.to_iff (congrArg (· = true) (a_key_lt 0 x)) |>.trans decide_eq_true_iff)
        exact lv_if_gt hx hb hd ht k1.1 k1.2
      · have k1 := key (x ≤ 0) (Eq.to_iff (congrArg (· = true) (a_key_le x 0)) |>.trans decide_eq_true_iff)
        exact lv_if_le hx hb hd ht k1.1 k1.2
    · cases hst
  case if_icmp cd f =>
    have hl : len = 3 := hl
    subst hl
    have ht := of_decide_eq_true hi
    simp only [a_step] at hst
    split at hst
    · rename_i y x st
      have key : ∀ (P : Prop), (a_icmp cd x y = true ↔ P) → (P → W p l e R s m args below meth c H locs c0 s0 Q (F0 m a ls (st.map (cv B)))) ∧ (¬ P → W p l e R s m args below meth c H locs c0 s0 Q (F0 m (pc + 3) ls (st.map (cv B)))) := by
        intro P hPP
        refine ⟨fun hp => ?_, fun hp => ?_⟩
        · rw [hPP.mpr hp] at hst
          simp only [cond_true, Option.some.injEq, Prod.mk.injEq] at hst
          obtain ⟨rfl, rfl, rfl, rfl, rfl, rfl⟩ := hst
          exact K H locs ls hP hS hL hN
        · rw [Bool.eq_false_iff.mpr (fun q => hp (hPP.mp q))] at hst
          simp only [cond_false, Option.some.injEq, Prod.mk.injEq] at hst
          obtain ⟨rfl, rfl, rfl, rfl, rfl, rfl⟩ := hst
          exact K H locs ls hP hS hL hN
      cases cd
      · have k1 := key (x = y) (Eq.to_iff (congrArg (· = true) (a_key_eq x y)) |>.trans decide_eq_true_iff)
        exact lv_icmp_eq hx hb hd ht k1.1 k1.2
      · have k1 := key (¬ x = y) (by
          show (!(Nat.beq x.toBitVec.toNat (y : Int32).toBitVec.toNat)) = true ↔ _
          rw [a_key_eq]
          simp)
        exact lv_icmp_ne hx hb hd ht k1.1 (fun q => k1.2 (fun z => z q))
      · have k1 := key (x < y) (Eq.to_iff (congrArg (· = true) (a_key_lt x y)) |>.trans decide_eq_true_iff)
        exact lv_icmp_lt hx hb hd ht k1.1 k1.2
      · have k1 := key (y ≤ x) (Eq.to_iff (congrArg (· = true) (a_key_le y x)) |>.trans decide_eq_true_iff)
        exact lv_icmp_ge hx hb hd ht k1.1 k1.2
      · have k1 := key (y < x) (Eq.to_iff (congrArg (· = true) (a_key_lt y x)) |>.trans decide_eq_true_iff)
        exact lv_icmp_gt hx hb hd ht k1.1 k1.2
      · have k1 := key (x ≤ y) (Eq.to_iff (congrArg (· = true) (a_key_le x y)) |>.trans decide_eq_true_iff)
        exact lv_icmp_le hx hb hd ht k1.1 k1.2
    · cases hst
  case if_acmp cd f =>
    have hl : len = 3 := hl
    subst hl
    have ht := of_decide_eq_true hi
    cases cd
    · simp only [a_step] at hst
      split at hst
      · rename_i w v st
        split at hst
        · rename_i t hac
          obtain ⟨rx, ry, e1, e2, e3⟩ := acmp_spec (B := B) hKX.2.2.2.2.2.2.2.1 hac
          show W p l e R s m args below meth c H locs c0 s0 Q (F0 m pc ls (cv B w :: cv B v :: st.map (cv B)))
          rw [e1, e2]
          refine lv_acmp_eq (rx := some rx) (ry := some ry) hx hb hd ht (fun q => ?_) (fun q => ?_)
          · have ht1 : t = true := e3.mpr (Option.some.inj q)
            subst ht1
            simp only [cond_true, Option.some.injEq, Prod.mk.injEq] at hst
            obtain ⟨rfl, rfl, rfl, rfl, rfl, rfl⟩ := hst
            exact K H locs ls hP hS hL hN
          · have ht1 : t = false := Bool.eq_false_iff.mpr (fun z => q (congrArg some (e3.mp z)))
            subst ht1
            simp only [cond_false, Option.some.injEq, Prod.mk.injEq] at hst
            obtain ⟨rfl, rfl, rfl, rfl, rfl, rfl⟩ := hst
            exact K H locs ls hP hS hL hN
        · cases hst
      · cases hst
    · simp only [a_step] at hst
      split at hst
      · rename_i w v st
        split at hst
        · rename_i t hac
          obtain ⟨rx, ry, e1, e2, e3⟩ := acmp_spec (B := B) hKX.2.2.2.2.2.2.2.1 hac
          show W p l e R s m args below meth c H locs c0 s0 Q (F0 m pc ls (cv B w :: cv B v :: st.map (cv B)))
          rw [e1, e2]
          refine lv_acmp_ne (rx := some rx) (ry := some ry) hx hb hd ht (fun q => ?_) (fun q => ?_)
          · have ht1 : t = false := Bool.eq_false_iff.mpr (fun z => q (congrArg some (e3.mp z)))
            subst ht1
            simp only [cond_false, Option.some.injEq, Prod.mk.injEq] at hst
            obtain ⟨rfl, rfl, rfl, rfl, rfl, rfl⟩ := hst
            exact K H locs ls hP hS hL hN
          · have ht1 : t = true := e3.mpr (Option.some.inj q)
            subst ht1
            simp only [cond_true, Option.some.injEq, Prod.mk.injEq] at hst
            obtain ⟨rfl, rfl, rfl, rfl, rfl, rfl⟩ := hst
            exact K H locs ls hP hS hL hN
        · cases hst
      · cases hst
  case tableswitch df lo hi2 offs =>
    simp only [a_step] at hst
    split at hst
    · rename_i x st
      cases hz : (decide (x.toInt < lo) || decide (hi2 < x.toInt)) with
      | true =>
        rw [hz] at hst
        simp only [cond_true] at hst
        cases hz2 : decide (0 ≤ (pc : Int) + df) with
        | false => rw [hz2] at hst; cases hst
        | true =>
          rw [hz2] at hst
          simp only [cond_true, fN_eq, Option.some.injEq, Prod.mk.injEq] at hst
          obtain ⟨rfl, rfl, rfl, rfl, rfl, rfl⟩ := hst
          have h2 := of_decide_eq_true hz2
          refine lv_tableOut hx hb hd ?_ (by omega) (K H locs ls hP hS hL hN)
          simpa using hz
      | false =>
        rw [hz] at hst
        simp only [cond_false] at hst
        split at hst
        · rename_i of hof
          cases hz2 : decide (0 ≤ (pc : Int) + of) with
          | false => rw [hz2] at hst; cases hst
          | true =>
            rw [hz2] at hst
            simp only [cond_true, fN_eq, Option.some.injEq, Prod.mk.injEq] at hst
            obtain ⟨rfl, rfl, rfl, rfl, rfl, rfl⟩ := hst
            have h2 := of_decide_eq_true hz2
            simp only [Bool.or_eq_false_iff, decide_eq_false_iff_not] at hz
            exact lv_tableIn hx hb hd hz.1 hz.2 hof (by omega) (K H locs ls hP hS hL hN)
        · cases hst
    · cases hst
  case dup =>
    have hl : len = 1 := hl
    subst hl
    simp only [a_step] at hst
    split at hst
    · simp only [Option.some.injEq, Prod.mk.injEq] at hst
      obtain ⟨rfl, rfl, rfl, rfl, rfl, rfl⟩ := hst
      exact lv_dup hx hb hd (cv_cat B _) (K H locs ls hP hS hL hN)
    · cases hst
  case pop =>
    have hl : len = 1 := hl
    subst hl
    simp only [a_step] at hst
    split at hst
    · simp only [Option.some.injEq, Prod.mk.injEq] at hst
      obtain ⟨rfl, rfl, rfl, rfl, rfl, rfl⟩ := hst
      exact lv_pop hx hb hd (cv_cat B _) (K H locs ls hP hS hL hN)
    · cases hst
  case dup2 =>
    have hl : len = 1 := hl
    subst hl
    simp only [a_step] at hst
    split at hst
    · simp only [Option.some.injEq, Prod.mk.injEq] at hst
      obtain ⟨rfl, rfl, rfl, rfl, rfl, rfl⟩ := hst
      exact lv_dup2_11 hx hb hd (cv_cat B _) (cv_cat B _) (K H locs ls hP hS hL hN)
    · cases hst
  case dup_x1 =>
    have hl : len = 1 := hl
    subst hl
    simp only [a_step] at hst
    split at hst
    · simp only [Option.some.injEq, Prod.mk.injEq] at hst
      obtain ⟨rfl, rfl, rfl, rfl, rfl, rfl⟩ := hst
      exact lv_dup_x1 hx hb hd (cv_cat B _) (cv_cat B _) (K H locs ls hP hS hL hN)
    · cases hst
  case getfield k =>
    have hl : len = 3 := hl
    subst hl
    obtain ⟨⟨C, T, N⟩, hq, hk, ref, hlink, hsame⟩ := (tF _ (of_decide_eq_true hi))
    dsimp only at hq hk hlink hsame
    simp only [a_step] at hst
    split at hst
    · rename_i q st
      split at hst
      · rename_i ci fs hh
        rw [a_at_eq] at hh
        cases hca : Nat.beq ci a with
        | false => rw [hca] at hst; cases hst
        | true =>
          rw [hca] at hst
          have hca := Nat.eq_of_beq_eq_true hca
          subst hca
          simp only [cond_true] at hst
          split at hst
          · rename_i v hv
            rw [a_at_eq] at hv
            simp only [Option.some.injEq, Prod.mk.injEq] at hst
            obtain ⟨rfl, rfl, rfl, rfl, rfl, rfl⟩ := hst
            refine va_get (v := cv B v) hx hb hts (cls_ws ci _ hq) hown hK hP q (cw_get hh) hq b hk (hts _ hlink) ?_ ?_ hd (K H locs ls hP hS hL hN)
            · intro x hx2
              rcases hsame with rfl | hsm
              · exact hx2
              · exact u_same (hts _ hsm) x hx2
            · show (fs.map (cv B))[b]? = _
              rw [List.getElem?_map, hv]
              rfl
          · cases hst
      · cases hst
    · cases hst
  case putfield k =>
    have hl : len = 3 := hl
    subst hl
    simp only [okI, Bool.and_eq_true] at hi
    obtain ⟨⟨C, T, N⟩, hq, hk, ref, hlink, hsame⟩ := (tF _ (of_decide_eq_true hi.1))
    dsimp only at hq hk hlink hsame
    have hfin := hi.2
    simp only [hq] at hfin
    simp only [a_step] at hst
    split at hst
    · rename_i v q st
      split at hst
      · rename_i ci fs hh
        rw [a_at_eq] at hh
        cases hca : (Nat.beq ci a && a_fok (a_ty a b) v) with
        | false => rw [hca] at hst; cases hst
        | true =>
          rw [hca] at hst
          simp only [Bool.and_eq_true] at hca
          have hce := Nat.eq_of_beq_eq_true hca.1
          subst hce
          simp only [cond_true, a_set_eq] at hst
          split at hst
          · rename_i hlt
            split at hst
            · simp only [Option.some.injEq, Prod.mk.injEq] at hst
              obtain ⟨rfl, rfl, rfl, rfl, rfl, rfl⟩ := hst
              obtain ⟨f1, f2⟩ := fok_spec B hca.2
              obtain ⟨t1, t2⟩ := cls_ty ci _ hq
              have hsm : ∀ x, s.fieldFound? (T b).1 (T b).2.1 (T b).2.2.1 = some x → s.fieldFound? ref (T b).2.1 (T b).2.2.1 = some x := by
                intro x hx2
                rcases hsame with rfl | hsm
                · exact hx2
                · exact u_same (hts _ hsm) x hx2
              have hlen : b < (fs.map (cv B)).length := by simpa using hlt
              have ew : cw I B (h.set q (.inr (.inr (ci, fs.set b v)))) = (cw I B h).set q (B.1 + q, .inr (ci, (fs.map (cv B)).set b (cv B v))) := by
                rw [cw_set]
                simp [ce, List.map_set]
              have hNl : s.heap.size + (c0 + 0) = B.1 + (h.set q (.inr (.inr (ci, fs.set b v)))).length := by
                rw [List.length_set]
                exact hN
              cases hf : (T b).2.2.2 with
              | false =>
                refine va_put (v := cv B v) (ty := a_ty ci b) hx hb hts (cls_ws ci _ hq) (a_ty ci) t1 t2 hown hK hP hD hS q (cw_get hh) hq b hk (hts _ hlink) hsm hf (t1 b hk) f1 f2 hlen hd (fun H1 locs1 hP1 hD1 hS1 => ?_)
                exact K H1 locs1 ls (by rw [ew]; exact hP1) hS1 hL hNl
              | true =>
                rw [hf] at hfin
                simp only [Bool.not_true, Bool.false_or, Bool.and_eq_true, decide_eq_true_eq] at hfin
                refine va_putF (v := cv B v) (ty := a_ty ci b) hx hb hts (cls_ws ci _ hq) (a_ty ci) t1 t2 hown hK hP hD hS q (cw_get hh) hq b hk (hts _ hlink) hsm hf (hinit hfin.1) hfin.2 (t1 b hk) f1 f2 hlen hd (fun H1 locs1 hP1 hD1 hS1 => ?_)
                exact K H1 locs1 ls (by rw [ew]; exact hP1) hS1 hL hNl
            · cases hst
          · cases hst
      · cases hst
    · cases hst
  case getstatic k =>
    have hl : len = 3 := hl
    subst hl
    simp only [a_step, Option.some.injEq, Prod.mk.injEq] at hst
    obtain ⟨rfl, rfl, rfl, rfl, rfl, rfl⟩ := hst
    exact va_gets hx hb hKX.2.2.2.2.1 hS hown (hts _ (inW_spec (tS _ (of_decide_eq_true hi)))) (fun _ q => q) hd (K H locs ls hP hS hL hN)
  case iaload =>
    have hl : len = 1 := hl
    subst hl
    simp only [a_step] at hst
    split at hst
    · rename_i i q st
      split at hst
      · rename_i f hh
        rw [a_at_eq] at hh
        split at hst
        · rename_i j hj
          split at hst
          · rename_i x hx2
            rw [a_at_eq] at hx2
            simp only [Option.some.injEq, Prod.mk.injEq] at hst
            obtain ⟨rfl, rfl, rfl, rfl, rfl, rfl⟩ := hst
            refine va_iald hx hb hK hP q 0 (cw_get hh) rfl (idx_in hj (lt_of hx2)) hd ?_
            have e1 : f.getD i.toNatClampNeg 0 = x := by rw [(a_idx_spec hj).2.1]; exact getD_of hx2
            show W p l e R s m args below meth c H locs c0 s0 Q (F0 m (pc + 1) ls (.int (f.getD i.toNatClampNeg 0) :: _))
            rw [e1]
            exact K H locs ls hP hS hL hN
          · cases hst
        · cases hst
      · cases hst
    · rename_i i z st
      split at hst
      · rename_i j hj
        split at hst
        · rename_i x hx2
          rw [a_at_eq] at hx2
          cases hz : (Nat.blt 11 d && decide (z = 1)) with
          | false => rw [hz] at hst; cases hst
          | true =>
            rw [hz] at hst
            have hz := of_decide_eq_true (Bool.and_eq_true_iff.mp hz).2
            subst hz
            simp only [cond_true, Option.some.injEq, Prod.mk.injEq] at hst
            obtain ⟨rfl, rfl, rfl, rfl, rfl, rfl⟩ := hst
            have hbl : B.2.2.1 < B.1 := hKX.2.2.2.2.2.2.2.2.1
            refine va_sld (b := B.2.2.1) (A := AA B) hx hb hKX.2.2.2.2.2.2.1 (Nat.lt_of_lt_of_le hbl hKX.2.2.2.2.2.2.2.2.2.1) (Nat.not_le.mpr hbl) hS (idx_in hj (lt_of hx2)) hd ?_
            have e1 : xs.getD i.toNatClampNeg 0 = x := by rw [(a_idx_spec hj).2.1]; exact getD_of hx2
            show W p l e R s m args below meth c H locs c0 s0 Q (F0 m (pc + 1) ls (.int (xs.getD i.toNatClampNeg 0) :: _))
            rw [e1]
            exact K H locs ls hP hS hL hN
        · cases hst
      · cases hst
    · cases hst
  case iastore =>
    have hl : len = 1 := hl
    subst hl
    simp only [a_step] at hst
    split at hst
    · rename_i x i q st
      split at hst
      · rename_i f hh
        rw [a_at_eq] at hh
        split at hst
        · rename_i j hj
          simp only [a_set_eq] at hst
          split at hst
          · rename_i hlt
            split at hst
            · simp only [Option.some.injEq, Prod.mk.injEq] at hst
              obtain ⟨rfl, rfl, rfl, rfl, rfl, rfl⟩ := hst
              refine va_iast hx hb hK hP hD hS q 0 (cw_get hh) rfl (idx_in hj hlt) hd (fun H1 locs1 hP1 hD1 hS1 => ?_)
              refine K H1 locs1 ls ?_ hS1 hL (by rw [List.length_set]; exact hN)
              rw [cw_set]
              have e1 : upd (fun k => f.getD k 0) i.toNatClampNeg x = fun k => (f.set j x).getD k 0 := by rw [(a_idx_spec hj).2.1]; exact upd_set hlt
              rw [e1] at hP1
              simpa [ce] using hP1
            · cases hst
          · cases hst
        · cases hst
      · cases hst
    · cases hst
  case aaload =>
    have hl : len = 1 := hl
    subst hl
    simp only [a_step] at hst
    split at hst
    · rename_i i q st
      split at hst
      · rename_i f hh
        rw [a_at_eq] at hh
        split at hst
        · rename_i j hj
          split at hst
          · rename_i x hx2
            rw [a_at_eq] at hx2
            simp only [Option.some.injEq, Prod.mk.injEq] at hst
            obtain ⟨rfl, rfl, rfl, rfl, rfl, rfl⟩ := hst
            refine va_aldq hx hb hK hP q 1 (cw_get hh) rfl (idx_in hj (lt_of hx2)) hd ?_
            have e1 : f.getD i.toNatClampNeg none = x := by rw [(a_idx_spec hj).2.1]; exact getD_of hx2
            have e2 : va_rf ((f.getD i.toNatClampNeg none).map (fun k => B.1 + k)) = cv B (a_opt x) := by
              rw [e1]
              cases x <;> rfl
            show W p l e R s m args below meth c H locs c0 s0 Q (F0 m (pc + 1) ls (va_rf ((f.getD i.toNatClampNeg none).map (fun k => B.1 + k)) :: _))
            rw [e2]
            exact K H locs ls hP hS hL hN
          · cases hst
        · cases hst
      · cases hst
    · cases hst
  case aastore =>
    have hl : len = 1 := hl
    subst hl
    simp only [a_step] at hst
    split at hst
    · rename_i v i q st
      split at hst
      · rename_i ci fs f hh1 hh2
        rw [a_at_eq] at hh1 hh2
        split at hst
        · rename_i j hj
          cases hca : Nat.beq ci 2 with
          | false => rw [hca] at hst; cases hst
          | true =>
            rw [hca] at hst
            have hca := Nat.eq_of_beq_eq_true hca
            subst hca
            simp only [cond_true, a_set_eq] at hst
            split at hst
            · rename_i hlt
              split at hst
              · simp only [Option.some.injEq, Prod.mk.injEq] at hst
                obtain ⟨rfl, rfl, rfl, rfl, rfl, rfl⟩ := hst
                refine va_astqO (E := "java/lang/Object") (r := (RX2, TX2, 10)) hx hb hK hP hD hS q 1 v 2 (cw_get hh2) rfl hKX.2.2.1 (cw_get hh1) rfl (idx_in hj hlt) hd (fun H1 locs1 hP1 hD1 hS1 => ?_)
                refine K H1 locs1 ls ?_ hS1 hL (by rw [List.length_set]; exact hN)
                rw [cw_set]
                have e1 : va_up (fun k => (f.getD k none).map (fun z => B.1 + z)) i.toNatClampNeg (some (B.1 + v)) = fun k => ((f.set j (some v)).getD k none).map (fun z => B.1 + z) := by rw [(a_idx_spec hj).2.1]; exact up_set hlt
                rw [e1] at hP1
                simpa [ce] using hP1
              · cases hst
            · cases hst
        · cases hst
      · cases hst
    · cases hst
  case arraylength =>
    have hl : len = 1 := hl
    subst hl
    simp only [a_step] at hst
    split at hst
    · rename_i q st
      split at hst
      · rename_i f hh
        rw [a_at_eq] at hh
        simp only [fN_eq, Option.some.injEq, Prod.mk.injEq] at hst
        obtain ⟨rfl, rfl, rfl, rfl, rfl, rfl⟩ := hst
        exact va_alen hx hb hK hP q 0 (cw_get hh) (ty := .int) rfl rfl hd (K H locs ls hP hS hL hN)
      · rename_i f hh
        rw [a_at_eq] at hh
        simp only [fN_eq, Option.some.injEq, Prod.mk.injEq] at hst
        obtain ⟨rfl, rfl, rfl, rfl, rfl, rfl⟩ := hst
        exact va_alen hx hb hK hP q 1 (cw_get hh) (ty := .object "java/lang/Object") rfl rfl hd (K H locs ls hP hS hL hN)
      · cases hst
    · rename_i z st
      cases hz : decide (z = 0) with
      | true =>
        rw [hz] at hst
        have hz := of_decide_eq_true hz
        subst hz
        simp only [cond_true, Option.some.injEq, Prod.mk.injEq] at hst
        obtain ⟨rfl, rfl, rfl, rfl, rfl, rfl⟩ := hst
        exact va_tlen (t := B.2.1) hx hb hKX.2.2.2.2.2.1 hS rfl hd (K H locs ls hP hS hL hN)
      | false =>
        rw [hz] at hst
        cases hz1 : (Nat.blt 11 d && decide (z = 1)) with
        | false => rw [hz1] at hst; cases hst
        | true =>
          rw [hz1] at hst
          have hz1 := of_decide_eq_true (Bool.and_eq_true_iff.mp hz1).2
          subst hz1
          simp only [cond_true, cond_false, fN_eq, Option.some.injEq, Prod.mk.injEq] at hst
          obtain ⟨rfl, rfl, rfl, rfl, rfl, rfl⟩ := hst
          have hbl : B.2.2.1 < B.1 := hKX.2.2.2.2.2.2.2.2.1
          exact va_slen (b := B.2.2.1) (A := AA B) hx hb hKX.2.2.2.2.2.2.1 (Nat.lt_of_lt_of_le hbl hKX.2.2.2.2.2.2.2.2.2.1) (Nat.not_le.mpr hbl) hS hd (K H locs ls hP hS hL hN)
    · cases hst
  case newarray at_ =>
    have hl : len = 2 := hl
    subst hl
    cases at_
    case int =>
      simp only [a_step] at hst
      split at hst
      · rename_i k st
        split at hst
        · rename_i j hj
          cases hz : Nat.blt 100000 j with
          | true => rw [hz] at hst; cases hst
          | false =>
            rw [hz] at hst
            simp only [cond_false, a_snoc_eq, Option.some.injEq, Prod.mk.injEq] at hst
            obtain ⟨rfl, rfl, rfl, rfl, rfl, rfl⟩ := hst
            have hz : ¬ 100000 < j := fun q => by rw [Nat.blt_eq.mpr q] at hz; cases hz
            obtain ⟨j1, j2, j3⟩ := a_idx_spec hj
            have harr : (Cond.arrayClass (newarray.typeOf ArrayType.int)).before args s = true := hts _ gw_arr
            refine va_newa (atype := .int) (ty := .int) (N' := j) (a0 := (j, .inl (fun i => (List.replicate j (0 : Int32)).getD i 0))) hx hb harr rfl hK hP hD hS hA ?_ j1 j2 (by show j * 4 ≤ _; omega) hc hs hd (fun q cA H1 hK1 hP1 hD1 hS1 => ?_)
            · intro cA
              rw [vp_cell_i]
              congr 1
              funext i
              show Value.int ((List.replicate j (0 : Int32)).getD i 0) = .int 0
              rw [List.getD_eq_getElem?_getD, List.getElem?_replicate]
              split <;> rfl
            · refine aw_sz (fun hsz => ?_)
              have hq := aw_new (D := D) (s := s) (cells := c0) hP1 hD1 hN hsz
              subst hq
              have hcA : cA = I.1 := by
                have h1 := (hK1.2 2 (cA, .int) rfl).2
                have h2 := (hK1.2 0 (I.1, .int) rfl).2
                exact Option.some.inj (h1.symm.trans h2)
              subst hcA
              refine K H1 locs ls ?_ hS1 hL (by simp; omega)
              rw [cw_push]
              simpa [ce] using hP1
        · cases hst
      · cases hst
    all_goals (simp only [a_step] at hst; cases hst)
  case anewarray k0 =>
    have hl : len = 3 := hl
    subst hl
    simp only [a_step] at hst
    split at hst
    · rename_i k st
      split at hst
      · rename_i j hj
        cases hz : Nat.blt 100000 j with
        | true => rw [hz] at hst; cases hst
        | false =>
          rw [hz] at hst
          simp only [cond_false, a_snoc_eq, Option.some.injEq, Prod.mk.injEq] at hst
          obtain ⟨rfl, rfl, rfl, rfl, rfl, rfl⟩ := hst
          have hz : ¬ 100000 < j := fun q => by rw [Nat.blt_eq.mpr q] at hz; cases hz
          obtain ⟨j1, j2, j3⟩ := a_idx_spec hj
          refine va_newq (C := "java/lang/Object") (N' := j) hx hb hown (hts _ (inW_spec (tA _ (of_decide_eq_true hi)))) hKX.2.2.2.1 hK hP hD hS hA j1 j2 (by omega) hc hs hd (fun q cA H1 hK1 hP1 hD1 hS1 => ?_)
          refine aw_sz (fun hsz => ?_)
          have hq := aw_new (D := D) (s := s) (cells := c0) hP1 hD1 hN hsz
          subst hq
          have hcA : cA = I.2 := by
            obtain ⟨_, _, -, -, -, h1⟩ := (hK1.2 2 (cA, .object "java/lang/Object") rfl).2
            obtain ⟨_, _, -, -, -, h2⟩ := (hK1.2 1 (I.2, .object "java/lang/Object") rfl).2
            exact Option.some.inj (h1.symm.trans h2)
          subst hcA
          refine K H1 locs ls ?_ hS1 hL (by simp; omega)
          rw [cw_push]
          have e1 : (fun i => ((List.replicate j (none : Option Nat)).getD i none).map (fun z => B.1 + z)) = fun _ => none := by
            funext i
            rw [List.getD_eq_getElem?_getD, List.getElem?_replicate]
            split <;> rfl
          simp only [ce, List.length_replicate]
          rw [e1]
          exact hP1
      · cases hst
    · cases hst
  case new k0 =>
    have hl : len = 3 := hl
    subst hl
    obtain ⟨⟨C, T, N⟩, hq, hbN, w1, w2, w3⟩ := (tN _ (of_decide_eq_true hi))
    dsimp only at hq hbN w1 w2 w3
    subst hbN
    simp only [a_step, a_snoc_eq, Option.some.injEq, Prod.mk.injEq] at hst
    obtain ⟨rfl, rfl, rfl, rfl, rfl, rfl⟩ := hst
    refine va_new (ci := a) (fs := ((List.range b).map (fun j => a_def (a_ty a j))).map (cv B)) hx hb hts (cls_ws a _ hq) (a_ty a) (cls_ty a _ hq).1 hown (hts _ w1) (hts _ w2) (hts _ w3) hK hP hD hS hA hq ?_ hc hs hd (fun q H1 hP1 hD1 hS1 => ?_)
    · intro j hj
      rw [cls_def a _ B hq j hj]
      simp [vp_V, hj]
    · refine aw_sz (fun hsz => ?_)
      have hq2 := aw_new (D := D) (s := s) (cells := c0) hP1 hD1 hN hsz
      subst hq2
      refine K H1 locs ls ?_ hS1 hL (by simp; omega)
      rw [cw_push]
      simpa [ce] using hP1
  case checkcast k0 =>
    have hl : len = 3 := hl
    subst hl
    obtain ⟨⟨C, T, N⟩, hq, w1⟩ := (tC _ (of_decide_eq_true hi))
    dsimp only at hq w1
    simp only [a_step] at hst
    split at hst
    · rename_i q st
      split at hst
      · rename_i ci fs hh
        rw [a_at_eq] at hh
        cases hca : Nat.beq ci a with
        | false => rw [hca] at hst; cases hst
        | true =>
          rw [hca] at hst
          have hca := Nat.eq_of_beq_eq_true hca
          subst hca
          simp only [cond_true, Option.some.injEq, Prod.mk.injEq] at hst
          obtain ⟨rfl, rfl, rfl, rfl, rfl, rfl⟩ := hst
          exact va_castS (nm := C) hx hb hown (hts _ w1) (hK.1 ci _ hq).2 (va_recv hK hP hq (cw_get hh)) hd (K H locs ls hP hS hL hN)
      · cases hst
    · cases hst
  case invokevirtual k0 =>
    have hl : len = 3 := hl
    subst hl
    simp only [a_step] at hst
    cases hz : (Nat.beq b 2 && (Nat.blt 0 d && Nat.ble st.length 9)) with
    | false => rw [hz] at hst; cases hst
    | true =>
      rw [hz] at hst
      simp only [Bool.and_eq_true] at hz
      have hb2 := Nat.eq_of_beq_eq_true hz.1
      subst hb2
      have hd0 : 0 < d := by simpa using hz.2.1
      have hln : st.length ≤ 9 := by simpa using hz.2.2
      have hin : (o, k0) ∈ GLl := of_decide_eq_true hi
      simp only [cond_true] at hst
      split at hst
      · rename_i q st
        split at hst
        · rename_i f hh
          rw [a_at_eq] at hh
          simp only [Option.some.injEq, Prod.mk.injEq] at hst
          obtain ⟨rfl, rfl, rfl, rfl, rfl, rfl⟩ := hst
          have hcell := hP q _ (cw_get hh)
          have hnm : s.vm.findClass "[Ljava/lang/Object;" = some I.2 := va_nmO (hK.2 1 _ rfl).2 rfl
          refine va_getC hx hb (by rw [hml]; exact hL.1.symm) hown (hts _ (inW_spec (tG _ hin))) (va_Dc.use hKX.2.2.2.2.2.2.2.2.2.2.2) (hts _ gw_gs) (hts _ gw_gi) (hts _ gw_gn) hKX.2.2.2.2.2.2.2.2.2.2.1 ⟨_, hcell, rfl, hnm⟩ (by omega) ?_ hd (K H locs ls hP hS hL hN)
          rw [cat_sum, hRl]
          simp only [List.length_cons] at hln
          omega
        · cases hst
      · cases hst
  case invokespecial k0 =>
    have hl : len = 3 := hl
    subst hl
    simp only [a_step] at hst
    cases hz : (Nat.beq b 2 && (Nat.blt 0 d && Nat.ble st.length 9)) with
    | false => rw [hz] at hst; cases hst
    | true =>
      rw [hz] at hst
      simp only [Bool.and_eq_true] at hz
      have hb2 := Nat.eq_of_beq_eq_true hz.1
      subst hb2
      have hd0 : 0 < d := by simpa using hz.2.1
      have hln : st.length ≤ 9 := by simpa using hz.2.2
      have hin : (o, k0) ∈ OLl := of_decide_eq_true hi
      simp only [cond_true] at hst
      split at hst
      · rename_i q st
        simp only [Option.some.injEq, Prod.mk.injEq] at hst
        obtain ⟨rfl, rfl, rfl, rfl, rfl, rfl⟩ := hst
        have hsum : ((st.map (cv B)).map fun v => v.category).sum = st.length := cat_sum B st
        refine W.objInit hx hb hown (hts _ (inW_spec (tO _ hin))) (hts _ gw_oi) (hts _ gw_oc) rfl (by rw [hml]; exact hL.1) rfl hd (by omega) ?_ (K H locs ls hP hS hL hN)
        show 2 * 0 + ((st.map (cv B)).map fun v => v.category).sum + 12 ≤ R.locals
        rw [hsum, hRl]
        simp only [List.length_cons] at hln
        omega
      · cases hst
  case invokestatic k0 =>
    have hl : len = 3 := hl
    subst hl
    simp only [a_step] at hst
    cases hz : (Nat.beq b 2 && (Nat.blt 0 d && Nat.ble st.length 13)) with
    | false =>
      rw [hz] at hst
      simp only [cond_false] at hst
      cases hz3 : (Nat.blt 0 d && Nat.ble st.length 10) with
      | false => rw [hz3] at hst; cases hst
      | true =>
        rw [hz3] at hst
        simp only [Bool.and_eq_true] at hz3
        have hd0 : 0 < d := by simpa using hz3.1
        have hln : st.length ≤ 10 := by simpa using hz3.2
        simp only [cond_true] at hst
        split at hst
        · rename_i y2 x2 st
          have hl40 : ((st.map (cv B)).map fun v => v.category).sum + 13 ≤ R.locals := by
            rw [cat_sum, hRl]
            simp only [List.length_cons] at hln
            omega
          cases hb3 : Nat.beq b 3 with
          | true =>
            have hb3' := Nat.eq_of_beq_eq_true hb3
            subst hb3'
            have hin : (o, k0) ∈ XLl := of_decide_eq_true hi
            rw [hb3] at hst
            simp only [cond_true, a_key_lt] at hst
            refine va_mmax hx hb (by rw [hml]; exact hL.1.symm) hown (hts _ (inW_spec (tX _ hin))) (hts _ gw_xs) (hts _ gw_xi) (hts _ gw_xc) (by omega) hl40 (by omega) (by omega) hd ?_
            by_cases hq : x2 < y2
            · rw [decide_eq_true hq] at hst
              simp only [cond_true, Option.some.injEq, Prod.mk.injEq] at hst
              obtain ⟨rfl, rfl, rfl, rfl, rfl, rfl⟩ := hst
              rw [if_pos hq]
              exact K H locs ls hP hS hL hN
            · rw [decide_eq_false hq] at hst
              simp only [cond_false, Option.some.injEq, Prod.mk.injEq] at hst
              obtain ⟨rfl, rfl, rfl, rfl, rfl, rfl⟩ := hst
              rw [if_neg hq]
              exact K H locs ls hP hS hL hN
          | false =>
            rw [hb3] at hst
            simp only [cond_false] at hst
            cases hb4 : Nat.beq b 4 with
            | false => rw [hb4] at hst; cases hst
            | true =>
              have hb4' := Nat.eq_of_beq_eq_true hb4
              subst hb4'
              have hin : (o, k0) ∈ YLl := of_decide_eq_true hi
              rw [hb4] at hst
              simp only [cond_true, a_key_lt] at hst
              refine va_mmin hx hb (by rw [hml]; exact hL.1.symm) hown (hts _ (inW_spec (tY _ hin))) (hts _ gw_ys) (hts _ gw_xi) (hts _ gw_yc) (by omega) hl40 (by omega) (by omega) hd ?_
              by_cases hq : y2 < x2
              · rw [decide_eq_true hq] at hst
                simp only [cond_true, Option.some.injEq, Prod.mk.injEq] at hst
                obtain ⟨rfl, rfl, rfl, rfl, rfl, rfl⟩ := hst
                rw [if_pos hq]
                exact K H locs ls hP hS hL hN
              · rw [decide_eq_false hq] at hst
                simp only [cond_false, Option.some.injEq, Prod.mk.injEq] at hst
                obtain ⟨rfl, rfl, rfl, rfl, rfl, rfl⟩ := hst
                rw [if_neg hq]
                exact K H locs ls hP hS hL hN
        · cases hst
    | true =>
      rw [hz] at hst
      simp only [Bool.and_eq_true] at hz
      have hb2 := Nat.eq_of_beq_eq_true hz.1
      subst hb2
      have hd0 : 0 < d := by simpa using hz.2.1
      have hln : st.length ≤ 13 := by simpa using hz.2.2
      have hin : (o, k0) ∈ PLl := of_decide_eq_true hi
      simp only [cond_true] at hst
      split at hst
      · rename_i n dp q1 sp q0 st
        split at hst
        · rename_i f g hh0 hh1
          rw [a_at_eq] at hh0 hh1
          split at hst
          · rename_i nn dd ss hn1 hd1 hs1
            cases hz2 : (Nat.ble (ss + nn) f.length && Nat.ble (dd + nn) g.length) with
            | false => rw [hz2] at hst; cases hst
            | true =>
              rw [hz2] at hst
              simp only [Bool.and_eq_true, Nat.ble_eq] at hz2
              simp only [cond_true, a_set_eq] at hst
              split at hst
              · simp only [Option.some.injEq, Prod.mk.injEq] at hst
                obtain ⟨rfl, rfl, rfl, rfl, rfl, rfl⟩ := hst
                have hsum : ((st.map (cv B)).map fun v => v.category).sum = st.length := cat_sum B st
                obtain ⟨n1, n2, n3⟩ := a_idx_spec hn1
                obtain ⟨d1, d2, d3⟩ := a_idx_spec hd1
                obtain ⟨s1, s2, s3⟩ := a_idx_spec hs1
                refine va_copyi (ty := .int) (D := D) (cl := vwCl) (ws := cw I B h) hx hb (by rw [hml]; exact hL.1.symm) hown (hts _ (inW_spec (tP _ hin))) (hts _ gw_cn) (hts _ gw_cs) (hts _ gw_ci) hK hP hD hS q0 q1 0 0 (cw_get hh0) (cw_get hh1) rfl rfl rfl s1 d1 n1 (by rw [s2, n2]; exact hz2.1) (by rw [d2, n2]; exact hz2.2) (fun _ _ => rfl) (by omega) ?_ hd (fun H1 locs1 hP1 hD1 hS1 => ?_)
                · rw [hsum, hRl]
                  show st.length + (7 + 11) ≤ 38 * d + 22
                  simp only [List.length_cons] at hln
                  omega
                · refine K H1 locs1 ls ?_ hS1 hL (by rw [List.length_set]; exact hN)
                  rw [cw_set]
                  rw [s2, d2, n2, cpy_take hz2.1 hz2.2] at hP1
                  have e1 : (g.take dd ++ ((f.drop ss).take nn ++ g.drop (dd + nn))).length = g.length := cpy_len hz2.1 hz2.2
                  simp only [ce, e1]
                  exact hP1
              · cases hst
          · cases hst
        · rename_i f g hh0 hh1
          rw [a_at_eq] at hh0 hh1
          split at hst
          · rename_i nn dd ss hn1 hd1 hs1
            cases hz2 : (Nat.ble (ss + nn) f.length && (Nat.ble (dd + nn) g.length && f.all (a_rule h))) with
            | false => rw [hz2] at hst; cases hst
            | true =>
              rw [hz2] at hst
              simp only [Bool.and_eq_true, Nat.ble_eq] at hz2
              simp only [cond_true, a_set_eq] at hst
              split at hst
              · simp only [Option.some.injEq, Prod.mk.injEq] at hst
                obtain ⟨rfl, rfl, rfl, rfl, rfl, rfl⟩ := hst
                have hsum : ((st.map (cv B)).map fun v => v.category).sum = st.length := cat_sum B st
                obtain ⟨n1, n2, n3⟩ := a_idx_spec hn1
                obtain ⟨d1, d2, d3⟩ := a_idx_spec hd1
                obtain ⟨s1, s2, s3⟩ := a_idx_spec hs1
                refine va_copyq (D := D) (cl := vwCl) (ws := cw I B h) (C := RX2) hx hb (by rw [hml]; exact hL.1.symm) hown (hts _ (inW_spec (tP _ hin))) (hts _ gw_cn) (hts _ gw_cs) (hts _ gw_ci) hK hP hD hS q0 q1 1 1 (cw_get hh0) (cw_get hh1) rfl rfl s1 d1 n1 (by rw [s2, n2]; exact hz2.1) (by rw [d2, n2]; exact hz2.2.1) ?_ ?_ (by omega) ?_ hd (fun H1 locs1 hP1 hD1 hS1 => ?_)
                · intro i hi2 y hy
                  cases hg : f.getD (sp.toNatClampNeg + i) none with
                  | none => rw [hg] at hy; cases hy
                  | some v => exact rule_cell hK hP hz2.2.2 hg hy
                · intro comp c0 g1 g2
                  obtain ⟨c3, t3, f1, f2, f3⟩ := Cond.castable_spec (va_Nw.use (A := args) rfl hKX.2.2.1)
                  cases g2.symm.trans f1
                  cases g1.symm.trans f2
                  exact f3
                · rw [hsum, hRl]
                  show st.length + (7 + 11) ≤ 38 * d + 22
                  simp only [List.length_cons] at hln
                  omega
                · refine K H1 locs1 ls ?_ hS1 hL (by rw [List.length_set]; exact hN)
                  rw [cw_set]
                  rw [s2, d2, n2, cpy_takeQ hz2.1 hz2.2.1] at hP1
                  have e1 : (g.take dd ++ ((f.drop ss).take nn ++ g.drop (dd + nn))).length = g.length := cpy_lenQ hz2.1 hz2.2.1
                  simp only [ce, e1]
                  exact hP1
              · cases hst
          · cases hst
        · cases hst
      · cases hst
  all_goals (simp only [a_step] at hst; cases hst)
end AS
