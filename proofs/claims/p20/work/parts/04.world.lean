/-! How the small machine's cells lie in the heap: the k-th cell at B.1 + k -/
def GW : List Cond := lw_tbl.filter goodWord
theorem GW_in {w : Cond} (h1 : w ∈ lw_tbl) (h2 : goodWord w = true) : w ∈ GW := List.mem_filter.mpr ⟨h1, h2⟩
theorem GW_good : ∀ w ∈ GW, goodWord w = true := fun _ h => (List.mem_filter.mp h).2
theorem GW_tbl : ∀ w ∈ GW, w ∈ lw_tbl := fun _ h => (List.mem_filter.mp h).1
def inW (w : Cond) : Bool := decide (w ∈ lw_tbl) && goodWord w
theorem inW_spec {w : Cond} (h : inW w = true) : w ∈ GW := by
  simp only [inW, Bool.and_eq_true, decide_eq_true_eq] at h
  exact GW_in h.1 h.2
abbrev AB : Type := Nat × Nat × Nat × Nat
abbrev getClassN : MethodName := ⟨"java/lang/Object", "getClass", "()Ljava/lang/Class;"⟩
def cv (B : AB) : Value → Value := fun v => match v with
  | .int x => .int x
  | .ref k => .ref (B.1 + k)
  | .long z => if z = 0 then .ref B.2.1 else if z = 1 then .ref B.2.2.1 else .ref B.2.2.2
  | _ => .null
theorem cv_cat (B : AB) (v : Value) : (cv B v).category = 1 := by
  cases v <;> first | rfl | (simp only [cv]; split <;> (try split) <;> rfl)
def ce (I : ClassId × ClassId) (B : AB) : AC → va_E := fun c => match c with
  | .inl xs => .inl (I.1, xs.length, .inl (fun j => xs.getD j 0))
  | .inr (.inl rs) => .inl (I.2, rs.length, .inr (.inr (.inr (.inr (fun j => (rs.getD j none).map (fun k => B.1 + k))))))
  | .inr (.inr o) => .inr (o.1, o.2.map (cv B))
def cw (I : ClassId × ClassId) (B : AB) (h : AH) : va_W := h.mapIdx (fun k c => (B.1 + k, ce I B c))
theorem cw_get {I : ClassId × ClassId} {B : AB} {h : AH} {k : Nat} {c : AC} (hc : h[k]? = some c) : (cw I B h)[k]? = some (B.1 + k, ce I B c) := by
  simp [cw, hc]
theorem cw_len {I : ClassId × ClassId} {B : AB} {h : AH} : (cw I B h).length = h.length := by simp [cw]
theorem cw_at {I : ClassId × ClassId} {B : AB} {h : AH} {k : Nat} {q : Nat × va_E} (hq : (cw I B h)[k]? = some q) : q.1 = B.1 + k ∧ k < h.length := by
  have hk : k < h.length := by
    have := (List.getElem?_eq_some_iff.mp hq).1
    rwa [cw_len] at this
  have hc : h[k]? = some h[k] := List.getElem?_eq_getElem hk
  rw [cw_get hc] at hq
  cases hq
  exact ⟨rfl, hk⟩
theorem cw_set {I : ClassId × ClassId} {B : AB} {h : AH} {k : Nat} {c : AC} : cw I B (h.set k c) = (cw I B h).set k (B.1 + k, ce I B c) := by
  apply List.ext_getElem?
  intro i
  by_cases hi : k = i
  · subst hi
    by_cases hk : k < h.length <;> simp [cw, hk]
  · simp [cw, List.getElem?_set, hi]
theorem cw_push {I : ClassId × ClassId} {B : AB} {h : AH} {c : AC} : cw I B (h ++ [c]) = cw I B h ++ [(B.1 + h.length, ce I B c)] := by
  simp [cw, List.mapIdx_concat]
abbrev AA (B : AB) : Nat → Prop := fun q => B.1 ≤ q
theorem cw_D {I : ClassId × ClassId} {B : AB} {h : AH} : va_D (AA B) (cw I B h) := by
  refine ⟨fun i j p q hp hq e => ?_, fun k q hq => ?_⟩
  · have h1 := cw_at hp
    have h2 := cw_at hq
    omega
  · have h1 := cw_at hq
    show B.1 ≤ q.1
    omega
/-- the words of the nest, and of the list's elements -/
def NWL : List Cond := [.methodLinkNest RX8 9 yX7_init RX8, .methodLinkNest RX7 9 yX3_init RX8, .methodLinkNest RX8 18 yX1_init RX8, .methodLinkNest RX6 74 yX8_bitOf RX8, .methodLinkNest RX4 125 yX8_bitOf RX8]
theorem NWL_in : ∀ w ∈ NWL, w ∈ lw_tbl := by decide +kernel
abbrev aTys (I : ClassId × ClassId) : List (ClassId × FieldType) := [(I.1, .int), (I.2, .object "java/lang/Object")]
/-- what stays: the tables' words, the static row, the script -/
def KX (D : va_G) (I : ClassId × ClassId) (B : AB) (xs : List Int32) (U : State) : Prop :=
  va_K D vwCl (aTys I) U ∧ (∀ w ∈ NWL, va_Nw w U) ∧ va_Nw (.castable RX2 "java/lang/Object") U ∧ va_AO "java/lang/Object" U ∧ va_Z "java/util/ArrayList" "DEFAULTCAPACITY_EMPTY_ELEMENTDATA" "[Ljava/lang/Object;" (.ref B.2.1) (AA B) U U.heap ∧ va_T (.object "java/lang/Object") B.2.1 0 (fun _ => .null) (AA B) U U.heap ∧ va_X B.2.2.1 xs.length (fun j => xs.getD j 0) U U.heap ∧ B.2.1 < B.1 ∧ B.2.2.1 < B.1 ∧ B.1 ≤ U.heap.size ∧ va_Mi "[Ljava/lang/Object;" B.2.2.2 U ∧ va_Dc U
theorem NWL_warm {s U : State} (hW : s.WarmedH U.vm) (h : ∀ w ∈ NWL, va_Nw w s) : ∀ w ∈ NWL, va_Nw w U := by
  intro w hw
  have h1 := h w hw
  simp only [NWL, List.mem_cons, List.not_mem_nil, or_false] at hw
  rcases hw with rfl | rfl | rfl | rfl | rfl <;> exact va_Nw.warmM hW h1
theorem NWL_same {s U : State} (hW : s.vm = U.vm) (h : ∀ w ∈ NWL, va_Nw w s) : ∀ w ∈ NWL, va_Nw w U := by
  intro w hw
  have h1 := h w hw
  simp only [NWL, List.mem_cons, List.not_mem_nil, or_false] at hw
  rcases hw with rfl | rfl | rfl | rfl | rfl <;> exact va_Nw.same rfl hW h1
theorem KX_warm {D : va_G} {I : ClassId × ClassId} {B : AB} {xs : List Int32} {s U : State} {H : Heap} {locs : List Loc} (h : KX D I B xs s) (hS : va_S (AA B) s.heap H locs) (hU : U.heap = H) (hW : s.WarmedH U.vm) : KX D I B xs U := by
  obtain ⟨h1, h2, h3, h4, h5, h6, h7, h8, h9, h10, h11, h12⟩ := h
  have hk : ∀ a : Nat, a < s.heap.size → ¬ AA B a → U.heap[a]? = s.heap[a]? := fun a g1 g2 => by rw [hU]; exact hS.2.1 a g1 g2
  refine ⟨va_K.moved hW.alike h1, NWL_warm hW h2, va_Nw.warmC hW h3, va_AO.moved hW.alike h4, (va_Z.moved hW.alike h5).kept hk, (va_T.moved hW.alike h6).kept hk, ?_, h8, h9, by rw [hU]; exact Nat.le_trans h10 hS.1, va_Mi.moved hW.alike h11, va_Dc.moved hW.alike h12⟩
  refine (va_X.moved hW.alike h7).kept (hk _ (by omega) ?_)
  show ¬ B.1 ≤ B.2.2.1
  omega
theorem KX_calling {D : va_G} {I : ClassId × ClassId} {B : AB} {xs : List Int32} {U : State} {g : JFrame} {mk : MethodId} {a : Array Value} (h : KX D I B xs U) : KX D I B xs (U.calling g mk a) := by
  obtain ⟨h1, h2, h3, h4, h5, h6, h7, h8, h9, h10, h11, h12⟩ := h
  exact ⟨va_K.moved (u := U) (U := U.calling g mk a) (Vm.Alike.refl U.vm) h1, NWL_same (s := U) (U := U.calling g mk a) rfl h2, va_Nw.same rfl rfl h3, va_AO.moved (U := U.calling g mk a) (Vm.Alike.refl U.vm) h4, va_Z.moved (U := U.calling g mk a) (Vm.Alike.refl U.vm) h5, va_T.moved (U := U.calling g mk a) (Vm.Alike.refl U.vm) h6, va_X.moved (U := U.calling g mk a) (Vm.Alike.refl U.vm) h7, h8, h9, h10, va_Mi.moved (u := U) (U := U.calling g mk a) (Vm.Alike.refl U.vm) h11, va_Dc.moved (u := U) (U := U.calling g mk a) (Vm.Alike.refl U.vm) h12⟩
/-- a method's start, and its end -/
def WP (D : va_G) (I : ClassId × ClassId) (B : AB) (xs : List Int32) (h : AH) (U : State) : Prop := U.heap.size = B.1 + h.length ∧ va_P D vwCl (cw I B h) U.heap ∧ KX D I B xs U
def QA (D : va_G) (I : ClassId × ClassId) (B : AB) (r : Option Value) (h h' : AH) (mc : Nat) : Array Value → State → Outcome → State → Prop := fun _ st oc t =>
  oc = .returned (r.map (cv B)) ∧ va_P D vwCl (cw I B h') t.heap ∧ h'.length = h.length + mc ∧ va_F (AA B) st t
def wsM (m : AM) : List Cond := .code m.1 m.2.1 m.2.2.1 m.2.2.2.1 :: GW
abbrev rmd (d mc ms : Nat) : Room := { frames := d, cells := mc, slots := ms, locals := 38 * d + 22 }
/-- the contract of a method of the small machine -/
def MC (l : Launch) (D : va_G) (I : ClassId × ClassId) (B : AB) (xs : List Int32) (d : Nat) (m : AM) (vs : List Value) (h : AH) (res : ARes) : Prop :=
  Met l m.1 (wsM m) (rmd d res.2.2.1 res.2.2.2) (va_Pc (vs.map (cv B)) (WP D I B xs h)) (QA D I B res.1 h res.2.1 res.2.2.1) res.2.2.1 res.2.2.2 (AA B)
section AW
variable {p : Program} {l : Launch} {e : Env} {R : Room} {s : State} {m : MethodId} {args : Array Value} {below : List Frame} {meth : Method} {c : Code} {H : Heap} {locs : List Loc} {cells slots : Nat} {Q : State → Prop}
theorem aw_sz {g : JFrame} (k : H.size ≤ s.heap.size + cells → W p l e R s m args below meth c H locs cells slots Q g) : W p l e R s m args below meth c H locs cells slots Q g := fun T hT X => k (by rw [← hT]; exact X.heapSize) T hT X
theorem aw_call {D : va_G} {I : ClassId × ClassId} {B : AB} {r : Option Value} {h h1 : AH} {mc ms pc : Nat} {ls : Array Slot} {st0 rest : List Value} {a : Array Value}
    (hr : va_Run p l e R s m args below meth c H locs cells slots mc ms (F0 m pc ls st0) rest (QA D I B r h h1 mc a) (AA B)) (hS : va_S (AA B) s.heap H locs)
    (kk : ∀ (H1 : Heap) (locs1 : List Loc), va_P D vwCl (cw I B h1) H1 → h1.length = h.length + mc → va_S (AA B) s.heap H1 locs1 → W p l e R s m args below meth c H1 locs1 (cells + mc) (slots + ms) Q (F0 m (pc + 3) ls ((r.map (cv B)).toList ++ rest))) : W p l e R s m args below meth c H locs cells slots Q (F0 m pc ls st0) := by
  intro T hT X
  obtain ⟨v, st₀, t, T', L, h0, X', hL, e1, e2, ⟨hv, hP1, hlen, hz, hk⟩, st⟩ := hr T hT X
  have hv : v = r.map (cv B) := Outcome.returned.inj hv
  subst hv
  rw [h0] at hz hk
  obtain ⟨t2, a1, b1⟩ := kk T'.heap (locs ++ L) (by rw [e1]; exact hP1) hlen
    ⟨Nat.le_trans hS.1 (by rw [e1]; exact hz), fun q g1 g2 => by rw [e1, hk q (Nat.lt_of_lt_of_le g1 hS.1) g2]; exact hS.2.1 q g1 g2, fun q hq => by
      rcases List.mem_append.mp hq with g | g
      · exact hS.2.2 q g
      · exact hL q g⟩ T' rfl X'
  exact ⟨t2, st t2 a1, b1⟩
/-- the heap's size, at any point of a method -/
theorem aw_size {D : va_G} {I : ClassId × ClassId} {B : AB} {h : AH} (hP : va_P D vwCl (cw I B h) H) (hS : va_S (AA B) s.heap H locs) (hB : B.1 ≤ s.heap.size) (hN : s.heap.size + cells = B.1 + h.length) (hz : H.size ≤ s.heap.size + cells) : H.size = B.1 + h.length := by
  refine Nat.le_antisymm (by omega) ?_
  by_cases h0 : h.length = 0
  · have := hS.1
    omega
  · have hk : h.length - 1 < h.length := by omega
    have h1 := (hP (h.length - 1) _ (cw_get (I := I) (B := B) (List.getElem?_eq_getElem hk))).lt
    have h1 : B.1 + (h.length - 1) < H.size := h1
    omega
/-- the place of a new cell -/
theorem aw_new {D : va_G} {I : ClassId × ClassId} {B : AB} {h : AH} {q : Nat} {x : va_E} {H1 : Heap} (hP : va_P D vwCl (cw I B h ++ [(q, x)]) H1) (hD : va_D (AA B) (cw I B h ++ [(q, x)])) (hN : s.heap.size + cells = B.1 + h.length) (hz : H1.size ≤ s.heap.size + (cells + 1)) : q = B.1 + h.length := by
  have hl : (cw I B h ++ [(q, x)])[h.length]? = some (q, x) := by
    rw [List.getElem?_append_right (by rw [cw_len]; exact Nat.le_refl _), cw_len]
    simp
  have h1 : q < H1.size := (hP _ _ hl).lt
  have h2 : B.1 ≤ q := hD.2 _ _ hl
  rcases Nat.lt_or_ge q (B.1 + h.length) with g | g
  · exfalso
    have hk : q - B.1 < h.length := by omega
    have h3 : (cw I B h ++ [(q, x)])[q - B.1]? = some (B.1 + (q - B.1), ce I B h[q - B.1]) := by
      rw [List.getElem?_append_left (by rw [cw_len]; exact hk)]
      exact cw_get (List.getElem?_eq_getElem hk)
    have h4 := hD.1 _ _ _ _ h3 hl (by show B.1 + (q - B.1) = q; omega)
    omega
  · omega
end AW
