/-! Locals: their order doesn't matter -/
def AlE (al al2 : AL) : Prop := ∀ i, a_get al i = a_get al2 i
theorem AlE.cons {al al2 : AL} (h : AlE al al2) {k : Nat} {v : Value} : AlE ((k, v) :: al.filter (fun q => !(Nat.beq q.1 k))) ((k, v) :: al2.filter (fun q => !(Nat.beq q.1 k))) := by
  intro i
  show (bif Nat.beq k i then some v else _) = (bif Nat.beq k i then some v else _)
  cases hb : Nat.beq k i with
  | true => rfl
  | false =>
    have hne : i ≠ k := fun e => by rw [e, Nat.beq_refl] at hb; cases hb
    show a_get _ i = a_get _ i
    rw [get_filter hne, get_filter hne]
    exact h i
def stR (o o2 : Option ANext) : Prop := match o, o2 with
  | none, none => True
  | some z, some z2 => z.1 = z2.1 ∧ AlE z.2.1 z2.2.1 ∧ z.2.2 = z2.2.2
  | _, _ => False
theorem stR_map {f : AL → Option ANext} {al al2 : AL} (hE : AlE al al2) (hf : ∀ l, f l = (f []).map (fun z => (z.1, l, z.2.2))) : stR (f al) (f al2) := by
  rw [hf al, hf al2]
  cases f [] with
  | none => exact trivial
  | some z => exact ⟨rfl, hE, rfl⟩
theorem map_cond {α β : Type} {f : α → β} {t : Bool} {x y : Option α} : Option.map f (bif t then x else y) = bif t then Option.map f x else Option.map f y := by cases t <;> rfl
set_option maxHeartbeats 4000000 in
theorem step_al {d : Nat} {xs : List Int32} {r : ARow} {al al2 : AL} {st : List Value} {h : AH} (hE : AlE al al2) : stR (a_step d xs r al st h) (a_step d xs r al2 st h) := by
  obtain ⟨pc, ins, len, a, b⟩ := r
  by_cases hloc : (match ins with
    | .iload_n _ | .iload _ | .aload_n _ | .aload _ | .istore_n _ | .istore _ | .astore_n _ | .astore _ | .iinc _ _ => true
    | _ => false) = true
  · cases ins <;> simp only [Bool.false_eq_true] at hloc
    all_goals simp only [a_step, a_del_eq, fI_eq]
    case iload_n i => rw [hE i.val]; split <;> simp [stR, hE]
    case iload i => rw [hE i]; split <;> simp [stR, hE]
    case aload_n i => rw [hE i.val]; split <;> simp [stR, hE]
    case aload i => rw [hE i]; split <;> simp [stR, hE]
    case istore_n i => split <;> simp [stR, hE.cons]
    case istore i => split <;> simp [stR, hE.cons]
    case astore_n i => split <;> simp [stR, hE.cons]
    case astore i => split <;> simp [stR, hE.cons]
    case iinc i k => rw [hE i]; split <;> simp [stR, hE.cons]
  · refine stR_map (f := fun l => a_step d xs (pc, ins, len, a, b) l st h) hE (fun l => ?_)
    cases ins <;> simp only [not_true] at hloc
    case if_acmp cd f => cases cd <;> simp only [a_step] <;> (repeat' split) <;> simp_all [map_cond]
    case newarray t => cases t <;> simp only [a_step, a_snoc_eq] <;> (repeat' split) <;> simp_all [map_cond]
    all_goals simp only [a_step, fI_eq, fN_eq, a_snoc_eq, a_set_eq]
    all_goals try rfl
    all_goals (repeat' split)
    all_goals simp_all [map_cond]
theorem run_al {xs : List Int32} {cf : AFun} {d : Nat} {ret : Option FieldType} {tab : List ARow} : ∀ (N pc : Nat) (al al2 : AL) (st : List Value) (h : AH) (c s : Nat), AlE al al2 → a_run MT xs cf d ret tab N pc al st h c s = a_run MT xs cf d ret tab N pc al2 st h c s := by
  intro N
  induction N with
  | zero => intros; rfl
  | succ N ih =>
    intro pc al al2 st h c s hE
    rw [a_run_succ, a_run_succ]
    cases hr : a_row tab pc with
    | none => rfl
    | some r =>
      have hs := step_al (d := d) (xs := xs) (r := r) (st := st) (h := h) hE
      simp only
      cases h1 : a_step d xs r al st h with
      | none =>
        cases h2 : a_step d xs r al2 st h with
        | none =>
          simp only
          split
          · split
            · exact ih _ _ _ _ _ _ _ hE
            · rfl
          · rfl
        | some z2 => rw [h1, h2] at hs; exact hs.elim
      | some z =>
        cases h2 : a_step d xs r al2 st h with
        | none => rw [h1, h2] at hs; exact hs.elim
        | some z2 =>
          rw [h1, h2] at hs
          obtain ⟨p1, l1, t1, g1, x1, y1⟩ := z
          obtain ⟨p2, l2, t2, g2, x2, y2⟩ := z2
          obtain ⟨e1, e2, e3⟩ := hs
          simp only at e1 e2 e3
          cases e1
          cases e3
          exact ih _ _ _ _ _ _ _ e2
def a_put (al : AL) (k : Nat) (v : Value) : AL := match al with
  | [] => [(k, v)]
  | q :: r => bif Nat.beq q.1 k then (k, v) :: r else bif Nat.blt k q.1 then (k, v) :: q :: r else q :: a_put r k v
theorem put_get {al : AL} {k i : Nat} {v : Value} : a_get (a_put al k v) i = bif Nat.beq k i then some v else a_get al i := by
  induction al with
  | nil => rfl
  | cons q r ih =>
    obtain ⟨j, w⟩ := q
    show a_get (bif Nat.beq j k then (k, v) :: r else bif Nat.blt k j then (k, v) :: (j, w) :: r else (j, w) :: a_put r k v) i = _
    cases h1 : Nat.beq j k with
    | true =>
      have hj := Nat.eq_of_beq_eq_true h1
      subst hj
      show (bif Nat.beq j i then some v else a_get r i) = (bif Nat.beq j i then some v else (bif Nat.beq j i then some w else a_get r i))
      cases Nat.beq j i <;> rfl
    | false =>
      cases h2 : Nat.blt k j with
      | true => rfl
      | false =>
        show (bif Nat.beq j i then some w else a_get (a_put r k v) i) = (bif Nat.beq k i then some v else (bif Nat.beq j i then some w else a_get r i))
        rw [ih]
        cases h3 : Nat.beq j i with
        | false => rfl
        | true =>
          have hji := Nat.eq_of_beq_eq_true h3
          subst hji
          have : Nat.beq k j = false := by
            cases hb : Nat.beq k j with
            | false => rfl
            | true => rw [Nat.eq_of_beq_eq_true hb, Nat.beq_refl] at h1; cases h1
          rw [this]
          rfl
theorem put_al {al : AL} {k : Nat} {v : Value} : AlE (a_put al k v) ((k, v) :: al.filter (fun q => !(Nat.beq q.1 k))) := by
  intro i
  rw [put_get]
  show _ = (bif Nat.beq k i then some v else a_get _ i)
  cases hb : Nat.beq k i with
  | true => rfl
  | false =>
    have hne : i ≠ k := fun e => by rw [e, Nat.beq_refl] at hb; cases hb
    rw [get_filter hne]
/-! More of them don't hurt -/
def AlLe (al al2 : AL) : Prop := ∀ i v, a_get al i = some v → a_get al2 i = some v
theorem AlLe.cons {al al2 : AL} (h : AlLe al al2) {k : Nat} {v : Value} : AlLe ((k, v) :: al.filter (fun q => !(Nat.beq q.1 k))) ((k, v) :: al2.filter (fun q => !(Nat.beq q.1 k))) := by
  intro i w
  show (bif Nat.beq k i then some v else _) = some w → (bif Nat.beq k i then some v else _) = some w
  cases hb : Nat.beq k i with
  | true => exact id
  | false =>
    have hne : i ≠ k := fun e => by rw [e, Nat.beq_refl] at hb; cases hb
    show a_get _ i = some w → a_get _ i = some w
    rw [get_filter hne, get_filter hne]
    exact h i w
def stL (o o2 : Option ANext) : Prop := ∀ z, o = some z → ∃ z2, o2 = some z2 ∧ z.1 = z2.1 ∧ AlLe z.2.1 z2.2.1 ∧ z.2.2 = z2.2.2
def isLoc (ins : Instr) : Bool := match ins with
  | .iload_n _ | .iload _ | .aload_n _ | .aload _ | .istore_n _ | .istore _ | .astore_n _ | .astore _ | .iinc _ _ => true
  | _ => false
set_option maxHeartbeats 4000000 in
theorem step_nl {d : Nat} {xs : List Int32} {pc len a b : Nat} {ins : Instr} {l : AL} {st : List Value} {h : AH} (hl : isLoc ins = false) : a_step d xs (pc, ins, len, a, b) l st h = (a_step d xs (pc, ins, len, a, b) [] st h).map (fun z => (z.1, l, z.2.2)) := by
  cases ins <;> simp only [isLoc, Bool.true_eq_false] at hl
  case if_acmp cd f => cases cd <;> simp only [a_step] <;> (repeat' split) <;> simp_all [map_cond]
  case newarray t => cases t <;> simp only [a_step, a_snoc_eq] <;> (repeat' split) <;> simp_all [map_cond]
  all_goals simp only [a_step, fI_eq, fN_eq, a_snoc_eq, a_set_eq]
  all_goals try rfl
  all_goals (repeat' split)
  all_goals simp_all [map_cond]
theorem step_le {d : Nat} {xs : List Int32} {r : ARow} {al al2 : AL} {st : List Value} {h : AH} (hE : AlLe al al2) : stL (a_step d xs r al st h) (a_step d xs r al2 st h) := by
  obtain ⟨pc, ins, len, a, b⟩ := r
  intro z hz
  cases hl : isLoc ins with
  | true =>
    cases ins <;> simp only [isLoc, Bool.false_eq_true] at hl
    all_goals simp only [a_step, a_del_eq, fI_eq] at hz ⊢
    case iload_n i =>
      split at hz
      · rename_i x hg; cases hz; rw [hE _ _ hg]; exact ⟨_, rfl, rfl, hE, rfl⟩
      · cases hz
    case iload i =>
      split at hz
      · rename_i x hg; cases hz; rw [hE _ _ hg]; exact ⟨_, rfl, rfl, hE, rfl⟩
      · cases hz
    case aload_n i =>
      split at hz
      · rename_i x hg; cases hz; rw [hE _ _ hg]; exact ⟨_, rfl, rfl, hE, rfl⟩
      · rename_i x hg; cases hz; rw [hE _ _ hg]; exact ⟨_, rfl, rfl, hE, rfl⟩
      · cases hz
    case aload i =>
      split at hz
      · rename_i x hg; cases hz; rw [hE _ _ hg]; exact ⟨_, rfl, rfl, hE, rfl⟩
      · rename_i x hg; cases hz; rw [hE _ _ hg]; exact ⟨_, rfl, rfl, hE, rfl⟩
      · cases hz
    case istore_n i =>
      split at hz
      · cases hz; exact ⟨_, rfl, rfl, hE.cons, rfl⟩
      · cases hz
    case istore i =>
      split at hz
      · cases hz; exact ⟨_, rfl, rfl, hE.cons, rfl⟩
      · cases hz
    case astore_n i =>
      split at hz
      · cases hz; exact ⟨_, rfl, rfl, hE.cons, rfl⟩
      · cases hz
    case astore i =>
      split at hz
      · cases hz; exact ⟨_, rfl, rfl, hE.cons, rfl⟩
      · cases hz
    case iinc i k =>
      split at hz
      · rename_i x hg; cases hz; rw [hE _ _ hg]; exact ⟨_, rfl, rfl, hE.cons, rfl⟩
      · cases hz
  | false =>
    rw [step_nl hl] at hz ⊢
    cases h0 : a_step d xs (pc, ins, len, a, b) [] st h with
    | none => rw [h0] at hz; cases hz
    | some w =>
      rw [h0] at hz
      cases hz
      exact ⟨_, rfl, rfl, hE, rfl⟩
theorem run_le {xs : List Int32} {cf : AFun} {d : Nat} {ret : Option FieldType} {tab : List ARow} {res : ARes} : ∀ (N pc : Nat) (al al2 : AL) (st : List Value) (h : AH) (c s : Nat), AlLe al al2 → a_run MT xs cf d ret tab N pc al st h c s = some res → a_run MT xs cf d ret tab N pc al2 st h c s = some res := by
  intro N
  induction N with
  | zero => intro pc al al2 st h c s _ hr; cases hr
  | succ N ih =>
    intro pc al al2 st h c s hE
    rw [a_run_succ, a_run_succ]
    cases hr : a_row tab pc with
    | none => exact id
    | some r =>
      have hs := step_le (d := d) (xs := xs) (r := r) (st := st) (h := h) hE
      simp only
      cases h1 : a_step d xs r al st h with
      | some z =>
        obtain ⟨z2, e0, e1, e2, e3⟩ := hs z h1
        rw [e0]
        obtain ⟨p1, l1, t1, g1, x1, y1⟩ := z
        obtain ⟨p2, l2, t2, g2, x2, y2⟩ := z2
        simp only at e1 e2 e3
        cases e1
        cases e3
        exact ih _ _ _ _ _ _ _ e2
      | none =>
        obtain ⟨q, ins, len, a, b⟩ := r
        have key : isLoc ins = false → a_step d xs (q, ins, len, a, b) al2 st h = none := fun hl => by
          rw [step_nl hl] at h1 ⊢
          cases h0 : a_step d xs (q, ins, len, a, b) [] st h with
          | none => rfl
          | some w => rw [h0] at h1; cases h1
        simp only
        cases hc : a_call (q, ins, len, a, b) with
        | some rc =>
          have hl : isLoc ins = false := by
            unfold a_call at hc
            cases ins <;> first | rfl | (simp at hc)
          rw [key hl]
          simp only [hc]
          split
          · exact ih _ _ _ _ _ _ _ hE
          · exact id
        | none =>
          simp only
          split
          · rename_i v hret
            have hl : isLoc ins = false := by
              unfold a_ret at hret
              cases ins <;> first | rfl | (simp at hret)
            rw [key hl]
            simp only [hc, hret]
            exact id
          · intro q
            cases q
def a_only (n : Nat) (al : AL) : AL := match al with
  | [] => []
  | q :: r => bif Nat.blt q.1 n then q :: a_only n r else a_only n r
theorem only_le {n : Nat} {al : AL} : AlLe (a_only n al) al := by
  induction al with
  | nil => intro i v h; exact h
  | cons q r ih =>
    intro i v
    show a_get (bif Nat.blt q.1 n then q :: a_only n r else a_only n r) i = some v → (bif Nat.beq q.1 i then some q.2 else a_get r i) = some v
    cases hb : Nat.blt q.1 n with
    | true =>
      show (bif Nat.beq q.1 i then some q.2 else a_get (a_only n r) i) = some v → _
      cases Nat.beq q.1 i with
      | true => exact id
      | false => exact ih i v
    | false =>
      show a_get (a_only n r) i = some v → _
      intro h
      cases hb2 : Nat.beq q.1 i with
      | false => exact ih i v h
      | true =>
        exfalso
        have hi := Nat.eq_of_beq_eq_true hb2
        subst hi
        have hno : ∀ r : AL, a_get (a_only n r) q.1 = none := by
          intro r
          induction r with
          | nil => rfl
          | cons p r ih2 =>
            show a_get (bif Nat.blt p.1 n then p :: a_only n r else a_only n r) q.1 = none
            cases hp : Nat.blt p.1 n with
            | false => exact ih2
            | true =>
              show (bif Nat.beq p.1 q.1 then some p.2 else a_get (a_only n r) q.1) = none
              cases hpq : Nat.beq p.1 q.1 with
              | false => exact ih2
              | true => rw [Nat.eq_of_beq_eq_true hpq, hb] at hp; cases hp
        rw [hno r] at h
        cases h
/-! Runs without counting: what a method comes to. Memory: the ints of all cells; shapes: all else -/
abbrev Mem : Type := Nat → Nat → Int32
abbrev SH : Type := Nat ⊕ (List (Option Nat) ⊕ (Nat × List (Option Value)))
def fvs (f : Nat → Int32) (i : Nat) (cs : List (Option Value)) : List Value := match cs with
  | [] => []
  | none :: r => .int (f i) :: fvs f (i + 1) r
  | some v :: r => v :: fvs f (i + 1) r
def cellOf (s : SH) (f : Nat → Int32) : AC := match s with
  | .inl n => .inl ((List.range n).map f)
  | .inr (.inl rs) => .inr (.inl rs)
  | .inr (.inr (ci, cs)) => .inr (.inr (ci, fvs f 0 cs))
def hp (Z : List SH) (M : Mem) : AH := Z.mapIdx (fun q s => cellOf s (M q))
def mup (M : Mem) (q j : Nat) (x : Int32) : Mem := fun a b => bif Nat.beq a q && Nat.beq b j then x else M a b
def mfl (M : Mem) (q : Nat) (x : Int32) : Mem := fun a b => bif Nat.beq a q then x else M a b
def mcp (M : Mem) (q0 q1 k : Nat) : Mem := fun a b => bif Nat.beq a q1 && Nat.blt b k then M q0 b else M a b
theorem mup_same {M : Mem} {q j : Nat} {x : Int32} : mup M q j x q j = x := by simp [mup]
theorem mup_q {M : Mem} {q j a : Nat} {x : Int32} (h : a ≠ q) : mup M q j x a = M a := by
  funext b
  have : Nat.beq a q = false := by
    cases hb : Nat.beq a q with
    | false => rfl
    | true => exact absurd (Nat.eq_of_beq_eq_true hb) h
  simp [mup, this]
theorem mup_j {M : Mem} {q j b a : Nat} {x : Int32} (h : b ≠ j) : mup M q j x a b = M a b := by
  have : Nat.beq b j = false := by
    cases hb : Nat.beq b j with
    | false => rfl
    | true => exact absurd (Nat.eq_of_beq_eq_true hb) h
  simp [mup, this]
theorem mup_if {M : Mem} {q j a b : Nat} {x : Int32} : mup M q j x a b = if a = q ∧ b = j then x else M a b := by
  by_cases h1 : a = q
  · by_cases h2 : b = j
    · subst h1 h2; rw [mup_same, if_pos ⟨rfl, rfl⟩]
    · rw [mup_j h2, if_neg (fun h => h2 h.2)]
  · rw [mup_q h1, if_neg (fun h => h1 h.1)]
theorem mfl_q {M : Mem} {q a : Nat} {x : Int32} (h : a ≠ q) : mfl M q x a = M a := by
  funext b
  have : Nat.beq a q = false := by
    cases hb : Nat.beq a q with
    | false => rfl
    | true => exact absurd (Nat.eq_of_beq_eq_true hb) h
  simp [mfl, this]
theorem mfl_same {M : Mem} {q b : Nat} {x : Int32} : mfl M q x q b = x := by simp [mfl]
theorem mcp_q {M : Mem} {q0 q1 k a : Nat} (h : a ≠ q1) : mcp M q0 q1 k a = M a := by
  funext b
  have : Nat.beq a q1 = false := by
    cases hb : Nat.beq a q1 with
    | false => rfl
    | true => exact absurd (Nat.eq_of_beq_eq_true hb) h
  simp [mcp, this]
theorem mcp_same {M : Mem} {q0 q1 k b : Nat} (h : b < k) : mcp M q0 q1 k q1 b = M q0 b := by
  have : Nat.blt b k = true := Nat.blt_eq.mpr h
  simp [mcp, this]
theorem hp_at {Z : List SH} {M : Mem} {q : Nat} {s : SH} (h : a_at Z q = some s) : a_at (hp Z M) q = some (cellOf s (M q)) := by
  rw [a_at_eq] at h ⊢
  simp [hp, h]
theorem hp_len {Z : List SH} {M : Mem} : (hp Z M).length = Z.length := by simp [hp]
theorem at_lt {α : Type} {l : List α} {q : Nat} {x : α} (h : a_at l q = some x) : q < l.length := by
  rw [a_at_eq] at h
  exact (List.getElem?_eq_some_iff.mp h).1
theorem hp_set {Z : List SH} {M M' : Mem} {q : Nat} {s : SH} (h : a_at Z q = some s) (hM : ∀ a, a ≠ q → M' a = M a) : (hp Z M).set q (cellOf s (M' q)) = hp Z M' := by
  have hq := at_lt h
  rw [a_at_eq] at h
  apply List.ext_getElem?
  intro i
  by_cases hi : q = i
  · subst hi
    rw [List.getElem?_set_self (by rw [hp_len]; exact hq)]
    simp [hp, h]
  · rw [List.getElem?_set_ne hi]
    simp only [hp, List.getElem?_mapIdx]
    rw [hM i (fun e => hi e.symm)]
theorem fvs_at {f : Nat → Int32} : ∀ {cs : List (Option Value)} {i b : Nat} {o : Option Value}, a_at cs b = some o → a_at (fvs f i cs) b = some (match o with
    | none => .int (f (i + b))
    | some v => v) := by
  intro cs
  induction cs with
  | nil => intro i b o h; cases h
  | cons x r ih =>
    intro i b o h
    cases b with
    | zero =>
      cases h
      cases x <;> rfl
    | succ b =>
      have h2 := ih (i := i + 1) (b := b) (o := o) h
      rw [show i + 1 + b = i + (b + 1) by omega] at h2
      cases x <;> exact h2
theorem fvs_len {f : Nat → Int32} : ∀ {cs : List (Option Value)} {i : Nat}, (fvs f i cs).length = cs.length := by
  intro cs
  induction cs with
  | nil => intro i; rfl
  | cons x r ih => intro i; cases x <;> simp [fvs, ih]
theorem fvs_congr {f g : Nat → Int32} : ∀ {cs : List (Option Value)} {i : Nat}, (∀ b, i ≤ b → f b = g b) → fvs f i cs = fvs g i cs := by
  intro cs
  induction cs with
  | nil => intro i _; rfl
  | cons x r ih =>
    intro i h
    have h2 := ih (i := i + 1) (fun b hb => h b (by omega))
    cases x <;> simp [fvs, h2, h i (Nat.le_refl i)]
theorem fvs_set {f g : Nat → Int32} : ∀ {cs : List (Option Value)} {i b : Nat}, a_at cs b = some none → (∀ j, j ≠ i + b → g j = f j) → (fvs f i cs).set b (.int (g (i + b))) = fvs g i cs := by
  intro cs
  induction cs with
  | nil => intro i b h _; cases h
  | cons x r ih =>
    intro i b h hg
    cases b with
    | zero =>
      cases h
      simp only [fvs, List.set_cons_zero]
      rw [fvs_congr (f := f) (g := g) (i := i + 1) (fun b hb => (hg b (by omega)).symm)]
      rfl
    | succ b =>
      have h2 := ih (i := i + 1) (b := b) h (fun j hj => hg j (by omega))
      rw [show i + 1 + b = i + (b + 1) by omega] at h2
      cases x with
      | none => simp only [fvs, List.set_cons_succ]; rw [h2, hg i (by omega)]
      | some v => simp only [fvs, List.set_cons_succ]; rw [h2]
section S2
variable {d : Nat} {xs : List Int32} {pc len a b : Nat} {al : AL} {st : List Value} {h : AH}
theorem s_aload {k q : Nat} (hg : a_get al k = some (.ref q)) : a_step d xs (pc, .aload k, len, a, b) al st h = some (pc + len, al, .ref q :: st, h, 0, 0) := by simp only [a_step, hg]
theorem s_astore_n {k : Fin 4} {q : Nat} : a_step d xs (pc, .astore_n k, len, a, b) al (.ref q :: st) h = some (pc + len, (k.val, .ref q) :: al.filter (fun q => !(Nat.beq q.1 k.val)), st, h, 0, 0) := by simp only [a_step, a_del_eq]
theorem s_astore {k q : Nat} : a_step d xs (pc, .astore k, len, a, b) al (.ref q :: st) h = some (pc + len, (k, .ref q) :: al.filter (fun q => !(Nat.beq q.1 k)), st, h, 0, 0) := by simp only [a_step, a_del_eq]
theorem s_ixor {x y : Int32} : a_step d xs (pc, .ixor, len, a, b) al (.int y :: .int x :: st) h = some (pc + len, al, .int (x ^^^ y) :: st, h, 0, 0) := by simp only [a_step, fI_eq]
theorem s_iushr {x y : Int32} : a_step d xs (pc, .iushr, len, a, b) al (.int y :: .int x :: st) h = some (pc + len, al, .int ((x.toUInt32 >>> (y.toUInt32 &&& Int32.toUInt32 31)).toInt32) :: st, h, 0, 0) := by simp only [a_step, fI_eq]
end S2
/-- what a run comes to -/
abbrev QT : Type := Option Value → AH → Nat → Nat → Prop
def Go (xs : List Int32) (d : Nat) (ret : Option FieldType) (tab : List ARow) (pc : Nat) (al : AL) (st : List Value) (h : AH) (c s : Nat) (Q : QT) : Prop :=
  ∃ v h' c' s', Q v h' c' s' ∧ ∃ K, ∀ N k, K ≤ N → K ≤ k → a_run MT xs (a_m MT [] N d) (d + 1) ret tab k pc al st h c s = some (v, h', c', s')
def EvG (d mi : Nat) (vs : List Value) (h : AH) (Q : QT) : Prop := ∃ v h' c s, Q v h' c s ∧ ∃ K, ∀ N, K ≤ N → a_m MT [] N d mi vs h = some (v, h', c, s)
def QV (Z : List SH) (Q : Mem → Prop) : QT := fun v h' c s => v = none ∧ c = 0 ∧ s = 0 ∧ ∃ M', h' = hp Z M' ∧ Q M'
def QI (Z : List SH) (Q : Int32 → Mem → Prop) : QT := fun v h' c s => c = 0 ∧ s = 0 ∧ ∃ x M', v = some (.int x) ∧ h' = hp Z M' ∧ Q x M'
def QP (h : AH) (x : Value) : QT := fun v h' c s => v = some x ∧ h' = h ∧ c = 0 ∧ s = 0
/-- a method that gives nothing, one that gives an int, one that only answers -/
def EvV (d mi : Nat) (vs : List Value) (Z : List SH) (M : Mem) (Q : Mem → Prop) : Prop := EvG d mi vs (hp Z M) (QV Z Q)
def EvI (d mi : Nat) (vs : List Value) (Z : List SH) (M : Mem) (Q : Int32 → Mem → Prop) : Prop := EvG d mi vs (hp Z M) (QI Z Q)
def EvP (d mi : Nat) (vs : List Value) (h : AH) (x : Value) : Prop := EvG d mi vs h (QP h x)
theorem ev_of {d mi : Nat} {m : AM} {vs : List Value} {h : AH} {Q : QT} (hm : a_at MT mi = some m) (hv : Nat.ble vs.length m.2.2.1 = true) (k : Go [] d m.2.2.2.1 m.2.2.2.2.2.2.2 0 (a_entry 0 vs) [] h 0 0 Q) : EvG (d + 1) mi vs h Q := by
  obtain ⟨v, h', c', s', hQ, K, hK⟩ := k
  refine ⟨v, h', c', s', hQ, K, fun N hN => ?_⟩
  rw [a_m_succ, a_meth_at hm (Nat.le_of_ble_eq_true hv)]
  exact hK N N hN hN
theorem ev_mono {d mi : Nat} {vs : List Value} {h : AH} {Q Q' : QT} (e : EvG d mi vs h Q) (k : ∀ v h' c s, Q v h' c s → Q' v h' c s) : EvG d mi vs h Q' := by
  obtain ⟨v, h', c', s', hQ, K, hK⟩ := e
  exact ⟨v, h', c', s', k _ _ _ _ hQ, K, hK⟩
theorem evV_mono {d mi : Nat} {vs : List Value} {Z : List SH} {M : Mem} {Q Q' : Mem → Prop} (e : EvV d mi vs Z M Q) (k : ∀ M', Q M' → Q' M') : EvV d mi vs Z M Q' := by
  refine ev_mono e ?_
  rintro v h' c s ⟨h1, h2, h3, M', h4, h5⟩
  exact ⟨h1, h2, h3, M', h4, k _ h5⟩
theorem evI_mono {d mi : Nat} {vs : List Value} {Z : List SH} {M : Mem} {Q Q' : Int32 → Mem → Prop} (e : EvI d mi vs Z M Q) (k : ∀ x M', Q x M' → Q' x M') : EvI d mi vs Z M Q' := by
  refine ev_mono e ?_
  rintro v h' c s ⟨h2, h3, x, M', h1, h4, h5⟩
  exact ⟨h2, h3, x, M', h1, h4, k _ _ h5⟩
section GO
variable {xs : List Int32} {d : Nat} {ret : Option FieldType} {tab : List ARow} {pc : Nat} {al : AL} {st : List Value} {h : AH} {c s : Nat} {Q : QT} {Z : List SH} {M : Mem}
theorem go_mono {Q' : QT} (e : Go xs d ret tab pc al st h c s Q) (k : ∀ v h' c s, Q v h' c s → Q' v h' c s) : Go xs d ret tab pc al st h c s Q' := by
  obtain ⟨v, h', c', s', hQ, K, hK⟩ := e
  exact ⟨v, h', c', s', k _ _ _ _ hQ, K, hK⟩
theorem go_step {r : ARow} {pc' : Nat} {al' : AL} {st' : List Value} {h' : AH} {dc ds : Nat} (hrow : a_row tab pc = some r) (hst : a_step (d + 1) xs r al st h = some (pc', al', st', h', dc, ds)) (k : Go xs d ret tab pc' al' st' h' (c + dc) (s + ds) Q) : Go xs d ret tab pc al st h c s Q := by
  obtain ⟨v, h2, c2, s2, hQ, K, hK⟩ := k
  refine ⟨v, h2, c2, s2, hQ, K + 1, fun N k hN hk => ?_⟩
  obtain ⟨k, rfl⟩ : ∃ j, k = j + 1 := ⟨k - 1, by omega⟩
  exact rr hrow hst (hK N k (by omega) (by omega))
theorem go_al {al2 : AL} (hE : AlE al2 al) (e : Go xs d ret tab pc al2 st h c s Q) : Go xs d ret tab pc al st h c s Q := by
  obtain ⟨v, h', c', s', hQ, K, hK⟩ := e
  refine ⟨v, h', c', s', hQ, K, fun N k hN hk => ?_⟩
  rw [← run_al _ _ _ _ _ _ _ _ hE]
  exact hK N k hN hk
theorem go_only (m : Nat) (e : Go xs d ret tab pc (a_only m al) st h c s Q) : Go xs d ret tab pc al st h c s Q := by
  obtain ⟨v, h', c', s', hQ, K, hK⟩ := e
  exact ⟨v, h', c', s', hQ, K, fun N k hN hk => run_le _ _ _ _ _ _ _ _ only_le (hK N k hN hk)⟩
theorem go_ret {r : ARow} {v : Option Value} (hrow : a_row tab pc = some r) (hst : a_step (d + 1) xs r al st h = none) (hcall : a_call r = none) (hret : a_ret ret r.2.1 st = some v) (hQ : Q v h c s) : Go xs d ret tab pc al st h c s Q := by
  refine ⟨v, h, c, s, hQ, 1, fun N k hN hk => ?_⟩
  obtain ⟨k, rfl⟩ : ∃ j, k = j + 1 := ⟨k - 1, by omega⟩
  exact rrt hrow hst hcall hret
theorem go_call {r : ARow} {rc : Bool} {m : AM} {vs st' : List Value} {Q1 : QT} (hrow : a_row tab pc = some r) (hst : a_step (d + 1) xs r al st h = none) (hcall : a_call r = some rc) (hm : a_at MT r.2.2.2.1 = some m) (ha : a_args rc m.2.2.2.2.2.1 st = (vs, st')) (hk : (Nat.ble st'.length 8 && Nat.beq vs.length (bif rc then m.2.2.2.2.2.1 + 1 else m.2.2.2.2.2.1)) = true) (hrk : (!rc || a_rok h vs m.2.2.2.2.1) = true) (e : EvG d r.2.2.2.1 vs h Q1)
    (k : ∀ v h' c1 s1, Q1 v h' c1 s1 → Go xs d ret tab (r.1 + r.2.2.1) al (a_push v st') h' (c + c1) (s + s1) Q) : Go xs d ret tab pc al st h c s Q := by
  obtain ⟨v, h1, c1, s1, hQ1, K1, hK1⟩ := e
  obtain ⟨v2, h2, c2, s2, hQ, K, hK⟩ := k v h1 c1 s1 hQ1
  refine ⟨v2, h2, c2, s2, hQ, K + K1 + 1, fun N k hN hk2 => ?_⟩
  obtain ⟨k, rfl⟩ : ∃ j, k = j + 1 := ⟨k - 1, by omega⟩
  simp only [Bool.and_eq_true] at hk
  exact rrc hrow hst hcall (do_of hm ha (by rw [hk.1, hk.2, hrk]; rfl) (hK1 N (by omega))) (hK N k (by omega) (by omega))
theorem r_k {q ci : Nat} {cs : List (Option Value)} {vs : List Value} (hz : a_at Z q = some (.inr (.inr (ci, cs)))) : (!true || a_rok (hp Z M) (.ref q :: vs) ci) = true := by
  simp only [Bool.not_true, Bool.false_or, a_rok, a_recv, hp_at hz, cellOf]
  exact Nat.beq_refl ci
variable {len a b n : Nat}
/-- calls: one that only answers; one that gives nothing; one that gives an int -/
theorem g_callP {ins : Instr} {rc : Bool} {m : AM} {vs st' : List Value} {x : Value} (hr : a_row tab pc = some (pc, ins, len, a, b)) (hn : pc + len = n) (hst : a_step (d + 1) xs (pc, ins, len, a, b) al st h = none) (hcall : a_call (pc, ins, len, a, b) = some rc) (hm : a_at MT a = some m) (ha : a_args rc m.2.2.2.2.2.1 st = (vs, st')) (hk : (Nat.ble st'.length 8 && Nat.beq vs.length (bif rc then m.2.2.2.2.2.1 + 1 else m.2.2.2.2.2.1)) = true) (hrk : (!rc || a_rok h vs m.2.2.2.2.1) = true) (e : EvP d a vs h x)
    (k : Go xs d ret tab n al (x :: st') h c s Q) : Go xs d ret tab pc al st h c s Q := by
  subst hn
  refine go_call hr hst hcall hm ha hk hrk e ?_
  rintro v h' c1 s1 ⟨rfl, rfl, rfl, rfl⟩
  exact k
theorem g_callV {ins : Instr} {rc : Bool} {m : AM} {vs st' : List Value} {Q1 : Mem → Prop} (hr : a_row tab pc = some (pc, ins, len, a, b)) (hn : pc + len = n) (hst : a_step (d + 1) xs (pc, ins, len, a, b) al st (hp Z M) = none) (hcall : a_call (pc, ins, len, a, b) = some rc) (hm : a_at MT a = some m) (ha : a_args rc m.2.2.2.2.2.1 st = (vs, st')) (hk : (Nat.ble st'.length 8 && Nat.beq vs.length (bif rc then m.2.2.2.2.2.1 + 1 else m.2.2.2.2.2.1)) = true) (hrk : (!rc || a_rok (hp Z M) vs m.2.2.2.2.1) = true) (e : EvV d a vs Z M Q1)
    (k : ∀ M', Q1 M' → Go xs d ret tab n al st' (hp Z M') c s Q) : Go xs d ret tab pc al st (hp Z M) c s Q := by
  subst hn
  refine go_call hr hst hcall hm ha hk hrk e ?_
  rintro v h' c1 s1 ⟨rfl, rfl, rfl, M', rfl, hQ⟩
  exact k M' hQ
theorem g_callI {ins : Instr} {rc : Bool} {m : AM} {vs st' : List Value} {Q1 : Int32 → Mem → Prop} (hr : a_row tab pc = some (pc, ins, len, a, b)) (hn : pc + len = n) (hst : a_step (d + 1) xs (pc, ins, len, a, b) al st (hp Z M) = none) (hcall : a_call (pc, ins, len, a, b) = some rc) (hm : a_at MT a = some m) (ha : a_args rc m.2.2.2.2.2.1 st = (vs, st')) (hk : (Nat.ble st'.length 8 && Nat.beq vs.length (bif rc then m.2.2.2.2.2.1 + 1 else m.2.2.2.2.2.1)) = true) (hrk : (!rc || a_rok (hp Z M) vs m.2.2.2.2.1) = true) (e : EvI d a vs Z M Q1)
    (k : ∀ x M', Q1 x M' → Go xs d ret tab n al (.int x :: st') (hp Z M') c s Q) : Go xs d ret tab pc al st (hp Z M) c s Q := by
  subst hn
  refine go_call hr hst hcall hm ha hk hrk e ?_
  rintro v h' c1 s1 ⟨rfl, rfl, x, M', rfl, rfl, hQ⟩
  exact k x M' hQ
-- ends
theorem g_retV {Q0 : Mem → Prop} (hr : a_row tab pc = some (pc, .return_, len, a, b)) (hQ : Q0 M) : Go xs d none tab pc al [] (hp Z M) 0 0 (QV Z Q0) := go_ret hr rfl rfl rfl ⟨rfl, rfl, rfl, M, rfl, hQ⟩
theorem g_retI {Q0 : Int32 → Mem → Prop} {x : Int32} (hr : a_row tab pc = some (pc, .ireturn, len, a, b)) (hQ : Q0 x M) : Go xs d (some .int) tab pc al [.int x] (hp Z M) 0 0 (QI Z Q0) := go_ret hr rfl rfl rfl ⟨rfl, rfl, x, M, rfl, rfl, hQ⟩
theorem retZ {x : Int32} (hx : x = 0 ∨ x = 1) : a_ret (some .boolean) .ireturn [.int x] = some (some (.int x)) := by
  simp only [a_ret, decide_eq_true hx, cond_true]
theorem g_retZ {Q0 : Int32 → Mem → Prop} {x : Int32} (hr : a_row tab pc = some (pc, .ireturn, len, a, b)) (hx : x = 0 ∨ x = 1) (hQ : Q0 x M) : Go xs d (some .boolean) tab pc al [.int x] (hp Z M) 0 0 (QI Z Q0) := go_ret hr rfl rfl (retZ hx) ⟨rfl, rfl, x, M, rfl, rfl, hQ⟩
theorem g_retP {x y : Int32} (hr : a_row tab pc = some (pc, .ireturn, len, a, b)) (hQ : x = y) : Go xs d (some .int) tab pc al [.int x] h 0 0 (QP h (.int y)) := go_ret hr rfl rfl rfl ⟨by rw [hQ], rfl, rfl, rfl⟩
theorem g_retPZ {x y : Int32} (hr : a_row tab pc = some (pc, .ireturn, len, a, b)) (hx : x = 0 ∨ x = 1) (hQ : x = y) : Go xs d (some .boolean) tab pc al [.int x] h 0 0 (QP h (.int y)) := go_ret hr rfl rfl (retZ hx) ⟨by rw [hQ], rfl, rfl, rfl⟩
theorem g_retPR {o : String} {q : Nat} {y : Value} (hr : a_row tab pc = some (pc, .areturn, len, a, b)) (hQ : Value.ref q = y) : Go xs d (some (.object o)) tab pc al [.ref q] h 0 0 (QP h y) := go_ret hr rfl rfl rfl ⟨by rw [hQ], rfl, rfl, rfl⟩
-- instructions
theorem g_const {ins : Instr} {v : Int32} (hr : a_row tab pc = some (pc, ins, len, a, b)) (hn : pc + len = n) (hv : a_step (d + 1) xs (pc, ins, len, a, b) al st h = some (pc + len, al, .int v :: st, h, 0, 0)) (k : Go xs d ret tab n al (.int v :: st) h c s Q) : Go xs d ret tab pc al st h c s Q := by
  subst hn
  exact go_step hr hv k
theorem g_iload_n {k : Fin 4} {x : Int32} (hr : a_row tab pc = some (pc, .iload_n k, len, a, b)) (hn : pc + len = n) (hg : a_get al k.val = some (.int x)) (kk : Go xs d ret tab n al (.int x :: st) h c s Q) : Go xs d ret tab pc al st h c s Q := by
  subst hn
  exact go_step hr (s_iload_n hg) kk
theorem g_iload {k : Nat} {x : Int32} (hr : a_row tab pc = some (pc, .iload k, len, a, b)) (hn : pc + len = n) (hg : a_get al k = some (.int x)) (kk : Go xs d ret tab n al (.int x :: st) h c s Q) : Go xs d ret tab pc al st h c s Q := by
  subst hn
  exact go_step hr (s_iload hg) kk
theorem g_aload_n {k : Fin 4} {q : Nat} (hr : a_row tab pc = some (pc, .aload_n k, len, a, b)) (hn : pc + len = n) (hg : a_get al k.val = some (.ref q)) (kk : Go xs d ret tab n al (.ref q :: st) h c s Q) : Go xs d ret tab pc al st h c s Q := by
  subst hn
  exact go_step hr (s_aload_n hg) kk
theorem g_aload {k : Nat} {q : Nat} (hr : a_row tab pc = some (pc, .aload k, len, a, b)) (hn : pc + len = n) (hg : a_get al k = some (.ref q)) (kk : Go xs d ret tab n al (.ref q :: st) h c s Q) : Go xs d ret tab pc al st h c s Q := by
  subst hn
  exact go_step hr (s_aload hg) kk
theorem g_istore_n {k : Fin 4} {x : Int32} (hr : a_row tab pc = some (pc, .istore_n k, len, a, b)) (hn : pc + len = n) (kk : Go xs d ret tab n (a_put al k.val (.int x)) st h c s Q) : Go xs d ret tab pc al (.int x :: st) h c s Q := by
  subst hn
  exact go_step hr (s_istore_n rfl) (go_al put_al kk)
theorem g_istore {k : Nat} {x : Int32} (hr : a_row tab pc = some (pc, .istore k, len, a, b)) (hn : pc + len = n) (kk : Go xs d ret tab n (a_put al k (.int x)) st h c s Q) : Go xs d ret tab pc al (.int x :: st) h c s Q := by
  subst hn
  exact go_step hr (s_istore rfl) (go_al put_al kk)
theorem g_astore_n {k : Fin 4} {q : Nat} (hr : a_row tab pc = some (pc, .astore_n k, len, a, b)) (hn : pc + len = n) (kk : Go xs d ret tab n (a_put al k.val (.ref q)) st h c s Q) : Go xs d ret tab pc al (.ref q :: st) h c s Q := by
  subst hn
  exact go_step hr s_astore_n (go_al put_al kk)
theorem g_astore {k : Nat} {q : Nat} (hr : a_row tab pc = some (pc, .astore k, len, a, b)) (hn : pc + len = n) (kk : Go xs d ret tab n (a_put al k (.ref q)) st h c s Q) : Go xs d ret tab pc al (.ref q :: st) h c s Q := by
  subst hn
  exact go_step hr s_astore (go_al put_al kk)
theorem g_iinc {k : Nat} {j : Int} {x v : Int32} (hr : a_row tab pc = some (pc, .iinc k j, len, a, b)) (hn : pc + len = n) (hg : a_get al k = some (.int x)) (hv : x + Int32.ofInt j = v) (kk : Go xs d ret tab n (a_put al k (.int v)) st h c s Q) : Go xs d ret tab pc al st h c s Q := by
  subst hn
  exact go_step hr (s_iinc hg hv rfl) (go_al put_al kk)
theorem g_iadd {x y : Int32} (hr : a_row tab pc = some (pc, .iadd, len, a, b)) (hn : pc + len = n) (kk : Go xs d ret tab n al (.int (x + y) :: st) h c s Q) : Go xs d ret tab pc al (.int y :: .int x :: st) h c s Q := by
  subst hn
  exact go_step hr (s_iadd rfl) kk
theorem g_isub {x y : Int32} (hr : a_row tab pc = some (pc, .isub, len, a, b)) (hn : pc + len = n) (kk : Go xs d ret tab n al (.int (x - y) :: st) h c s Q) : Go xs d ret tab pc al (.int y :: .int x :: st) h c s Q := by
  subst hn
  exact go_step hr (s_isub rfl) kk
theorem g_imul {x y : Int32} (hr : a_row tab pc = some (pc, .imul, len, a, b)) (hn : pc + len = n) (kk : Go xs d ret tab n al (.int (x * y) :: st) h c s Q) : Go xs d ret tab pc al (.int y :: .int x :: st) h c s Q := by
  subst hn
  exact go_step hr (s_imul rfl) kk
theorem g_idiv {x y : Int32} (hr : a_row tab pc = some (pc, .idiv, len, a, b)) (hn : pc + len = n) (hy : Nat.beq y.toBitVec.toNat 0 = false) (kk : Go xs d ret tab n al (.int (x / y) :: st) h c s Q) : Go xs d ret tab pc al (.int y :: .int x :: st) h c s Q := by
  subst hn
  exact go_step hr (s_idiv hy rfl) kk
theorem g_irem {x y : Int32} (hr : a_row tab pc = some (pc, .irem, len, a, b)) (hn : pc + len = n) (hy : Nat.beq y.toBitVec.toNat 0 = false) (kk : Go xs d ret tab n al (.int (x - x / y * y) :: st) h c s Q) : Go xs d ret tab pc al (.int y :: .int x :: st) h c s Q := by
  subst hn
  exact go_step hr (s_irem hy rfl) kk
theorem g_iand {x y : Int32} (hr : a_row tab pc = some (pc, .iand, len, a, b)) (hn : pc + len = n) (kk : Go xs d ret tab n al (.int (x &&& y) :: st) h c s Q) : Go xs d ret tab pc al (.int y :: .int x :: st) h c s Q := by
  subst hn
  exact go_step hr (s_iand rfl) kk
theorem g_ior {x y : Int32} (hr : a_row tab pc = some (pc, .ior, len, a, b)) (hn : pc + len = n) (kk : Go xs d ret tab n al (.int (x ||| y) :: st) h c s Q) : Go xs d ret tab pc al (.int y :: .int x :: st) h c s Q := by
  subst hn
  exact go_step hr (s_ior rfl) kk
theorem g_ixor {x y : Int32} (hr : a_row tab pc = some (pc, .ixor, len, a, b)) (hn : pc + len = n) (kk : Go xs d ret tab n al (.int (x ^^^ y) :: st) h c s Q) : Go xs d ret tab pc al (.int y :: .int x :: st) h c s Q := by
  subst hn
  exact go_step hr s_ixor kk
theorem g_ishl {x y : Int32} (hr : a_row tab pc = some (pc, .ishl, len, a, b)) (hn : pc + len = n) (kk : Go xs d ret tab n al (.int (x <<< (y &&& 31)) :: st) h c s Q) : Go xs d ret tab pc al (.int y :: .int x :: st) h c s Q := by
  subst hn
  exact go_step hr (s_ishl rfl) kk
theorem g_ishr {x y : Int32} (hr : a_row tab pc = some (pc, .ishr, len, a, b)) (hn : pc + len = n) (kk : Go xs d ret tab n al (.int (x >>> (y &&& 31)) :: st) h c s Q) : Go xs d ret tab pc al (.int y :: .int x :: st) h c s Q := by
  subst hn
  exact go_step hr (s_ishr rfl) kk
theorem g_iushr {x y : Int32} (hr : a_row tab pc = some (pc, .iushr, len, a, b)) (hn : pc + len = n) (kk : Go xs d ret tab n al (.int ((x.toUInt32 >>> (y.toUInt32 &&& Int32.toUInt32 31)).toInt32) :: st) h c s Q) : Go xs d ret tab pc al (.int y :: .int x :: st) h c s Q := by
  subst hn
  exact go_step hr s_iushr kk
theorem g_goto {f : Int} (hr : a_row tab pc = some (pc, .goto f, len, a, b)) (kk : Go xs d ret tab a al st h c s Q) : Go xs d ret tab pc al st h c s Q := go_step hr s_goto kk
theorem g_dup {v : Value} (hr : a_row tab pc = some (pc, .dup, len, a, b)) (hn : pc + len = n) (kk : Go xs d ret tab n al (v :: v :: st) h c s Q) : Go xs d ret tab pc al (v :: st) h c s Q := by
  subst hn
  exact go_step hr rfl kk
theorem g_pop {v : Value} (hr : a_row tab pc = some (pc, .pop, len, a, b)) (hn : pc + len = n) (kk : Go xs d ret tab n al st h c s Q) : Go xs d ret tab pc al (v :: st) h c s Q := by
  subst hn
  exact go_step hr rfl kk
theorem g_dup2 {v w : Value} (hr : a_row tab pc = some (pc, .dup2, len, a, b)) (hn : pc + len = n) (kk : Go xs d ret tab n al (v :: w :: v :: w :: st) h c s Q) : Go xs d ret tab pc al (v :: w :: st) h c s Q := by
  subst hn
  exact go_step hr rfl kk
theorem g_dup_x1 {v w : Value} (hr : a_row tab pc = some (pc, .dup_x1, len, a, b)) (hn : pc + len = n) (kk : Go xs d ret tab n al (v :: w :: v :: st) h c s Q) : Go xs d ret tab pc al (v :: w :: st) h c s Q := by
  subst hn
  exact go_step hr rfl kk
-- branches
theorem g_ieq {f : Int} {x y : Int32} (hr : a_row tab pc = some (pc, .if_icmp .eq f, len, a, b)) (hn : pc + len = n) (kt : x = y → Go xs d ret tab a al st h c s Q) (kf : ¬ x = y → Go xs d ret tab n al st h c s Q) : Go xs d ret tab pc al (.int y :: .int x :: st) h c s Q := by
  subst hn
  by_cases e : x = y
  · exact go_step hr (s_icT (ic_eq e)) (kt e)
  · exact go_step hr (s_icF (ic_neq e)) (kf e)
theorem g_ine {f : Int} {x y : Int32} (hr : a_row tab pc = some (pc, .if_icmp .ne f, len, a, b)) (hn : pc + len = n) (kt : ¬ x = y → Go xs d ret tab a al st h c s Q) (kf : x = y → Go xs d ret tab n al st h c s Q) : Go xs d ret tab pc al (.int y :: .int x :: st) h c s Q := by
  subst hn
  by_cases e : x = y
  · exact go_step hr (s_icF (ic_nne e)) (kf e)
  · exact go_step hr (s_icT (ic_ne e)) (kt e)
theorem g_ilt {f : Int} {x y : Int32} (hr : a_row tab pc = some (pc, .if_icmp .lt f, len, a, b)) (hn : pc + len = n) (kt : x < y → Go xs d ret tab a al st h c s Q) (kf : y ≤ x → Go xs d ret tab n al st h c s Q) : Go xs d ret tab pc al (.int y :: .int x :: st) h c s Q := by
  subst hn
  by_cases e : x < y
  · exact go_step hr (s_icT (ic_lt e)) (kt e)
  · exact go_step hr (s_icF (ic_nlt e)) (kf (Int32.not_lt.mp e))
theorem g_ige {f : Int} {x y : Int32} (hr : a_row tab pc = some (pc, .if_icmp .ge f, len, a, b)) (hn : pc + len = n) (kt : y ≤ x → Go xs d ret tab a al st h c s Q) (kf : x < y → Go xs d ret tab n al st h c s Q) : Go xs d ret tab pc al (.int y :: .int x :: st) h c s Q := by
  subst hn
  by_cases e : y ≤ x
  · exact go_step hr (s_icT (ic_ge e)) (kt e)
  · exact go_step hr (s_icF (ic_nge e)) (kf (Int32.not_le.mp e))
theorem g_igt {f : Int} {x y : Int32} (hr : a_row tab pc = some (pc, .if_icmp .gt f, len, a, b)) (hn : pc + len = n) (kt : y < x → Go xs d ret tab a al st h c s Q) (kf : x ≤ y → Go xs d ret tab n al st h c s Q) : Go xs d ret tab pc al (.int y :: .int x :: st) h c s Q := by
  subst hn
  by_cases e : y < x
  · exact go_step hr (s_icT (ic_gt e)) (kt e)
  · exact go_step hr (s_icF (ic_ngt e)) (kf (Int32.not_lt.mp e))
theorem g_ile {f : Int} {x y : Int32} (hr : a_row tab pc = some (pc, .if_icmp .le f, len, a, b)) (hn : pc + len = n) (kt : x ≤ y → Go xs d ret tab a al st h c s Q) (kf : y < x → Go xs d ret tab n al st h c s Q) : Go xs d ret tab pc al (.int y :: .int x :: st) h c s Q := by
  subst hn
  by_cases e : x ≤ y
  · exact go_step hr (s_icT (ic_le e)) (kt e)
  · exact go_step hr (s_icF (ic_nle e)) (kf (Int32.not_le.mp e))
theorem g_zeq {f : Int} {x : Int32} (hr : a_row tab pc = some (pc, .ifCond .eq f, len, a, b)) (hn : pc + len = n) (kt : x = 0 → Go xs d ret tab a al st h c s Q) (kf : ¬ x = 0 → Go xs d ret tab n al st h c s Q) : Go xs d ret tab pc al (.int x :: st) h c s Q := by
  subst hn
  by_cases e : x = 0
  · exact go_step hr (s_ifT (ic_eq e)) (kt e)
  · exact go_step hr (s_ifF (ic_neq e)) (kf e)
theorem g_zne {f : Int} {x : Int32} (hr : a_row tab pc = some (pc, .ifCond .ne f, len, a, b)) (hn : pc + len = n) (kt : ¬ x = 0 → Go xs d ret tab a al st h c s Q) (kf : x = 0 → Go xs d ret tab n al st h c s Q) : Go xs d ret tab pc al (.int x :: st) h c s Q := by
  subst hn
  by_cases e : x = 0
  · exact go_step hr (s_ifF (ic_nne e)) (kf e)
  · exact go_step hr (s_ifT (ic_ne e)) (kt e)
theorem g_zlt {f : Int} {x : Int32} (hr : a_row tab pc = some (pc, .ifCond .lt f, len, a, b)) (hn : pc + len = n) (kt : x < 0 → Go xs d ret tab a al st h c s Q) (kf : 0 ≤ x → Go xs d ret tab n al st h c s Q) : Go xs d ret tab pc al (.int x :: st) h c s Q := by
  subst hn
  by_cases e : x < 0
  · exact go_step hr (s_ifT (ic_lt e)) (kt e)
  · exact go_step hr (s_ifF (ic_nlt e)) (kf (Int32.not_lt.mp e))
theorem g_zge {f : Int} {x : Int32} (hr : a_row tab pc = some (pc, .ifCond .ge f, len, a, b)) (hn : pc + len = n) (kt : 0 ≤ x → Go xs d ret tab a al st h c s Q) (kf : x < 0 → Go xs d ret tab n al st h c s Q) : Go xs d ret tab pc al (.int x :: st) h c s Q := by
  subst hn
  by_cases e : 0 ≤ x
  · exact go_step hr (s_ifT (ic_ge e)) (kt e)
  · exact go_step hr (s_ifF (ic_nge e)) (kf (Int32.not_le.mp e))
theorem g_zgt {f : Int} {x : Int32} (hr : a_row tab pc = some (pc, .ifCond .gt f, len, a, b)) (hn : pc + len = n) (kt : 0 < x → Go xs d ret tab a al st h c s Q) (kf : x ≤ 0 → Go xs d ret tab n al st h c s Q) : Go xs d ret tab pc al (.int x :: st) h c s Q := by
  subst hn
  by_cases e : 0 < x
  · exact go_step hr (s_ifT (ic_gt e)) (kt e)
  · exact go_step hr (s_ifF (ic_ngt e)) (kf (Int32.not_lt.mp e))
theorem g_zle {f : Int} {x : Int32} (hr : a_row tab pc = some (pc, .ifCond .le f, len, a, b)) (hn : pc + len = n) (kt : x ≤ 0 → Go xs d ret tab a al st h c s Q) (kf : 0 < x → Go xs d ret tab n al st h c s Q) : Go xs d ret tab pc al (.int x :: st) h c s Q := by
  subst hn
  by_cases e : x ≤ 0
  · exact go_step hr (s_ifT (ic_le e)) (kt e)
  · exact go_step hr (s_ifF (ic_nle e)) (kf (Int32.not_le.mp e))
/-- a truth value as an int -/
def bI (t : Bool) : Int32 := bif t then 1 else 0
theorem bI01 {t : Bool} : bI t = 0 ∨ bI t = 1 := by cases t <;> decide
theorem g_bz {f : Int} {t : Bool} (hr : a_row tab pc = some (pc, .ifCond .eq f, len, a, b)) (hn : pc + len = n) (kt : t = false → Go xs d ret tab a al st h c s Q) (kf : t = true → Go xs d ret tab n al st h c s Q) : Go xs d ret tab pc al (.int (bI t) :: st) h c s Q := by
  refine g_zeq hr hn (fun e => kt ?_) (fun e => kf ?_) <;> cases t <;> revert e <;> decide
theorem g_bnz {f : Int} {t : Bool} (hr : a_row tab pc = some (pc, .ifCond .ne f, len, a, b)) (hn : pc + len = n) (kt : t = true → Go xs d ret tab a al st h c s Q) (kf : t = false → Go xs d ret tab n al st h c s Q) : Go xs d ret tab pc al (.int (bI t) :: st) h c s Q := by
  refine g_zne hr hn (fun e => kt ?_) (fun e => kf ?_) <;> cases t <;> revert e <;> decide
-- cells
theorem g_getI {k q : Nat} {cs : List (Option Value)} (hr : a_row tab pc = some (pc, .getfield k, len, a, b)) (hn : pc + len = n) (hz : a_at Z q = some (.inr (.inr (a, cs)))) (hc : a_at cs b = some none) (kk : Go xs d ret tab n al (.int (M q b) :: st) (hp Z M) c s Q) : Go xs d ret tab pc al (.ref q :: st) (hp Z M) c s Q := by
  subst hn
  refine go_step hr (s_getf (hp_at hz) (v := .int (M q b)) ?_) kk
  have := fvs_at (f := M q) (i := 0) hc
  rw [Nat.zero_add] at this
  exact this
theorem g_getR {k q : Nat} {v : Value} {cs : List (Option Value)} (hr : a_row tab pc = some (pc, .getfield k, len, a, b)) (hn : pc + len = n) (hz : a_at Z q = some (.inr (.inr (a, cs)))) (hc : a_at cs b = some (some v)) (kk : Go xs d ret tab n al (v :: st) (hp Z M) c s Q) : Go xs d ret tab pc al (.ref q :: st) (hp Z M) c s Q := by
  subst hn
  exact go_step hr (s_getf (hp_at hz) (fvs_at (f := M q) (i := 0) hc)) kk
theorem g_putI {k q : Nat} {x : Int32} {cs : List (Option Value)} (hr : a_row tab pc = some (pc, .putfield k, len, a, b)) (hn : pc + len = n) (hz : a_at Z q = some (.inr (.inr (a, cs)))) (hc : a_at cs b = some none) (hf : a_fok (a_ty a b) (.int x) = true) (kk : Go xs d ret tab n al st (hp Z (mup M q b x)) c s Q) : Go xs d ret tab pc al (.int x :: .ref q :: st) (hp Z M) c s Q := by
  subst hn
  refine go_step hr (s_putf (hp_at hz) hf (by rw [fvs_len]; exact at_lt hc) rfl (by rw [hp_len]; exact at_lt hz) ?_) kk
  rw [← hp_set (M := M) (M' := mup M q b x) hz (fun a ha => mup_q ha)]
  congr 1
  show _ = (Sum.inr (Sum.inr (a, fvs (mup M q b x q) 0 cs)) : AC)
  have h2 := fvs_set (f := M q) (g := mup M q b x q) (i := 0) hc (fun j hj => mup_j (by omega))
  rw [Nat.zero_add, mup_same] at h2
  rw [h2]
theorem g_iald {q j w : Nat} {i : Int32} (hr : a_row tab pc = some (pc, .iaload, len, a, b)) (hn : pc + len = n) (hz : a_at Z q = some (.inl w)) (hw : Nat.ble w 2000 = true) (hi : i = Int32.ofNat j) (hj : j < w) (kk : Go xs d ret tab n al (.int (M q j) :: st) (hp Z M) c s Q) : Go xs d ret tab pc al (.int i :: .ref q :: st) (hp Z M) c s Q := by
  subst hn hi
  have hw := Nat.le_of_ble_eq_true hw
  refine go_step hr (s_iaload (idx_nI (by omega)) (hp_at hz) ?_) kk
  rw [a_at_eq]
  simp [hj]
theorem g_iast {q j w : Nat} {i x : Int32} (hr : a_row tab pc = some (pc, .iastore, len, a, b)) (hn : pc + len = n) (hz : a_at Z q = some (.inl w)) (hw : Nat.ble w 2000 = true) (hi : i = Int32.ofNat j) (hj : j < w) (kk : Go xs d ret tab n al st (hp Z (mup M q j x)) c s Q) : Go xs d ret tab pc al (.int x :: .int i :: .ref q :: st) (hp Z M) c s Q := by
  subst hn hi
  have hw := Nat.le_of_ble_eq_true hw
  refine go_step hr (s_iastore (idx_nI (by omega)) (hp_at hz) (by simpa using hj) rfl (by rw [hp_len]; exact at_lt hz) ?_) kk
  rw [← hp_set (M := M) (M' := mup M q j x) hz (fun a ha => mup_q ha)]
  congr 2
  apply List.ext_getElem?
  intro k
  by_cases hk : j = k
  · subst hk
    rw [List.getElem?_set_self (by simpa using hj)]
    simp [hj, mup_same]
  · rw [List.getElem?_set_ne hk]
    by_cases hk2 : k < w
    · simp [hk2, mup_j (show k ≠ j from fun e => hk e.symm)]
    · simp [hk2]
theorem g_alen {q w : Nat} (hr : a_row tab pc = some (pc, .arraylength, len, a, b)) (hn : pc + len = n) (hz : a_at Z q = some (.inl w)) (kk : Go xs d ret tab n al (.int (Int32.ofNat w) :: st) (hp Z M) c s Q) : Go xs d ret tab pc al (.ref q :: st) (hp Z M) c s Q := by
  subst hn
  exact go_step hr (s_alen (hp_at hz) (by simp)) kk
theorem g_max {x y : Int32} {k : Nat} (hr : a_row tab pc = some (pc, .invokestatic k, len, a, 3)) (hn : pc + len = n) (hl : Nat.ble st.length 8 = true) (kk : Go xs d ret tab n al (.int (if x < y then y else x) :: st) h c s Q) : Go xs d ret tab pc al (.int y :: .int x :: st) h c s Q := by
  subst hn
  have hl := Nat.le_of_ble_eq_true hl
  have hl2 : Nat.ble (Value.int y :: Value.int x :: st).length 10 = true := Nat.ble_eq.mpr (by simp; omega)
  refine go_step (pc' := pc + len) (al' := al) (st' := .int (if x < y then y else x) :: st) (h' := h) (dc := 0) (ds := 0) hr ?_ kk
  have h0 : Nat.beq 3 2 = false := rfl
  have h1 : Nat.blt 0 (d + 1) = true := Nat.blt_eq.mpr (by omega)
  have h3 : Nat.beq 3 3 = true := rfl
  simp only [a_step, h0, h1, h3, hl2, Bool.false_and, cond_false, Bool.and_self, cond_true, a_key_lt]
  by_cases e : x < y <;> simp [e]
theorem g_min {x y : Int32} {k : Nat} (hr : a_row tab pc = some (pc, .invokestatic k, len, a, 4)) (hn : pc + len = n) (hl : Nat.ble st.length 8 = true) (kk : Go xs d ret tab n al (.int (if y < x then y else x) :: st) h c s Q) : Go xs d ret tab pc al (.int y :: .int x :: st) h c s Q := by
  subst hn
  have hl := Nat.le_of_ble_eq_true hl
  have hl2 : Nat.ble (Value.int y :: Value.int x :: st).length 10 = true := Nat.ble_eq.mpr (by simp; omega)
  refine go_step (pc' := pc + len) (al' := al) (st' := .int (if y < x then y else x) :: st) (h' := h) (dc := 0) (ds := 0) hr ?_ kk
  have h0 : Nat.beq 4 2 = false := rfl
  have h1 : Nat.blt 0 (d + 1) = true := Nat.blt_eq.mpr (by omega)
  have h3 : Nat.beq 4 3 = false := rfl
  have h4 : Nat.beq 4 4 = true := rfl
  simp only [a_step, h0, h1, h3, h4, hl2, Bool.false_and, cond_false, Bool.and_self, cond_true, a_key_lt]
  by_cases e : y < x <;> simp [e]
/-- System.arraycopy of whole rows of ints -/
theorem g_copy {q0 q1 w0 w1 j : Nat} {k : Nat} {kI : Int32} (hr : a_row tab pc = some (pc, .invokestatic k, len, a, 2)) (hn : pc + len = n) (hl : Nat.ble st.length 8 = true) (hz0 : a_at Z q0 = some (.inl w0)) (hz1 : a_at Z q1 = some (.inl w1)) (hk : kI = Int32.ofNat j) (h0 : j ≤ w0) (h1 : j ≤ w1) (h2 : Nat.ble w1 2000 = true) (kk : Go xs d ret tab n al st (hp Z (mcp M q0 q1 j)) c s Q) : Go xs d ret tab pc al (.int kI :: .int 0 :: .ref q1 :: .int 0 :: .ref q0 :: st) (hp Z M) c s Q := by
  subst hn hk
  have hl := Nat.le_of_ble_eq_true hl
  have h2 := Nat.le_of_ble_eq_true h2
  refine go_step (pc' := pc + len) (al' := al) (st' := st) (h' := hp Z (mcp M q0 q1 j)) (dc := 0) (ds := 0) hr ?_ kk
  have g0 : Nat.beq 2 2 = true := rfl
  have g1 : Nat.blt 0 (d + 1) = true := Nat.blt_eq.mpr (by omega)
  have g2 : Nat.ble (Value.int (Int32.ofNat j) :: .int 0 :: .ref q1 :: .int 0 :: .ref q0 :: st).length 13 = true := Nat.ble_eq.mpr (by simp; omega)
  have g3 : a_idx (Int32.ofNat j) = some j := idx_nI (by omega)
  have g4 : a_idx 0 = some 0 := by decide
  have g5 : (Nat.ble (0 + j) ((List.range w0).map (M q0)).length && Nat.ble (0 + j) ((List.range w1).map (M q1)).length) = true := by
    simp only [Bool.and_eq_true, Nat.ble_eq, List.length_map, List.length_range]
    omega
  simp only [a_step, g0, g1, g2, Bool.and_self, cond_true, hp_at hz0, hp_at hz1, cellOf, g3, g4, g5]
  rw [a_set_eq, if_pos (by rw [hp_len]; exact at_lt hz1)]
  congr 5
  rw [← hp_set (M := M) (M' := mcp M q0 q1 j) hz1 (fun a ha => mcp_q ha)]
  congr 2
  have hl2 : (((List.range w0).map (M q0)).take j).length = j := by simp; omega
  rw [List.take_zero, List.nil_append, List.drop_zero, Nat.zero_add]
  apply List.ext_getElem?
  intro i
  by_cases hi : i < j
  · have e1 : mcp M q0 q1 j q1 i = M q0 i := mcp_same hi
    rw [List.getElem?_append_left (by rw [hl2]; exact hi), List.getElem?_take, if_pos hi]
    simp [e1, Nat.lt_of_lt_of_le hi h0, Nat.lt_of_lt_of_le hi h1]
  · have e1 : mcp M q0 q1 j q1 i = M q1 i := by
      have : Nat.blt i j = false := by
        cases hb : Nat.blt i j with
        | false => rfl
        | true => exact absurd (Nat.blt_eq.mp hb) hi
      simp [mcp, this]
    rw [List.getElem?_append_right (by rw [hl2]; omega), hl2, List.getElem?_drop, show j + (i - j) = i by omega]
    by_cases hw : i < w1 <;> simp [hw, e1]
end GO
