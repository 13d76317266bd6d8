/-! What a table must be, for the JVM to do what the small machine does -/
def a_len (i : Instr) (n : Nat) : Nat := match i with
  | .bipush _ | .ldc _ | .iload _ | .aload _ | .istore _ | .astore _ | .newarray _ => 2
  | .sipush _ | .ldc_w _ | .iinc _ _ | .goto _ | .ifCond _ _ | .if_icmp _ _ | .if_acmp _ _ | .getfield _ | .putfield _ | .getstatic _ | .anewarray _ | .new _ | .checkcast _ | .invokespecial _ | .invokestatic _ | .invokevirtual _ => 3
  | .tableswitch _ _ _ _ => n
  | _ => 1
/-- the row's words stand in the lists of links -/
def okI (o : Nat) (y : MethodName) (maxL pc : Nat) (i : Instr) (a b : Nat) : Bool := match i with
  | .istore_n k => Nat.blt k.val maxL
  | .astore_n k => Nat.blt k.val maxL
  | .istore k => Nat.blt k maxL
  | .astore k => Nat.blt k maxL
  | .iinc k _ => Nat.blt k maxL
  | .ldc k => bif Nat.beq b 5 then decide ((o, k) ∈ DLl) else decide ((o, k, a) ∈ KLl)
  | .ldc_w k => decide ((o, k, a) ∈ KLl)
  | .goto f => decide ((pc : Int) + f = (a : Int))
  | .ifCond _ f => decide ((pc : Int) + f = (a : Int))
  | .if_icmp _ f => decide ((pc : Int) + f = (a : Int))
  | .if_acmp _ f => decide ((pc : Int) + f = (a : Int))
  | .getfield k => decide ((o, k, a, b) ∈ FLl)
  | .putfield k => decide ((o, k, a, b) ∈ FLl) && (match vwCl[a]? with
    | some q => !(q.2.1 b).2.2.2 || (decide (y.name = "<init>") && decide ((q.2.1 b).1 = ON o))
    | none => false)
  | .getstatic k => decide ((o, k) ∈ SLl)
  | .new k => decide ((o, k, a, b) ∈ NLl)
  | .checkcast k => decide ((o, k, a) ∈ CLl)
  | .anewarray k => decide ((o, k) ∈ ALl)
  | .invokevirtual k => bif Nat.beq b 2 then decide ((o, k) ∈ GLl) else decide ((o, k, a, 0) ∈ MLl)
  | .invokespecial k => bif Nat.beq b 2 then decide ((o, k) ∈ OLl) else decide ((o, k, a, 1 + 2 * b) ∈ MLl)
  | .invokestatic k => bif Nat.beq b 2 then decide ((o, k) ∈ PLl) else bif Nat.beq b 3 then decide ((o, k) ∈ XLl) else bif Nat.beq b 4 then decide ((o, k) ∈ YLl) else decide ((o, k, a, 4 + b) ∈ MLl)
  | _ => true
def okR (o : Nat) (y : MethodName) (maxL : Nat) (cc : ByteArray) (r : ARow) : Bool :=
  decide (decode cc r.1 = .ok (r.2.1, r.2.2.1)) && (Nat.beq r.2.2.1 (a_len r.2.1 r.2.2.1) && okI o y maxL r.1 r.2.1 r.2.2.2.1 r.2.2.2.2)
theorem okR_spec {o : Nat} {y : MethodName} {maxL : Nat} {cc : ByteArray} {r : ARow} (h : okR o y maxL cc r = true) : decode cc r.1 = .ok (r.2.1, r.2.2.1) ∧ r.2.2.1 = a_len r.2.1 r.2.2.1 ∧ okI o y maxL r.1 r.2.1 r.2.2.2.1 r.2.2.2.2 = true := by
  simp only [okR, Bool.and_eq_true, decide_eq_true_eq] at h
  exact ⟨h.1, Nat.eq_of_beq_eq_true h.2.1, h.2.2⟩
theorem a_row_spec {t : List ARow} {pc : Nat} {r : ARow} (h : a_row t pc = some r) : r ∈ t ∧ r.1 = pc := by
  induction t with
  | nil => cases h
  | cons q t ih =>
    unfold a_row at h
    cases hb : Nat.beq q.1 pc with
    | false =>
      rw [hb] at h
      have := ih h
      exact ⟨List.mem_cons_of_mem _ this.1, this.2⟩
    | true =>
      rw [hb] at h
      cases h
      exact ⟨List.mem_cons_self, Nat.eq_of_beq_eq_true hb⟩
-- the links: a word by its place
def inWi (i : Nat) (w : Cond) : Bool := decide (a_at lw_tbl i = some w) && goodWord w
theorem inWi_spec {i : Nat} {w : Cond} (h : inWi i w = true) : w ∈ GW := by
  simp only [inWi, Bool.and_eq_true, decide_eq_true_eq] at h
  rw [a_at_eq] at h
  exact GW_in (List.mem_of_getElem? h.1) h.2
def okF (x : Nat × Nat × Nat × Nat) (i : Nat) : Bool := match vwCl[x.2.2.1]? with
  | some q => Nat.blt x.2.2.2 q.2.2 && (inWi i (.fieldLink (ON x.1) x.2.1 (q.2.1 x.2.2.2).1 (q.2.1 x.2.2.2).2.1 (q.2.1 x.2.2.2).2.2.1) || (inWi i (.fieldLink (ON x.1) x.2.1 q.1 (q.2.1 x.2.2.2).2.1 (q.2.1 x.2.2.2).2.2.1) && inW (.sameField q.1 (q.2.1 x.2.2.2).1 (q.2.1 x.2.2.2).2.1 (q.2.1 x.2.2.2).2.2.1)))
  | none => false
def PF (x : Nat × Nat × Nat × Nat) : Prop := ∃ q : vw_C, vwCl[x.2.2.1]? = some q ∧ x.2.2.2 < q.2.2 ∧ ∃ ref : String, Cond.fieldLink (ON x.1) x.2.1 ref (q.2.1 x.2.2.2).2.1 (q.2.1 x.2.2.2).2.2.1 ∈ GW ∧ (ref = (q.2.1 x.2.2.2).1 ∨ Cond.sameField ref (q.2.1 x.2.2.2).1 (q.2.1 x.2.2.2).2.1 (q.2.1 x.2.2.2).2.2.1 ∈ GW)
theorem okF_spec {x : Nat × Nat × Nat × Nat} {i : Nat} (h : okF x i = true) : PF x := by
  unfold okF at h
  split at h
  · rename_i q hq
    simp only [Bool.and_eq_true, Bool.or_eq_true, Nat.blt_eq] at h
    refine ⟨q, hq, h.1, ?_⟩
    rcases h.2 with h2 | h2
    · exact ⟨_, inWi_spec h2, Or.inl rfl⟩
    · exact ⟨_, inWi_spec h2.1, Or.inr (inW_spec h2.2)⟩
  · cases h
def okN (x : Nat × Nat × Nat × Nat) (i : Nat × Nat × Nat) : Bool := match vwCl[x.2.2.1]? with
  | some q => Nat.beq x.2.2.2 q.2.2 && (inWi i.1 (.classLink (ON x.1) x.2.1 q.1) && (inWi i.2.1 (.instantiable q.1 q.2.2) && inWi i.2.2 (.initialized q.1)))
  | none => false
def PN (x : Nat × Nat × Nat × Nat) : Prop := ∃ q : vw_C, vwCl[x.2.2.1]? = some q ∧ x.2.2.2 = q.2.2 ∧ Cond.classLink (ON x.1) x.2.1 q.1 ∈ GW ∧ Cond.instantiable q.1 q.2.2 ∈ GW ∧ Cond.initialized q.1 ∈ GW
theorem okN_spec {x : Nat × Nat × Nat × Nat} {i : Nat × Nat × Nat} (h : okN x i = true) : PN x := by
  unfold okN at h
  split at h
  · rename_i q hq
    simp only [Bool.and_eq_true] at h
    exact ⟨q, hq, Nat.eq_of_beq_eq_true h.1, inWi_spec h.2.1, inWi_spec h.2.2.1, inWi_spec h.2.2.2⟩
  · cases h
def okC (x : Nat × Nat × Nat) : Bool := match vwCl[x.2.2]? with
  | some q => inW (.classLink (ON x.1) x.2.1 q.1)
  | none => false
def PC (x : Nat × Nat × Nat) : Prop := ∃ q : vw_C, vwCl[x.2.2]? = some q ∧ Cond.classLink (ON x.1) x.2.1 q.1 ∈ GW
theorem okC_spec {x : Nat × Nat × Nat} (h : okC x = true) : PC x := by
  unfold okC at h
  split at h
  · rename_i q hq
    exact ⟨q, hq, inW_spec h⟩
  · cases h
def okK (x : Nat × Nat × Nat) : Bool := inW (.constant (ON x.1) x.2.1 (Int32.ofNat x.2.2))
def okO (x : Nat × Nat) : Bool := inW (.methodLink (ON x.1) x.2 objectInit)
def okP (x : Nat × Nat) : Bool := inW (.methodLink (ON x.1) x.2 arraycopyName)
def okX (x : Nat × Nat) : Bool := inW (.methodLink (ON x.1) x.2 Lib.Math.max.name)
def okY (x : Nat × Nat) : Bool := inW (.methodLink (ON x.1) x.2 Lib.Math.min.name)
def okS (x : Nat × Nat) : Bool := inW (.fieldLink (ON x.1) x.2 "java/util/ArrayList" "DEFAULTCAPACITY_EMPTY_ELEMENTDATA" "[Ljava/lang/Object;")
def okD (x : Nat × Nat) : Bool := inW (.classLink (ON x.1) x.2 "[Ljava/lang/Object;")
def okG (x : Nat × Nat) : Bool := inW (.methodLink (ON x.1) x.2 getClassN)
def okA (x : Nat × Nat) : Bool := inW (.classLink (ON x.1) x.2 "java/lang/Object")
def a_clsn (m : AM) : Bool := match vwCl[m.2.2.2.2.1]? with
  | some q => decide (q.1 = m.1.cls)
  | none => false
def okL (x : Nat × Nat × Nat × Nat) (i : Nat × Nat × Nat × Nat) : Bool := match a_at MT x.2.2.1 with
  | none => false
  | some m => match x.2.2.2 with
    | 0 => inWi i.1 (.methodLink (ON x.1) x.2.1 m.1) && (inWi i.2.1 (.instanceMethod m.1) && (inWi i.2.2.1 (.selects m.1.cls m.1 m.1) && (inWi i.2.2.2 (.initialized m.1.cls) && a_clsn m)))
    | 1 => inWi i.1 (.methodLink (ON x.1) x.2.1 m.1) && (inWi i.2.1 (.instanceMethod m.1) && (inWi i.2.2.2 (.initialized m.1.cls) && (decide (m.1.name = "<init>") && decide (m.2.2.2.1 = none))))
    | 3 => decide (Cond.methodLinkNest (ON x.1) x.2.1 m.1 RX8 ∈ NWL) && (inWi i.2.1 (.instanceMethod m.1) && (inWi i.2.2.2 (.initialized m.1.cls) && (decide (m.1.name = "<init>") && decide (m.2.2.2.1 = none))))
    | 4 => inWi i.1 (.methodLink (ON x.1) x.2.1 m.1) && (inWi i.2.1 (.static m.1) && inWi i.2.2.2 (.initialized m.1.cls))
    | 5 => decide (Cond.methodLinkNest (ON x.1) x.2.1 m.1 RX8 ∈ NWL) && (inWi i.2.1 (.static m.1) && inWi i.2.2.2 (.initialized m.1.cls))
    | _ => false
def PL (x : Nat × Nat × Nat × Nat) : Prop := ∃ m : AM, a_at MT x.2.2.1 = some m ∧
  ((x.2.2.2 = 0 ∧ Cond.methodLink (ON x.1) x.2.1 m.1 ∈ GW ∧ Cond.instanceMethod m.1 ∈ GW ∧ Cond.selects m.1.cls m.1 m.1 ∈ GW ∧ Cond.initialized m.1.cls ∈ GW ∧ a_clsn m = true) ∨
   (x.2.2.2 = 1 ∧ Cond.methodLink (ON x.1) x.2.1 m.1 ∈ GW ∧ Cond.instanceMethod m.1 ∈ GW ∧ Cond.initialized m.1.cls ∈ GW ∧ m.1.name = "<init>" ∧ m.2.2.2.1 = none) ∨
   (x.2.2.2 = 3 ∧ Cond.methodLinkNest (ON x.1) x.2.1 m.1 RX8 ∈ NWL ∧ Cond.instanceMethod m.1 ∈ GW ∧ Cond.initialized m.1.cls ∈ GW ∧ m.1.name = "<init>" ∧ m.2.2.2.1 = none) ∨
   (x.2.2.2 = 4 ∧ Cond.methodLink (ON x.1) x.2.1 m.1 ∈ GW ∧ Cond.static m.1 ∈ GW ∧ Cond.initialized m.1.cls ∈ GW) ∨
   (x.2.2.2 = 5 ∧ Cond.methodLinkNest (ON x.1) x.2.1 m.1 RX8 ∈ NWL ∧ Cond.static m.1 ∈ GW ∧ Cond.initialized m.1.cls ∈ GW))
theorem okL_spec {x : Nat × Nat × Nat × Nat} {i : Nat × Nat × Nat × Nat} (h : okL x i = true) : PL x := by
  unfold okL at h
  split at h
  · cases h
  · rename_i m hm
    refine ⟨m, hm, ?_⟩
    split at h
    · rename_i e
      simp only [Bool.and_eq_true] at h
      exact Or.inl ⟨e, inWi_spec h.1, inWi_spec h.2.1, inWi_spec h.2.2.1, inWi_spec h.2.2.2.1, h.2.2.2.2⟩
    · rename_i e
      simp only [Bool.and_eq_true, decide_eq_true_eq] at h
      exact Or.inr (Or.inl ⟨e, inWi_spec h.1, inWi_spec h.2.1, inWi_spec h.2.2.1, h.2.2.2.1, h.2.2.2.2⟩)
    · rename_i e
      simp only [Bool.and_eq_true, decide_eq_true_eq] at h
      exact Or.inr (Or.inr (Or.inl ⟨e, h.1, inWi_spec h.2.1, inWi_spec h.2.2.1, h.2.2.2.1, h.2.2.2.2⟩))
    · rename_i e
      simp only [Bool.and_eq_true] at h
      exact Or.inr (Or.inr (Or.inr (Or.inl ⟨e, inWi_spec h.1, inWi_spec h.2.1, inWi_spec h.2.2⟩)))
    · rename_i e
      simp only [Bool.and_eq_true, decide_eq_true_eq] at h
      exact Or.inr (Or.inr (Or.inr (Or.inr ⟨e, h.1, inWi_spec h.2.1, inWi_spec h.2.2⟩)))
    · cases h
def okM (m : AM) (i : Nat) : Bool := inWi i (.code m.1 m.2.1 m.2.2.1 m.2.2.2.1) && (plainName m.1.cls && (decide (m.1.cls ≠ "java/lang/invoke/MethodHandle") && (decide (m.1.cls ≠ "java/lang/invoke/VarHandle") && (decide ((parseMethodDescriptor m.1.desc).map (fun d => d.parameters.length) = some m.2.2.2.2.2.1) && (Nat.ble m.2.2.1 19 && (decide (ON m.2.2.2.2.2.2.1 = m.1.cls) && m.2.2.2.2.2.2.2.all (okR m.2.2.2.2.2.2.1 m.1 m.2.2.1 m.2.1)))))))
def PM (m : AM) : Prop := Cond.code m.1 m.2.1 m.2.2.1 m.2.2.2.1 ∈ GW ∧ plainName m.1.cls = true ∧ (m.1.cls ≠ "java/lang/invoke/MethodHandle" ∧ m.1.cls ≠ "java/lang/invoke/VarHandle" ∧ (parseMethodDescriptor m.1.desc).map (fun d => d.parameters.length) = some m.2.2.2.2.2.1) ∧ m.2.2.1 ≤ 19 ∧ ON m.2.2.2.2.2.2.1 = m.1.cls ∧ ∀ r ∈ m.2.2.2.2.2.2.2, okR m.2.2.2.2.2.2.1 m.1 m.2.2.1 m.2.1 r = true
theorem okM_spec {m : AM} {i : Nat} (h : okM m i = true) : PM m := by
  simp only [okM, Bool.and_eq_true, decide_eq_true_eq, Nat.ble_eq, List.all_eq_true] at h
  exact ⟨inWi_spec h.1, h.2.1, ⟨h.2.2.1, h.2.2.2.1, h.2.2.2.2.1⟩, h.2.2.2.2.2.1, h.2.2.2.2.2.2.1, h.2.2.2.2.2.2.2⟩
/-- all that a program decides about the tables -/
def okT : Prop := (∀ x ∈ FLl, PF x) ∧ (∀ x ∈ NLl, PN x) ∧ (∀ x ∈ CLl, PC x) ∧ (∀ x ∈ KLl, okK x = true) ∧ (∀ x ∈ OLl, okO x = true) ∧ (∀ x ∈ PLl, okP x = true) ∧ (∀ x ∈ SLl, okS x = true) ∧ (∀ x ∈ ALl, okA x = true) ∧ (∀ x ∈ MLl, PL x) ∧ (∀ m ∈ MT, PM m) ∧ (∀ x ∈ XLl, okX x = true) ∧ (∀ x ∈ YLl, okY x = true) ∧ (∀ x ∈ DLl, okD x = true) ∧ (∀ x ∈ GLl, okG x = true)
-- classes
theorem cls_ws : ∀ (ci : Nat) (q : vw_C), vwCl[ci]? = some q → ∀ w ∈ u_ws q.1 q.2.1 q.2.2, w ∈ GW := by
  intro ci q hq
  have key : ∀ q ∈ vwCl, ∀ w ∈ u_ws q.1 q.2.1 q.2.2, inW w = true := by decide +kernel
  exact fun w hw => inW_spec (key q (List.mem_of_getElem? hq) w hw)
theorem cls_ty : ∀ (ci : Nat) (q : vw_C), vwCl[ci]? = some q → (∀ k, k < q.2.2 → parseFieldDescriptor (q.2.1 k).2.2.1 = some (a_ty ci k)) ∧ ∀ a, a < q.2.2 → ∀ b, b < q.2.2 → a ≠ b → (q.2.1 a).2.1 ≠ (q.2.1 b).2.1 := by
  intro ci q hq
  match ci, hq with
  | 0, hq => cases hq; exact ⟨tyJx4a65c_ok, nmJx4a65c⟩
  | 1, hq => cases hq; exact ⟨tyX1_ok, nmX1⟩
  | 2, hq => cases hq; exact ⟨tyX2_ok, nmX2⟩
  | 3, hq => cases hq; exact ⟨tyX3_ok, nmX3⟩
  | 4, hq => cases hq; exact ⟨tyX4_ok, nmX4⟩
  | 5, hq => cases hq; exact ⟨tyX5_ok, nmX5⟩
  | 6, hq => cases hq; exact ⟨tyX6_ok, nmX6⟩
  | 7, hq => cases hq; exact ⟨tyX7_ok, nmX7⟩
  | 8, hq => cases hq; exact ⟨tyX8_ok, nmX8⟩
  | 9, hq => cases hq; exact ⟨tyX9_ok, nmX9⟩
  | n + 10, hq => simp [vwCl] at hq
theorem cls_def : ∀ (ci : Nat) (q : vw_C) (B : AB), vwCl[ci]? = some q → ∀ j, j < q.2.2 → defaultValue (a_ty ci j) = cv B (a_def (a_ty ci j)) := by
  intro ci q B hq
  have key : ∀ t : FieldType, (t = .int ∨ t = .boolean ∨ (∃ n, t = .object n) ∨ ∃ u, t = .array u) → defaultValue t = cv B (a_def t) := by
    intro t ht
    rcases ht with rfl | rfl | ⟨n, rfl⟩ | ⟨u, rfl⟩ <;> rfl
  have kinds : ∀ ci, ci < 10 → ∀ j, j < 33 → (match a_ty ci j with
    | .int | .boolean | .object _ | .array _ => true
    | _ => false) = true := by decide +kernel
  intro j hj
  apply key
  have hci : ci < 10 := (List.getElem?_eq_some_iff.mp hq).1
  have hj33 : j < 33 := by
    have : ∀ q ∈ vwCl, q.2.2 ≤ 33 := by decide +kernel
    exact Nat.lt_of_lt_of_le hj (this q (List.mem_of_getElem? hq))
  have h1 := kinds ci hci j hj33
  revert h1
  cases a_ty ci j <;> simp
theorem fok_spec {t : FieldType} {v : Value} (B : AB) (h : a_fok t v = true) : narrow t (cv B v) = cv B v ∧ fits t (cv B v) = true := by
  cases t <;> cases v <;> simp [a_fok] at h
  all_goals first
    | exact ⟨rfl, rfl⟩
    | (rcases h with rfl | rfl <;> exact ⟨rfl, rfl⟩)
    | (subst h; exact ⟨rfl, rfl⟩)
theorem gw_arr : Cond.arrayClass .int ∈ GW := inW_spec (by decide +kernel)
theorem gw_oi : Cond.instanceMethod objectInit ∈ GW := inW_spec (by decide +kernel)
theorem gw_oc : Cond.code objectInit ⟨#[0xb1]⟩ 1 none ∈ GW := inW_spec (by decide +kernel)
theorem gw_cn : Cond.native arraycopyName ∈ GW := inW_spec (by decide +kernel)
theorem gw_cs : Cond.static arraycopyName ∈ GW := inW_spec (by decide +kernel)
theorem gw_ci : Cond.initialized "java/lang/System" ∈ GW := inW_spec (by decide +kernel)
theorem gw_xs : Cond.static Lib.Math.max.name ∈ GW := inW_spec (by decide +kernel)
theorem gw_xc : Cond.code Lib.Math.max.name Lib.Math.max.code 2 (some .int) ∈ GW := inW_spec (by decide +kernel)
theorem gw_ys : Cond.static Lib.Math.min.name ∈ GW := inW_spec (by decide +kernel)
theorem gw_yc : Cond.code Lib.Math.min.name Lib.Math.min.code 2 (some .int) ∈ GW := inW_spec (by decide +kernel)
theorem gw_xi : Cond.initialized "java/lang/Math" ∈ GW := inW_spec (by decide +kernel)
theorem gw_gi : Cond.instanceMethod getClassN ∈ GW := inW_spec (by decide +kernel)
theorem gw_gn : Cond.native getClassN ∈ GW := inW_spec (by decide +kernel)
theorem gw_gs : Cond.selects "[Ljava/lang/Object;" getClassN getClassN ∈ GW := inW_spec (by decide +kernel)
