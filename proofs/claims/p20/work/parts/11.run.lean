/-! Calls and whole methods of the small machine -/
theorem good_of {ws : List Cond} (h : ∀ w ∈ ws, w ∈ GW) : GoodIn GW ws := fun w hw => ⟨h w hw, good_of_word (GW_good w (h w hw))⟩
theorem wsM_in {m : AM} (h : PM m) : ∀ w ∈ wsM m, w ∈ GW := by
  intro w hw
  rcases List.mem_cons.mp hw with rfl | hw
  · exact h.1
  · exact hw
theorem do_spec {cf : AFun} {rc : Bool} {mi : Nat} {st st' : List Value} {h : AH} {res : ARes} (hd : a_do MT cf rc mi st h = some (res, st')) : ∃ (m : AM) (vs : List Value), a_at MT mi = some m ∧ cf mi vs h = some res ∧ st = vs.reverse ++ st' ∧ st'.length ≤ 8 ∧ vs.length = (bif rc then m.2.2.2.2.2.1 + 1 else m.2.2.2.2.2.1) ∧ (rc = true → ∃ (q : Nat) (as : List Value), vs = .ref q :: as ∧ a_recv h q m.2.2.2.2.1 = true) := by
  unfold a_do at hd
  split at hd
  · cases hd
  · rename_i m hm
    simp only at hd
    cases hz : (Nat.ble ((a_args rc m.2.2.2.2.2.1 st).2.length) 8 && (Nat.beq (a_args rc m.2.2.2.2.2.1 st).1.length (bif rc then m.2.2.2.2.2.1 + 1 else m.2.2.2.2.2.1) && (!rc || a_rok h (a_args rc m.2.2.2.2.2.1 st).1 m.2.2.2.2.1))) with
    | false => rw [hz] at hd; cases hd
    | true =>
      rw [hz] at hd
      simp only [cond_true] at hd
      split at hd
      · rename_i res2 hcf
        cases hd
        simp only [Bool.and_eq_true] at hz
        refine ⟨m, (a_args rc m.2.2.2.2.2.1 st).1, hm, hcf, ?_, by simpa using hz.1, Nat.eq_of_beq_eq_true hz.2.1, ?_⟩
        · cases rc <;> simp [a_args]
        · intro hrc
          subst hrc
          have h3 := hz.2.2
          simp only [Bool.not_true, Bool.false_or] at h3
          unfold a_rok at h3
          split at h3
          · rename_i q as hq
            exact ⟨q, as, hq, h3⟩
          · cases h3
      · cases hd
theorem recv_spec {h : AH} {q ci : Nat} (hr : a_recv h q ci = true) : ∃ fs : List Value, h[q]? = some (.inr (.inr (ci, fs))) := by
  unfold a_recv at hr
  rw [a_at_eq] at hr
  split at hr
  · rename_i c fs hc
    have := Nat.eq_of_beq_eq_true hr
    subst this
    exact ⟨fs, hc⟩
  · cases hr
section AR
variable {p : Program} {l : Launch} {e : Env} {R : Room} {s : State} {m : MethodId} {args : Array Value} {below : List Frame} {meth : Method} {c : Code} {Q : State → Prop}
set_option maxHeartbeats 8000000 in
set_option maxRecDepth 100000 in
theorem call_sound {D : va_G} {I : ClassId × ClassId} {B : AB} {xs : List Int32} {d o : Nat} {y : MethodName} {maxL : Nat} {cc : ByteArray} (F : Fx p s m args meth c R D I B xs d o y maxL cc)
    {r : ARow} (hok : okR o y maxL cc r = true) {rc : Bool} (hcall : a_call r = some rc) {cf : AFun} (hcf : ∀ (mi : Nat) (m2 : AM) (vs : List Value) (h : AH) (res : ARes), a_at MT mi = some m2 → cf mi vs h = some res → ∃ d', d = d' + 1 ∧ MC l D I B xs d' m2 vs h res)
    {st st' : List Value} {h h1 : AH} {v : Option Value} {c1 s1 c0 s0 : Nat} (hdo : a_do MT cf rc r.2.2.2.1 st h = some ((v, h1, c1, s1), st'))
    {H : Heap} {locs : List Loc} {ls : Array Slot} (hP : va_P D vwCl (cw I B h) H) (hS : va_S (AA B) s.heap H locs) (hsz : ls.size = maxL) (hN : s.heap.size + c0 = B.1 + h.length) (hc : c0 + c1 ≤ R.cells) (hs : s0 + s1 ≤ R.slots)
    (K : ∀ (H' : Heap) (locs' : List Loc), va_P D vwCl (cw I B h1) H' → va_S (AA B) s.heap H' locs' → s.heap.size + (c0 + c1) = B.1 + h1.length → W p l e R s m args below meth c H' locs' (c0 + c1) (s0 + s1) Q (F0 m (r.1 + r.2.2.1) ls ((a_push v st').map (cv B)))) :
    W p l e R s m args below meth c H locs c0 s0 Q (F0 m r.1 ls (st.map (cv B))) := by
  obtain ⟨hx, hb, hml, hown, hts, hKX, hRf, hRl, hinit, hT, hxs⟩ := F
  obtain ⟨tF, tN, tC, tK, tO, tP, tS, tA, tL, tM, tX, tY, tD, tG⟩ := hT
  obtain ⟨m2, vs, hm2, hcf2, hst, hl8, hlen, hrecv⟩ := do_spec hdo
  obtain ⟨d', rfl, hM⟩ := hcf _ _ _ _ _ hm2 hcf2
  have hm2' : m2 ∈ MT := by rw [a_at_eq] at hm2; exact List.mem_of_getElem? hm2
  obtain ⟨k1, k2, k3, k4, k5, k6⟩ := (tM _ hm2')
  have hws := wsM_in (tM _ hm2')
  refine aw_sz (fun hz => ?_)
  have hsize := aw_size (cells := c0) hP hS hKX.2.2.2.2.2.2.2.2.2.1 hN hz
  have blind : FrameBlind (va_Pc (vs.map (cv B)) (WP D I B xs h)) := fun a U g mk q => by
    obtain ⟨q0, q1, q2, q3⟩ := q
    exact ⟨q0, q1, q2, KX_calling q3⟩
  have pre : ∀ U : State, U.heap = H → s.WarmedH U.vm → WP D I B xs h U := fun U hU hW => ⟨by rw [hU]; exact hsize, by rw [hU]; exact hP, KX_warm hKX hS hU hW⟩
  have hroom : d' + 1 ≤ R.frames ∧ 8 + (m2.2.2.1 + 11) + (38 * d' + 22) ≤ R.locals := by
    rw [hRf, hRl]
    omega
  have hW8 : ∀ (pc : Nat), 2 * (F0 m pc ls (st.map (cv B))).monitorRoom + ((st'.map (cv B)).map fun v => v.category).sum ≤ 8 := fun pc => lv_room (by rw [cat_sum]; exact hl8)
  have fin : ∀ (H1 : Heap) (locs1 : List Loc), va_P D vwCl (cw I B h1) H1 → h1.length = h.length + c1 → va_S (AA B) s.heap H1 locs1 → W p l e R s m args below meth c H1 locs1 (c0 + c1) (s0 + s1) Q (F0 m (r.1 + r.2.2.1) ls ((v.map (cv B)).toList ++ st'.map (cv B))) := by
    intro H1 locs1 g1 g2 g3
    have e1 : (v.map (cv B)).toList ++ st'.map (cv B) = (a_push v st').map (cv B) := by cases v <;> rfl
    rw [e1]
    exact K H1 locs1 g1 g3 (by omega)
  obtain ⟨pc, ins, len, a, b⟩ := r
  obtain ⟨hd, hl, hi⟩ := okR_spec hok
  dsimp only at hd hl hi hdo fin hm2 hcf2 ⊢
  unfold a_call at hcall
  dsimp only at hcall
  cases ins
  case invokevirtual k =>
    have hl : len = 3 := hl
    subst hl
    have hb2 : Nat.beq b 2 = false := by
      cases hz : Nat.beq b 2 with
      | false => rfl
      | true => rw [hz] at hcall; cases hcall
    rw [hb2] at hcall
    cases hcall
    simp only [okI, hb2, cond_false] at hi
    obtain ⟨q, as, rfl, hrc⟩ := hrecv rfl
    obtain ⟨fs, hfs⟩ := recv_spec hrc
    obtain ⟨m3, hm3, hL⟩ := tL _ (of_decide_eq_true hi)
    dsimp only at hm3 hL
    cases hm2.symm.trans hm3
    obtain ⟨-, w1, w2, w3, w4, w5⟩ : 0 = 0 ∧ _ := by
      rcases hL with hL | ⟨q, -⟩ | ⟨q, -⟩ | ⟨q, -⟩ | ⟨q, -⟩
      · exact hL
      all_goals cases q
    unfold a_clsn at w5
    split at w5
    · rename_i qc hqc
      have w5 := of_decide_eq_true w5
      have hG : GoodIn GW (wsV (ON o) k m2.1.cls m2.1 (wsM m2)) := good_of (fun w hw => by
        simp only [wsV, List.cons_append, List.nil_append, List.mem_cons] at hw
        rcases hw with rfl | rfl | rfl | rfl | hw
        · exact w1
        · exact w2
        · exact w3
        · exact w4
        · exact hws w hw)
      have hrv := va_recv hKX.1 hP hqc (cw_get hfs)
      rw [w5] at hrv
      have hstk : st.map (cv B) = (as.map (cv B)).reverse ++ .ref (B.1 + q) :: st'.map (cv B) := by
        rw [hst]
        simp [cv]
      refine aw_call (va_runV (As := as.map (cv B)) (rest := st'.map (cv B)) (b := B.1 + q) (Ts := GW) ⟨hx, hb, hml, hown, hts⟩ hM (cwV m2.2.2.2.2.2.1 hts hG rfl rfl rfl ⟨rfl, k3⟩ hroom) ⟨blind, hrv, fun U hU hW => ⟨rfl, pre U hU hW⟩⟩ rfl (by simpa using hlen) hsz hstk (hW8 pc) hd ⟨hc, hs⟩) hS fin
    · cases w5
  case invokespecial k =>
    have hl : len = 3 := hl
    subst hl
    cases hb2 : Nat.beq b 2 with
    | true => rw [hb2] at hcall; cases hcall
    | false =>
      rw [hb2] at hcall
      cases hcall
      have hi2 := hi
      simp only [okI, hb2, cond_false] at hi2
      obtain ⟨q, as, rfl, hrc⟩ := hrecv rfl
      obtain ⟨m3, hm3, hL⟩ := tL _ (of_decide_eq_true hi2)
      dsimp only at hm3 hL
      cases hm2.symm.trans hm3
      have hstk : st.map (cv B) = (as.map (cv B)).reverse ++ .ref (B.1 + q) :: st'.map (cv B) := by
        rw [hst]
        simp [cv]
      match b, hb2, hL with
      | 0, _, hL =>
        obtain ⟨-, w1, w2, w3, w4, w5⟩ : 1 + 2 * 0 = 1 ∧ _ := by
          rcases hL with ⟨q, -⟩ | hL | ⟨q, -⟩ | ⟨q, -⟩ | ⟨q, -⟩
          · cases q
          · exact hL
          all_goals cases q
        have hM' := hM
        unfold MC wsM at hM'
        rw [w5] at hM'
        have hG : GoodIn GW (Cond.code m2.1 m2.2.1 m2.2.2.1 none :: GW) := by
          have := good_of hws
          unfold wsM at this
          rw [w5] at this
          exact this
        refine aw_call (va_runI (As := as.map (cv B)) (rest := st'.map (cv B)) (b := B.1 + q) (Ts := GW) ⟨hx, hb, hml, hown, hts⟩ hM' (cwI m2.2.2.2.2.2.1 hts hG rfl rfl rfl (hts _ w3) (hts _ w1) (hts _ w2) w4 k3 hroom) ⟨blind, fun U hU hW => ⟨rfl, pre U hU hW⟩⟩ rfl (by simpa using hlen) hsz hstk (hW8 pc) hd ⟨hc, hs⟩) hS fin
      | 1, _, hL =>
        obtain ⟨-, w1, w2, w3, w4, w5⟩ : 1 + 2 * 1 = 3 ∧ _ := by
          rcases hL with ⟨q, -⟩ | ⟨q, -⟩ | hL | ⟨q, -⟩ | ⟨q, -⟩
          · cases q
          · cases q
          · exact hL
          all_goals cases q
        have hM' := hM
        unfold MC wsM at hM'
        rw [w5] at hM'
        have hG : GoodIn GW (Cond.code m2.1 m2.2.1 m2.2.2.1 none :: GW) := by
          have := good_of hws
          unfold wsM at this
          rw [w5] at this
          exact this
        refine aw_call (va_runIN (As := as.map (cv B)) (rest := st'.map (cv B)) (b := B.1 + q) (Ts := GW) ⟨hx, hb, hml, hown, hts⟩ hM' ⟨va_cnB m2.2.2.2.2.2.1 hts hG rfl rfl rfl (hKX.2.1 _ w1) (hts _ w3) k3 hroom, w4, hts _ w2⟩ ⟨blind, fun U hU hW => ⟨rfl, pre U hU hW⟩⟩ rfl (by simpa using hlen) hsz hstk (hW8 pc) hd ⟨hc, hs⟩) hS fin
      | 2, hb2, _ => cases hb2
      | n + 3, _, hL =>
        exfalso
        rcases hL with ⟨q, -⟩ | ⟨q, -⟩ | ⟨q, -⟩ | ⟨q, -⟩ | ⟨q, -⟩ <;> omega
  case invokestatic k =>
    have hl : len = 3 := hl
    subst hl
    cases hb2 : Nat.ble 2 b with
    | true => rw [hb2] at hcall; cases hcall
    | false =>
      rw [hb2] at hcall
      cases hcall
      have hb3 : b < 2 := by
        rcases Nat.lt_or_ge b 2 with q | q
        · exact q
        · rw [Nat.ble_eq.mpr q] at hb2; cases hb2
      have hi2 : decide ((o, k, a, 4 + b) ∈ MLl) = true := by
        match b, hb3, hi with
        | 0, _, hi => exact hi
        | 1, _, hi => exact hi
        | n + 2, q, _ => omega
      obtain ⟨m3, hm3, hL⟩ := tL _ (of_decide_eq_true hi2)
      dsimp only at hm3 hL
      cases hm2.symm.trans hm3
      have hstk : st.map (cv B) = (vs.map (cv B)).reverse ++ st'.map (cv B) := by
        rw [hst]
        simp
      match b, hb3, hL with
      | 0, _, hL =>
        obtain ⟨-, w1, w2, w3⟩ : 4 + 0 = 4 ∧ _ := by
          rcases hL with ⟨q, -⟩ | ⟨q, -⟩ | ⟨q, -⟩ | hL | ⟨q, -⟩
          · cases q
          · cases q
          · cases q
          · exact hL
          · cases q
        have hG : GoodIn GW (va_wsS (ON o) k m2.1 (wsM m2)) := good_of (fun w hw => by
          simp only [va_wsS, List.cons_append, List.nil_append, List.mem_cons] at hw
          rcases hw with rfl | rfl | rfl | hw
          · exact w1
          · exact w2
          · exact w3
          · exact hws w hw)
        refine aw_call (va_runS (As := vs.map (cv B)) (rest := st'.map (cv B)) (Ts := GW) ⟨hx, hb, hml, hown, hts⟩ hM (va_cwS m2.2.2.2.2.2.1 hts hG rfl rfl rfl k3 hroom) ⟨blind, fun U hU hW => ⟨rfl, pre U hU hW⟩⟩ rfl (by simpa using hlen) hsz hstk (hW8 pc) hd ⟨hc, hs⟩) hS fin
      | 1, _, hL =>
        obtain ⟨-, w1, w2, w3⟩ : 4 + 1 = 5 ∧ _ := by
          rcases hL with ⟨q, -⟩ | ⟨q, -⟩ | ⟨q, -⟩ | ⟨q, -⟩ | hL
          · cases q
          · cases q
          · cases q
          · cases q
          · exact hL
        refine aw_call (va_runSN (As := vs.map (cv B)) (rest := st'.map (cv B)) (Ts := GW) ⟨hx, hb, hml, hown, hts⟩ hM ⟨va_cnB m2.2.2.2.2.2.1 hts (good_of hws) rfl rfl rfl (hKX.2.1 _ w1) (hts _ w3) k3 hroom, hts _ w2, trivial⟩ ⟨blind, fun U hU hW => ⟨rfl, pre U hU hW⟩⟩ rfl (by simpa using hlen) hsz hstk (hW8 pc) hd ⟨hc, hs⟩) hS fin
      | n + 2, q, _ => omega
  all_goals cases hcall
end AR
theorem a_run_succ {xs : List Int32} {cf : AFun} {d : Nat} {ret : Option FieldType} {tab : List ARow} {N pc : Nat} {al : AL} {st : List Value} {h : AH} {c s : Nat} : a_run MT xs cf d ret tab (N + 1) pc al st h c s = (match a_row tab pc with
      | none => none
      | some r => match a_step d xs r al st h with
        | some (pc', al', st', h', dc, ds) => a_run MT xs cf d ret tab N pc' al' st' h' (c + dc) (s + ds)
        | none => match a_call r with
          | some rc => match a_do MT cf rc r.2.2.2.1 st h with
            | some ((v, h', c1, s1), st') => a_run MT xs cf d ret tab N (r.1 + r.2.2.1) al (a_push v st') h' (c + c1) (s + s1)
            | none => none
          | none => match a_ret ret r.2.1 st with
            | some v => some (v, h, c, s)
            | none => none) := by
  show (match a_row tab pc with
      | none => none
      | some r => match a_step d xs r al st h with
        | some (pc', al', st', h', dc, ds) => fN (c + dc) (fun c => fN (s + ds) (fun s => a_tail (a_run MT xs cf d ret tab N) pc' al' st' h' c s))
        | none => match a_call r with
          | some rc => match a_do MT cf rc r.2.2.2.1 st h with
            | some ((v, h', c1, s1), st') => fN (c + c1) (fun c => fN (s + s1) (fun s => a_tail (a_run MT xs cf d ret tab N) (r.1 + r.2.2.1) al (a_push v st') h' c s))
            | none => none
          | none => match a_ret ret r.2.1 st with
            | some v => some (v, h, c, s)
            | none => none) = _
  simp only [fN_eq, a_tail]
theorem run_mono {xs : List Int32} {cf : AFun} {d : Nat} {ret : Option FieldType} {tab : List ARow} {r : Option Value} {h' : AH} {cE sE : Nat} : ∀ (N pc : Nat) (al : AL) (st : List Value) (h : AH) (c s : Nat), a_run MT xs cf d ret tab N pc al st h c s = some (r, h', cE, sE) → c ≤ cE ∧ s ≤ sE := by
  intro N
  induction N with
  | zero => intro pc al st h c s hr; cases hr
  | succ N ih =>
    intro pc al st h c s hr
    rw [a_run_succ] at hr
    split at hr
    · cases hr
    · split at hr
      · have := ih _ _ _ _ _ _ hr
        omega
      · split at hr
        · split at hr
          · have := ih _ _ _ _ _ _ hr
            omega
          · cases hr
        · split at hr
          · cases hr
            exact ⟨Nat.le_refl _, Nat.le_refl _⟩
          · cases hr
section AR2
variable {p : Program} {l : Launch} {e : Env} {R : Room} {s : State} {m : MethodId} {args : Array Value} {below : List Frame} {meth : Method} {c : Code} {Q : State → Prop}
theorem run_sound {D : va_G} {I : ClassId × ClassId} {B : AB} {xs : List Int32} {d o : Nat} {y : MethodName} {maxL : Nat} {cc : ByteArray} (F : Fx p s m args meth c R D I B xs d o y maxL cc)
    {tab : List ARow} (htab : ∀ r ∈ tab, okR o y maxL cc r = true) {cf : AFun} (hcf : ∀ (mi : Nat) (m2 : AM) (vs : List Value) (h : AH) (res : ARes), a_at MT mi = some m2 → cf mi vs h = some res → ∃ d', d = d' + 1 ∧ MC l D I B xs d' m2 vs h res)
    {ret : Option FieldType} {v : Option Value} {h' : AH} {cE sE : Nat} (hc : cE ≤ R.cells) (hs : sE ≤ R.slots)
    (hret : ∀ (pc' : Nat) (ins : Instr) (st' : List Value) (H' : Heap) (locs' : List Loc) (ls' : Array Slot), decode cc pc' = .ok (ins, 1) → a_ret ret ins st' = some v → va_P D vwCl (cw I B h') H' → va_S (AA B) s.heap H' locs' → s.heap.size + cE = B.1 + h'.length → W p l e R s m args below meth c H' locs' cE sE Q (F0 m pc' ls' (st'.map (cv B)))) :
    ∀ (N pc : Nat) (al : AL) (st : List Value) (h : AH) (c0 s0 : Nat) (H : Heap) (locs : List Loc) (ls : Array Slot), a_run MT xs cf d ret tab N pc al st h c0 s0 = some (v, h', cE, sE) → va_P D vwCl (cw I B h) H → va_S (AA B) s.heap H locs → lv_has ls maxL (cvl B al) → s.heap.size + c0 = B.1 + h.length → W p l e R s m args below meth c H locs c0 s0 Q (F0 m pc ls (st.map (cv B))) := by
  intro N
  induction N with
  | zero => intro pc al st h c0 s0 H locs ls hr; cases hr
  | succ N ih =>
    intro pc al st h c0 s0 H locs ls hr hP hS hL hN
    rw [a_run_succ] at hr
    split at hr
    · cases hr
    · rename_i r hrow
      obtain ⟨hrt, hpc⟩ := a_row_spec hrow
      have hok := htab r hrt
      subst hpc
      split at hr
      · rename_i pc' al' st' h2 dc ds hst
        have hm := run_mono _ _ _ _ _ _ _ hr
        exact step_sound F hok hst hP hS hL hN (by omega) (by omega) (fun H1 locs1 ls1 g1 g2 g3 g4 => ih pc' al' st' h2 _ _ H1 locs1 ls1 hr g1 g2 g3 g4)
      · split at hr
        · rename_i rc hcall
          split at hr
          · rename_i v1 h1 c1 s1 st1 hdo
            have hm := run_mono _ _ _ _ _ _ _ hr
            exact call_sound F hok hcall hcf hdo hP hS hL.1 hN (by omega) (by omega) (fun H1 locs1 g1 g2 g3 => ih _ _ _ _ _ _ H1 locs1 ls hr g1 g2 hL g3)
          · cases hr
        · split at hr
          · rename_i v1 hrr
            cases hr
            obtain ⟨hd, hl, -⟩ := okR_spec hok
            have h1 : r.2.2.1 = 1 := by
              rw [hl]
              revert hrr
              generalize r.2.1 = i
              intro hrr
              unfold a_ret at hrr
              split at hrr <;> first | rfl | cases hrr
            rw [h1] at hd
            exact hret _ _ _ H locs ls hd hrr hP hS hN
          · cases hr
end AR2
theorem entry_lv (B : AB) (vs : List Value) (i : Nat) : lv_args i (vs.map (cv B)) = cvl B (a_entry i vs) := by
  induction vs generalizing i with
  | nil => rfl
  | cons v r ih =>
    have hc := cv_cat B v
    simp only [List.map_cons, lv_args, a_entry, hc, ih]
    rfl
theorem entry_len (B : AB) (vs : List Value) : (lg_sl (vs.map (cv B))).length = vs.length := by
  induction vs with
  | nil => rfl
  | cons v r ih =>
    have hc := cv_cat B v
    simp only [lg_sl, List.map_cons, List.flatMap_cons, hc] at ih ⊢
    simp [ih]
set_option maxHeartbeats 4000000 in
/-- a method of the table: the JVM's contract out of the small machine's answer -/
theorem meth_sound (l : Launch) (D : va_G) (I : ClassId × ClassId) (B : AB) (xs : List Int32) (hxs : xs.length < 2 ^ 31) (hT : okT) {N d : Nat} {cf : AFun} (hcf : ∀ (mi : Nat) (m2 : AM) (vs : List Value) (h : AH) (res : ARes), a_at MT mi = some m2 → cf mi vs h = some res → ∃ d', d = d' + 1 ∧ MC l D I B xs d' m2 vs h res)
    {mi : Nat} {m2 : AM} {vs : List Value} {h : AH} {res : ARes} (hm : a_at MT mi = some m2) (hr : a_meth MT xs N d cf mi vs h = some res) : MC l D I B xs d m2 vs h res := by
  obtain ⟨v, h', cE, sE⟩ := res
  have hm2' : m2 ∈ MT := by rw [a_at_eq] at hm; exact List.mem_of_getElem? hm
  obtain ⟨k1, k2, k3, k4, k5, k6⟩ := (hT.2.2.2.2.2.2.2.2.2.1 _ hm2')
  unfold a_meth at hr
  rw [hm] at hr
  simp only at hr
  cases hz : Nat.ble vs.length m2.2.2.1 with
  | false => rw [hz] at hr; cases hr
  | true =>
    rw [hz] at hr
    simp only [cond_true] at hr
    have hle : vs.length ≤ m2.2.2.1 := by simpa using hz
    refine Met.ofW (cc := m2.2.1) (maxL := m2.2.2.1) (ret := m2.2.2.2.1) k2 rfl ?_
    intro p e s m args below meth c s₁ BB hml hv
    obtain ⟨rfl, hsz, hP, hKX⟩ := hv
    have hts := atoms_spec (ws := wsM m2) BB.pre
    have hown : s.vm.findClass m2.1.cls = some m.cls := findClass_of_methodNamed BB.named
    have hlocks := BB.notSynchronized
    have hnm : meth.name = m2.1.name := (name_of_methodNamed BB.named BB.method).1
    have F : Fx p s m ((vs.map (cv B)).toArray) meth c (rmd d cE sE) D I B xs d m2.2.2.2.2.2.2.1 m2.1 m2.2.2.1 m2.2.1 := ⟨BB.exec, BB.bytes, hml, by rw [k5]; exact hown, fun w hw => hts w (List.mem_cons_of_mem _ hw), hKX, rfl, rfl, fun q => hnm.trans q, hT, hxs⟩
    rw [lg_entry_eq]
    have hl := lv_entry (vs.map (cv B)) (n := m2.2.2.1) (by rw [entry_len]; exact hle)
    rw [entry_lv] at hl
    refine run_sound F k6 hcf (Nat.le_refl cE) (Nat.le_refl sE) ?_ N 0 (a_entry 0 vs) [] h 0 0 s.heap [] _ hr hP va_S.rf hl (by rw [hsz]; rfl)
    intro pc' ins st' H' locs' ls' hd hrr hP' hS' hN'
    have hq : ∀ t : State, t.heap = H' → s.WarmedH t.vm → QA D I B v h h' cE ((vs.map (cv B)).toArray) s (.returned (v.map (cv B))) t := fun t ht _ => ⟨rfl, by rw [ht]; exact hP', by omega, hS'.F ht⟩
    have hretT := BB.returns
    unfold a_ret at hrr
    split at hrr
    · rename_i h0
      cases hrr
      exact W.vret BB.exec BB.bytes (by rw [hretT]; exact h0) hq hS'.2.2 hd hlocks
    · rename_i h0
      cases hrr
      exact W.iret BB.exec BB.bytes (by rw [hretT]; exact h0) hq hS'.2.2 hd hlocks
    · rename_i x h0
      cases hzz : decide (x = 0 ∨ x = 1) with
      | false => rw [hzz] at hrr; cases hrr
      | true =>
        rw [hzz] at hrr
        cases hrr
        refine W.zret (ty := .boolean) BB.exec BB.bytes (by rw [hretT]; exact h0) ?_ hq hS'.2.2 hd hlocks
        rcases of_decide_eq_true hzz with rfl | rfl <;> rfl
    · rename_i h0
      cases hrr
      exact W.aret BB.exec BB.bytes (by rw [hretT]; exact h0) (Or.inl ⟨_, rfl⟩) (Or.inr ⟨_, rfl⟩) hq hS'.2.2 hd hlocks
    · rename_i h0
      cases hrr
      exact W.aret BB.exec BB.bytes (by rw [hretT]; exact h0) (Or.inr ⟨_, rfl⟩) (Or.inr ⟨_, rfl⟩) hq hS'.2.2 hd hlocks
    · cases hrr
theorem m_sound (l : Launch) (D : va_G) (I : ClassId × ClassId) (B : AB) (xs : List Int32) (hxs : xs.length < 2 ^ 31) (hT : okT) (N : Nat) : ∀ (d mi : Nat) (m2 : AM) (vs : List Value) (h : AH) (res : ARes), a_at MT mi = some m2 → a_m MT xs N d mi vs h = some res → MC l D I B xs d m2 vs h res := by
  intro d
  induction d with
  | zero =>
    intro mi m2 vs h res hm hr
    exact meth_sound l D I B xs hxs hT (fun _ _ _ _ _ _ q => by cases q) hm hr
  | succ d ih =>
    intro mi m2 vs h res hm hr
    exact meth_sound l D I B xs hxs hT (cf := a_m MT xs N d) (fun mi m2 vs h res g1 g2 => ⟨d, rfl, ih mi m2 vs h res g1 g2⟩) hm hr
