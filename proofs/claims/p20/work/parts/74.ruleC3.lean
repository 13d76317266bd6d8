/-! The program: rule, whole -/
section RX
variable {E : Value} {T : List SH} {M : Mem} {d n : Nat} {rs : Nat → Nat}
set_option maxRecDepth 20000 in
theorem zz_at_snoc {X s : SH} {p : Nat} (h : a_at (zz E T) p = some s) : a_at (zz E (T ++ [X])) p = some s := by
  rw [← zz_snoc, a_at_eq, List.getElem?_append_left (at_lt h), ← a_at_eq]
  exact h
set_option maxRecDepth 20000 in
theorem LR.snoc {X : SH} (h : LR E T n rs) : LR E (T ++ [X]) n rs := by
  refine ⟨fun i hi => ⟨(h.1 i hi).1, zz_at_snoc (h.1 i hi).2⟩, h.2.1, fun hp => ?_⟩
  obtain ⟨e, refs, h1, h2, h3⟩ := h.2.2 hp
  exact ⟨e, refs, h1, zz_at_snoc h2, h3⟩
set_option maxRecDepth 20000 in
theorem LQ.snoc {X : SH} (h : LQ E T n rs) : LQ E (T ++ [X]) n rs := by
  refine ⟨h.1, fun hp => ?_⟩
  obtain ⟨k, refs, h1, h2, h3, h4⟩ := h.2 hp
  refine ⟨k, refs, h1, ?_, h3, h4⟩
  rw [a_at_eq, List.getElem?_append_left (at_lt h2), ← a_at_eq]
  exact h2
set_option maxRecDepth 20000 in
theorem LR.lt (h : LR E T n rs) {i : Nat} (hi : i < n) : rs i < 61 + T.length := by
  have := at_lt (h.1 i hi).2
  rw [zz_len] at this
  exact this
set_option maxRecDepth 20000 in
theorem LR.add {E' : Value} {T' : List SH} (h : LR E T n rs) (hA : AddT (T ++ [ruleSh]) T') (hQ : LQ E' T' (n + 1) (rsN n (61 + T.length) rs)) : LR E' T' (n + 1) (rsN n (61 + T.length) rs) := by
  have hnew : a_at (T ++ [ruleSh]) T.length = some ruleSh := at_snoc
  have hold : ∀ i, i < n → a_at (zz E' T') (rs i) = some ruleSh := by
    intro i hi
    obtain ⟨j, hj⟩ : ∃ j, rs i = 61 + j := ⟨rs i - 61, by have := (h.1 i hi).1; omega⟩
    have h1 := (h.1 i hi).2
    rw [hj, z_tail] at h1
    rw [hj, z_tail]
    refine hA.2 j ?_
    rw [a_at_eq, List.getElem?_append_left (at_lt h1), ← a_at_eq]
    exact h1
  refine ⟨fun i hi => ?_, fun i j hi hj e => ?_, fun _ => ?_⟩
  · unfold rsN
    split
    · refine ⟨by omega, ?_⟩
      rw [z_tail]
      exact hA.2 _ hnew
    · exact ⟨(h.1 i (by omega)).1, hold i (by omega)⟩
  · unfold rsN at e
    split at e <;> split at e
    · omega
    · have := h.lt (i := j) (by omega); omega
    · have := h.lt (i := i) (by omega); omega
    · exact h.2.1 i j (by omega) (by omega) e
  · obtain ⟨k, refs, h1, h2, h3, h4⟩ := hQ.2 (by omega)
    exact ⟨61 + k, refs, h1, by rw [z_tail]; exact h2, h4⟩
set_option maxRecDepth 20000 in
theorem init_lo {q p j : Nat} {host kind head a b nt to : Int32} {M1 : Mem} (h : InitQ (mfl M q 0) q host kind head a b nt to M1) (hp : p ≠ q) : M1 p j = M p j := by
  rw [h.1 p j hp, mfl_q hp]
set_option maxRecDepth 20000 in
/-- the cells behind a rule that is taken -/
theorem CW.take {E' : Value} {T' : List SH} {host kind head a b nt to : Int32} {M1 M2 : Mem} (hC : CW E T M n rs) (hn : n < 12) (hI : InitQ (mfl M (61 + T.length) 0) (61 + T.length) host kind head a b nt to M1) (f2 : Fr cT M1 M2) (hA : AddT (T ++ [ruleSh]) T') (hQ : LQ E' T' (n + 1) (rsN n (61 + T.length) rs)) (h1 : jF head) (h2 : jF a) (h3 : jF (cB2 a b)) (h4 : jN nt) (h5 : jH to) : CW E' T' (mcp (mup (mup M2 3 0 (M2 3 0 + 1)) 3 2 (Int32.ofNat (n + 1))) 5 4 8) (n + 1) (rsN n (61 + T.length) rs) := by
  obtain ⟨c1, c2, c3, c4, c5, c6⟩ := hC
  have hi : ∀ p j, 61 ≤ p → mcp (mup (mup M2 3 0 (M2 3 0 + 1)) 3 2 (Int32.ofNat (n + 1))) 5 4 8 p j = M1 p j := fun p j hp => by
    rw [mcp_q (by omega), mup_q (by omega), mup_q (by omega)]
    exact cT_q f2 (by omega)
  have hlo : ∀ j, mcp (mup (mup M2 3 0 (M2 3 0 + 1)) 3 2 (Int32.ofNat (n + 1))) 5 4 8 1 j = M 1 j := fun j => by
    rw [mcp_q (by omega), mup_q (by omega), mup_q (by omega), cT_q f2 (by omega)]
    exact init_lo hI (by omega)
  refine ⟨c1.add hA hQ, by omega, ?_, fun i hi2 => ?_, ?_, ?_⟩
  · rw [mcp_q (by omega)]
    exact mup_same
  · unfold rsN
    split
    · rw [hi _ _ (by omega), hi _ _ (by omega), hi _ _ (by omega), hi _ _ (by omega), hi _ _ (by omega), hI.2.2.2.1, hI.2.2.2.2.1, hI.2.2.2.2.2.1, hI.2.2.2.2.2.2.1, hI.2.2.2.2.2.2.2.1]
      exact ⟨h1, h2, h3, h4, h5⟩
    · have g1 := (c1.1 i (by omega)).1
      have g2 := c1.lt (i := i) (by omega)
      rw [hi _ _ g1, hi _ _ g1, hi _ _ g1, hi _ _ g1, hi _ _ g1, init_lo hI (by omega), init_lo hI (by omega), init_lo hI (by omega), init_lo hI (by omega), init_lo hI (by omega)]
      exact c4 i (by omega)
  · rw [hlo]; exact c5
  · rw [hlo]; exact c6
set_option maxHeartbeats 1000000 in
set_option maxRecDepth 20000 in
theorem st_cr140 {host kind head a b nt to : Int32} (hC : CW E T M n rs) (hQ : LQ E T n rs) (hv : cValid host kind head a b nt to = true) (hto : kind = 2 ∨ to = 0) (h1 : jF head) (h2 : jF a) (h3 : jF (cB2 a b)) (h4 : jN nt) (h5 : jH to) : Go [] (d + 8) (some .int) tabX8_rule 140 [(0, .ref 0), (1, .int host), (2, .int kind), (3, .int head), (4, .int a), (5, .int b), (6, .int nt), (7, .int to)] [] (hp (zz E T) M) 0 0 (RuleCQ E T M n rs host kind head a b nt to) := by
  obtain ⟨c1, c2, c3, c4, c5, c6⟩ := id hC
  have hq : a_at (zz E (T ++ [ruleSh])) (61 + T.length) = some ruleSh := by rw [z_tail]; exact at_snoc
  refine g_newR (n := 143) rfl rfl ?_
  rw [zz_len, zz_snoc]
  refine g_dup (n := 144) rfl rfl ?_
  refine g_iload_n (n := 145) rfl rfl rfl ?_
  refine g_iload_n (n := 146) rfl rfl rfl ?_
  refine g_iload_n (n := 147) rfl rfl rfl ?_
  refine g_iload (n := 149) rfl rfl rfl ?_
  refine g_iload (n := 151) rfl rfl rfl ?_
  refine g_iload (n := 153) rfl rfl rfl ?_
  refine g_iload (n := 155) rfl rfl rfl ?_
  refine g_cV8 (n := 158) rfl rfl rfl rfl mt_X2_init rfl rfl (r_k hq) (sc_init hq) ?_
  intro M1 hI
  have lo : ∀ p j, p ≠ 61 + T.length → M1 p j = M p j := fun p j hp => init_lo hI hp
  have hHL : HL E (T ++ [ruleSh]) M1 n (61 + T.length) rs := by
    refine ⟨c1.snoc, c2, (lo 3 2 (by omega)).trans c3, fun j hj => ?_, by omega, hq⟩
    cases j with
    | zero =>
      show jF (M1 (61 + T.length) 2) ∧ jF (M1 (61 + T.length) 3) ∧ jF (M1 (61 + T.length) 4) ∧ jN (M1 (61 + T.length) 5)
      rw [hI.2.2.2.1, hI.2.2.2.2.1, hI.2.2.2.2.2.1, hI.2.2.2.2.2.2.1]
      exact ⟨h1, h2, h3, h4⟩
    | succ j =>
      have g2 := c1.lt (i := j) (by omega)
      have g3 := c4 j (by omega)
      show jF (M1 (rs j) 2) ∧ jF (M1 (rs j) 3) ∧ jF (M1 (rs j) 4) ∧ jN (M1 (rs j) 5)
      rw [lo _ _ (by omega), lo _ _ (by omega), lo _ _ (by omega), lo _ _ (by omega)]
      exact ⟨g3.1, g3.2.1, g3.2.2.1, g3.2.2.2.1⟩
  refine g_astore (n := 160) rfl rfl ?_
  refine g_aload_n (n := 161) rfl rfl rfl ?_
  refine g_getR (n := 164) rfl rfl z_0 rfl ?_
  refine g_getR (n := 167) rfl rfl z_1 rfl ?_
  refine g_aload (n := 169) rfl rfl rfl ?_
  refine g_cI2 (n := 172) rfl rfl rfl rfl mt_X3_hasLayersWith rfl rfl (r_k z_2) (sc_has hHL) ?_
  rintro x M2 ⟨f2, t, ht, hx⟩
  refine g_zne (n := 175) rfl rfl (fun h172 => ?_) (fun h172 => ?_)
  · have hLt : Least M1 (wR (61 + T.length) rs) (n + 1) t := by
      rcases hx with ⟨-, g⟩ | ⟨g, -⟩
      · exact g
      · exact absurd g h172
    have c3' : M2 3 2 = Int32.ofNat n := (cT_q f2 (by omega)).trans ((lo 3 2 (by omega)).trans c3)
    refine g_aload_n (n := 179) rfl rfl rfl ?_
    refine g_getR (n := 182) rfl rfl z_0 rfl ?_
    refine g_getR (n := 185) rfl rfl z_1 rfl ?_
    refine g_getR (n := 188) rfl rfl z_2 rfl ?_
    refine g_cP1 (n := 191) rfl rfl rfl rfl mt_Jx4a65c_size_8abf5 rfl rfl (r_k z_3) sc_size ?_
    refine g_const (n := 193) rfl rfl (s_bipush (v := 12) (by decide)) ?_
    refine g_ilt (n := 196) rfl rfl (fun h193 => ?_) (fun h193 => ?_)
    · rw [c3'] at h193
      have hn := (jn_lt (b := 12) (by omega) (by omega)).mp h193
      refine g_aload_n (n := 200) rfl rfl rfl ?_
      refine g_getR (n := 203) rfl rfl z_0 rfl ?_
      refine g_getR (n := 206) rfl rfl z_1 rfl ?_
      refine g_aload (n := 208) rfl rfl rfl ?_
      refine g_cG2 (n := 211) rfl rfl rfl rfl mt_X3_take rfl rfl (r_k z_2) (sc_take (rs := rs) c3' hn c1.snoc hQ.snoc (by omega) hq) ?_
      rintro v h' e1 e2 ⟨rfl, hc, hs, E', T', rfl, hA, hLQ⟩
      have hC3 := CW.take hC hn hI f2 hA hLQ h1 h2 h3 h4 h5
      refine g_aload_n (n := 212) rfl rfl rfl ?_
      refine g_cV1 (n := 215) rfl rfl rfl rfl mt_X8_forgetRules rfl rfl (r_k z_0) (sc_forgetRules hC3) ?_
      rintro M3 ⟨f3, x3⟩
      refine g_aload_n (n := 216) rfl rfl rfl ?_
      refine g_getR (n := 219) rfl rfl z_0 rfl ?_
      refine g_getR (n := 222) rfl rfl z_1 rfl ?_
      refine g_getR (n := 225) rfl rfl z_2 rfl ?_
      refine g_cP1 (n := 228) rfl rfl rfl rfl mt_Jx4a65c_size_8abf5 rfl rfl (r_k z_3) sc_size ?_
      refine g_const (n := 229) rfl rfl (s_iconst (v := 1) (by decide)) ?_
      refine g_isub (n := 230) rfl rfl ?_
      have e5 : M3 3 2 - 1 = Int32.ofNat n := by
        rw [f3 3 2 rfl, hC3.2.2.1]
        exact jn_sub (b := 1) (by omega)
      refine go_ret rfl rfl rfl rfl ⟨by omega, by omega, _, E', T', M3, rfl, rfl, Or.inr (Or.inr ⟨hv, hto, M1, hI, Or.inr (Or.inr ⟨e5, hn, hA, hLQ, M2, t, f2, ht, hLt, f3, x3⟩)⟩)⟩
    · rw [c3'] at h193
      have hn := (jn_le (a := 12) (by omega) (by omega)).mp h193
      refine g_const (n := 198) rfl rfl (s_bipush (v := -4) (by decide)) ?_
      exact go_ret rfl rfl rfl rfl ⟨by omega, by omega, _, E, _, M2, rfl, rfl, Or.inr (Or.inr ⟨hv, hto, M1, hI, Or.inr (Or.inl ⟨rfl, hn, rfl, rfl, f2, t, hLt⟩)⟩)⟩
  · have hno : ∀ L, ¬ CSol M1 (wR (61 + T.length) rs) (n + 1) L := by
      rcases hx with ⟨g, -⟩ | ⟨-, g⟩
      · rw [h172] at g; exact absurd g (by decide)
      · exact g
    refine g_const (n := 177) rfl rfl (s_bipush (v := -3) (by decide)) ?_
    exact go_ret rfl rfl rfl rfl ⟨by omega, by omega, _, E, _, M2, rfl, rfl, Or.inr (Or.inr ⟨hv, hto, M1, hI, Or.inl ⟨rfl, rfl, rfl, f2, hno⟩⟩)⟩
set_option maxRecDepth 20000 in
theorem st_cr87 {host kind head a b nt to : Int32} {t8 t9 t10 t11 : Bool} (hC : CW E T M n rs) (hQ : LQ E T n rs) (e8 : t8 = (decide (host = -1) || cIs 4 host)) (e9 : t9 = (cIs 8 a && (decide (b = -1) || cIs 8 b))) (e10 : t10 = (decide (nt = -1) || cIs 8 nt)) (e11 : t11 = (!(decide (kind = 2)) || cIs 4 to)) : Go [] (d + 8) (some .int) tabX8_rule 87 [(0, .ref 0), (1, .int host), (2, .int kind), (3, .int head), (4, .int a), (5, .int b), (6, .int nt), (7, .int to), (8, .int (bI t8)), (9, .int (bI t9)), (10, .int (bI t10))] [.int (bI t11)] (hp (zz E T) M) 0 0 (RuleCQ E T M n rs host kind head a b nt to) := by
  have bad : cValid host kind head a b nt to = false → RuleCQ E T M n rs host kind head a b nt to (some (.int (-1))) (hp (zz E T) M) 0 0 := fun h => ⟨by omega, by omega, _, E, T, M, rfl, rfl, Or.inl ⟨h, rfl, rfl, rfl, rfl⟩⟩
  refine g_istore (n := 89) rfl rfl ?_
  refine g_iload (n := 91) rfl rfl rfl ?_
  refine g_bz (n := 94) rfl rfl (fun h91 => ?_) (fun h91 => ?_)
  · skip
    refine g_const (n := 126) rfl rfl (s_iconst (v := -1) (by decide)) ?_
    refine go_ret rfl rfl rfl rfl (bad ?_)
    unfold cValid
    first | (rw [← e8, h91]; rfl) | (rw [← e8, h91, dle h95]; rfl) | (rw [← e8, h91, dT h95, dle h100]; rfl) | (rw [← e8, h91, dT h95, dT h100, h107]; rfl) | (rw [← e8, h91, dT h95, dT h100, h107, ← e9, h112]; rfl) | (rw [← e8, h91, dT h95, dT h100, h107, ← e9, h112, ← e10, h117]; rfl) | (rw [← e8, h91, dT h95, dT h100, h107, ← e9, h112, ← e10, h117, ← e11, h122]; rfl)
  · skip
    refine g_iload_n (n := 95) rfl rfl rfl ?_
    refine g_zlt (n := 98) rfl rfl (fun h95 => ?_) (fun h95 => ?_)
    · skip
      refine g_const (n := 126) rfl rfl (s_iconst (v := -1) (by decide)) ?_
      refine go_ret rfl rfl rfl rfl (bad ?_)
      unfold cValid
      first | (rw [← e8, h91]; rfl) | (rw [← e8, h91, dle h95]; rfl) | (rw [← e8, h91, dT h95, dle h100]; rfl) | (rw [← e8, h91, dT h95, dT h100, h107]; rfl) | (rw [← e8, h91, dT h95, dT h100, h107, ← e9, h112]; rfl) | (rw [← e8, h91, dT h95, dT h100, h107, ← e9, h112, ← e10, h117]; rfl) | (rw [← e8, h91, dT h95, dT h100, h107, ← e9, h112, ← e10, h117, ← e11, h122]; rfl)
    · skip
      refine g_iload_n (n := 99) rfl rfl rfl ?_
      refine g_const (n := 100) rfl rfl (s_iconst (v := 2) (by decide)) ?_
      refine g_igt (n := 103) rfl rfl (fun h100 => ?_) (fun h100 => ?_)
      · skip
        refine g_const (n := 126) rfl rfl (s_iconst (v := -1) (by decide)) ?_
        refine go_ret rfl rfl rfl rfl (bad ?_)
        unfold cValid
        first | (rw [← e8, h91]; rfl) | (rw [← e8, h91, dle h95]; rfl) | (rw [← e8, h91, dT h95, dle h100]; rfl) | (rw [← e8, h91, dT h95, dT h100, h107]; rfl) | (rw [← e8, h91, dT h95, dT h100, h107, ← e9, h112]; rfl) | (rw [← e8, h91, dT h95, dT h100, h107, ← e9, h112, ← e10, h117]; rfl) | (rw [← e8, h91, dT h95, dT h100, h107, ← e9, h112, ← e10, h117, ← e11, h122]; rfl)
      · skip
        refine g_iload_n (n := 104) rfl rfl rfl ?_
        refine g_cP1 (n := 107) rfl rfl rfl rfl mt_X8_isFact rfl rfl rfl (sc_isFact) ?_
        refine g_bz (n := 110) rfl rfl (fun h107 => ?_) (fun h107 => ?_)
        · skip
          refine g_const (n := 126) rfl rfl (s_iconst (v := -1) (by decide)) ?_
          refine go_ret rfl rfl rfl rfl (bad ?_)
          unfold cValid
          first | (rw [← e8, h91]; rfl) | (rw [← e8, h91, dle h95]; rfl) | (rw [← e8, h91, dT h95, dle h100]; rfl) | (rw [← e8, h91, dT h95, dT h100, h107]; rfl) | (rw [← e8, h91, dT h95, dT h100, h107, ← e9, h112]; rfl) | (rw [← e8, h91, dT h95, dT h100, h107, ← e9, h112, ← e10, h117]; rfl) | (rw [← e8, h91, dT h95, dT h100, h107, ← e9, h112, ← e10, h117, ← e11, h122]; rfl)
        · skip
          refine g_iload (n := 112) rfl rfl rfl ?_
          refine g_bz (n := 115) rfl rfl (fun h112 => ?_) (fun h112 => ?_)
          · skip
            refine g_const (n := 126) rfl rfl (s_iconst (v := -1) (by decide)) ?_
            refine go_ret rfl rfl rfl rfl (bad ?_)
            unfold cValid
            first | (rw [← e8, h91]; rfl) | (rw [← e8, h91, dle h95]; rfl) | (rw [← e8, h91, dT h95, dle h100]; rfl) | (rw [← e8, h91, dT h95, dT h100, h107]; rfl) | (rw [← e8, h91, dT h95, dT h100, h107, ← e9, h112]; rfl) | (rw [← e8, h91, dT h95, dT h100, h107, ← e9, h112, ← e10, h117]; rfl) | (rw [← e8, h91, dT h95, dT h100, h107, ← e9, h112, ← e10, h117, ← e11, h122]; rfl)
          · skip
            refine g_iload (n := 117) rfl rfl rfl ?_
            refine g_bz (n := 120) rfl rfl (fun h117 => ?_) (fun h117 => ?_)
            · skip
              refine g_const (n := 126) rfl rfl (s_iconst (v := -1) (by decide)) ?_
              refine go_ret rfl rfl rfl rfl (bad ?_)
              unfold cValid
              first | (rw [← e8, h91]; rfl) | (rw [← e8, h91, dle h95]; rfl) | (rw [← e8, h91, dT h95, dle h100]; rfl) | (rw [← e8, h91, dT h95, dT h100, h107]; rfl) | (rw [← e8, h91, dT h95, dT h100, h107, ← e9, h112]; rfl) | (rw [← e8, h91, dT h95, dT h100, h107, ← e9, h112, ← e10, h117]; rfl) | (rw [← e8, h91, dT h95, dT h100, h107, ← e9, h112, ← e10, h117, ← e11, h122]; rfl)
            · skip
              refine g_iload (n := 122) rfl rfl rfl ?_
              refine g_bnz (n := 125) rfl rfl (fun h122 => ?_) (fun h122 => ?_)
              · skip
                have hv : cValid host kind head a b nt to = true := by unfold cValid; rw [← e8, h91, dT h95, dT h100, h107, ← e9, h112, ← e10, h117, ← e11, h122]; rfl
                have k9 := e9.symm.trans h112
                have k10 := e10.symm.trans h117
                have k11 := e11.symm.trans h122
                simp only [Bool.and_eq_true, Bool.or_eq_true, decide_eq_true_eq] at k9 k10
                have j2 : jF a := cIs_F k9.1
                have j3 : jF (cB2 a b) := by
                  unfold cB2
                  split
                  · exact j2
                  · rename_i e
                    exact cIs_F (k9.2.resolve_left e)
                have j4 : jN nt := k10.elim Or.inl (fun h => Or.inr (cIs_F h))
                refine g_iload_n (n := 128) rfl rfl rfl ?_
                refine g_const (n := 129) rfl rfl (s_iconst (v := 2) (by decide)) ?_
                refine g_ieq (n := 132) rfl rfl (fun h129 => ?_) (fun h129 => ?_)
                · skip
                  refine go_only 8 ?_
                  first | exact st_cr140 hC hQ hv (Or.inl h129) (cIs_F h107) j2 j3 j4 (by rw [dT h129] at k11; exact cIs_H k11) | exact st_cr140 hC hQ hv (Or.inr h134) (cIs_F h107) j2 j3 j4 (by rw [h134]; exact ⟨0, by omega, rfl⟩)
                · skip
                  refine g_iload (n := 134) rfl rfl rfl ?_
                  refine g_zeq (n := 137) rfl rfl (fun h134 => ?_) (fun h134 => ?_)
                  · skip
                    refine go_only 8 ?_
                    first | exact st_cr140 hC hQ hv (Or.inl h129) (cIs_F h107) j2 j3 j4 (by rw [dT h129] at k11; exact cIs_H k11) | exact st_cr140 hC hQ hv (Or.inr h134) (cIs_F h107) j2 j3 j4 (by rw [h134]; exact ⟨0, by omega, rfl⟩)
                  · skip
                    refine g_const (n := 139) rfl rfl (s_bipush (v := -2) (by decide)) ?_
                    exact go_ret rfl rfl rfl rfl ⟨by omega, by omega, _, E, T, M, rfl, rfl, Or.inr (Or.inl ⟨hv, h129, h134, rfl, rfl, rfl, rfl⟩)⟩
              · skip
                refine g_const (n := 126) rfl rfl (s_iconst (v := -1) (by decide)) ?_
                refine go_ret rfl rfl rfl rfl (bad ?_)
                unfold cValid
                first | (rw [← e8, h91]; rfl) | (rw [← e8, h91, dle h95]; rfl) | (rw [← e8, h91, dT h95, dle h100]; rfl) | (rw [← e8, h91, dT h95, dT h100, h107]; rfl) | (rw [← e8, h91, dT h95, dT h100, h107, ← e9, h112]; rfl) | (rw [← e8, h91, dT h95, dT h100, h107, ← e9, h112, ← e10, h117]; rfl) | (rw [← e8, h91, dT h95, dT h100, h107, ← e9, h112, ← e10, h117, ← e11, h122]; rfl)
set_option maxRecDepth 20000 in
theorem st_cr67 {host kind head a b nt to : Int32} {t8 t9 t10 : Bool} (hC : CW E T M n rs) (hQ : LQ E T n rs) (e8 : t8 = (decide (host = -1) || cIs 4 host)) (e9 : t9 = (cIs 8 a && (decide (b = -1) || cIs 8 b))) (e10 : t10 = (decide (nt = -1) || cIs 8 nt)) : Go [] (d + 8) (some .int) tabX8_rule 67 [(0, .ref 0), (1, .int host), (2, .int kind), (3, .int head), (4, .int a), (5, .int b), (6, .int nt), (7, .int to), (8, .int (bI t8)), (9, .int (bI t9))] [.int (bI t10)] (hp (zz E T) M) 0 0 (RuleCQ E T M n rs host kind head a b nt to) := by
  refine g_istore (n := 69) rfl rfl ?_
  refine g_iload_n (n := 70) rfl rfl rfl ?_
  refine g_const (n := 71) rfl rfl (s_iconst (v := 2) (by decide)) ?_
  refine g_ine (n := 74) rfl rfl (fun h71 => ?_) (fun h71 => ?_)
  · skip
    refine g_const (n := 83) rfl rfl (s_iconst (v := 1) (by decide)) ?_
    refine g_goto rfl ?_
    first | exact st_cr87 (t11 := true) hC hQ e8 e9 e10 (by rw [dF h71]; rfl) | exact st_cr87 (t11 := true) hC hQ e8 e9 e10 (by rw [dT h71, h79]; rfl) | exact st_cr87 (t11 := false) hC hQ e8 e9 e10 (by rw [dT h71, h79]; rfl)
  · skip
    refine g_iload (n := 76) rfl rfl rfl ?_
    refine g_cP1 (n := 79) rfl rfl rfl rfl mt_X8_isHost rfl rfl rfl (sc_isHost) ?_
    refine g_bz (n := 82) rfl rfl (fun h79 => ?_) (fun h79 => ?_)
    · skip
      refine g_const (n := 87) rfl rfl (s_iconst (v := 0) (by decide)) ?_
      first | exact st_cr87 (t11 := true) hC hQ e8 e9 e10 (by rw [dF h71]; rfl) | exact st_cr87 (t11 := true) hC hQ e8 e9 e10 (by rw [dT h71, h79]; rfl) | exact st_cr87 (t11 := false) hC hQ e8 e9 e10 (by rw [dT h71, h79]; rfl)
    · skip
      refine g_const (n := 83) rfl rfl (s_iconst (v := 1) (by decide)) ?_
      refine g_goto rfl ?_
      first | exact st_cr87 (t11 := true) hC hQ e8 e9 e10 (by rw [dF h71]; rfl) | exact st_cr87 (t11 := true) hC hQ e8 e9 e10 (by rw [dT h71, h79]; rfl) | exact st_cr87 (t11 := false) hC hQ e8 e9 e10 (by rw [dT h71, h79]; rfl)
set_option maxRecDepth 20000 in
theorem st_cr46 {host kind head a b nt to : Int32} {t8 t9 : Bool} (hC : CW E T M n rs) (hQ : LQ E T n rs) (e8 : t8 = (decide (host = -1) || cIs 4 host)) (e9 : t9 = (cIs 8 a && (decide (b = -1) || cIs 8 b))) : Go [] (d + 8) (some .int) tabX8_rule 46 [(0, .ref 0), (1, .int host), (2, .int kind), (3, .int head), (4, .int a), (5, .int b), (6, .int nt), (7, .int to), (8, .int (bI t8))] [.int (bI t9)] (hp (zz E T) M) 0 0 (RuleCQ E T M n rs host kind head a b nt to) := by
  refine g_istore (n := 48) rfl rfl ?_
  refine g_iload (n := 50) rfl rfl rfl ?_
  refine g_const (n := 51) rfl rfl (s_iconst (v := (-1)) (by decide)) ?_
  refine g_ieq (n := 54) rfl rfl (fun h51 => ?_) (fun h51 => ?_)
  · skip
    refine g_const (n := 63) rfl rfl (s_iconst (v := 1) (by decide)) ?_
    refine g_goto rfl ?_
    first | exact st_cr67 (t10 := true) hC hQ e8 e9 (by rw [dT h51]; rfl) | exact st_cr67 (t10 := true) hC hQ e8 e9 (by rw [dF h51, h59]; rfl) | exact st_cr67 (t10 := false) hC hQ e8 e9 (by rw [dF h51, h59]; rfl)
  · skip
    refine g_iload (n := 56) rfl rfl rfl ?_
    refine g_cP1 (n := 59) rfl rfl rfl rfl mt_X8_isFact rfl rfl rfl (sc_isFact) ?_
    refine g_bz (n := 62) rfl rfl (fun h59 => ?_) (fun h59 => ?_)
    · skip
      refine g_const (n := 67) rfl rfl (s_iconst (v := 0) (by decide)) ?_
      first | exact st_cr67 (t10 := true) hC hQ e8 e9 (by rw [dT h51]; rfl) | exact st_cr67 (t10 := true) hC hQ e8 e9 (by rw [dF h51, h59]; rfl) | exact st_cr67 (t10 := false) hC hQ e8 e9 (by rw [dF h51, h59]; rfl)
    · skip
      refine g_const (n := 63) rfl rfl (s_iconst (v := 1) (by decide)) ?_
      refine g_goto rfl ?_
      first | exact st_cr67 (t10 := true) hC hQ e8 e9 (by rw [dT h51]; rfl) | exact st_cr67 (t10 := true) hC hQ e8 e9 (by rw [dF h51, h59]; rfl) | exact st_cr67 (t10 := false) hC hQ e8 e9 (by rw [dF h51, h59]; rfl)
set_option maxRecDepth 20000 in
theorem st_cr17 {host kind head a b nt to : Int32} {t8 : Bool} (hC : CW E T M n rs) (hQ : LQ E T n rs) (e8 : t8 = (decide (host = -1) || cIs 4 host)) : Go [] (d + 8) (some .int) tabX8_rule 17 [(0, .ref 0), (1, .int host), (2, .int kind), (3, .int head), (4, .int a), (5, .int b), (6, .int nt), (7, .int to)] [.int (bI t8)] (hp (zz E T) M) 0 0 (RuleCQ E T M n rs host kind head a b nt to) := by
  refine g_istore (n := 19) rfl rfl ?_
  refine g_iload (n := 21) rfl rfl rfl ?_
  refine g_cP1 (n := 24) rfl rfl rfl rfl mt_X8_isFact rfl rfl rfl (sc_isFact) ?_
  refine g_bz (n := 27) rfl rfl (fun h24 => ?_) (fun h24 => ?_)
  · skip
    refine g_const (n := 46) rfl rfl (s_iconst (v := 0) (by decide)) ?_
    first | exact st_cr46 (t9 := true) hC hQ e8 (by rw [h24, dT h30]; rfl) | exact st_cr46 (t9 := true) hC hQ e8 (by rw [h24, dF h30, h38]; rfl) | exact st_cr46 (t9 := false) hC hQ e8 (by rw [h24, dF h30, h38]; rfl) | exact st_cr46 (t9 := false) hC hQ e8 (by rw [h24]; rfl)
  · skip
    refine g_iload (n := 29) rfl rfl rfl ?_
    refine g_const (n := 30) rfl rfl (s_iconst (v := (-1)) (by decide)) ?_
    refine g_ieq (n := 33) rfl rfl (fun h30 => ?_) (fun h30 => ?_)
    · skip
      refine g_const (n := 42) rfl rfl (s_iconst (v := 1) (by decide)) ?_
      refine g_goto rfl ?_
      first | exact st_cr46 (t9 := true) hC hQ e8 (by rw [h24, dT h30]; rfl) | exact st_cr46 (t9 := true) hC hQ e8 (by rw [h24, dF h30, h38]; rfl) | exact st_cr46 (t9 := false) hC hQ e8 (by rw [h24, dF h30, h38]; rfl) | exact st_cr46 (t9 := false) hC hQ e8 (by rw [h24]; rfl)
    · skip
      refine g_iload (n := 35) rfl rfl rfl ?_
      refine g_cP1 (n := 38) rfl rfl rfl rfl mt_X8_isFact rfl rfl rfl (sc_isFact) ?_
      refine g_bz (n := 41) rfl rfl (fun h38 => ?_) (fun h38 => ?_)
      · skip
        refine g_const (n := 46) rfl rfl (s_iconst (v := 0) (by decide)) ?_
        first | exact st_cr46 (t9 := true) hC hQ e8 (by rw [h24, dT h30]; rfl) | exact st_cr46 (t9 := true) hC hQ e8 (by rw [h24, dF h30, h38]; rfl) | exact st_cr46 (t9 := false) hC hQ e8 (by rw [h24, dF h30, h38]; rfl) | exact st_cr46 (t9 := false) hC hQ e8 (by rw [h24]; rfl)
      · skip
        refine g_const (n := 42) rfl rfl (s_iconst (v := 1) (by decide)) ?_
        refine g_goto rfl ?_
        first | exact st_cr46 (t9 := true) hC hQ e8 (by rw [h24, dT h30]; rfl) | exact st_cr46 (t9 := true) hC hQ e8 (by rw [h24, dF h30, h38]; rfl) | exact st_cr46 (t9 := false) hC hQ e8 (by rw [h24, dF h30, h38]; rfl) | exact st_cr46 (t9 := false) hC hQ e8 (by rw [h24]; rfl)
set_option maxRecDepth 20000 in
theorem sc_rule {host kind head a b nt to : Int32} (hC : CW E T M n rs) (hQ : LQ E T n rs) : EvG (d + 9) miX8_rule [.ref 0, .int host, .int kind, .int head, .int a, .int b, .int nt, .int to] (hp (zz E T) M) (RuleCQ E T M n rs host kind head a b nt to) := by
  refine ev_of mt_X8_rule rfl ?_
  refine g_iload_n (n := 1) rfl rfl rfl ?_
  refine g_const (n := 2) rfl rfl (s_iconst (v := (-1)) (by decide)) ?_
  refine g_ieq (n := 5) rfl rfl (fun h2 => ?_) (fun h2 => ?_)
  · skip
    refine g_const (n := 13) rfl rfl (s_iconst (v := 1) (by decide)) ?_
    refine g_goto rfl ?_
    first | exact st_cr17 (t8 := true) hC hQ (by rw [dT h2]; rfl) | exact st_cr17 (t8 := true) hC hQ (by rw [dF h2, h9]; rfl) | exact st_cr17 (t8 := false) hC hQ (by rw [dF h2, h9]; rfl)
  · skip
    refine g_iload_n (n := 6) rfl rfl rfl ?_
    refine g_cP1 (n := 9) rfl rfl rfl rfl mt_X8_isHost rfl rfl rfl (sc_isHost) ?_
    refine g_bz (n := 12) rfl rfl (fun h9 => ?_) (fun h9 => ?_)
    · skip
      refine g_const (n := 17) rfl rfl (s_iconst (v := 0) (by decide)) ?_
      first | exact st_cr17 (t8 := true) hC hQ (by rw [dT h2]; rfl) | exact st_cr17 (t8 := true) hC hQ (by rw [dF h2, h9]; rfl) | exact st_cr17 (t8 := false) hC hQ (by rw [dF h2, h9]; rfl)
    · skip
      refine g_const (n := 13) rfl rfl (s_iconst (v := 1) (by decide)) ?_
      refine g_goto rfl ?_
      first | exact st_cr17 (t8 := true) hC hQ (by rw [dT h2]; rfl) | exact st_cr17 (t8 := true) hC hQ (by rw [dF h2, h9]; rfl) | exact st_cr17 (t8 := false) hC hQ (by rw [dF h2, h9]; rfl)
end RX
