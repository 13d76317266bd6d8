/-! The reference: why, count, mend -/
section PQ
variable {E : Value} {T : List SH} {M : Mem} {d : Nat}
set_option maxRecDepth 20000 in
theorem go_pc {xs : List Int32} {ret : Option FieldType} {tab : List ARow} {pc pc2 : Nat} {al : AL} {st : List Value} {h : AH} {c s : Nat} {Q : QT} (e : pc = pc2) (k : Go xs d ret tab pc2 al st h c s Q) : Go xs d ret tab pc al st h c s Q := by
  rw [e]
  exact k
set_option maxRecDepth 20000 in
theorem g_tsw {xs : List Int32} {ret : Option FieldType} {tab : List ARow} {pc : Nat} {al : AL} {st : List Value} {h : AH} {c s : Nat} {Q : QT} {len a b : Nat} {df lo hi : Int} {offs : Array Int} {x : Int32} (hr : a_row tab pc = some (pc, .tableswitch df lo hi offs, len, a, b)) (hd : decide (0 ≤ (pc : Int) + df) = true) (ho : offs.toList.all (fun o => decide (0 ≤ (pc : Int) + o)) = true) (hsz : decide (hi + 1 = lo + (offs.size : Int)) = true) (kd : x.toInt < lo ∨ hi < x.toInt → Go xs d ret tab ((pc : Int) + df).toNat al st h c s Q) (kk : ∀ (j : Nat) (t : Int), offs[j]? = some t → x.toInt = lo + j → Go xs d ret tab ((pc : Int) + t).toNat al st h c s Q) : Go xs d ret tab pc al (.int x :: st) h c s Q := by
  by_cases e : x.toInt < lo ∨ hi < x.toInt
  · refine go_step (pc' := ((pc : Int) + df).toNat) (al' := al) (st' := st) (h' := h) (dc := 0) (ds := 0) hr ?_ (kd e)
    have h1 : (decide (x.toInt < lo) || decide (hi < x.toInt)) = true := by simpa using e
    simp only [a_step, h1, hd, cond_true, fN_eq]
  · have h1 : (decide (x.toInt < lo) || decide (hi < x.toInt)) = false := by
      cases hb : (decide (x.toInt < lo) || decide (hi < x.toInt)) with
      | false => rfl
      | true => exact absurd (by simpa using hb) e
    have hsz := of_decide_eq_true hsz
    have hj : (x.toInt - lo).toNat < offs.size := by omega
    have hg : offs[(x.toInt - lo).toNat]? = some offs[(x.toInt - lo).toNat] := Array.getElem?_eq_getElem hj
    have h0 : decide (0 ≤ (pc : Int) + offs[(x.toInt - lo).toNat]) = true := List.all_eq_true.mp ho _ (by simp [Array.getElem_mem])
    refine go_step (pc' := ((pc : Int) + offs[(x.toInt - lo).toNat]).toNat) (al' := al) (st' := st) (h' := h) (dc := 0) (ds := 0) hr ?_ (kk _ _ hg (by omega))
    simp only [a_step, h1, cond_false, hg, h0, cond_true, fN_eq]
set_option maxRecDepth 20000 in
theorem lp_why {x : Int32} {h t n nb : Nat} {M1 : Mem} (hI : MI M) (k1 : mKeep M M1) (h4 : h < 4) (ht : 1 ≤ t) (ht6 : t ≤ 6) (hr : M1 41 1 = Int32.ofNat n) (hn : n ≤ 12) (hb : M1 41 23 = Int32.ofNat nb) (hnb : nb ≤ 4) : ∀ i, i ≤ n → Go [] (d + 4) (some .int) tabX9_why 95 [(0, .ref 41), (1, .int (Int32.ofNat h)), (2, .int (Int32.ofNat t)), (3, .int x), (4, .int (Int32.ofNat (4 * t + h))), (5, .int (Int32.ofNat i))] [] (hp (zz E T) M1) 0 0 (QI (zz E T) (fun _ M' => mKeep M M')) := by
  refine loop_up n ?_
  intro i hi ih
  refine g_iload (n := 97) rfl rfl rfl ?_
  refine g_aload_n (n := 98) rfl rfl rfl ?_
  refine g_getI (n := 101) rfl rfl z_41 rfl ?_
  refine g_ige (n := 104) rfl rfl (fun h101 => ?_) (fun h101 => ?_)
  · skip
    refine g_const (n := 181) rfl rfl (s_sipush (v := 300) (by decide)) ?_
    refine g_aload_n (n := 182) rfl rfl rfl ?_
    refine g_iload_n (n := 183) rfl rfl rfl ?_
    refine g_iload_n (n := 184) rfl rfl rfl ?_
    refine g_iload_n (n := 185) rfl rfl rfl ?_
    refine g_cI4 (n := 188) rfl rfl rfl rfl mt_X9_letterOf rfl rfl (r_k z_41) (sp_letterOf h4 ht ht6 hr hn hb hnb) ?_
    rintro x185 M185 rfl
    refine g_iadd (n := 189) rfl rfl ?_
    refine g_retI rfl ?_
    exact k1
  · skip
    rw [hr] at h101
    have g9 := (jn_lt (by omega) (by omega)).mp h101
    refine g_aload_n (n := 105) rfl rfl rfl ?_
    refine g_getR (n := 108) rfl rfl z_41 rfl ?_
    refine g_iload (n := 110) rfl rfl rfl ?_
    refine g_iald (n := 111) rfl rfl z_43 rfl rfl (by omega) ?_
    refine g_const (n := 112) rfl rfl (s_iconst (v := 1) (by decide)) ?_
    refine g_ine (n := 115) rfl rfl (fun h112 => ?_) (fun h112 => ?_)
    · skip
      refine g_iinc (n := 175) rfl rfl rfl (jn_1 _) ?_
      refine g_goto rfl ?_
      exact ih g9
    · skip
      refine g_aload_n (n := 116) rfl rfl rfl ?_
      refine g_getR (n := 119) rfl rfl z_41 rfl ?_
      refine g_iload (n := 121) rfl rfl rfl ?_
      refine g_iald (n := 122) rfl rfl z_44 rfl rfl (by omega) ?_
      refine g_iload_n (n := 123) rfl rfl rfl ?_
      refine g_ine (n := 126) rfl rfl (fun h123 => ?_) (fun h123 => ?_)
      · skip
        refine g_iinc (n := 175) rfl rfl rfl (jn_1 _) ?_
        refine g_goto rfl ?_
        exact ih g9
      · skip
        refine g_aload_n (n := 127) rfl rfl rfl ?_
        refine g_iload (n := 129) rfl rfl rfl ?_
        refine g_iload_n (n := 130) rfl rfl rfl ?_
        refine g_cP3 (n := 133) rfl rfl rfl rfl mt_X9_counts rfl rfl (r_k z_41) (sp_counts (by omega)) ?_
        refine g_bz (n := 136) rfl rfl (fun h133 => ?_) (fun h133 => ?_)
        · skip
          refine g_iinc (n := 175) rfl rfl rfl (jn_1 _) ?_
          refine g_goto rfl ?_
          exact ih g9
        · skip
          refine g_aload_n (n := 137) rfl rfl rfl ?_
          refine g_iload_n (n := 138) rfl rfl rfl ?_
          refine g_iload_n (n := 139) rfl rfl rfl ?_
          refine g_const (n := 140) rfl rfl (s_iconst (v := 1) (by decide)) ?_
          refine g_isub (n := 141) rfl rfl ?_
          rw [show Int32.ofNat t - 1 = Int32.ofNat (t - 1) from jn_sub (b := 1) ht]
          refine g_cP3 (n := 144) rfl rfl rfl rfl mt_X9_isFallen rfl rfl (r_k z_41) (sp_isFallen h4) ?_
          refine g_bnz (n := 147) rfl rfl (fun h144 => ?_) (fun h144 => ?_)
          · skip
            refine g_iinc (n := 175) rfl rfl rfl (jn_1 _) ?_
            refine g_goto rfl ?_
            exact ih g9
          · skip
            refine g_aload_n (n := 148) rfl rfl rfl ?_
            refine g_iload (n := 150) rfl rfl rfl ?_
            refine g_aload_n (n := 151) rfl rfl rfl ?_
            refine g_getR (n := 154) rfl rfl z_41 rfl ?_
            refine g_iload (n := 156) rfl rfl rfl ?_
            refine g_const (n := 157) rfl rfl (s_iconst (v := 4) (by decide)) ?_
            refine g_isub (n := 158) rfl rfl ?_
            refine g_iald (n := 159) rfl rfl z_56 rfl (show Int32.ofNat (4 * t + h) - 4 = Int32.ofNat (4 * t + h - 4) from jn_sub (b := 4) (by omega)) (by omega) ?_
            refine g_cP3 (n := 162) rfl rfl rfl rfl mt_X9_fits rfl rfl (r_k z_41) (sp_fits (by omega)) ?_
            refine g_bz (n := 165) rfl rfl (fun h162 => ?_) (fun h162 => ?_)
            · skip
              refine g_iinc (n := 175) rfl rfl rfl (jn_1 _) ?_
              refine g_goto rfl ?_
              exact ih g9
            · skip
              refine g_const (n := 168) rfl rfl (s_sipush (v := 200) (by decide)) ?_
              refine g_iload (n := 170) rfl rfl rfl ?_
              refine g_iadd (n := 171) rfl rfl ?_
              refine g_retI rfl ?_
              exact k1
set_option maxRecDepth 20000 in
theorem sp_whyM {h t f : Int32} (hI : MI M) : EvI (d + 5) miX9_why [.ref 41, .int h, .int t, .int f] (zz E T) M (fun _ M' => mKeep M M') := by
  obtain ⟨k, hk4, hk⟩ := hI.2.2.2.2.2.2.1
  obtain ⟨e, -, he6, he⟩ := hI.1
  obtain ⟨n, hn, hr⟩ := hI.2.1
  refine ev_of mt_X9_why rfl ?_
  refine g_iload_n (n := 1) rfl rfl rfl ?_
  refine g_cP1 (n := 4) rfl rfl rfl rfl mt_X9_isHost rfl rfl rfl (sp_isHost) ?_
  refine g_bz (n := 7) rfl rfl (fun h4 => ?_) (fun h4 => ?_)
  · skip
    refine g_const (n := 23) rfl rfl (s_iconst (v := (-1)) (by decide)) ?_
    refine g_retI rfl ?_
    exact mKeep.rf
  · skip
    refine g_aload_n (n := 8) rfl rfl rfl ?_
    refine g_iload_n (n := 9) rfl rfl rfl ?_
    refine g_cP2 (n := 12) rfl rfl rfl rfl mt_X9_isTick rfl rfl (r_k z_41) (sp_isTick) ?_
    refine g_bz (n := 15) rfl rfl (fun h12 => ?_) (fun h12 => ?_)
    · skip
      refine g_const (n := 23) rfl rfl (s_iconst (v := (-1)) (by decide)) ?_
      refine g_retI rfl ?_
      exact mKeep.rf
    · skip
      refine g_iload_n (n := 16) rfl rfl rfl ?_
      refine g_cP1 (n := 19) rfl rfl rfl rfl mt_X9_isFact rfl rfl rfl (sp_isFact) ?_
      refine g_bnz (n := 22) rfl rfl (fun h19 => ?_) (fun h19 => ?_)
      · skip
        obtain ⟨a, ha, ea⟩ := mIn_H h4
        rw [he] at h12
        obtain ⟨b, hb, eb⟩ := mIn_le (by omega) h12
        subst ea eb
        refine g_aload_n (n := 25) rfl rfl rfl ?_
        refine g_cV1 (n := 28) rfl rfl rfl rfl mt_X9_takesHand rfl rfl (r_k z_41) (sp_takesHand hk hk4) ?_
        rintro M1 ⟨k1, k2, k3, -⟩
        refine g_aload_n (n := 29) rfl rfl rfl ?_
        refine g_cV1 (n := 32) rfl rfl rfl rfl mt_X9_runs rfl rfl (r_k z_41) (sp_runsR (hI.keep k1) k2 hk4 (fun j hj => by rw [k3 j hj]; exact hI.2.2.2.2.2.2.2.1 j (by omega))) ?_
        intro M2 k4
        have k5 := k1.tr k4.1
        refine g_const (n := 33) rfl rfl (s_iconst (v := 4) (by decide)) ?_
        refine g_iload_n (n := 34) rfl rfl rfl ?_
        refine g_imul (n := 35) rfl rfl ?_
        refine g_iload_n (n := 36) rfl rfl rfl ?_
        refine g_iadd (n := 37) rfl rfl ?_
        rw [ix44]
        refine g_istore (n := 39) rfl rfl ?_
        refine g_aload_n (n := 40) rfl rfl rfl ?_
        refine g_getR (n := 43) rfl rfl z_41 rfl ?_
        refine g_iload (n := 45) rfl rfl rfl ?_
        refine g_iald (n := 46) rfl rfl z_56 rfl rfl (by omega) ?_
        refine g_iload_n (n := 47) rfl rfl rfl ?_
        refine g_ishr (n := 48) rfl rfl ?_
        refine g_const (n := 49) rfl rfl (s_iconst (v := 1) (by decide)) ?_
        refine g_iand (n := 50) rfl rfl ?_
        refine g_zne (n := 53) rfl rfl (fun h50 => ?_) (fun h50 => ?_)
        · skip
          refine g_aload_n (n := 56) rfl rfl rfl ?_
          refine g_getR (n := 59) rfl rfl z_41 rfl ?_
          refine g_iload (n := 61) rfl rfl rfl ?_
          refine g_iald (n := 62) rfl rfl z_55 rfl rfl (by omega) ?_
          refine g_iload_n (n := 63) rfl rfl rfl ?_
          refine g_ishr (n := 64) rfl rfl ?_
          refine g_const (n := 65) rfl rfl (s_iconst (v := 1) (by decide)) ?_
          refine g_iand (n := 66) rfl rfl ?_
          refine g_zne (n := 69) rfl rfl (fun h66 => ?_) (fun h66 => ?_)
          · skip
            refine g_iload_n (n := 87) rfl rfl rfl ?_
            refine g_zne (n := 90) rfl rfl (fun h87 => ?_) (fun h87 => ?_)
            · skip
              have hb1 : 1 ≤ b := by
                rcases Nat.eq_zero_or_pos b with e | e
                · subst e; exact absurd rfl h87
                · exact e
              refine g_const (n := 93) rfl rfl (s_iconst (v := 0) (by decide)) ?_
              refine g_istore (n := 95) rfl rfl ?_
              exact lp_why hI k5 ha hb1 (by omega) ((k5 41 1 rfl).trans hr) hn (k4.2.2.1.trans k2) hk4 0 (by omega)
            · skip
              refine g_const (n := 91) rfl rfl (s_iconst (v := 0) (by decide)) ?_
              refine g_retI rfl ?_
              exact k5
          · skip
            refine g_const (n := 71) rfl rfl (s_bipush (v := 100) (by decide)) ?_
            refine g_aload_n (n := 72) rfl rfl rfl ?_
            refine g_iload_n (n := 73) rfl rfl rfl ?_
            refine g_aload_n (n := 74) rfl rfl rfl ?_
            refine g_getR (n := 77) rfl rfl z_41 rfl ?_
            refine g_iload (n := 79) rfl rfl rfl ?_
            refine g_iald (n := 80) rfl rfl z_56 rfl rfl (by omega) ?_
            refine g_iload_n (n := 81) rfl rfl rfl ?_
            refine g_cI4 (n := 84) rfl rfl rfl rfl mt_X9_leastNow rfl rfl (r_k z_41) (sp_leastNow ((k5 41 1 rfl).trans hr) hn) ?_
            rintro x81 M81 rfl
            refine g_iadd (n := 85) rfl rfl ?_
            refine g_retI rfl ?_
            exact k5
        · skip
          refine g_const (n := 54) rfl rfl (s_iconst (v := (-1)) (by decide)) ?_
          refine g_retI rfl ?_
          exact k5
      · skip
        refine g_const (n := 23) rfl rfl (s_iconst (v := (-1)) (by decide)) ?_
        refine g_retI rfl ?_
        exact mKeep.rf
set_option maxRecDepth 20000 in
theorem lp_count43 {n : Nat} {w : Int32} (hr : M 41 1 = Int32.ofNat n) (hn : n ≤ 12) : ∀ i, i ≤ n → ∀ x, Go [] (d + 1) (some .int) tabX9_count 43 [(0, .ref 41), (1, .int w), (2, .int x), (3, .int (Int32.ofNat i))] [] (hp (zz E T) M) 0 0 (QI (zz E T) (fun _ M' => M' = M)) := by
  refine loop_up n ?_
  intro i hi ih x
  refine g_iload_n (n := 44) rfl rfl rfl ?_
  refine g_aload_n (n := 45) rfl rfl rfl ?_
  refine g_getI (n := 48) rfl rfl z_41 rfl ?_
  refine g_ige (n := 51) rfl rfl (fun h48 => ?_) (fun h48 => ?_)
  · skip
    refine g_iload_n (n := 76) rfl rfl rfl ?_
    refine g_retI rfl ?_
    rfl
  · skip
    rw [hr] at h48
    have g9 := (jn_lt (by omega) (by omega)).mp h48
    refine g_iload_n (n := 52) rfl rfl rfl ?_
    refine g_aload_n (n := 53) rfl rfl rfl ?_
    refine g_getR (n := 56) rfl rfl z_41 rfl ?_
    refine g_iload_n (n := 57) rfl rfl rfl ?_
    refine g_iald (n := 58) rfl rfl z_49 rfl rfl (by omega) ?_
    refine g_const (n := 59) rfl rfl (s_iconst (v := (-1)) (by decide)) ?_
    refine g_ieq (n := 62) rfl rfl (fun h59 => ?_) (fun h59 => ?_)
    · skip
      refine g_const (n := 67) rfl rfl (s_iconst (v := 0) (by decide)) ?_
      refine g_iadd (n := 68) rfl rfl ?_
      refine g_istore_n (n := 69) rfl rfl ?_
      refine g_iinc (n := 72) rfl rfl rfl (jn_1 _) ?_
      refine g_goto rfl ?_
      exact ih g9 _
    · skip
      refine g_const (n := 63) rfl rfl (s_iconst (v := 1) (by decide)) ?_
      refine g_goto rfl ?_
      refine g_iadd (n := 68) rfl rfl ?_
      refine g_istore_n (n := 69) rfl rfl ?_
      refine g_iinc (n := 72) rfl rfl rfl (jn_1 _) ?_
      refine g_goto rfl ?_
      exact ih g9 _
set_option maxRecDepth 20000 in
theorem lp_count89 {w : Int32} : ∀ i, i ≤ 4 → ∀ x, Go [] (d + 1) (some .int) tabX9_count 89 [(0, .ref 41), (1, .int w), (2, .int x), (3, .int (Int32.ofNat i))] [] (hp (zz E T) M) 0 0 (QI (zz E T) (fun _ M' => M' = M)) := by
  refine loop_up 4 ?_
  intro i hi ih x
  refine g_iload_n (n := 90) rfl rfl rfl ?_
  refine g_const (n := 91) rfl rfl (s_iconst (v := 4) (by decide)) ?_
  refine g_ige (n := 94) rfl rfl (fun h91 => ?_) (fun h91 => ?_)
  · skip
    refine g_iload_n (n := 113) rfl rfl rfl ?_
    refine g_retI rfl ?_
    rfl
  · skip
    have g9 := (jn_lt (b := 4) (a := i) (by omega) (by omega)).mp h91
    refine g_iload_n (n := 95) rfl rfl rfl ?_
    refine g_aload_n (n := 96) rfl rfl rfl ?_
    refine g_getR (n := 99) rfl rfl z_41 rfl ?_
    refine g_iload_n (n := 100) rfl rfl rfl ?_
    refine g_iald (n := 101) rfl rfl z_50 rfl rfl (by omega) ?_
    refine g_cP1 (n := 104) rfl rfl rfl rfl mt_X9_bits rfl rfl rfl (sp_bits) ?_
    refine g_iadd (n := 105) rfl rfl ?_
    refine g_istore_n (n := 106) rfl rfl ?_
    refine g_iinc (n := 109) rfl rfl rfl (jn_1 _) ?_
    refine g_goto rfl ?_
    exact ih g9 _
set_option maxRecDepth 20000 in
theorem sp_countM {w : Int32} (hI : MI M) : EvI (d + 2) miX9_count [.ref 41, .int w] (zz E T) M (fun _ M' => M' = M) := by
  obtain ⟨n, hn, hr⟩ := hI.2.1
  refine ev_of mt_X9_count rfl ?_
  refine g_const (n := 1) rfl rfl (s_iconst (v := 0) (by decide)) ?_
  refine g_istore_n (n := 2) rfl rfl ?_
  refine g_iload_n (n := 3) rfl rfl rfl ?_
  refine g_tsw rfl (by decide) (by decide) (by decide) (fun h3 => ?_) (fun j t hj h3 => ?_)
  · refine go_pc (pc2 := 114) rfl ?_
    refine g_const (n := 115) rfl rfl (s_iconst (v := (-1)) (by decide)) ?_
    refine g_retI rfl ?_
    rfl
  · match j, hj, h3 with
    | 0, hj, h3 =>
      obtain rfl : (33 : Int) = t := Option.some.inj hj
      refine go_pc (pc2 := 36) rfl ?_
      refine g_aload_n (n := 37) rfl rfl rfl ?_
      refine g_getI (n := 40) rfl rfl z_41 rfl ?_
      refine g_retI rfl ?_
      rfl
    | 1, hj, h3 =>
      obtain rfl : (38 : Int) = t := Option.some.inj hj
      refine go_pc (pc2 := 41) rfl ?_
      refine g_const (n := 42) rfl rfl (s_iconst (v := 0) (by decide)) ?_
      refine g_istore_n (n := 43) rfl rfl ?_
      exact lp_count43 hr hn 0 (by omega) _
    | 2, hj, h3 =>
      obtain rfl : (74 : Int) = t := Option.some.inj hj
      refine go_pc (pc2 := 77) rfl ?_
      refine g_aload_n (n := 78) rfl rfl rfl ?_
      refine g_getI (n := 81) rfl rfl z_41 rfl ?_
      refine g_retI rfl ?_
      rfl
    | 3, hj, h3 =>
      obtain rfl : (79 : Int) = t := Option.some.inj hj
      refine go_pc (pc2 := 82) rfl ?_
      refine g_aload_n (n := 83) rfl rfl rfl ?_
      refine g_getI (n := 86) rfl rfl z_41 rfl ?_
      refine g_retI rfl ?_
      rfl
    | 4, hj, h3 =>
      obtain rfl : (84 : Int) = t := Option.some.inj hj
      refine go_pc (pc2 := 87) rfl ?_
      refine g_const (n := 88) rfl rfl (s_iconst (v := 0) (by decide)) ?_
      refine g_istore_n (n := 89) rfl rfl ?_
      exact lp_count89 0 (by omega) _
    | j + 5, hj, _ => exact absurd hj (by simp)
-- mend
set_option maxRecDepth 20000 in
theorem shl_pow : ∀ n, n < 6 → (1 : Int32) <<< (Int32.ofNat n &&& 31) = Int32.ofNat (2 ^ n) := by decide
set_option maxRecDepth 20000 in
theorem lp_mend67 {n s : Nat} {M1 : Mem} {b l : Int32} (hn : n ≤ 5) (hs : ∀ k, k < n → jU 12 (M1 60 k)) {Q : QT} (K : ∀ sm pu, Go [] (d + 7) (some .int) tabX9_mend 140 [(0, .ref 41), (1, .int (Int32.ofNat n)), (2, .int b), (3, .int l), (4, .int (Int32.ofNat s)), (5, .int sm), (6, .int pu)] [] (hp (zz E T) M1) 0 0 Q) : ∀ i, i ≤ n → ∀ sm pu, Go [] (d + 7) (some .int) tabX9_mend 67 [(0, .ref 41), (1, .int (Int32.ofNat n)), (2, .int b), (3, .int l), (4, .int (Int32.ofNat s)), (5, .int sm), (6, .int pu), (7, .int (Int32.ofNat i))] [] (hp (zz E T) M1) 0 0 Q := by
  refine loop_up n ?_
  intro i hi ih sm pu
  refine g_iload (n := 69) rfl rfl rfl ?_
  refine g_iload_n (n := 70) rfl rfl rfl ?_
  refine g_ige (n := 73) rfl rfl (fun h70 => ?_) (fun h70 => ?_)
  · skip
    refine go_only 7 ?_; exact K sm pu
  · skip
    have g9 := (jn_lt (by omega) (by omega)).mp h70
    obtain ⟨r, hr, er⟩ := hs i g9
    refine g_iload (n := 75) rfl rfl rfl ?_
    refine g_iload (n := 77) rfl rfl rfl ?_
    refine g_iload (n := 79) rfl rfl rfl ?_
    refine g_ishr (n := 80) rfl rfl ?_
    refine g_const (n := 81) rfl rfl (s_iconst (v := 1) (by decide)) ?_
    refine g_iand (n := 82) rfl rfl ?_
    refine g_const (n := 83) rfl rfl (s_iconst (v := 1) (by decide)) ?_
    refine g_ine (n := 86) rfl rfl (fun h83 => ?_) (fun h83 => ?_)
    · skip
      refine g_const (n := 102) rfl rfl (s_iconst (v := 0) (by decide)) ?_
      refine g_iadd (n := 103) rfl rfl ?_
      refine g_istore (n := 105) rfl rfl ?_
      refine g_iload (n := 107) rfl rfl rfl ?_
      refine g_iload (n := 109) rfl rfl rfl ?_
      refine g_iload (n := 111) rfl rfl rfl ?_
      refine g_ishr (n := 112) rfl rfl ?_
      refine g_const (n := 113) rfl rfl (s_iconst (v := 1) (by decide)) ?_
      refine g_iand (n := 114) rfl rfl ?_
      refine g_const (n := 115) rfl rfl (s_iconst (v := 1) (by decide)) ?_
      refine g_ine (n := 118) rfl rfl (fun h115 => ?_) (fun h115 => ?_)
      · skip
        refine g_const (n := 131) rfl rfl (s_iconst (v := 0) (by decide)) ?_
        refine g_ior (n := 132) rfl rfl ?_
        refine g_istore (n := 134) rfl rfl ?_
        refine g_iinc (n := 137) rfl rfl rfl (jn_1 _) ?_
        refine g_goto rfl ?_
        exact ih g9 _ _
      · skip
        refine g_const (n := 119) rfl rfl (s_iconst (v := 1) (by decide)) ?_
        refine g_aload_n (n := 120) rfl rfl rfl ?_
        refine g_getR (n := 123) rfl rfl z_41 rfl ?_
        refine g_iload (n := 125) rfl rfl rfl ?_
        refine g_iald (n := 126) rfl rfl z_60 rfl rfl (by omega) ?_
        refine g_ishl (n := 127) rfl rfl ?_
        refine g_goto rfl ?_
        refine g_ior (n := 132) rfl rfl ?_
        refine g_istore (n := 134) rfl rfl ?_
        refine g_iinc (n := 137) rfl rfl rfl (jn_1 _) ?_
        refine g_goto rfl ?_
        exact ih g9 _ _
    · skip
      refine g_aload_n (n := 87) rfl rfl rfl ?_
      refine g_getR (n := 90) rfl rfl z_41 rfl ?_
      refine g_aload_n (n := 91) rfl rfl rfl ?_
      refine g_getR (n := 94) rfl rfl z_41 rfl ?_
      refine g_iload (n := 96) rfl rfl rfl ?_
      refine g_iald (n := 97) rfl rfl z_60 rfl rfl (by omega) ?_
      refine g_iald (n := 98) rfl rfl z_49 rfl er (by omega) ?_
      refine g_goto rfl ?_
      refine g_iadd (n := 103) rfl rfl ?_
      refine g_istore (n := 105) rfl rfl ?_
      refine g_iload (n := 107) rfl rfl rfl ?_
      refine g_iload (n := 109) rfl rfl rfl ?_
      refine g_iload (n := 111) rfl rfl rfl ?_
      refine g_ishr (n := 112) rfl rfl ?_
      refine g_const (n := 113) rfl rfl (s_iconst (v := 1) (by decide)) ?_
      refine g_iand (n := 114) rfl rfl ?_
      refine g_const (n := 115) rfl rfl (s_iconst (v := 1) (by decide)) ?_
      refine g_ine (n := 118) rfl rfl (fun h115 => ?_) (fun h115 => ?_)
      · skip
        refine g_const (n := 131) rfl rfl (s_iconst (v := 0) (by decide)) ?_
        refine g_ior (n := 132) rfl rfl ?_
        refine g_istore (n := 134) rfl rfl ?_
        refine g_iinc (n := 137) rfl rfl rfl (jn_1 _) ?_
        refine g_goto rfl ?_
        exact ih g9 _ _
      · skip
        refine g_const (n := 119) rfl rfl (s_iconst (v := 1) (by decide)) ?_
        refine g_aload_n (n := 120) rfl rfl rfl ?_
        refine g_getR (n := 123) rfl rfl z_41 rfl ?_
        refine g_iload (n := 125) rfl rfl rfl ?_
        refine g_iald (n := 126) rfl rfl z_60 rfl rfl (by omega) ?_
        refine g_ishl (n := 127) rfl rfl ?_
        refine g_goto rfl ?_
        refine g_ior (n := 132) rfl rfl ?_
        refine g_istore (n := 134) rfl rfl ?_
        refine g_iinc (n := 137) rfl rfl rfl (jn_1 _) ?_
        refine g_goto rfl ?_
        exact ih g9 _ _
set_option maxRecDepth 20000 in
theorem lp_mend50 {n : Nat} (hI : MI M) (hn : n ≤ 5) : ∀ i, i ≤ 2 ^ n → ∀ b l M1, mKeepB M M1 → (∀ k, k < n → jU 12 (M1 60 k)) → Go [] (d + 7) (some .int) tabX9_mend 50 [(0, .ref 41), (1, .int (Int32.ofNat n)), (2, .int b), (3, .int l), (4, .int (Int32.ofNat i))] [] (hp (zz E T) M1) 0 0 (QI (zz E T) (fun _ M' => mKeepB M M')) := by
  have h32 : 2 ^ n ≤ 32 := Nat.pow_le_pow_right (by omega) hn
  refine loop_up (2 ^ n) ?_
  intro i hi ih b l M1 k1 hs
  have K2 : i < 2 ^ n → ∀ sm pu, Go [] (d + 7) (some .int) tabX9_mend 140 [(0, .ref 41), (1, .int (Int32.ofNat n)), (2, .int b), (3, .int l), (4, .int (Int32.ofNat i)), (5, .int sm), (6, .int pu)] [] (hp (zz E T) M1) 0 0 (QI (zz E T) (fun _ M' => mKeepB M M')) := by
    intro g sm pu
    have k3 : mKeepB M (mup M1 41 25 pu) := k1.up rfl
    refine g_aload_n (n := 141) rfl rfl rfl ?_
    refine g_iload (n := 143) rfl rfl rfl ?_
    refine g_putI (n := 146) rfl rfl z_41 rfl rfl ?_
    refine g_iload_n (n := 147) rfl rfl rfl ?_
    refine g_const (n := 148) rfl rfl (s_iconst (v := (-1)) (by decide)) ?_
    refine g_ieq (n := 151) rfl rfl (fun h148 => ?_) (fun h148 => ?_)
    · skip
      refine g_aload_n (n := 158) rfl rfl rfl ?_
      refine g_cI1 (n := 161) rfl rfl rfl rfl mt_X9_isMended rfl rfl (r_k z_41) (sp_isMended (hI.keepB k3)) ?_
      rintro x158 M158 ⟨-, k4⟩
      refine g_zeq (n := 164) rfl rfl (fun h161 => ?_) (fun h161 => ?_)
      · skip
        refine g_iinc (n := 173) rfl rfl rfl (jn_1 _) ?_
        refine g_goto rfl ?_
        refine go_only 5 ?_
        first | exact ih g _ _ _ k3 hs | (refine ih g _ _ _ (k3.tr k4.toB) (fun k hk => ?_); rw [k4 60 k rfl]; exact hs k hk)
      · skip
        refine g_iload (n := 166) rfl rfl rfl ?_
        refine g_istore_n (n := 167) rfl rfl ?_
        refine g_iload (n := 169) rfl rfl rfl ?_
        refine g_istore_n (n := 170) rfl rfl ?_
        refine g_iinc (n := 173) rfl rfl rfl (jn_1 _) ?_
        refine g_goto rfl ?_
        refine go_only 5 ?_
        first | exact ih g _ _ _ k3 hs | (refine ih g _ _ _ (k3.tr k4.toB) (fun k hk => ?_); rw [k4 60 k rfl]; exact hs k hk)
    · skip
      refine g_iload (n := 153) rfl rfl rfl ?_
      refine g_iload_n (n := 154) rfl rfl rfl ?_
      refine g_ige (n := 157) rfl rfl (fun h154 => ?_) (fun h154 => ?_)
      · skip
        refine g_iinc (n := 173) rfl rfl rfl (jn_1 _) ?_
        refine g_goto rfl ?_
        refine go_only 5 ?_
        first | exact ih g _ _ _ k3 hs | (refine ih g _ _ _ (k3.tr k4.toB) (fun k hk => ?_); rw [k4 60 k rfl]; exact hs k hk)
      · skip
        refine g_aload_n (n := 158) rfl rfl rfl ?_
        refine g_cI1 (n := 161) rfl rfl rfl rfl mt_X9_isMended rfl rfl (r_k z_41) (sp_isMended (hI.keepB k3)) ?_
        rintro x158 M158 ⟨-, k4⟩
        refine g_zeq (n := 164) rfl rfl (fun h161 => ?_) (fun h161 => ?_)
        · skip
          refine g_iinc (n := 173) rfl rfl rfl (jn_1 _) ?_
          refine g_goto rfl ?_
          refine go_only 5 ?_
          first | exact ih g _ _ _ k3 hs | (refine ih g _ _ _ (k3.tr k4.toB) (fun k hk => ?_); rw [k4 60 k rfl]; exact hs k hk)
        · skip
          refine g_iload (n := 166) rfl rfl rfl ?_
          refine g_istore_n (n := 167) rfl rfl ?_
          refine g_iload (n := 169) rfl rfl rfl ?_
          refine g_istore_n (n := 170) rfl rfl ?_
          refine g_iinc (n := 173) rfl rfl rfl (jn_1 _) ?_
          refine g_goto rfl ?_
          refine go_only 5 ?_
          first | exact ih g _ _ _ k3 hs | (refine ih g _ _ _ (k3.tr k4.toB) (fun k hk => ?_); rw [k4 60 k rfl]; exact hs k hk)
  refine g_iload (n := 52) rfl rfl rfl ?_
  refine g_const (n := 53) rfl rfl (s_iconst (v := 1) (by decide)) ?_
  refine g_iload_n (n := 54) rfl rfl rfl ?_
  refine g_ishl (n := 55) rfl rfl ?_
  rw [shl_pow n (by omega)]
  refine g_ige (n := 58) rfl rfl (fun h55 => ?_) (fun h55 => ?_)
  · skip
    refine g_aload_n (n := 177) rfl rfl rfl ?_
    refine g_const (n := 178) rfl rfl (s_iconst (v := 0) (by decide)) ?_
    refine g_putI (n := 181) rfl rfl z_41 rfl rfl ?_
    refine g_iload_n (n := 182) rfl rfl rfl ?_
    refine g_retI rfl ?_
    exact k1.up rfl
  · skip
    have g9 := (jn_lt (by omega) (by omega)).mp h55
    refine g_const (n := 59) rfl rfl (s_iconst (v := 0) (by decide)) ?_
    refine g_istore (n := 61) rfl rfl ?_
    refine g_const (n := 62) rfl rfl (s_iconst (v := 0) (by decide)) ?_
    refine g_istore (n := 64) rfl rfl ?_
    refine g_const (n := 65) rfl rfl (s_iconst (v := 0) (by decide)) ?_
    refine g_istore (n := 67) rfl rfl ?_
    exact lp_mend67 hn hs (K2 g9) 0 (by omega) _ _
set_option maxRecDepth 20000 in
theorem lp_mend4 {n : Nat} (hI : MI M) (hr : M 41 1 = Int32.ofNat n) (hn : n ≤ 12) {Q : QT} (K : ∀ k r M1, k ≤ 5 → mKeepB M M1 → (∀ j, j < k → jU 12 (M1 60 j)) → Go [] (d + 7) (some .int) tabX9_mend 43 [(0, .ref 41), (1, .int (Int32.ofNat k)), (2, .int r)] [] (hp (zz E T) M1) 0 0 Q) : ∀ i, i ≤ n → ∀ k M1, k ≤ 5 → mKeepB M M1 → (∀ j, j < k → jU 12 (M1 60 j)) → Go [] (d + 7) (some .int) tabX9_mend 4 [(0, .ref 41), (1, .int (Int32.ofNat k)), (2, .int (Int32.ofNat i))] [] (hp (zz E T) M1) 0 0 Q := by
  refine loop_up n ?_
  intro i hi ih k M1 hk k1 hs
  refine g_iload_n (n := 5) rfl rfl rfl ?_
  refine g_aload_n (n := 6) rfl rfl rfl ?_
  refine g_getI (n := 9) rfl rfl z_41 rfl ?_
  refine g_ige (n := 12) rfl rfl (fun h9 => ?_) (fun h9 => ?_)
  · skip
    exact K k _ M1 hk k1 hs
  · skip
    rw [k1 41 1 rfl, hr] at h9
    have g9 := (jn_lt (by omega) (by omega)).mp h9
    refine g_iload_n (n := 13) rfl rfl rfl ?_
    refine g_const (n := 14) rfl rfl (s_iconst (v := 5) (by decide)) ?_
    refine g_ige (n := 17) rfl rfl (fun h14 => ?_) (fun h14 => ?_)
    · skip
      exact K k _ M1 hk k1 hs
    · skip
      have g5 := (jn_lt (b := 5) (by omega) (by omega)).mp h14
      refine g_aload_n (n := 18) rfl rfl rfl ?_
      refine g_getR (n := 21) rfl rfl z_41 rfl ?_
      refine g_iload_n (n := 22) rfl rfl rfl ?_
      refine g_iald (n := 23) rfl rfl z_49 rfl rfl (by omega) ?_
      refine g_const (n := 24) rfl rfl (s_iconst (v := (-1)) (by decide)) ?_
      refine g_ieq (n := 27) rfl rfl (fun h24 => ?_) (fun h24 => ?_)
      · skip
        refine g_iinc (n := 40) rfl rfl rfl (jn_1 _) ?_
        refine g_goto rfl ?_
        exact ih g9 k M1 hk k1 hs
      · skip
        refine g_aload_n (n := 28) rfl rfl rfl ?_
        refine g_getR (n := 31) rfl rfl z_41 rfl ?_
        refine g_iload_n (n := 32) rfl rfl rfl ?_
        refine g_iload_n (n := 33) rfl rfl rfl ?_
        refine g_iast (n := 34) rfl rfl z_60 rfl rfl (by omega) ?_
        refine g_iinc (n := 37) rfl rfl rfl (jn_1 _) ?_
        refine g_iinc (n := 40) rfl rfl rfl (jn_1 _) ?_
        refine g_goto rfl ?_
        refine ih g9 (k + 1) _ (by omega) ?_ ?_
        · exact k1.up rfl
        · intro j hj
          by_cases e : j = k
          · subst e; rw [mup_same]; exact ⟨i, by omega, rfl⟩
          · rw [mup_j e]; exact hs j (by omega)
set_option maxRecDepth 20000 in
theorem sp_mendM (hI : MI M) : EvI (d + 8) miX9_mend [.ref 41] (zz E T) M (fun _ M' => mKeepB M M') := by
  obtain ⟨n, hn, hr⟩ := hI.2.1
  have K2 : ∀ k r M1, k ≤ 5 → mKeepB M M1 → (∀ j, j < k → jU 12 (M1 60 j)) → Go [] (d + 7) (some .int) tabX9_mend 43 [(0, .ref 41), (1, .int (Int32.ofNat k)), (2, .int r)] [] (hp (zz E T) M1) 0 0 (QI (zz E T) (fun _ M' => mKeepB M M')) := by
    intro k r M1 hk k1 hs
    refine g_const (n := 44) rfl rfl (s_iconst (v := (-1)) (by decide)) ?_
    refine g_istore_n (n := 45) rfl rfl ?_
    refine g_const (n := 46) rfl rfl (s_iconst (v := 0) (by decide)) ?_
    refine g_istore_n (n := 47) rfl rfl ?_
    refine g_const (n := 48) rfl rfl (s_iconst (v := 0) (by decide)) ?_
    refine g_istore (n := 50) rfl rfl ?_
    exact lp_mend50 hI hk 0 (Nat.zero_le _) _ _ _ k1 hs
  refine ev_of mt_X9_mend rfl ?_
  refine g_const (n := 1) rfl rfl (s_iconst (v := 0) (by decide)) ?_
  refine g_istore_n (n := 2) rfl rfl ?_
  refine g_const (n := 3) rfl rfl (s_iconst (v := 0) (by decide)) ?_
  refine g_istore_n (n := 4) rfl rfl ?_
  exact lp_mend4 hI hr hn K2 0 (by omega) 0 M (by omega) mKeepB.rf (fun j hj => absurd hj (by omega))
end PQ
