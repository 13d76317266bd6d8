/-! The cells that are always there: the class at 0 .. 40, the reference at 41 .. 60; E: the row of the list; T: shapes of what came later -/
def zz (E : Value) (T : List SH) : List SH := (.inr (.inr (8, [some (.ref 1), some (.ref 10), some (.ref 11), some (.ref 33), some (.ref 39), some (.ref 40), none, none, none]))) :: (.inr (.inr (7, [some (.ref 2), some (.ref 6), none, none, none, none, none]))) :: (.inr (.inr (3, [some (.ref 3), some (.ref 4), some (.ref 5)]))) :: (.inr (.inr (0, [none, some E, none]))) :: (.inl 8) :: (.inl 8) :: (.inr (.inr (6, [some (.ref 2), some (.ref 7), some (.ref 8), some (.ref 9), none]))) :: (.inl 1024) :: (.inl 1024) :: (.inl 1024) :: (.inr (.inr (1, [none, none, none]))) :: (.inr (.inr (5, [some (.ref 1), some (.ref 10), some (.ref 15), some (.ref 21), some (.ref 27), some (.ref 12), some (.ref 13), some (.ref 14), none, none, none, none, none, none]))) :: (.inl 100) :: (.inl 228) :: (.inl 5) :: (.inr (.inr (4, [some (.ref 1), some (.ref 16), some (.ref 17), some (.ref 18), some (.ref 19), some (.ref 20), none]))) :: (.inl 8) :: (.inl 7) :: (.inl 28) :: (.inl 28) :: (.inl 4) :: (.inr (.inr (4, [some (.ref 1), some (.ref 22), some (.ref 23), some (.ref 24), some (.ref 25), some (.ref 26), none]))) :: (.inl 8) :: (.inl 7) :: (.inl 28) :: (.inl 28) :: (.inl 4) :: (.inr (.inr (4, [some (.ref 1), some (.ref 28), some (.ref 29), some (.ref 30), some (.ref 31), some (.ref 32), none]))) :: (.inl 8) :: (.inl 7) :: (.inl 28) :: (.inl 28) :: (.inl 4) :: (.inr (.inr (4, [some (.ref 1), some (.ref 34), some (.ref 35), some (.ref 36), some (.ref 37), some (.ref 38), none]))) :: (.inl 8) :: (.inl 7) :: (.inl 28) :: (.inl 28) :: (.inl 4) :: (.inl 4) :: (.inl 2) :: (.inr (.inr (9, [none, none, some (.ref 42), some (.ref 43), some (.ref 44), some (.ref 45), some (.ref 46), some (.ref 47), some (.ref 48), some (.ref 49), some (.ref 50), some (.ref 51), none, none, none, none, none, none, none, none, some (.ref 52), none, some (.ref 53), none, some (.ref 54), none, some (.ref 55), some (.ref 56), some (.ref 57), some (.ref 58), none, some (.ref 59), some (.ref 60)]))) :: (.inl 13) :: (.inl 13) :: (.inl 13) :: (.inl 13) :: (.inl 13) :: (.inl 13) :: (.inl 13) :: (.inl 13) :: (.inl 4) :: (.inl 8) :: (.inl 4) :: (.inl 2) :: (.inl 4) :: (.inl 28) :: (.inl 28) :: (.inl 112) :: (.inl 4) :: (.inl 2) :: (.inl 5) :: T
section ZZ
variable {E : Value} {T : List SH} {b : Nat}
theorem z_0 : a_at (zz E T) 0 = some (.inr (.inr (8, [some (.ref 1), some (.ref 10), some (.ref 11), some (.ref 33), some (.ref 39), some (.ref 40), none, none, none]))) := rfl
theorem z_1 : a_at (zz E T) 1 = some (.inr (.inr (7, [some (.ref 2), some (.ref 6), none, none, none, none, none]))) := rfl
theorem z_2 : a_at (zz E T) 2 = some (.inr (.inr (3, [some (.ref 3), some (.ref 4), some (.ref 5)]))) := rfl
theorem z_3 : a_at (zz E T) 3 = some (.inr (.inr (0, [none, some E, none]))) := rfl
theorem z_4 : a_at (zz E T) 4 = some (.inl 8) := rfl
theorem z_5 : a_at (zz E T) 5 = some (.inl 8) := rfl
theorem z_6 : a_at (zz E T) 6 = some (.inr (.inr (6, [some (.ref 2), some (.ref 7), some (.ref 8), some (.ref 9), none]))) := rfl
theorem z_7 : a_at (zz E T) 7 = some (.inl 1024) := rfl
theorem z_8 : a_at (zz E T) 8 = some (.inl 1024) := rfl
theorem z_9 : a_at (zz E T) 9 = some (.inl 1024) := rfl
theorem z_10 : a_at (zz E T) 10 = some (.inr (.inr (1, [none, none, none]))) := rfl
theorem z_11 : a_at (zz E T) 11 = some (.inr (.inr (5, [some (.ref 1), some (.ref 10), some (.ref 15), some (.ref 21), some (.ref 27), some (.ref 12), some (.ref 13), some (.ref 14), none, none, none, none, none, none]))) := rfl
theorem z_12 : a_at (zz E T) 12 = some (.inl 100) := rfl
theorem z_13 : a_at (zz E T) 13 = some (.inl 228) := rfl
theorem z_14 : a_at (zz E T) 14 = some (.inl 5) := rfl
theorem z_15 : a_at (zz E T) 15 = some (.inr (.inr (4, [some (.ref 1), some (.ref 16), some (.ref 17), some (.ref 18), some (.ref 19), some (.ref 20), none]))) := rfl
theorem z_16 : a_at (zz E T) 16 = some (.inl 8) := rfl
theorem z_17 : a_at (zz E T) 17 = some (.inl 7) := rfl
theorem z_18 : a_at (zz E T) 18 = some (.inl 28) := rfl
theorem z_19 : a_at (zz E T) 19 = some (.inl 28) := rfl
theorem z_20 : a_at (zz E T) 20 = some (.inl 4) := rfl
theorem z_21 : a_at (zz E T) 21 = some (.inr (.inr (4, [some (.ref 1), some (.ref 22), some (.ref 23), some (.ref 24), some (.ref 25), some (.ref 26), none]))) := rfl
theorem z_22 : a_at (zz E T) 22 = some (.inl 8) := rfl
theorem z_23 : a_at (zz E T) 23 = some (.inl 7) := rfl
theorem z_24 : a_at (zz E T) 24 = some (.inl 28) := rfl
theorem z_25 : a_at (zz E T) 25 = some (.inl 28) := rfl
theorem z_26 : a_at (zz E T) 26 = some (.inl 4) := rfl
theorem z_27 : a_at (zz E T) 27 = some (.inr (.inr (4, [some (.ref 1), some (.ref 28), some (.ref 29), some (.ref 30), some (.ref 31), some (.ref 32), none]))) := rfl
theorem z_28 : a_at (zz E T) 28 = some (.inl 8) := rfl
theorem z_29 : a_at (zz E T) 29 = some (.inl 7) := rfl
theorem z_30 : a_at (zz E T) 30 = some (.inl 28) := rfl
theorem z_31 : a_at (zz E T) 31 = some (.inl 28) := rfl
theorem z_32 : a_at (zz E T) 32 = some (.inl 4) := rfl
theorem z_33 : a_at (zz E T) 33 = some (.inr (.inr (4, [some (.ref 1), some (.ref 34), some (.ref 35), some (.ref 36), some (.ref 37), some (.ref 38), none]))) := rfl
theorem z_34 : a_at (zz E T) 34 = some (.inl 8) := rfl
theorem z_35 : a_at (zz E T) 35 = some (.inl 7) := rfl
theorem z_36 : a_at (zz E T) 36 = some (.inl 28) := rfl
theorem z_37 : a_at (zz E T) 37 = some (.inl 28) := rfl
theorem z_38 : a_at (zz E T) 38 = some (.inl 4) := rfl
theorem z_39 : a_at (zz E T) 39 = some (.inl 4) := rfl
theorem z_40 : a_at (zz E T) 40 = some (.inl 2) := rfl
theorem z_41 : a_at (zz E T) 41 = some (.inr (.inr (9, [none, none, some (.ref 42), some (.ref 43), some (.ref 44), some (.ref 45), some (.ref 46), some (.ref 47), some (.ref 48), some (.ref 49), some (.ref 50), some (.ref 51), none, none, none, none, none, none, none, none, some (.ref 52), none, some (.ref 53), none, some (.ref 54), none, some (.ref 55), some (.ref 56), some (.ref 57), some (.ref 58), none, some (.ref 59), some (.ref 60)]))) := rfl
theorem z_42 : a_at (zz E T) 42 = some (.inl 13) := rfl
theorem z_43 : a_at (zz E T) 43 = some (.inl 13) := rfl
theorem z_44 : a_at (zz E T) 44 = some (.inl 13) := rfl
theorem z_45 : a_at (zz E T) 45 = some (.inl 13) := rfl
theorem z_46 : a_at (zz E T) 46 = some (.inl 13) := rfl
theorem z_47 : a_at (zz E T) 47 = some (.inl 13) := rfl
theorem z_48 : a_at (zz E T) 48 = some (.inl 13) := rfl
theorem z_49 : a_at (zz E T) 49 = some (.inl 13) := rfl
theorem z_50 : a_at (zz E T) 50 = some (.inl 4) := rfl
theorem z_51 : a_at (zz E T) 51 = some (.inl 8) := rfl
theorem z_52 : a_at (zz E T) 52 = some (.inl 4) := rfl
theorem z_53 : a_at (zz E T) 53 = some (.inl 2) := rfl
theorem z_54 : a_at (zz E T) 54 = some (.inl 4) := rfl
theorem z_55 : a_at (zz E T) 55 = some (.inl 28) := rfl
theorem z_56 : a_at (zz E T) 56 = some (.inl 28) := rfl
theorem z_57 : a_at (zz E T) 57 = some (.inl 112) := rfl
theorem z_58 : a_at (zz E T) 58 = some (.inl 4) := rfl
theorem z_59 : a_at (zz E T) 59 = some (.inl 2) := rfl
theorem z_60 : a_at (zz E T) 60 = some (.inl 5) := rfl
def IsRun (b : Nat) : Prop := b = 15 ∨ b = 21 ∨ b = 27 ∨ b = 33
theorem zr0 (hb : IsRun b) : a_at (zz E T) b = some (.inr (.inr (4, [some (.ref 1), some (.ref (b + 1)), some (.ref (b + 2)), some (.ref (b + 3)), some (.ref (b + 4)), some (.ref (b + 5)), none]))) := by
  rcases hb with rfl | rfl | rfl | rfl <;> rfl
theorem zr1 (hb : IsRun b) : a_at (zz E T) (b + 1) = some (.inl 8) := by
  rcases hb with rfl | rfl | rfl | rfl <;> rfl
theorem zr2 (hb : IsRun b) : a_at (zz E T) (b + 2) = some (.inl 7) := by
  rcases hb with rfl | rfl | rfl | rfl <;> rfl
theorem zr3 (hb : IsRun b) : a_at (zz E T) (b + 3) = some (.inl 28) := by
  rcases hb with rfl | rfl | rfl | rfl <;> rfl
theorem zr4 (hb : IsRun b) : a_at (zz E T) (b + 4) = some (.inl 28) := by
  rcases hb with rfl | rfl | rfl | rfl <;> rfl
theorem zr5 (hb : IsRun b) : a_at (zz E T) (b + 5) = some (.inl 4) := by
  rcases hb with rfl | rfl | rfl | rfl <;> rfl
theorem z_tail {q : Nat} : a_at (zz E T) (61 + q) = a_at T q := by
  rw [a_at_eq, a_at_eq, show zz E T = (zz E []) ++ T from rfl, List.getElem?_append_right (by show 61 ≤ 61 + q; omega)]
  congr 1
  show 61 + q - 61 = q
  omega
end ZZ
theorem mt_X0_exists : a_at MT miX0_exists = some amX0_exists := rfl
theorem mt_X0_isLoss : a_at MT miX0_isLoss = some amX0_isLoss := rfl
theorem mt_X0_tickOf : a_at MT miX0_tickOf = some amX0_tickOf := rfl
theorem mt_X0_hostOf : a_at MT miX0_hostOf = some amX0_hostOf := rfl
theorem mt_X0_targetOf : a_at MT miX0_targetOf = some amX0_targetOf := rfl
theorem mt_X1_init : a_at MT miX1_init = some amX1_init := rfl
theorem mt_X1_allowOne : a_at MT miX1_allowOne = some amX1_allowOne := rfl
theorem mt_X1_allowBoth : a_at MT miX1_allowBoth = some amX1_allowBoth := rfl
theorem mt_X1_countSets : a_at MT miX1_countSets = some amX1_countSets := rfl
theorem mt_X2_init : a_at MT miX2_init = some amX2_init := rfl
theorem mt_X2_isSpare : a_at MT miX2_isSpare = some amX2_isSpare := rfl
theorem mt_X2_works : a_at MT miX2_works = some amX2_works := rfl
theorem mt_X3_init : a_at MT miX3_init = some amX3_init := rfl
theorem mt_X3_take : a_at MT miX3_take = some amX3_take := rfl
theorem mt_X3_hasLayersWith : a_at MT miX3_hasLayersWith = some amX3_hasLayersWith := rfl
theorem mt_X3_lift : a_at MT miX3_lift = some amX3_lift := rfl
theorem mt_X3_countSpares : a_at MT miX3_countSpares = some amX3_countSpares := rfl
theorem mt_X3_notSpare : a_at MT miX3_notSpare = some amX3_notSpare := rfl
theorem mt_X4_init : a_at MT miX4_init = some amX4_init := rfl
theorem mt_X4_strikeNone : a_at MT miX4_strikeNone = some amX4_strikeNone := rfl
theorem mt_X4_strike : a_at MT miX4_strike = some amX4_strike := rfl
theorem mt_X4_strikeLike : a_at MT miX4_strikeLike = some amX4_strikeLike := rfl
theorem mt_X4_feels : a_at MT miX4_feels = some amX4_feels := rfl
theorem mt_X4_goOn : a_at MT miX4_goOn = some amX4_goOn := rfl
theorem mt_X4_live : a_at MT miX4_live = some amX4_live := rfl
theorem mt_X4_breaks : a_at MT miX4_breaks = some amX4_breaks := rfl
theorem mt_X4_factsOf : a_at MT miX4_factsOf = some amX4_factsOf := rfl
theorem mt_X4_sentFacts : a_at MT miX4_sentFacts = some amX4_sentFacts := rfl
theorem mt_X4_reason : a_at MT miX4_reason = some amX4_reason := rfl
theorem mt_X4_leastRule : a_at MT miX4_leastRule = some amX4_leastRule := rfl
theorem mt_X4_leastLetter : a_at MT miX4_leastLetter = some amX4_leastLetter := rfl
theorem mt_X4_share : a_at MT miX4_share = some amX4_share := rfl
theorem mt_X5_init : a_at MT miX5_init = some amX5_init := rfl
theorem mt_X5_standsIn : a_at MT miX5_standsIn = some amX5_standsIn := rfl
theorem mt_X5_look : a_at MT miX5_look = some amX5_look := rfl
theorem mt_X5_listWithin : a_at MT miX5_listWithin = some amX5_listWithin := rfl
theorem mt_X5_lookAtOnes : a_at MT miX5_lookAtOnes = some amX5_lookAtOnes := rfl
theorem mt_X5_lookAtPairs : a_at MT miX5_lookAtPairs = some amX5_lookAtPairs := rfl
theorem mt_X5_noteBreak : a_at MT miX5_noteBreak = some amX5_noteBreak := rfl
theorem mt_X5_cheapestMend : a_at MT miX5_cheapestMend = some amX5_cheapestMend := rfl
theorem mt_X5_listSpares : a_at MT miX5_listSpares = some amX5_listSpares := rfl
theorem mt_X5_priceOf : a_at MT miX5_priceOf = some amX5_priceOf := rfl
theorem mt_X5_rulesOf : a_at MT miX5_rulesOf = some amX5_rulesOf := rfl
theorem mt_X5_holdsAgainstOne : a_at MT miX5_holdsAgainstOne = some amX5_holdsAgainstOne := rfl
theorem mt_X6_init : a_at MT miX6_init = some amX6_init := rfl
theorem mt_X6_countOnly : a_at MT miX6_countOnly = some amX6_countOnly := rfl
theorem mt_X6_counts : a_at MT miX6_counts = some amX6_counts := rfl
theorem mt_X6_placeOf : a_at MT miX6_placeOf = some amX6_placeOf := rfl
theorem mt_X6_knows : a_at MT miX6_knows = some amX6_knows := rfl
theorem mt_X6_learn : a_at MT miX6_learn = some amX6_learn := rfl
theorem mt_X6_settle : a_at MT miX6_settle = some amX6_settle := rfl
theorem mt_X7_init : a_at MT miX7_init = some amX7_init := rfl
theorem mt_X8_init : a_at MT miX8_init = some amX8_init := rfl
theorem mt_X8_end : a_at MT miX8_end = some amX8_end := rfl
theorem mt_X8_rule : a_at MT miX8_rule = some amX8_rule := rfl
theorem mt_X8_spare : a_at MT miX8_spare = some amX8_spare := rfl
theorem mt_X8_first : a_at MT miX8_first = some amX8_first := rfl
theorem mt_X8_promise : a_at MT miX8_promise = some amX8_promise := rfl
theorem mt_X8_bounds : a_at MT miX8_bounds = some amX8_bounds := rfl
theorem mt_X8_blow : a_at MT miX8_blow = some amX8_blow := rfl
theorem mt_X8_clear : a_at MT miX8_clear = some amX8_clear := rfl
theorem mt_X8_facts : a_at MT miX8_facts = some amX8_facts := rfl
theorem mt_X8_letters : a_at MT miX8_letters = some amX8_letters := rfl
theorem mt_X8_broken : a_at MT miX8_broken = some amX8_broken := rfl
theorem mt_X8_why : a_at MT miX8_why = some amX8_why := rfl
theorem mt_X8_layer : a_at MT miX8_layer = some amX8_layer := rfl
theorem mt_X8_seek : a_at MT miX8_seek = some amX8_seek := rfl
theorem mt_X8_found : a_at MT miX8_found = some amX8_found := rfl
theorem mt_X8_sets : a_at MT miX8_sets = some amX8_sets := rfl
theorem mt_X8_weak : a_at MT miX8_weak = some amX8_weak := rfl
theorem mt_X8_shrink : a_at MT miX8_shrink = some amX8_shrink := rfl
theorem mt_X8_mend : a_at MT miX8_mend = some amX8_mend := rfl
theorem mt_X8_count : a_at MT miX8_count = some amX8_count := rfl
theorem mt_X8_hand : a_at MT miX8_hand = some amX8_hand := rfl
theorem mt_X8_isHost : a_at MT miX8_isHost = some amX8_isHost := rfl
theorem mt_X8_isFact : a_at MT miX8_isFact = some amX8_isFact := rfl
theorem mt_X8_isTick : a_at MT miX8_isTick = some amX8_isTick := rfl
theorem mt_X8_bitOf : a_at MT miX8_bitOf = some amX8_bitOf := rfl
theorem mt_X8_forgetRuns : a_at MT miX8_forgetRuns = some amX8_forgetRuns := rfl
theorem mt_X8_forgetRules : a_at MT miX8_forgetRules = some amX8_forgetRules := rfl
theorem mt_X8_runHand : a_at MT miX8_runHand = some amX8_runHand := rfl
theorem mt_X8_strikeHandBut : a_at MT miX8_strikeHandBut = some amX8_strikeHandBut := rfl
theorem mt_X8_dropNeedless : a_at MT miX8_dropNeedless = some amX8_dropNeedless := rfl
theorem mt_X8_placeOfLeastAbove : a_at MT miX8_placeOfLeastAbove = some amX8_placeOfLeastAbove := rfl
theorem mt_X8_dropFromHand : a_at MT miX8_dropFromHand = some amX8_dropFromHand := rfl
theorem mt_X9_init : a_at MT miX9_init = some amX9_init := rfl
theorem mt_X9_in : a_at MT miX9_in = some amX9_in := rfl
theorem mt_X9_isHost : a_at MT miX9_isHost = some amX9_isHost := rfl
theorem mt_X9_isFact : a_at MT miX9_isFact = some amX9_isFact := rfl
theorem mt_X9_isTick : a_at MT miX9_isTick = some amX9_isTick := rfl
theorem mt_X9_isRule : a_at MT miX9_isRule = some amX9_isRule := rfl
theorem mt_X9_end : a_at MT miX9_end = some amX9_end := rfl
theorem mt_X9_lays : a_at MT miX9_lays = some amX9_lays := rfl
theorem mt_X9_rule : a_at MT miX9_rule = some amX9_rule := rfl
theorem mt_X9_sets : a_at MT miX9_sets = some amX9_sets := rfl
theorem mt_X9_spare : a_at MT miX9_spare = some amX9_spare := rfl
theorem mt_X9_first : a_at MT miX9_first = some amX9_first := rfl
theorem mt_X9_promise : a_at MT miX9_promise = some amX9_promise := rfl
theorem mt_X9_bounds : a_at MT miX9_bounds = some amX9_bounds := rfl
theorem mt_X9_isLoss : a_at MT miX9_isLoss = some amX9_isLoss := rfl
theorem mt_X9_tickOf : a_at MT miX9_tickOf = some amX9_tickOf := rfl
theorem mt_X9_isBlow : a_at MT miX9_isBlow = some amX9_isBlow := rfl
theorem mt_X9_blow : a_at MT miX9_blow = some amX9_blow := rfl
theorem mt_X9_clear : a_at MT miX9_clear = some amX9_clear := rfl
theorem mt_X9_hand : a_at MT miX9_hand = some amX9_hand := rfl
theorem mt_X9_isStruck : a_at MT miX9_isStruck = some amX9_isStruck := rfl
theorem mt_X9_falls : a_at MT miX9_falls = some amX9_falls := rfl
theorem mt_X9_isFallen : a_at MT miX9_isFallen = some amX9_isFallen := rfl
theorem mt_X9_counts : a_at MT miX9_counts = some amX9_counts := rfl
theorem mt_X9_fits : a_at MT miX9_fits = some amX9_fits := rfl
theorem mt_X9_closed : a_at MT miX9_closed = some amX9_closed := rfl
theorem mt_X9_came : a_at MT miX9_came = some amX9_came := rfl
theorem mt_X9_keptBy : a_at MT miX9_keptBy = some amX9_keptBy := rfl
theorem mt_X9_runs : a_at MT miX9_runs = some amX9_runs := rfl
theorem mt_X9_isBroken : a_at MT miX9_isBroken = some amX9_isBroken := rfl
theorem mt_X9_takesHand : a_at MT miX9_takesHand = some amX9_takesHand := rfl
theorem mt_X9_facts : a_at MT miX9_facts = some amX9_facts := rfl
theorem mt_X9_bits : a_at MT miX9_bits = some amX9_bits := rfl
theorem mt_X9_letters : a_at MT miX9_letters = some amX9_letters := rfl
theorem mt_X9_broken : a_at MT miX9_broken = some amX9_broken := rfl
theorem mt_X9_why : a_at MT miX9_why = some amX9_why := rfl
theorem mt_X9_leastNow : a_at MT miX9_leastNow = some amX9_leastNow := rfl
theorem mt_X9_letterOf : a_at MT miX9_letterOf = some amX9_letterOf := rfl
theorem mt_X9_layer : a_at MT miX9_layer = some amX9_layer := rfl
theorem mt_X9_isWithin : a_at MT miX9_isWithin = some amX9_isWithin := rfl
theorem mt_X9_areWithin : a_at MT miX9_areWithin = some amX9_areWithin := rfl
theorem mt_X9_breaks : a_at MT miX9_breaks = some amX9_breaks := rfl
theorem mt_X9_seeks : a_at MT miX9_seeks = some amX9_seeks := rfl
theorem mt_X9_seek : a_at MT miX9_seek = some amX9_seek := rfl
theorem mt_X9_found : a_at MT miX9_found = some amX9_found := rfl
theorem mt_X9_sets_ : a_at MT miX9_sets_ = some amX9_sets_ := rfl
theorem mt_X9_weak : a_at MT miX9_weak = some amX9_weak := rfl
theorem mt_X9_shrink : a_at MT miX9_shrink = some amX9_shrink := rfl
theorem mt_X9_nextGone : a_at MT miX9_nextGone = some amX9_nextGone := rfl
theorem mt_X9_isBrokenWithout : a_at MT miX9_isBrokenWithout = some amX9_isBrokenWithout := rfl
theorem mt_X9_isMended : a_at MT miX9_isMended = some amX9_isMended := rfl
theorem mt_X9_mend : a_at MT miX9_mend = some amX9_mend := rfl
theorem mt_X9_count : a_at MT miX9_count = some amX9_count := rfl
theorem mt_J6_bitCount_0f7a4 : a_at MT miJ6_bitCount_0f7a4 = some amJ6_bitCount_0f7a4 := rfl
theorem mt_Jxa1e45_init_da8c8 : a_at MT miJxa1e45_init_da8c8 = some amJxa1e45_init_da8c8 := rfl
theorem mt_Jxc12de_init_da8c8 : a_at MT miJxc12de_init_da8c8 = some amJxc12de_init_da8c8 := rfl
theorem mt_Jx4a65c_init_da8c8 : a_at MT miJx4a65c_init_da8c8 = some amJx4a65c_init_da8c8 := rfl
theorem mt_Jx4a65c_grow_92f84 : a_at MT miJx4a65c_grow_92f84 = some amJx4a65c_grow_92f84 := rfl
theorem mt_Jx4a65c_grow_d5877 : a_at MT miJx4a65c_grow_d5877 = some amJx4a65c_grow_d5877 := rfl
theorem mt_Jx4a65c_size_8abf5 : a_at MT miJx4a65c_size_8abf5 = some amJx4a65c_size_8abf5 := rfl
theorem mt_Jx4a65c_elementData_915e3 : a_at MT miJx4a65c_elementData_915e3 = some amJx4a65c_elementData_915e3 := rfl
theorem mt_Jx4a65c_get_915e3 : a_at MT miJx4a65c_get_915e3 = some amJx4a65c_get_915e3 := rfl
theorem mt_Jx4a65c_add_72be8 : a_at MT miJx4a65c_add_72be8 = some amJx4a65c_add_72be8 := rfl
theorem mt_Jx4a65c_add_9ea2d : a_at MT miJx4a65c_add_9ea2d = some amJx4a65c_add_9ea2d := rfl
theorem mt_J7_fill_53178 : a_at MT miJ7_fill_53178 = some amJ7_fill_53178 := rfl
theorem mt_J7_copyOf_1904c : a_at MT miJ7_copyOf_1904c = some amJ7_copyOf_1904c := rfl
theorem mt_J7_copyOf_6403c : a_at MT miJ7_copyOf_6403c = some amJ7_copyOf_6403c := rfl
theorem mt_J15_checkIndex_7cf53 : a_at MT miJ15_checkIndex_7cf53 = some amJ15_checkIndex_7cf53 := rfl
theorem mt_J8_newLength_cabcc : a_at MT miJ8_newLength_cabcc = some amJ8_newLength_cabcc := rfl
theorem mt_J8_hugeLength_7cf53 : a_at MT miJ8_hugeLength_7cf53 = some amJ8_hugeLength_7cf53 := rfl
theorem mt_J3_checkIndex_8e157 : a_at MT miJ3_checkIndex_8e157 = some amJ3_checkIndex_8e157 := rfl
section GC
variable {xs : List Int32} {d : Nat} {ret : Option FieldType} {tab : List ARow} {pc : Nat} {al : AL} {st : List Value} {h : AH} {c s : Nat} {Q : QT} {Z : List SH} {M : Mem} {len a b n : Nat}
theorem args_eq {rc : Bool} {k np : Nat} {vs : List Value} (hp : (bif rc then np + 1 else np) = k) (hv : vs.length = k) : a_args rc np (vs.reverse ++ st) = (vs, st) := by
  subst hv
  cases rc <;> simp only [cond_true, cond_false] at hp <;> simp [a_args, hp]
theorem g_cP0 {ins : Instr} {rc : Bool} {m : AM} {x : Value} (hr : a_row tab pc = some (pc, ins, len, a, b)) (hn : pc + len = n) (hst : a_step (d + 1) xs (pc, ins, len, a, b) al (st) h = none) (hcall : a_call (pc, ins, len, a, b) = some rc) (hm : a_at MT a = some m) (hnp : (bif rc then m.2.2.2.2.2.1 + 1 else m.2.2.2.2.2.1) = 0) (hl : Nat.ble st.length 8 = true) (hrk : (!rc || a_rok h [] m.2.2.2.2.1) = true) (e : EvP d a [] h x) (k : Go xs d ret tab n al (x :: st) h c s Q) : Go xs d ret tab pc al (st) h c s Q := g_callP (vs := []) (st' := st) hr hn hst hcall hm (args_eq (vs := []) hnp rfl) (by rw [hnp, hl]; rfl) hrk e k
theorem g_cV0 {ins : Instr} {rc : Bool} {m : AM} {Q1 : Mem → Prop} (hr : a_row tab pc = some (pc, ins, len, a, b)) (hn : pc + len = n) (hst : a_step (d + 1) xs (pc, ins, len, a, b) al (st) (hp Z M) = none) (hcall : a_call (pc, ins, len, a, b) = some rc) (hm : a_at MT a = some m) (hnp : (bif rc then m.2.2.2.2.2.1 + 1 else m.2.2.2.2.2.1) = 0) (hl : Nat.ble st.length 8 = true) (hrk : (!rc || a_rok (hp Z M) [] m.2.2.2.2.1) = true) (e : EvV d a [] Z M Q1) (k : ∀ M', Q1 M' → Go xs d ret tab n al st (hp Z M') c s Q) : Go xs d ret tab pc al (st) (hp Z M) c s Q := g_callV (vs := []) (st' := st) hr hn hst hcall hm (args_eq (vs := []) hnp rfl) (by rw [hnp, hl]; rfl) hrk e k
theorem g_cI0 {ins : Instr} {rc : Bool} {m : AM} {Q1 : Int32 → Mem → Prop} (hr : a_row tab pc = some (pc, ins, len, a, b)) (hn : pc + len = n) (hst : a_step (d + 1) xs (pc, ins, len, a, b) al (st) (hp Z M) = none) (hcall : a_call (pc, ins, len, a, b) = some rc) (hm : a_at MT a = some m) (hnp : (bif rc then m.2.2.2.2.2.1 + 1 else m.2.2.2.2.2.1) = 0) (hl : Nat.ble st.length 8 = true) (hrk : (!rc || a_rok (hp Z M) [] m.2.2.2.2.1) = true) (e : EvI d a [] Z M Q1) (k : ∀ x M', Q1 x M' → Go xs d ret tab n al (.int x :: st) (hp Z M') c s Q) : Go xs d ret tab pc al (st) (hp Z M) c s Q := g_callI (vs := []) (st' := st) hr hn hst hcall hm (args_eq (vs := []) hnp rfl) (by rw [hnp, hl]; rfl) hrk e k
theorem g_cP1 {ins : Instr} {rc : Bool} {m : AM} {x : Value} {v1 : Value} (hr : a_row tab pc = some (pc, ins, len, a, b)) (hn : pc + len = n) (hst : a_step (d + 1) xs (pc, ins, len, a, b) al (v1 :: st) h = none) (hcall : a_call (pc, ins, len, a, b) = some rc) (hm : a_at MT a = some m) (hnp : (bif rc then m.2.2.2.2.2.1 + 1 else m.2.2.2.2.2.1) = 1) (hl : Nat.ble st.length 8 = true) (hrk : (!rc || a_rok h [v1] m.2.2.2.2.1) = true) (e : EvP d a [v1] h x) (k : Go xs d ret tab n al (x :: st) h c s Q) : Go xs d ret tab pc al (v1 :: st) h c s Q := g_callP (vs := [v1]) (st' := st) hr hn hst hcall hm (args_eq (vs := [v1]) hnp rfl) (by rw [hnp, hl]; rfl) hrk e k
theorem g_cV1 {ins : Instr} {rc : Bool} {m : AM} {Q1 : Mem → Prop} {v1 : Value} (hr : a_row tab pc = some (pc, ins, len, a, b)) (hn : pc + len = n) (hst : a_step (d + 1) xs (pc, ins, len, a, b) al (v1 :: st) (hp Z M) = none) (hcall : a_call (pc, ins, len, a, b) = some rc) (hm : a_at MT a = some m) (hnp : (bif rc then m.2.2.2.2.2.1 + 1 else m.2.2.2.2.2.1) = 1) (hl : Nat.ble st.length 8 = true) (hrk : (!rc || a_rok (hp Z M) [v1] m.2.2.2.2.1) = true) (e : EvV d a [v1] Z M Q1) (k : ∀ M', Q1 M' → Go xs d ret tab n al st (hp Z M') c s Q) : Go xs d ret tab pc al (v1 :: st) (hp Z M) c s Q := g_callV (vs := [v1]) (st' := st) hr hn hst hcall hm (args_eq (vs := [v1]) hnp rfl) (by rw [hnp, hl]; rfl) hrk e k
theorem g_cI1 {ins : Instr} {rc : Bool} {m : AM} {Q1 : Int32 → Mem → Prop} {v1 : Value} (hr : a_row tab pc = some (pc, ins, len, a, b)) (hn : pc + len = n) (hst : a_step (d + 1) xs (pc, ins, len, a, b) al (v1 :: st) (hp Z M) = none) (hcall : a_call (pc, ins, len, a, b) = some rc) (hm : a_at MT a = some m) (hnp : (bif rc then m.2.2.2.2.2.1 + 1 else m.2.2.2.2.2.1) = 1) (hl : Nat.ble st.length 8 = true) (hrk : (!rc || a_rok (hp Z M) [v1] m.2.2.2.2.1) = true) (e : EvI d a [v1] Z M Q1) (k : ∀ x M', Q1 x M' → Go xs d ret tab n al (.int x :: st) (hp Z M') c s Q) : Go xs d ret tab pc al (v1 :: st) (hp Z M) c s Q := g_callI (vs := [v1]) (st' := st) hr hn hst hcall hm (args_eq (vs := [v1]) hnp rfl) (by rw [hnp, hl]; rfl) hrk e k
theorem g_cP2 {ins : Instr} {rc : Bool} {m : AM} {x : Value} {v1 v2 : Value} (hr : a_row tab pc = some (pc, ins, len, a, b)) (hn : pc + len = n) (hst : a_step (d + 1) xs (pc, ins, len, a, b) al (v2 :: v1 :: st) h = none) (hcall : a_call (pc, ins, len, a, b) = some rc) (hm : a_at MT a = some m) (hnp : (bif rc then m.2.2.2.2.2.1 + 1 else m.2.2.2.2.2.1) = 2) (hl : Nat.ble st.length 8 = true) (hrk : (!rc || a_rok h [v1, v2] m.2.2.2.2.1) = true) (e : EvP d a [v1, v2] h x) (k : Go xs d ret tab n al (x :: st) h c s Q) : Go xs d ret tab pc al (v2 :: v1 :: st) h c s Q := g_callP (vs := [v1, v2]) (st' := st) hr hn hst hcall hm (args_eq (vs := [v1, v2]) hnp rfl) (by rw [hnp, hl]; rfl) hrk e k
theorem g_cV2 {ins : Instr} {rc : Bool} {m : AM} {Q1 : Mem → Prop} {v1 v2 : Value} (hr : a_row tab pc = some (pc, ins, len, a, b)) (hn : pc + len = n) (hst : a_step (d + 1) xs (pc, ins, len, a, b) al (v2 :: v1 :: st) (hp Z M) = none) (hcall : a_call (pc, ins, len, a, b) = some rc) (hm : a_at MT a = some m) (hnp : (bif rc then m.2.2.2.2.2.1 + 1 else m.2.2.2.2.2.1) = 2) (hl : Nat.ble st.length 8 = true) (hrk : (!rc || a_rok (hp Z M) [v1, v2] m.2.2.2.2.1) = true) (e : EvV d a [v1, v2] Z M Q1) (k : ∀ M', Q1 M' → Go xs d ret tab n al st (hp Z M') c s Q) : Go xs d ret tab pc al (v2 :: v1 :: st) (hp Z M) c s Q := g_callV (vs := [v1, v2]) (st' := st) hr hn hst hcall hm (args_eq (vs := [v1, v2]) hnp rfl) (by rw [hnp, hl]; rfl) hrk e k
theorem g_cI2 {ins : Instr} {rc : Bool} {m : AM} {Q1 : Int32 → Mem → Prop} {v1 v2 : Value} (hr : a_row tab pc = some (pc, ins, len, a, b)) (hn : pc + len = n) (hst : a_step (d + 1) xs (pc, ins, len, a, b) al (v2 :: v1 :: st) (hp Z M) = none) (hcall : a_call (pc, ins, len, a, b) = some rc) (hm : a_at MT a = some m) (hnp : (bif rc then m.2.2.2.2.2.1 + 1 else m.2.2.2.2.2.1) = 2) (hl : Nat.ble st.length 8 = true) (hrk : (!rc || a_rok (hp Z M) [v1, v2] m.2.2.2.2.1) = true) (e : EvI d a [v1, v2] Z M Q1) (k : ∀ x M', Q1 x M' → Go xs d ret tab n al (.int x :: st) (hp Z M') c s Q) : Go xs d ret tab pc al (v2 :: v1 :: st) (hp Z M) c s Q := g_callI (vs := [v1, v2]) (st' := st) hr hn hst hcall hm (args_eq (vs := [v1, v2]) hnp rfl) (by rw [hnp, hl]; rfl) hrk e k
theorem g_cP3 {ins : Instr} {rc : Bool} {m : AM} {x : Value} {v1 v2 v3 : Value} (hr : a_row tab pc = some (pc, ins, len, a, b)) (hn : pc + len = n) (hst : a_step (d + 1) xs (pc, ins, len, a, b) al (v3 :: v2 :: v1 :: st) h = none) (hcall : a_call (pc, ins, len, a, b) = some rc) (hm : a_at MT a = some m) (hnp : (bif rc then m.2.2.2.2.2.1 + 1 else m.2.2.2.2.2.1) = 3) (hl : Nat.ble st.length 8 = true) (hrk : (!rc || a_rok h [v1, v2, v3] m.2.2.2.2.1) = true) (e : EvP d a [v1, v2, v3] h x) (k : Go xs d ret tab n al (x :: st) h c s Q) : Go xs d ret tab pc al (v3 :: v2 :: v1 :: st) h c s Q := g_callP (vs := [v1, v2, v3]) (st' := st) hr hn hst hcall hm (args_eq (vs := [v1, v2, v3]) hnp rfl) (by rw [hnp, hl]; rfl) hrk e k
theorem g_cV3 {ins : Instr} {rc : Bool} {m : AM} {Q1 : Mem → Prop} {v1 v2 v3 : Value} (hr : a_row tab pc = some (pc, ins, len, a, b)) (hn : pc + len = n) (hst : a_step (d + 1) xs (pc, ins, len, a, b) al (v3 :: v2 :: v1 :: st) (hp Z M) = none) (hcall : a_call (pc, ins, len, a, b) = some rc) (hm : a_at MT a = some m) (hnp : (bif rc then m.2.2.2.2.2.1 + 1 else m.2.2.2.2.2.1) = 3) (hl : Nat.ble st.length 8 = true) (hrk : (!rc || a_rok (hp Z M) [v1, v2, v3] m.2.2.2.2.1) = true) (e : EvV d a [v1, v2, v3] Z M Q1) (k : ∀ M', Q1 M' → Go xs d ret tab n al st (hp Z M') c s Q) : Go xs d ret tab pc al (v3 :: v2 :: v1 :: st) (hp Z M) c s Q := g_callV (vs := [v1, v2, v3]) (st' := st) hr hn hst hcall hm (args_eq (vs := [v1, v2, v3]) hnp rfl) (by rw [hnp, hl]; rfl) hrk e k
theorem g_cI3 {ins : Instr} {rc : Bool} {m : AM} {Q1 : Int32 → Mem → Prop} {v1 v2 v3 : Value} (hr : a_row tab pc = some (pc, ins, len, a, b)) (hn : pc + len = n) (hst : a_step (d + 1) xs (pc, ins, len, a, b) al (v3 :: v2 :: v1 :: st) (hp Z M) = none) (hcall : a_call (pc, ins, len, a, b) = some rc) (hm : a_at MT a = some m) (hnp : (bif rc then m.2.2.2.2.2.1 + 1 else m.2.2.2.2.2.1) = 3) (hl : Nat.ble st.length 8 = true) (hrk : (!rc || a_rok (hp Z M) [v1, v2, v3] m.2.2.2.2.1) = true) (e : EvI d a [v1, v2, v3] Z M Q1) (k : ∀ x M', Q1 x M' → Go xs d ret tab n al (.int x :: st) (hp Z M') c s Q) : Go xs d ret tab pc al (v3 :: v2 :: v1 :: st) (hp Z M) c s Q := g_callI (vs := [v1, v2, v3]) (st' := st) hr hn hst hcall hm (args_eq (vs := [v1, v2, v3]) hnp rfl) (by rw [hnp, hl]; rfl) hrk e k
theorem g_cP4 {ins : Instr} {rc : Bool} {m : AM} {x : Value} {v1 v2 v3 v4 : Value} (hr : a_row tab pc = some (pc, ins, len, a, b)) (hn : pc + len = n) (hst : a_step (d + 1) xs (pc, ins, len, a, b) al (v4 :: v3 :: v2 :: v1 :: st) h = none) (hcall : a_call (pc, ins, len, a, b) = some rc) (hm : a_at MT a = some m) (hnp : (bif rc then m.2.2.2.2.2.1 + 1 else m.2.2.2.2.2.1) = 4) (hl : Nat.ble st.length 8 = true) (hrk : (!rc || a_rok h [v1, v2, v3, v4] m.2.2.2.2.1) = true) (e : EvP d a [v1, v2, v3, v4] h x) (k : Go xs d ret tab n al (x :: st) h c s Q) : Go xs d ret tab pc al (v4 :: v3 :: v2 :: v1 :: st) h c s Q := g_callP (vs := [v1, v2, v3, v4]) (st' := st) hr hn hst hcall hm (args_eq (vs := [v1, v2, v3, v4]) hnp rfl) (by rw [hnp, hl]; rfl) hrk e k
theorem g_cV4 {ins : Instr} {rc : Bool} {m : AM} {Q1 : Mem → Prop} {v1 v2 v3 v4 : Value} (hr : a_row tab pc = some (pc, ins, len, a, b)) (hn : pc + len = n) (hst : a_step (d + 1) xs (pc, ins, len, a, b) al (v4 :: v3 :: v2 :: v1 :: st) (hp Z M) = none) (hcall : a_call (pc, ins, len, a, b) = some rc) (hm : a_at MT a = some m) (hnp : (bif rc then m.2.2.2.2.2.1 + 1 else m.2.2.2.2.2.1) = 4) (hl : Nat.ble st.length 8 = true) (hrk : (!rc || a_rok (hp Z M) [v1, v2, v3, v4] m.2.2.2.2.1) = true) (e : EvV d a [v1, v2, v3, v4] Z M Q1) (k : ∀ M', Q1 M' → Go xs d ret tab n al st (hp Z M') c s Q) : Go xs d ret tab pc al (v4 :: v3 :: v2 :: v1 :: st) (hp Z M) c s Q := g_callV (vs := [v1, v2, v3, v4]) (st' := st) hr hn hst hcall hm (args_eq (vs := [v1, v2, v3, v4]) hnp rfl) (by rw [hnp, hl]; rfl) hrk e k
theorem g_cI4 {ins : Instr} {rc : Bool} {m : AM} {Q1 : Int32 → Mem → Prop} {v1 v2 v3 v4 : Value} (hr : a_row tab pc = some (pc, ins, len, a, b)) (hn : pc + len = n) (hst : a_step (d + 1) xs (pc, ins, len, a, b) al (v4 :: v3 :: v2 :: v1 :: st) (hp Z M) = none) (hcall : a_call (pc, ins, len, a, b) = some rc) (hm : a_at MT a = some m) (hnp : (bif rc then m.2.2.2.2.2.1 + 1 else m.2.2.2.2.2.1) = 4) (hl : Nat.ble st.length 8 = true) (hrk : (!rc || a_rok (hp Z M) [v1, v2, v3, v4] m.2.2.2.2.1) = true) (e : EvI d a [v1, v2, v3, v4] Z M Q1) (k : ∀ x M', Q1 x M' → Go xs d ret tab n al (.int x :: st) (hp Z M') c s Q) : Go xs d ret tab pc al (v4 :: v3 :: v2 :: v1 :: st) (hp Z M) c s Q := g_callI (vs := [v1, v2, v3, v4]) (st' := st) hr hn hst hcall hm (args_eq (vs := [v1, v2, v3, v4]) hnp rfl) (by rw [hnp, hl]; rfl) hrk e k
theorem g_cP5 {ins : Instr} {rc : Bool} {m : AM} {x : Value} {v1 v2 v3 v4 v5 : Value} (hr : a_row tab pc = some (pc, ins, len, a, b)) (hn : pc + len = n) (hst : a_step (d + 1) xs (pc, ins, len, a, b) al (v5 :: v4 :: v3 :: v2 :: v1 :: st) h = none) (hcall : a_call (pc, ins, len, a, b) = some rc) (hm : a_at MT a = some m) (hnp : (bif rc then m.2.2.2.2.2.1 + 1 else m.2.2.2.2.2.1) = 5) (hl : Nat.ble st.length 8 = true) (hrk : (!rc || a_rok h [v1, v2, v3, v4, v5] m.2.2.2.2.1) = true) (e : EvP d a [v1, v2, v3, v4, v5] h x) (k : Go xs d ret tab n al (x :: st) h c s Q) : Go xs d ret tab pc al (v5 :: v4 :: v3 :: v2 :: v1 :: st) h c s Q := g_callP (vs := [v1, v2, v3, v4, v5]) (st' := st) hr hn hst hcall hm (args_eq (vs := [v1, v2, v3, v4, v5]) hnp rfl) (by rw [hnp, hl]; rfl) hrk e k
theorem g_cV5 {ins : Instr} {rc : Bool} {m : AM} {Q1 : Mem → Prop} {v1 v2 v3 v4 v5 : Value} (hr : a_row tab pc = some (pc, ins, len, a, b)) (hn : pc + len = n) (hst : a_step (d + 1) xs (pc, ins, len, a, b) al (v5 :: v4 :: v3 :: v2 :: v1 :: st) (hp Z M) = none) (hcall : a_call (pc, ins, len, a, b) = some rc) (hm : a_at MT a = some m) (hnp : (bif rc then m.2.2.2.2.2.1 + 1 else m.2.2.2.2.2.1) = 5) (hl : Nat.ble st.length 8 = true) (hrk : (!rc || a_rok (hp Z M) [v1, v2, v3, v4, v5] m.2.2.2.2.1) = true) (e : EvV d a [v1, v2, v3, v4, v5] Z M Q1) (k : ∀ M', Q1 M' → Go xs d ret tab n al st (hp Z M') c s Q) : Go xs d ret tab pc al (v5 :: v4 :: v3 :: v2 :: v1 :: st) (hp Z M) c s Q := g_callV (vs := [v1, v2, v3, v4, v5]) (st' := st) hr hn hst hcall hm (args_eq (vs := [v1, v2, v3, v4, v5]) hnp rfl) (by rw [hnp, hl]; rfl) hrk e k
theorem g_cI5 {ins : Instr} {rc : Bool} {m : AM} {Q1 : Int32 → Mem → Prop} {v1 v2 v3 v4 v5 : Value} (hr : a_row tab pc = some (pc, ins, len, a, b)) (hn : pc + len = n) (hst : a_step (d + 1) xs (pc, ins, len, a, b) al (v5 :: v4 :: v3 :: v2 :: v1 :: st) (hp Z M) = none) (hcall : a_call (pc, ins, len, a, b) = some rc) (hm : a_at MT a = some m) (hnp : (bif rc then m.2.2.2.2.2.1 + 1 else m.2.2.2.2.2.1) = 5) (hl : Nat.ble st.length 8 = true) (hrk : (!rc || a_rok (hp Z M) [v1, v2, v3, v4, v5] m.2.2.2.2.1) = true) (e : EvI d a [v1, v2, v3, v4, v5] Z M Q1) (k : ∀ x M', Q1 x M' → Go xs d ret tab n al (.int x :: st) (hp Z M') c s Q) : Go xs d ret tab pc al (v5 :: v4 :: v3 :: v2 :: v1 :: st) (hp Z M) c s Q := g_callI (vs := [v1, v2, v3, v4, v5]) (st' := st) hr hn hst hcall hm (args_eq (vs := [v1, v2, v3, v4, v5]) hnp rfl) (by rw [hnp, hl]; rfl) hrk e k
theorem g_cP6 {ins : Instr} {rc : Bool} {m : AM} {x : Value} {v1 v2 v3 v4 v5 v6 : Value} (hr : a_row tab pc = some (pc, ins, len, a, b)) (hn : pc + len = n) (hst : a_step (d + 1) xs (pc, ins, len, a, b) al (v6 :: v5 :: v4 :: v3 :: v2 :: v1 :: st) h = none) (hcall : a_call (pc, ins, len, a, b) = some rc) (hm : a_at MT a = some m) (hnp : (bif rc then m.2.2.2.2.2.1 + 1 else m.2.2.2.2.2.1) = 6) (hl : Nat.ble st.length 8 = true) (hrk : (!rc || a_rok h [v1, v2, v3, v4, v5, v6] m.2.2.2.2.1) = true) (e : EvP d a [v1, v2, v3, v4, v5, v6] h x) (k : Go xs d ret tab n al (x :: st) h c s Q) : Go xs d ret tab pc al (v6 :: v5 :: v4 :: v3 :: v2 :: v1 :: st) h c s Q := g_callP (vs := [v1, v2, v3, v4, v5, v6]) (st' := st) hr hn hst hcall hm (args_eq (vs := [v1, v2, v3, v4, v5, v6]) hnp rfl) (by rw [hnp, hl]; rfl) hrk e k
theorem g_cV6 {ins : Instr} {rc : Bool} {m : AM} {Q1 : Mem → Prop} {v1 v2 v3 v4 v5 v6 : Value} (hr : a_row tab pc = some (pc, ins, len, a, b)) (hn : pc + len = n) (hst : a_step (d + 1) xs (pc, ins, len, a, b) al (v6 :: v5 :: v4 :: v3 :: v2 :: v1 :: st) (hp Z M) = none) (hcall : a_call (pc, ins, len, a, b) = some rc) (hm : a_at MT a = some m) (hnp : (bif rc then m.2.2.2.2.2.1 + 1 else m.2.2.2.2.2.1) = 6) (hl : Nat.ble st.length 8 = true) (hrk : (!rc || a_rok (hp Z M) [v1, v2, v3, v4, v5, v6] m.2.2.2.2.1) = true) (e : EvV d a [v1, v2, v3, v4, v5, v6] Z M Q1) (k : ∀ M', Q1 M' → Go xs d ret tab n al st (hp Z M') c s Q) : Go xs d ret tab pc al (v6 :: v5 :: v4 :: v3 :: v2 :: v1 :: st) (hp Z M) c s Q := g_callV (vs := [v1, v2, v3, v4, v5, v6]) (st' := st) hr hn hst hcall hm (args_eq (vs := [v1, v2, v3, v4, v5, v6]) hnp rfl) (by rw [hnp, hl]; rfl) hrk e k
theorem g_cI6 {ins : Instr} {rc : Bool} {m : AM} {Q1 : Int32 → Mem → Prop} {v1 v2 v3 v4 v5 v6 : Value} (hr : a_row tab pc = some (pc, ins, len, a, b)) (hn : pc + len = n) (hst : a_step (d + 1) xs (pc, ins, len, a, b) al (v6 :: v5 :: v4 :: v3 :: v2 :: v1 :: st) (hp Z M) = none) (hcall : a_call (pc, ins, len, a, b) = some rc) (hm : a_at MT a = some m) (hnp : (bif rc then m.2.2.2.2.2.1 + 1 else m.2.2.2.2.2.1) = 6) (hl : Nat.ble st.length 8 = true) (hrk : (!rc || a_rok (hp Z M) [v1, v2, v3, v4, v5, v6] m.2.2.2.2.1) = true) (e : EvI d a [v1, v2, v3, v4, v5, v6] Z M Q1) (k : ∀ x M', Q1 x M' → Go xs d ret tab n al (.int x :: st) (hp Z M') c s Q) : Go xs d ret tab pc al (v6 :: v5 :: v4 :: v3 :: v2 :: v1 :: st) (hp Z M) c s Q := g_callI (vs := [v1, v2, v3, v4, v5, v6]) (st' := st) hr hn hst hcall hm (args_eq (vs := [v1, v2, v3, v4, v5, v6]) hnp rfl) (by rw [hnp, hl]; rfl) hrk e k
theorem g_cP7 {ins : Instr} {rc : Bool} {m : AM} {x : Value} {v1 v2 v3 v4 v5 v6 v7 : Value} (hr : a_row tab pc = some (pc, ins, len, a, b)) (hn : pc + len = n) (hst : a_step (d + 1) xs (pc, ins, len, a, b) al (v7 :: v6 :: v5 :: v4 :: v3 :: v2 :: v1 :: st) h = none) (hcall : a_call (pc, ins, len, a, b) = some rc) (hm : a_at MT a = some m) (hnp : (bif rc then m.2.2.2.2.2.1 + 1 else m.2.2.2.2.2.1) = 7) (hl : Nat.ble st.length 8 = true) (hrk : (!rc || a_rok h [v1, v2, v3, v4, v5, v6, v7] m.2.2.2.2.1) = true) (e : EvP d a [v1, v2, v3, v4, v5, v6, v7] h x) (k : Go xs d ret tab n al (x :: st) h c s Q) : Go xs d ret tab pc al (v7 :: v6 :: v5 :: v4 :: v3 :: v2 :: v1 :: st) h c s Q := g_callP (vs := [v1, v2, v3, v4, v5, v6, v7]) (st' := st) hr hn hst hcall hm (args_eq (vs := [v1, v2, v3, v4, v5, v6, v7]) hnp rfl) (by rw [hnp, hl]; rfl) hrk e k
theorem g_cV7 {ins : Instr} {rc : Bool} {m : AM} {Q1 : Mem → Prop} {v1 v2 v3 v4 v5 v6 v7 : Value} (hr : a_row tab pc = some (pc, ins, len, a, b)) (hn : pc + len = n) (hst : a_step (d + 1) xs (pc, ins, len, a, b) al (v7 :: v6 :: v5 :: v4 :: v3 :: v2 :: v1 :: st) (hp Z M) = none) (hcall : a_call (pc, ins, len, a, b) = some rc) (hm : a_at MT a = some m) (hnp : (bif rc then m.2.2.2.2.2.1 + 1 else m.2.2.2.2.2.1) = 7) (hl : Nat.ble st.length 8 = true) (hrk : (!rc || a_rok (hp Z M) [v1, v2, v3, v4, v5, v6, v7] m.2.2.2.2.1) = true) (e : EvV d a [v1, v2, v3, v4, v5, v6, v7] Z M Q1) (k : ∀ M', Q1 M' → Go xs d ret tab n al st (hp Z M') c s Q) : Go xs d ret tab pc al (v7 :: v6 :: v5 :: v4 :: v3 :: v2 :: v1 :: st) (hp Z M) c s Q := g_callV (vs := [v1, v2, v3, v4, v5, v6, v7]) (st' := st) hr hn hst hcall hm (args_eq (vs := [v1, v2, v3, v4, v5, v6, v7]) hnp rfl) (by rw [hnp, hl]; rfl) hrk e k
theorem g_cI7 {ins : Instr} {rc : Bool} {m : AM} {Q1 : Int32 → Mem → Prop} {v1 v2 v3 v4 v5 v6 v7 : Value} (hr : a_row tab pc = some (pc, ins, len, a, b)) (hn : pc + len = n) (hst : a_step (d + 1) xs (pc, ins, len, a, b) al (v7 :: v6 :: v5 :: v4 :: v3 :: v2 :: v1 :: st) (hp Z M) = none) (hcall : a_call (pc, ins, len, a, b) = some rc) (hm : a_at MT a = some m) (hnp : (bif rc then m.2.2.2.2.2.1 + 1 else m.2.2.2.2.2.1) = 7) (hl : Nat.ble st.length 8 = true) (hrk : (!rc || a_rok (hp Z M) [v1, v2, v3, v4, v5, v6, v7] m.2.2.2.2.1) = true) (e : EvI d a [v1, v2, v3, v4, v5, v6, v7] Z M Q1) (k : ∀ x M', Q1 x M' → Go xs d ret tab n al (.int x :: st) (hp Z M') c s Q) : Go xs d ret tab pc al (v7 :: v6 :: v5 :: v4 :: v3 :: v2 :: v1 :: st) (hp Z M) c s Q := g_callI (vs := [v1, v2, v3, v4, v5, v6, v7]) (st' := st) hr hn hst hcall hm (args_eq (vs := [v1, v2, v3, v4, v5, v6, v7]) hnp rfl) (by rw [hnp, hl]; rfl) hrk e k
theorem g_cP8 {ins : Instr} {rc : Bool} {m : AM} {x : Value} {v1 v2 v3 v4 v5 v6 v7 v8 : Value} (hr : a_row tab pc = some (pc, ins, len, a, b)) (hn : pc + len = n) (hst : a_step (d + 1) xs (pc, ins, len, a, b) al (v8 :: v7 :: v6 :: v5 :: v4 :: v3 :: v2 :: v1 :: st) h = none) (hcall : a_call (pc, ins, len, a, b) = some rc) (hm : a_at MT a = some m) (hnp : (bif rc then m.2.2.2.2.2.1 + 1 else m.2.2.2.2.2.1) = 8) (hl : Nat.ble st.length 8 = true) (hrk : (!rc || a_rok h [v1, v2, v3, v4, v5, v6, v7, v8] m.2.2.2.2.1) = true) (e : EvP d a [v1, v2, v3, v4, v5, v6, v7, v8] h x) (k : Go xs d ret tab n al (x :: st) h c s Q) : Go xs d ret tab pc al (v8 :: v7 :: v6 :: v5 :: v4 :: v3 :: v2 :: v1 :: st) h c s Q := g_callP (vs := [v1, v2, v3, v4, v5, v6, v7, v8]) (st' := st) hr hn hst hcall hm (args_eq (vs := [v1, v2, v3, v4, v5, v6, v7, v8]) hnp rfl) (by rw [hnp, hl]; rfl) hrk e k
theorem g_cV8 {ins : Instr} {rc : Bool} {m : AM} {Q1 : Mem → Prop} {v1 v2 v3 v4 v5 v6 v7 v8 : Value} (hr : a_row tab pc = some (pc, ins, len, a, b)) (hn : pc + len = n) (hst : a_step (d + 1) xs (pc, ins, len, a, b) al (v8 :: v7 :: v6 :: v5 :: v4 :: v3 :: v2 :: v1 :: st) (hp Z M) = none) (hcall : a_call (pc, ins, len, a, b) = some rc) (hm : a_at MT a = some m) (hnp : (bif rc then m.2.2.2.2.2.1 + 1 else m.2.2.2.2.2.1) = 8) (hl : Nat.ble st.length 8 = true) (hrk : (!rc || a_rok (hp Z M) [v1, v2, v3, v4, v5, v6, v7, v8] m.2.2.2.2.1) = true) (e : EvV d a [v1, v2, v3, v4, v5, v6, v7, v8] Z M Q1) (k : ∀ M', Q1 M' → Go xs d ret tab n al st (hp Z M') c s Q) : Go xs d ret tab pc al (v8 :: v7 :: v6 :: v5 :: v4 :: v3 :: v2 :: v1 :: st) (hp Z M) c s Q := g_callV (vs := [v1, v2, v3, v4, v5, v6, v7, v8]) (st' := st) hr hn hst hcall hm (args_eq (vs := [v1, v2, v3, v4, v5, v6, v7, v8]) hnp rfl) (by rw [hnp, hl]; rfl) hrk e k
theorem g_cI8 {ins : Instr} {rc : Bool} {m : AM} {Q1 : Int32 → Mem → Prop} {v1 v2 v3 v4 v5 v6 v7 v8 : Value} (hr : a_row tab pc = some (pc, ins, len, a, b)) (hn : pc + len = n) (hst : a_step (d + 1) xs (pc, ins, len, a, b) al (v8 :: v7 :: v6 :: v5 :: v4 :: v3 :: v2 :: v1 :: st) (hp Z M) = none) (hcall : a_call (pc, ins, len, a, b) = some rc) (hm : a_at MT a = some m) (hnp : (bif rc then m.2.2.2.2.2.1 + 1 else m.2.2.2.2.2.1) = 8) (hl : Nat.ble st.length 8 = true) (hrk : (!rc || a_rok (hp Z M) [v1, v2, v3, v4, v5, v6, v7, v8] m.2.2.2.2.1) = true) (e : EvI d a [v1, v2, v3, v4, v5, v6, v7, v8] Z M Q1) (k : ∀ x M', Q1 x M' → Go xs d ret tab n al (.int x :: st) (hp Z M') c s Q) : Go xs d ret tab pc al (v8 :: v7 :: v6 :: v5 :: v4 :: v3 :: v2 :: v1 :: st) (hp Z M) c s Q := g_callI (vs := [v1, v2, v3, v4, v5, v6, v7, v8]) (st' := st) hr hn hst hcall hm (args_eq (vs := [v1, v2, v3, v4, v5, v6, v7, v8]) hnp rfl) (by rw [hnp, hl]; rfl) hrk e k
theorem g_cP9 {ins : Instr} {rc : Bool} {m : AM} {x : Value} {v1 v2 v3 v4 v5 v6 v7 v8 v9 : Value} (hr : a_row tab pc = some (pc, ins, len, a, b)) (hn : pc + len = n) (hst : a_step (d + 1) xs (pc, ins, len, a, b) al (v9 :: v8 :: v7 :: v6 :: v5 :: v4 :: v3 :: v2 :: v1 :: st) h = none) (hcall : a_call (pc, ins, len, a, b) = some rc) (hm : a_at MT a = some m) (hnp : (bif rc then m.2.2.2.2.2.1 + 1 else m.2.2.2.2.2.1) = 9) (hl : Nat.ble st.length 8 = true) (hrk : (!rc || a_rok h [v1, v2, v3, v4, v5, v6, v7, v8, v9] m.2.2.2.2.1) = true) (e : EvP d a [v1, v2, v3, v4, v5, v6, v7, v8, v9] h x) (k : Go xs d ret tab n al (x :: st) h c s Q) : Go xs d ret tab pc al (v9 :: v8 :: v7 :: v6 :: v5 :: v4 :: v3 :: v2 :: v1 :: st) h c s Q := g_callP (vs := [v1, v2, v3, v4, v5, v6, v7, v8, v9]) (st' := st) hr hn hst hcall hm (args_eq (vs := [v1, v2, v3, v4, v5, v6, v7, v8, v9]) hnp rfl) (by rw [hnp, hl]; rfl) hrk e k
theorem g_cV9 {ins : Instr} {rc : Bool} {m : AM} {Q1 : Mem → Prop} {v1 v2 v3 v4 v5 v6 v7 v8 v9 : Value} (hr : a_row tab pc = some (pc, ins, len, a, b)) (hn : pc + len = n) (hst : a_step (d + 1) xs (pc, ins, len, a, b) al (v9 :: v8 :: v7 :: v6 :: v5 :: v4 :: v3 :: v2 :: v1 :: st) (hp Z M) = none) (hcall : a_call (pc, ins, len, a, b) = some rc) (hm : a_at MT a = some m) (hnp : (bif rc then m.2.2.2.2.2.1 + 1 else m.2.2.2.2.2.1) = 9) (hl : Nat.ble st.length 8 = true) (hrk : (!rc || a_rok (hp Z M) [v1, v2, v3, v4, v5, v6, v7, v8, v9] m.2.2.2.2.1) = true) (e : EvV d a [v1, v2, v3, v4, v5, v6, v7, v8, v9] Z M Q1) (k : ∀ M', Q1 M' → Go xs d ret tab n al st (hp Z M') c s Q) : Go xs d ret tab pc al (v9 :: v8 :: v7 :: v6 :: v5 :: v4 :: v3 :: v2 :: v1 :: st) (hp Z M) c s Q := g_callV (vs := [v1, v2, v3, v4, v5, v6, v7, v8, v9]) (st' := st) hr hn hst hcall hm (args_eq (vs := [v1, v2, v3, v4, v5, v6, v7, v8, v9]) hnp rfl) (by rw [hnp, hl]; rfl) hrk e k
theorem g_cI9 {ins : Instr} {rc : Bool} {m : AM} {Q1 : Int32 → Mem → Prop} {v1 v2 v3 v4 v5 v6 v7 v8 v9 : Value} (hr : a_row tab pc = some (pc, ins, len, a, b)) (hn : pc + len = n) (hst : a_step (d + 1) xs (pc, ins, len, a, b) al (v9 :: v8 :: v7 :: v6 :: v5 :: v4 :: v3 :: v2 :: v1 :: st) (hp Z M) = none) (hcall : a_call (pc, ins, len, a, b) = some rc) (hm : a_at MT a = some m) (hnp : (bif rc then m.2.2.2.2.2.1 + 1 else m.2.2.2.2.2.1) = 9) (hl : Nat.ble st.length 8 = true) (hrk : (!rc || a_rok (hp Z M) [v1, v2, v3, v4, v5, v6, v7, v8, v9] m.2.2.2.2.1) = true) (e : EvI d a [v1, v2, v3, v4, v5, v6, v7, v8, v9] Z M Q1) (k : ∀ x M', Q1 x M' → Go xs d ret tab n al (.int x :: st) (hp Z M') c s Q) : Go xs d ret tab pc al (v9 :: v8 :: v7 :: v6 :: v5 :: v4 :: v3 :: v2 :: v1 :: st) (hp Z M) c s Q := g_callI (vs := [v1, v2, v3, v4, v5, v6, v7, v8, v9]) (st' := st) hr hn hst hcall hm (args_eq (vs := [v1, v2, v3, v4, v5, v6, v7, v8, v9]) hnp rfl) (by rw [hnp, hl]; rfl) hrk e k
theorem g_cast {k q : Nat} {cs : List (Option Value)} (hr : a_row tab pc = some (pc, .checkcast k, len, a, b)) (hn : pc + len = n) (hz : a_at Z q = some (.inr (.inr (a, cs)))) (kk : Go xs d ret tab n al (.ref q :: st) (hp Z M) c s Q) : Go xs d ret tab pc al (.ref q :: st) (hp Z M) c s Q := by
  subst hn
  refine go_step (pc' := pc + len) (al' := al) (st' := .ref q :: st) (h' := hp Z M) (dc := 0) (ds := 0) hr ?_ kk
  have ha : Nat.beq a a = true := Nat.beq_refl a
  simp only [a_step, hp_at hz, cellOf, ha, cond_true]
end GC
