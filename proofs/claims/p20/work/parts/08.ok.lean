set_option maxRecDepth 100000 in
theorem ok_amX0_exists : PM amX0_exists := okM_spec (i := 532) (by decide +kernel)
set_option maxRecDepth 100000 in
theorem ok_amX0_isLoss : PM amX0_isLoss := okM_spec (i := 535) (by decide +kernel)
set_option maxRecDepth 100000 in
theorem ok_amX0_tickOf : PM amX0_tickOf := okM_spec (i := 538) (by decide +kernel)
set_option maxRecDepth 100000 in
theorem ok_amX0_hostOf : PM amX0_hostOf := okM_spec (i := 541) (by decide +kernel)
set_option maxRecDepth 100000 in
theorem ok_amX0_targetOf : PM amX0_targetOf := okM_spec (i := 544) (by decide +kernel)
set_option maxRecDepth 100000 in
theorem ok_amX1_init : PM amX1_init := okM_spec (i := 204) (by decide +kernel)
set_option maxRecDepth 100000 in
theorem ok_amX1_allowOne : PM amX1_allowOne := okM_spec (i := 687) (by decide +kernel)
set_option maxRecDepth 100000 in
theorem ok_amX1_allowBoth : PM amX1_allowBoth := okM_spec (i := 720) (by decide +kernel)
set_option maxRecDepth 100000 in
theorem ok_amX1_countSets : PM amX1_countSets := okM_spec (i := 732) (by decide +kernel)
set_option maxRecDepth 100000 in
theorem ok_amX2_init : PM amX2_init := okM_spec (i := 352) (by decide +kernel)
set_option maxRecDepth 100000 in
theorem ok_amX2_isSpare : PM amX2_isSpare := okM_spec (i := 501) (by decide +kernel)
set_option maxRecDepth 100000 in
theorem ok_amX2_works : PM amX2_works := okM_spec (i := 615) (by decide +kernel)
set_option maxRecDepth 100000 in
theorem ok_amX3_init : PM amX3_init := okM_spec (i := 88) (by decide +kernel)
set_option maxRecDepth 100000 in
theorem ok_amX3_take : PM amX3_take := okM_spec (i := 433) (by decide +kernel)
set_option maxRecDepth 100000 in
theorem ok_amX3_hasLayersWith : PM amX3_hasLayersWith := okM_spec (i := 401) (by decide +kernel)
set_option maxRecDepth 100000 in
theorem ok_amX3_lift : PM amX3_lift := okM_spec (i := 406) (by decide +kernel)
set_option maxRecDepth 100000 in
theorem ok_amX3_countSpares : PM amX3_countSpares := okM_spec (i := 795) (by decide +kernel)
set_option maxRecDepth 100000 in
theorem ok_amX3_notSpare : PM amX3_notSpare := okM_spec (i := 497) (by decide +kernel)
set_option maxRecDepth 100000 in
theorem ok_amX4_init : PM amX4_init := okM_spec (i := 229) (by decide +kernel)
set_option maxRecDepth 100000 in
theorem ok_amX4_strikeNone : PM amX4_strikeNone := okM_spec (i := 568) (by decide +kernel)
set_option maxRecDepth 100000 in
theorem ok_amX4_strike : PM amX4_strike := okM_spec (i := 573) (by decide +kernel)
set_option maxRecDepth 100000 in
theorem ok_amX4_strikeLike : PM amX4_strikeLike := okM_spec (i := 706) (by decide +kernel)
set_option maxRecDepth 100000 in
theorem ok_amX4_feels : PM amX4_feels := okM_spec (i := 701) (by decide +kernel)
set_option maxRecDepth 100000 in
theorem ok_amX4_goOn : PM amX4_goOn := okM_spec (i := 582) (by decide +kernel)
set_option maxRecDepth 100000 in
theorem ok_amX4_live : PM amX4_live := okM_spec (i := 586) (by decide +kernel)
set_option maxRecDepth 100000 in
theorem ok_amX4_breaks : PM amX4_breaks := okM_spec (i := 643) (by decide +kernel)
set_option maxRecDepth 100000 in
theorem ok_amX4_factsOf : PM amX4_factsOf := okM_spec (i := 621) (by decide +kernel)
set_option maxRecDepth 100000 in
theorem ok_amX4_sentFacts : PM amX4_sentFacts := okM_spec (i := 629) (by decide +kernel)
set_option maxRecDepth 100000 in
theorem ok_amX4_reason : PM amX4_reason := okM_spec (i := 651) (by decide +kernel)
set_option maxRecDepth 100000 in
theorem ok_amX4_leastRule : PM amX4_leastRule := okM_spec (i := 657) (by decide +kernel)
set_option maxRecDepth 100000 in
theorem ok_amX4_leastLetter : PM amX4_leastLetter := okM_spec (i := 666) (by decide +kernel)
set_option maxRecDepth 100000 in
theorem ok_amX4_share : PM amX4_share := okM_spec (i := 589) (by decide +kernel)
set_option maxRecDepth 100000 in
theorem ok_amX5_init : PM amX5_init := okM_spec (i := 223) (by decide +kernel)
set_option maxRecDepth 100000 in
theorem ok_amX5_standsIn : PM amX5_standsIn := okM_spec (i := 741) (by decide +kernel)
set_option maxRecDepth 100000 in
theorem ok_amX5_look : PM amX5_look := okM_spec (i := 678) (by decide +kernel)
set_option maxRecDepth 100000 in
theorem ok_amX5_listWithin : PM amX5_listWithin := okM_spec (i := 683) (by decide +kernel)
set_option maxRecDepth 100000 in
theorem ok_amX5_lookAtOnes : PM amX5_lookAtOnes := okM_spec (i := 697) (by decide +kernel)
set_option maxRecDepth 100000 in
theorem ok_amX5_lookAtPairs : PM amX5_lookAtPairs := okM_spec (i := 716) (by decide +kernel)
set_option maxRecDepth 100000 in
theorem ok_amX5_noteBreak : PM amX5_noteBreak := okM_spec (i := 712) (by decide +kernel)
set_option maxRecDepth 100000 in
theorem ok_amX5_cheapestMend : PM amX5_cheapestMend := okM_spec (i := 765) (by decide +kernel)
set_option maxRecDepth 100000 in
theorem ok_amX5_listSpares : PM amX5_listSpares := okM_spec (i := 770) (by decide +kernel)
set_option maxRecDepth 100000 in
theorem ok_amX5_priceOf : PM amX5_priceOf := okM_spec (i := 778) (by decide +kernel)
set_option maxRecDepth 100000 in
theorem ok_amX5_rulesOf : PM amX5_rulesOf := okM_spec (i := 782) (by decide +kernel)
set_option maxRecDepth 100000 in
theorem ok_amX5_holdsAgainstOne : PM amX5_holdsAgainstOne := okM_spec (i := 787) (by decide +kernel)
set_option maxRecDepth 100000 in
theorem ok_amX6_init : PM amX6_init := okM_spec (i := 137) (by decide +kernel)
set_option maxRecDepth 100000 in
theorem ok_amX6_countOnly : PM amX6_countOnly := okM_spec (i := 505) (by decide +kernel)
set_option maxRecDepth 100000 in
theorem ok_amX6_counts : PM amX6_counts := okM_spec (i := 611) (by decide +kernel)
set_option maxRecDepth 100000 in
theorem ok_amX6_placeOf : PM amX6_placeOf := okM_spec (i := 592) (by decide +kernel)
set_option maxRecDepth 100000 in
theorem ok_amX6_knows : PM amX6_knows := okM_spec (i := 596) (by decide +kernel)
set_option maxRecDepth 100000 in
theorem ok_amX6_learn : PM amX6_learn := okM_spec (i := 600) (by decide +kernel)
set_option maxRecDepth 100000 in
theorem ok_amX6_settle : PM amX6_settle := okM_spec (i := 604) (by decide +kernel)
set_option maxRecDepth 100000 in
theorem ok_amX7_init : PM amX7_init := okM_spec (i := 82) (by decide +kernel)
set_option maxRecDepth 100000 in
theorem ok_amX8_init : PM amX8_init := okM_spec (i := 74) (by decide +kernel)
set_option maxRecDepth 100000 in
theorem ok_amX8_end : PM amX8_end := okM_spec (i := 333) (by decide +kernel)
set_option maxRecDepth 100000 in
theorem ok_amX8_rule : PM amX8_rule := okM_spec (i := 341) (by decide +kernel)
set_option maxRecDepth 100000 in
theorem ok_amX8_spare : PM amX8_spare := okM_spec (i := 509) (by decide +kernel)
set_option maxRecDepth 100000 in
theorem ok_amX8_first : PM amX8_first := okM_spec (i := 514) (by decide +kernel)
set_option maxRecDepth 100000 in
theorem ok_amX8_promise : PM amX8_promise := okM_spec (i := 521) (by decide +kernel)
set_option maxRecDepth 100000 in
theorem ok_amX8_bounds : PM amX8_bounds := okM_spec (i := 525) (by decide +kernel)
set_option maxRecDepth 100000 in
theorem ok_amX8_blow : PM amX8_blow := okM_spec (i := 529) (by decide +kernel)
set_option maxRecDepth 100000 in
theorem ok_amX8_clear : PM amX8_clear := okM_spec (i := 548) (by decide +kernel)
set_option maxRecDepth 100000 in
theorem ok_amX8_facts : PM amX8_facts := okM_spec (i := 552) (by decide +kernel)
set_option maxRecDepth 100000 in
theorem ok_amX8_letters : PM amX8_letters := okM_spec (i := 625) (by decide +kernel)
set_option maxRecDepth 100000 in
theorem ok_amX8_broken : PM amX8_broken := okM_spec (i := 639) (by decide +kernel)
set_option maxRecDepth 100000 in
theorem ok_amX8_why : PM amX8_why := okM_spec (i := 647) (by decide +kernel)
set_option maxRecDepth 100000 in
theorem ok_amX8_layer : PM amX8_layer := okM_spec (i := 670) (by decide +kernel)
set_option maxRecDepth 100000 in
theorem ok_amX8_seek : PM amX8_seek := okM_spec (i := 674) (by decide +kernel)
set_option maxRecDepth 100000 in
theorem ok_amX8_found : PM amX8_found := okM_spec (i := 724) (by decide +kernel)
set_option maxRecDepth 100000 in
theorem ok_amX8_sets : PM amX8_sets := okM_spec (i := 728) (by decide +kernel)
set_option maxRecDepth 100000 in
theorem ok_amX8_weak : PM amX8_weak := okM_spec (i := 737) (by decide +kernel)
set_option maxRecDepth 100000 in
theorem ok_amX8_shrink : PM amX8_shrink := okM_spec (i := 745) (by decide +kernel)
set_option maxRecDepth 100000 in
theorem ok_amX8_mend : PM amX8_mend := okM_spec (i := 761) (by decide +kernel)
set_option maxRecDepth 100000 in
theorem ok_amX8_count : PM amX8_count := okM_spec (i := 791) (by decide +kernel)
set_option maxRecDepth 100000 in
theorem ok_amX8_hand : PM amX8_hand := okM_spec (i := 801) (by decide +kernel)
set_option maxRecDepth 100000 in
theorem ok_amX8_isHost : PM amX8_isHost := okM_spec (i := 344) (by decide +kernel)
set_option maxRecDepth 100000 in
theorem ok_amX8_isFact : PM amX8_isFact := okM_spec (i := 347) (by decide +kernel)
set_option maxRecDepth 100000 in
theorem ok_amX8_isTick : PM amX8_isTick := okM_spec (i := 556) (by decide +kernel)
set_option maxRecDepth 100000 in
theorem ok_amX8_bitOf : PM amX8_bitOf := okM_spec (i := 517) (by decide +kernel)
set_option maxRecDepth 100000 in
theorem ok_amX8_forgetRuns : PM amX8_forgetRuns := okM_spec (i := 337) (by decide +kernel)
set_option maxRecDepth 100000 in
theorem ok_amX8_forgetRules : PM amX8_forgetRules := okM_spec (i := 493) (by decide +kernel)
set_option maxRecDepth 100000 in
theorem ok_amX8_runHand : PM amX8_runHand := okM_spec (i := 560) (by decide +kernel)
set_option maxRecDepth 100000 in
theorem ok_amX8_strikeHandBut : PM amX8_strikeHandBut := okM_spec (i := 564) (by decide +kernel)
set_option maxRecDepth 100000 in
theorem ok_amX8_dropNeedless : PM amX8_dropNeedless := okM_spec (i := 749) (by decide +kernel)
set_option maxRecDepth 100000 in
theorem ok_amX8_placeOfLeastAbove : PM amX8_placeOfLeastAbove := okM_spec (i := 753) (by decide +kernel)
set_option maxRecDepth 100000 in
theorem ok_amX8_dropFromHand : PM amX8_dropFromHand := okM_spec (i := 757) (by decide +kernel)
set_option maxRecDepth 100000 in
theorem ok_amX9_init : PM amX9_init := okM_spec (i := 806) (by decide +kernel)
set_option maxRecDepth 100000 in
theorem ok_amX9_in : PM amX9_in := okM_spec (i := 914) (by decide +kernel)
set_option maxRecDepth 100000 in
theorem ok_amX9_isHost : PM amX9_isHost := okM_spec (i := 924) (by decide +kernel)
set_option maxRecDepth 100000 in
theorem ok_amX9_isFact : PM amX9_isFact := okM_spec (i := 921) (by decide +kernel)
set_option maxRecDepth 100000 in
theorem ok_amX9_isTick : PM amX9_isTick := okM_spec (i := 982) (by decide +kernel)
set_option maxRecDepth 100000 in
theorem ok_amX9_isRule : PM amX9_isRule := okM_spec (i := 940) (by decide +kernel)
set_option maxRecDepth 100000 in
theorem ok_amX9_end : PM amX9_end := okM_spec (i := 911) (by decide +kernel)
set_option maxRecDepth 100000 in
theorem ok_amX9_lays : PM amX9_lays := okM_spec (i := 932) (by decide +kernel)
set_option maxRecDepth 100000 in
theorem ok_amX9_rule : PM amX9_rule := okM_spec (i := 918) (by decide +kernel)
set_option maxRecDepth 100000 in
theorem ok_amX9_sets : PM amX9_sets := okM_spec (i := 928) (by decide +kernel)
set_option maxRecDepth 100000 in
theorem ok_amX9_spare : PM amX9_spare := okM_spec (i := 936) (by decide +kernel)
set_option maxRecDepth 100000 in
theorem ok_amX9_first : PM amX9_first := okM_spec (i := 944) (by decide +kernel)
set_option maxRecDepth 100000 in
theorem ok_amX9_promise : PM amX9_promise := okM_spec (i := 948) (by decide +kernel)
set_option maxRecDepth 100000 in
theorem ok_amX9_bounds : PM amX9_bounds := okM_spec (i := 952) (by decide +kernel)
set_option maxRecDepth 100000 in
theorem ok_amX9_isLoss : PM amX9_isLoss := okM_spec (i := 963) (by decide +kernel)
set_option maxRecDepth 100000 in
theorem ok_amX9_tickOf : PM amX9_tickOf := okM_spec (i := 966) (by decide +kernel)
set_option maxRecDepth 100000 in
theorem ok_amX9_isBlow : PM amX9_isBlow := okM_spec (i := 960) (by decide +kernel)
set_option maxRecDepth 100000 in
theorem ok_amX9_blow : PM amX9_blow := okM_spec (i := 956) (by decide +kernel)
set_option maxRecDepth 100000 in
theorem ok_amX9_clear : PM amX9_clear := okM_spec (i := 970) (by decide +kernel)
set_option maxRecDepth 100000 in
theorem ok_amX9_hand : PM amX9_hand := okM_spec (i := 974) (by decide +kernel)
set_option maxRecDepth 100000 in
theorem ok_amX9_isStruck : PM amX9_isStruck := okM_spec (i := 1018) (by decide +kernel)
set_option maxRecDepth 100000 in
theorem ok_amX9_falls : PM amX9_falls := okM_spec (i := 994) (by decide +kernel)
set_option maxRecDepth 100000 in
theorem ok_amX9_isFallen : PM amX9_isFallen := okM_spec (i := 998) (by decide +kernel)
set_option maxRecDepth 100000 in
theorem ok_amX9_counts : PM amX9_counts := okM_spec (i := 1006) (by decide +kernel)
set_option maxRecDepth 100000 in
theorem ok_amX9_fits : PM amX9_fits := okM_spec (i := 1010) (by decide +kernel)
set_option maxRecDepth 100000 in
theorem ok_amX9_closed : PM amX9_closed := okM_spec (i := 1022) (by decide +kernel)
set_option maxRecDepth 100000 in
theorem ok_amX9_came : PM amX9_came := okM_spec (i := 1014) (by decide +kernel)
set_option maxRecDepth 100000 in
theorem ok_amX9_keptBy : PM amX9_keptBy := okM_spec (i := 1002) (by decide +kernel)
set_option maxRecDepth 100000 in
theorem ok_amX9_runs : PM amX9_runs := okM_spec (i := 990) (by decide +kernel)
set_option maxRecDepth 100000 in
theorem ok_amX9_isBroken : PM amX9_isBroken := okM_spec (i := 1037) (by decide +kernel)
set_option maxRecDepth 100000 in
theorem ok_amX9_takesHand : PM amX9_takesHand := okM_spec (i := 986) (by decide +kernel)
set_option maxRecDepth 100000 in
theorem ok_amX9_facts : PM amX9_facts := okM_spec (i := 978) (by decide +kernel)
set_option maxRecDepth 100000 in
theorem ok_amX9_bits : PM amX9_bits := okM_spec (i := 1029) (by decide +kernel)
set_option maxRecDepth 100000 in
theorem ok_amX9_letters : PM amX9_letters := okM_spec (i := 1026) (by decide +kernel)
set_option maxRecDepth 100000 in
theorem ok_amX9_broken : PM amX9_broken := okM_spec (i := 1033) (by decide +kernel)
set_option maxRecDepth 100000 in
theorem ok_amX9_why : PM amX9_why := okM_spec (i := 1041) (by decide +kernel)
set_option maxRecDepth 100000 in
theorem ok_amX9_leastNow : PM amX9_leastNow := okM_spec (i := 1045) (by decide +kernel)
set_option maxRecDepth 100000 in
theorem ok_amX9_letterOf : PM amX9_letterOf := okM_spec (i := 1049) (by decide +kernel)
set_option maxRecDepth 100000 in
theorem ok_amX9_layer : PM amX9_layer := okM_spec (i := 1053) (by decide +kernel)
set_option maxRecDepth 100000 in
theorem ok_amX9_isWithin : PM amX9_isWithin := okM_spec (i := 1069) (by decide +kernel)
set_option maxRecDepth 100000 in
theorem ok_amX9_areWithin : PM amX9_areWithin := okM_spec (i := 1073) (by decide +kernel)
set_option maxRecDepth 100000 in
theorem ok_amX9_breaks : PM amX9_breaks := okM_spec (i := 1065) (by decide +kernel)
set_option maxRecDepth 100000 in
theorem ok_amX9_seeks : PM amX9_seeks := okM_spec (i := 1061) (by decide +kernel)
set_option maxRecDepth 100000 in
theorem ok_amX9_seek : PM amX9_seek := okM_spec (i := 1057) (by decide +kernel)
set_option maxRecDepth 100000 in
theorem ok_amX9_found : PM amX9_found := okM_spec (i := 1077) (by decide +kernel)
set_option maxRecDepth 100000 in
theorem ok_amX9_sets_ : PM amX9_sets_ := okM_spec (i := 1081) (by decide +kernel)
set_option maxRecDepth 100000 in
theorem ok_amX9_weak : PM amX9_weak := okM_spec (i := 1085) (by decide +kernel)
set_option maxRecDepth 100000 in
theorem ok_amX9_shrink : PM amX9_shrink := okM_spec (i := 1089) (by decide +kernel)
set_option maxRecDepth 100000 in
theorem ok_amX9_nextGone : PM amX9_nextGone := okM_spec (i := 1094) (by decide +kernel)
set_option maxRecDepth 100000 in
theorem ok_amX9_isBrokenWithout : PM amX9_isBrokenWithout := okM_spec (i := 1098) (by decide +kernel)
set_option maxRecDepth 100000 in
theorem ok_amX9_isMended : PM amX9_isMended := okM_spec (i := 1106) (by decide +kernel)
set_option maxRecDepth 100000 in
theorem ok_amX9_mend : PM amX9_mend := okM_spec (i := 1102) (by decide +kernel)
set_option maxRecDepth 100000 in
theorem ok_amX9_count : PM amX9_count := okM_spec (i := 1110) (by decide +kernel)
set_option maxRecDepth 100000 in
theorem ok_amJ6_bitCount_0f7a4 : PM amJ6_bitCount_0f7a4 := okM_spec (i := 632) (by decide +kernel)
set_option maxRecDepth 100000 in
theorem ok_amJxa1e45_init_da8c8 : PM amJxa1e45_init_da8c8 := okM_spec (i := 100) (by decide +kernel)
set_option maxRecDepth 100000 in
theorem ok_amJxc12de_init_da8c8 : PM amJxc12de_init_da8c8 := okM_spec (i := 97) (by decide +kernel)
set_option maxRecDepth 100000 in
theorem ok_amJx4a65c_init_da8c8 : PM amJx4a65c_init_da8c8 := okM_spec (i := 94) (by decide +kernel)
set_option maxRecDepth 100000 in
theorem ok_amJx4a65c_grow_92f84 : PM amJx4a65c_grow_92f84 := okM_spec (i := 449) (by decide +kernel)
set_option maxRecDepth 100000 in
theorem ok_amJx4a65c_grow_d5877 : PM amJx4a65c_grow_d5877 := okM_spec (i := 445) (by decide +kernel)
set_option maxRecDepth 100000 in
theorem ok_amJx4a65c_size_8abf5 : PM amJx4a65c_size_8abf5 := okM_spec (i := 413) (by decide +kernel)
set_option maxRecDepth 100000 in
theorem ok_amJx4a65c_elementData_915e3 : PM amJx4a65c_elementData_915e3 := okM_spec (i := 427) (by decide +kernel)
set_option maxRecDepth 100000 in
theorem ok_amJx4a65c_get_915e3 : PM amJx4a65c_get_915e3 := okM_spec (i := 417) (by decide +kernel)
set_option maxRecDepth 100000 in
theorem ok_amJx4a65c_add_72be8 : PM amJx4a65c_add_72be8 := okM_spec (i := 441) (by decide +kernel)
set_option maxRecDepth 100000 in
theorem ok_amJx4a65c_add_9ea2d : PM amJx4a65c_add_9ea2d := okM_spec (i := 437) (by decide +kernel)
set_option maxRecDepth 100000 in
theorem ok_amJ7_fill_53178 : PM amJ7_fill_53178 := okM_spec (i := 141) (by decide +kernel)
set_option maxRecDepth 100000 in
theorem ok_amJ7_copyOf_1904c : PM amJ7_copyOf_1904c := okM_spec (i := 460) (by decide +kernel)
set_option maxRecDepth 100000 in
theorem ok_amJ7_copyOf_6403c : PM amJ7_copyOf_6403c := okM_spec (i := 477) (by decide +kernel)
set_option maxRecDepth 100000 in
theorem ok_amJ15_checkIndex_7cf53 : PM amJ15_checkIndex_7cf53 := okM_spec (i := 420) (by decide +kernel)
set_option maxRecDepth 100000 in
theorem ok_amJ8_newLength_cabcc : PM amJ8_newLength_cabcc := okM_spec (i := 452) (by decide +kernel)
set_option maxRecDepth 100000 in
theorem ok_amJ8_hugeLength_7cf53 : PM amJ8_hugeLength_7cf53 := okM_spec (i := 457) (by decide +kernel)
set_option maxRecDepth 100000 in
theorem ok_amJ3_checkIndex_8e157 : PM amJ3_checkIndex_8e157 := okM_spec (i := 423) (by decide +kernel)
def MT0 : List AM := [amX0_exists, amX0_isLoss, amX0_tickOf, amX0_hostOf, amX0_targetOf, amX1_init, amX1_allowOne, amX1_allowBoth, amX1_countSets, amX2_init, amX2_isSpare, amX2_works, amX3_init, amX3_take, amX3_hasLayersWith, amX3_lift, amX3_countSpares, amX3_notSpare, amX4_init, amX4_strikeNone, amX4_strike, amX4_strikeLike, amX4_feels, amX4_goOn, amX4_live, amX4_breaks, amX4_factsOf, amX4_sentFacts, amX4_reason, amX4_leastRule, amX4_leastLetter, amX4_share, amX5_init, amX5_standsIn, amX5_look, amX5_listWithin, amX5_lookAtOnes, amX5_lookAtPairs, amX5_noteBreak, amX5_cheapestMend]
theorem ok_MT0 : ∀ m ∈ MT0, PM m := List.forall_mem_cons.mpr ⟨ok_amX0_exists, List.forall_mem_cons.mpr ⟨ok_amX0_isLoss, List.forall_mem_cons.mpr ⟨ok_amX0_tickOf, List.forall_mem_cons.mpr ⟨ok_amX0_hostOf, List.forall_mem_cons.mpr ⟨ok_amX0_targetOf, List.forall_mem_cons.mpr ⟨ok_amX1_init, List.forall_mem_cons.mpr ⟨ok_amX1_allowOne, List.forall_mem_cons.mpr ⟨ok_amX1_allowBoth, List.forall_mem_cons.mpr ⟨ok_amX1_countSets, List.forall_mem_cons.mpr ⟨ok_amX2_init, List.forall_mem_cons.mpr ⟨ok_amX2_isSpare, List.forall_mem_cons.mpr ⟨ok_amX2_works, List.forall_mem_cons.mpr ⟨ok_amX3_init, List.forall_mem_cons.mpr ⟨ok_amX3_take, List.forall_mem_cons.mpr ⟨ok_amX3_hasLayersWith, List.forall_mem_cons.mpr ⟨ok_amX3_lift, List.forall_mem_cons.mpr ⟨ok_amX3_countSpares, List.forall_mem_cons.mpr ⟨ok_amX3_notSpare, List.forall_mem_cons.mpr ⟨ok_amX4_init, List.forall_mem_cons.mpr ⟨ok_amX4_strikeNone, List.forall_mem_cons.mpr ⟨ok_amX4_strike, List.forall_mem_cons.mpr ⟨ok_amX4_strikeLike, List.forall_mem_cons.mpr ⟨ok_amX4_feels, List.forall_mem_cons.mpr ⟨ok_amX4_goOn, List.forall_mem_cons.mpr ⟨ok_amX4_live, List.forall_mem_cons.mpr ⟨ok_amX4_breaks, List.forall_mem_cons.mpr ⟨ok_amX4_factsOf, List.forall_mem_cons.mpr ⟨ok_amX4_sentFacts, List.forall_mem_cons.mpr ⟨ok_amX4_reason, List.forall_mem_cons.mpr ⟨ok_amX4_leastRule, List.forall_mem_cons.mpr ⟨ok_amX4_leastLetter, List.forall_mem_cons.mpr ⟨ok_amX4_share, List.forall_mem_cons.mpr ⟨ok_amX5_init, List.forall_mem_cons.mpr ⟨ok_amX5_standsIn, List.forall_mem_cons.mpr ⟨ok_amX5_look, List.forall_mem_cons.mpr ⟨ok_amX5_listWithin, List.forall_mem_cons.mpr ⟨ok_amX5_lookAtOnes, List.forall_mem_cons.mpr ⟨ok_amX5_lookAtPairs, List.forall_mem_cons.mpr ⟨ok_amX5_noteBreak, List.forall_mem_cons.mpr ⟨ok_amX5_cheapestMend, fun _ h => absurd h List.not_mem_nil⟩⟩⟩⟩⟩⟩⟩⟩⟩⟩⟩⟩⟩⟩⟩⟩⟩⟩⟩⟩⟩⟩⟩⟩⟩⟩⟩⟩⟩⟩⟩⟩⟩⟩⟩⟩⟩⟩⟩⟩
def MT1 : List AM := [amX5_listSpares, amX5_priceOf, amX5_rulesOf, amX5_holdsAgainstOne, amX6_init, amX6_countOnly, amX6_counts, amX6_placeOf, amX6_knows, amX6_learn, amX6_settle, amX7_init, amX8_init, amX8_end, amX8_rule, amX8_spare, amX8_first, amX8_promise, amX8_bounds, amX8_blow, amX8_clear, amX8_facts, amX8_letters, amX8_broken, amX8_why, amX8_layer, amX8_seek, amX8_found, amX8_sets, amX8_weak, amX8_shrink, amX8_mend, amX8_count, amX8_hand, amX8_isHost, amX8_isFact, amX8_isTick, amX8_bitOf, amX8_forgetRuns, amX8_forgetRules]
theorem ok_MT1 : ∀ m ∈ MT1, PM m := List.forall_mem_cons.mpr ⟨ok_amX5_listSpares, List.forall_mem_cons.mpr ⟨ok_amX5_priceOf, List.forall_mem_cons.mpr ⟨ok_amX5_rulesOf, List.forall_mem_cons.mpr ⟨ok_amX5_holdsAgainstOne, List.forall_mem_cons.mpr ⟨ok_amX6_init, List.forall_mem_cons.mpr ⟨ok_amX6_countOnly, List.forall_mem_cons.mpr ⟨ok_amX6_counts, List.forall_mem_cons.mpr ⟨ok_amX6_placeOf, List.forall_mem_cons.mpr ⟨ok_amX6_knows, List.forall_mem_cons.mpr ⟨ok_amX6_learn, List.forall_mem_cons.mpr ⟨ok_amX6_settle, List.forall_mem_cons.mpr ⟨ok_amX7_init, List.forall_mem_cons.mpr ⟨ok_amX8_init, List.forall_mem_cons.mpr ⟨ok_amX8_end, List.forall_mem_cons.mpr ⟨ok_amX8_rule, List.forall_mem_cons.mpr ⟨ok_amX8_spare, List.forall_mem_cons.mpr ⟨ok_amX8_first, List.forall_mem_cons.mpr ⟨ok_amX8_promise, List.forall_mem_cons.mpr ⟨ok_amX8_bounds, List.forall_mem_cons.mpr ⟨ok_amX8_blow, List.forall_mem_cons.mpr ⟨ok_amX8_clear, List.forall_mem_cons.mpr ⟨ok_amX8_facts, List.forall_mem_cons.mpr ⟨ok_amX8_letters, List.forall_mem_cons.mpr ⟨ok_amX8_broken, List.forall_mem_cons.mpr ⟨ok_amX8_why, List.forall_mem_cons.mpr ⟨ok_amX8_layer, List.forall_mem_cons.mpr ⟨ok_amX8_seek, List.forall_mem_cons.mpr ⟨ok_amX8_found, List.forall_mem_cons.mpr ⟨ok_amX8_sets, List.forall_mem_cons.mpr ⟨ok_amX8_weak, List.forall_mem_cons.mpr ⟨ok_amX8_shrink, List.forall_mem_cons.mpr ⟨ok_amX8_mend, List.forall_mem_cons.mpr ⟨ok_amX8_count, List.forall_mem_cons.mpr ⟨ok_amX8_hand, List.forall_mem_cons.mpr ⟨ok_amX8_isHost, List.forall_mem_cons.mpr ⟨ok_amX8_isFact, List.forall_mem_cons.mpr ⟨ok_amX8_isTick, List.forall_mem_cons.mpr ⟨ok_amX8_bitOf, List.forall_mem_cons.mpr ⟨ok_amX8_forgetRuns, List.forall_mem_cons.mpr ⟨ok_amX8_forgetRules, fun _ h => absurd h List.not_mem_nil⟩⟩⟩⟩⟩⟩⟩⟩⟩⟩⟩⟩⟩⟩⟩⟩⟩⟩⟩⟩⟩⟩⟩⟩⟩⟩⟩⟩⟩⟩⟩⟩⟩⟩⟩⟩⟩⟩⟩⟩
def MT2 : List AM := [amX8_runHand, amX8_strikeHandBut, amX8_dropNeedless, amX8_placeOfLeastAbove, amX8_dropFromHand, amX9_init, amX9_in, amX9_isHost, amX9_isFact, amX9_isTick, amX9_isRule, amX9_end, amX9_lays, amX9_rule, amX9_sets, amX9_spare, amX9_first, amX9_promise, amX9_bounds, amX9_isLoss, amX9_tickOf, amX9_isBlow, amX9_blow, amX9_clear, amX9_hand, amX9_isStruck, amX9_falls, amX9_isFallen, amX9_counts, amX9_fits, amX9_closed, amX9_came, amX9_keptBy, amX9_runs, amX9_isBroken, amX9_takesHand, amX9_facts, amX9_bits, amX9_letters, amX9_broken]
theorem ok_MT2 : ∀ m ∈ MT2, PM m := List.forall_mem_cons.mpr ⟨ok_amX8_runHand, List.forall_mem_cons.mpr ⟨ok_amX8_strikeHandBut, List.forall_mem_cons.mpr ⟨ok_amX8_dropNeedless, List.forall_mem_cons.mpr ⟨ok_amX8_placeOfLeastAbove, List.forall_mem_cons.mpr ⟨ok_amX8_dropFromHand, List.forall_mem_cons.mpr ⟨ok_amX9_init, List.forall_mem_cons.mpr ⟨ok_amX9_in, List.forall_mem_cons.mpr ⟨ok_amX9_isHost, List.forall_mem_cons.mpr ⟨ok_amX9_isFact, List.forall_mem_cons.mpr ⟨ok_amX9_isTick, List.forall_mem_cons.mpr ⟨ok_amX9_isRule, List.forall_mem_cons.mpr ⟨ok_amX9_end, List.forall_mem_cons.mpr ⟨ok_amX9_lays, List.forall_mem_cons.mpr ⟨ok_amX9_rule, List.forall_mem_cons.mpr ⟨ok_amX9_sets, List.forall_mem_cons.mpr ⟨ok_amX9_spare, List.forall_mem_cons.mpr ⟨ok_amX9_first, List.forall_mem_cons.mpr ⟨ok_amX9_promise, List.forall_mem_cons.mpr ⟨ok_amX9_bounds, List.forall_mem_cons.mpr ⟨ok_amX9_isLoss, List.forall_mem_cons.mpr ⟨ok_amX9_tickOf, List.forall_mem_cons.mpr ⟨ok_amX9_isBlow, List.forall_mem_cons.mpr ⟨ok_amX9_blow, List.forall_mem_cons.mpr ⟨ok_amX9_clear, List.forall_mem_cons.mpr ⟨ok_amX9_hand, List.forall_mem_cons.mpr ⟨ok_amX9_isStruck, List.forall_mem_cons.mpr ⟨ok_amX9_falls, List.forall_mem_cons.mpr ⟨ok_amX9_isFallen, List.forall_mem_cons.mpr ⟨ok_amX9_counts, List.forall_mem_cons.mpr ⟨ok_amX9_fits, List.forall_mem_cons.mpr ⟨ok_amX9_closed, List.forall_mem_cons.mpr ⟨ok_amX9_came, List.forall_mem_cons.mpr ⟨ok_amX9_keptBy, List.forall_mem_cons.mpr ⟨ok_amX9_runs, List.forall_mem_cons.mpr ⟨ok_amX9_isBroken, List.forall_mem_cons.mpr ⟨ok_amX9_takesHand, List.forall_mem_cons.mpr ⟨ok_amX9_facts, List.forall_mem_cons.mpr ⟨ok_amX9_bits, List.forall_mem_cons.mpr ⟨ok_amX9_letters, List.forall_mem_cons.mpr ⟨ok_amX9_broken, fun _ h => absurd h List.not_mem_nil⟩⟩⟩⟩⟩⟩⟩⟩⟩⟩⟩⟩⟩⟩⟩⟩⟩⟩⟩⟩⟩⟩⟩⟩⟩⟩⟩⟩⟩⟩⟩⟩⟩⟩⟩⟩⟩⟩⟩⟩
def MT3 : List AM := [amX9_why, amX9_leastNow, amX9_letterOf, amX9_layer, amX9_isWithin, amX9_areWithin, amX9_breaks, amX9_seeks, amX9_seek, amX9_found, amX9_sets_, amX9_weak, amX9_shrink, amX9_nextGone, amX9_isBrokenWithout, amX9_isMended, amX9_mend, amX9_count, amJ6_bitCount_0f7a4, amJxa1e45_init_da8c8, amJxc12de_init_da8c8, amJx4a65c_init_da8c8, amJx4a65c_grow_92f84, amJx4a65c_grow_d5877, amJx4a65c_size_8abf5, amJx4a65c_elementData_915e3, amJx4a65c_get_915e3, amJx4a65c_add_72be8, amJx4a65c_add_9ea2d, amJ7_fill_53178, amJ7_copyOf_1904c, amJ7_copyOf_6403c, amJ15_checkIndex_7cf53, amJ8_newLength_cabcc, amJ8_hugeLength_7cf53, amJ3_checkIndex_8e157]
theorem ok_MT3 : ∀ m ∈ MT3, PM m := List.forall_mem_cons.mpr ⟨ok_amX9_why, List.forall_mem_cons.mpr ⟨ok_amX9_leastNow, List.forall_mem_cons.mpr ⟨ok_amX9_letterOf, List.forall_mem_cons.mpr ⟨ok_amX9_layer, List.forall_mem_cons.mpr ⟨ok_amX9_isWithin, List.forall_mem_cons.mpr ⟨ok_amX9_areWithin, List.forall_mem_cons.mpr ⟨ok_amX9_breaks, List.forall_mem_cons.mpr ⟨ok_amX9_seeks, List.forall_mem_cons.mpr ⟨ok_amX9_seek, List.forall_mem_cons.mpr ⟨ok_amX9_found, List.forall_mem_cons.mpr ⟨ok_amX9_sets_, List.forall_mem_cons.mpr ⟨ok_amX9_weak, List.forall_mem_cons.mpr ⟨ok_amX9_shrink, List.forall_mem_cons.mpr ⟨ok_amX9_nextGone, List.forall_mem_cons.mpr ⟨ok_amX9_isBrokenWithout, List.forall_mem_cons.mpr ⟨ok_amX9_isMended, List.forall_mem_cons.mpr ⟨ok_amX9_mend, List.forall_mem_cons.mpr ⟨ok_amX9_count, List.forall_mem_cons.mpr ⟨ok_amJ6_bitCount_0f7a4, List.forall_mem_cons.mpr ⟨ok_amJxa1e45_init_da8c8, List.forall_mem_cons.mpr ⟨ok_amJxc12de_init_da8c8, List.forall_mem_cons.mpr ⟨ok_amJx4a65c_init_da8c8, List.forall_mem_cons.mpr ⟨ok_amJx4a65c_grow_92f84, List.forall_mem_cons.mpr ⟨ok_amJx4a65c_grow_d5877, List.forall_mem_cons.mpr ⟨ok_amJx4a65c_size_8abf5, List.forall_mem_cons.mpr ⟨ok_amJx4a65c_elementData_915e3, List.forall_mem_cons.mpr ⟨ok_amJx4a65c_get_915e3, List.forall_mem_cons.mpr ⟨ok_amJx4a65c_add_72be8, List.forall_mem_cons.mpr ⟨ok_amJx4a65c_add_9ea2d, List.forall_mem_cons.mpr ⟨ok_amJ7_fill_53178, List.forall_mem_cons.mpr ⟨ok_amJ7_copyOf_1904c, List.forall_mem_cons.mpr ⟨ok_amJ7_copyOf_6403c, List.forall_mem_cons.mpr ⟨ok_amJ15_checkIndex_7cf53, List.forall_mem_cons.mpr ⟨ok_amJ8_newLength_cabcc, List.forall_mem_cons.mpr ⟨ok_amJ8_hugeLength_7cf53, List.forall_mem_cons.mpr ⟨ok_amJ3_checkIndex_8e157, fun _ h => absurd h List.not_mem_nil⟩⟩⟩⟩⟩⟩⟩⟩⟩⟩⟩⟩⟩⟩⟩⟩⟩⟩⟩⟩⟩⟩⟩⟩⟩⟩⟩⟩⟩⟩⟩⟩⟩⟩⟩⟩
theorem ok_MT : ∀ m ∈ MT, PM m := by
  show ∀ m ∈ MT0 ++ (MT1 ++ (MT2 ++ (MT3))), PM m
  exact List.forall_mem_append.mpr ⟨ok_MT0, List.forall_mem_append.mpr ⟨ok_MT1, List.forall_mem_append.mpr ⟨ok_MT2, ok_MT3⟩⟩⟩
theorem ok_T : okT := ⟨ok_FLl, ok_NLl, ok_CLl, ok_KLl, ok_OLl, ok_PLl, ok_SLl, ok_ALl, ok_MLl, ok_MT, ok_XLl, ok_YLl, ok_DLl, ok_GLl⟩
set_option maxRecDepth 100000 in
theorem ok_law : ∀ r ∈ tabL_law, okR oL yL_law 4 code r = true := by decide +kernel
