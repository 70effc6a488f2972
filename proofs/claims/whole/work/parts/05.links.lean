theorem zw_ISE : (Bundle.ownAtoms R_CD 72 zISE zUp).all (fun w => zt_is4 w || decide (w ∈ BG)) = true := by decide +kernel
set_option maxRecDepth 20000 in
theorem ms_RT_has : Cond.selects R_RT y_RT_has y_RT_has ∈ BG := (zm_0 (i := 1) rfl rfl)
set_option maxRecDepth 20000 in
theorem ms_CD_requireAccount : Cond.selects R_CD y_CD_requireAccount y_CD_requireAccount ∈ BG := (zm_0 (i := 2) rfl rfl)
set_option maxRecDepth 20000 in
theorem ms_CD_requireCard : Cond.selects R_CD y_CD_requireCard y_CD_requireCard ∈ BG := (zm_0 (i := 3) rfl rfl)
set_option maxRecDepth 20000 in
theorem ms_CD_requireTime : Cond.selects R_CD y_CD_requireTime y_CD_requireTime ∈ BG := (zm_0 (i := 4) rfl rfl)
set_option maxRecDepth 20000 in
theorem ms_MO_placeOf : Cond.selects R_MO y_MO_placeOf y_MO_placeOf ∈ BG := (zm_0 (i := 5) rfl rfl)
set_option maxRecDepth 20000 in
theorem ms_MO_goes : Cond.selects R_MO y_MO_goes y_MO_goes ∈ BG := (zm_0 (i := 6) rfl rfl)
set_option maxRecDepth 20000 in
theorem ms_MO_routed : Cond.selects R_MO y_MO_routed y_MO_routed ∈ BG := (zm_0 (i := 7) rfl rfl)
set_option maxRecDepth 20000 in
theorem ms_MO_cardOf : Cond.selects R_MO y_MO_cardOf y_MO_cardOf ∈ BG := (zm_0 (i := 8) rfl rfl)
set_option maxRecDepth 20000 in
theorem ms_MO_since : Cond.selects R_MO y_MO_since y_MO_since ∈ BG := (zm_0 (i := 9) rfl rfl)
set_option maxRecDepth 20000 in
theorem ni_LW : (Cond.initialized R_LW) ∈ BG := (zm_1 (i := 0) rfl rfl)
set_option maxRecDepth 20000 in
theorem ni_CD : (Cond.initialized R_CD) ∈ BG := (zm_1 (i := 1) rfl rfl)
set_option maxRecDepth 20000 in
theorem ni_RT : (Cond.initialized R_RT) ∈ BG := (zm_1 (i := 3) rfl rfl)
set_option maxRecDepth 20000 in
theorem ni_AT : (Cond.initialized R_AT) ∈ BG := (zm_1 (i := 4) rfl rfl)
set_option maxRecDepth 20000 in
theorem ni_CT : (Cond.initialized R_CT) ∈ BG := (zm_1 (i := 6) rfl rfl)
set_option maxRecDepth 20000 in
theorem ni_MO : (Cond.initialized R_MO) ∈ BG := (zm_1 (i := 7) rfl rfl)
set_option maxRecDepth 20000 in
theorem lc_LW_8 : (Cond.classLink R_LW 8 "CardDirectory") ∈ BG := (zm_1 (i := 13) rfl rfl)
set_option maxRecDepth 20000 in
theorem nn_CD : (Cond.instantiable R_CD 6) ∈ BG := (zm_1 (i := 14) rfl rfl)
set_option maxRecDepth 20000 in
theorem lk_LW_60 : (Cond.methodLink R_LW 60 y_CD_init) ∈ BG := (zm_1 (i := 15) rfl rfl)
set_option maxRecDepth 20000 in
theorem mi_CD_init : Cond.instanceMethod y_CD_init ∈ BG := (zm_1 (i := 16) rfl rfl)
set_option maxRecDepth 20000 in
theorem lk_CD_1 : (Cond.methodLink R_CD 1 objectInit) ∈ BG := (zm_1 (i := 18) rfl rfl)
set_option maxRecDepth 20000 in
theorem lk_CD_9 : (Cond.methodLink R_CD 9 Lib.Math.min.name) ∈ BG := (zm_1 (i := 21) rfl rfl)
set_option maxRecDepth 20000 in
theorem lk_CD_15 : (Cond.methodLink R_CD 15 Lib.Math.max.name) ∈ BG := (zm_1 (i := 24) rfl rfl)
set_option maxRecDepth 20000 in
theorem lc_CD_25 : (Cond.classLink R_CD 25 "CardDirectory$RouteTable") ∈ BG := (zm_1 (i := 27) rfl rfl)
set_option maxRecDepth 20000 in
theorem nn_RT : (Cond.instantiable R_RT 4) ∈ BG := (zm_1 (i := 28) rfl rfl)
set_option maxRecDepth 20000 in
theorem lkN_CD_27 : (Cond.methodLinkNest R_CD 27 y_RT_init "CardDirectory") ∈ BG := (zm_1 (i := 29) rfl rfl)
set_option maxRecDepth 20000 in
theorem mi_RT_init : Cond.instanceMethod y_RT_init ∈ BG := (zm_1 (i := 30) rfl rfl)
set_option maxRecDepth 20000 in
theorem lk_RT_3 : (Cond.methodLink R_RT 3 objectInit) ∈ BG := (zm_1 (i := 32) rfl rfl)
set_option maxRecDepth 20000 in
theorem lf_RT_11 : (Cond.fieldLink R_RT 11 "CardDirectory$RouteTable" "prefixes" "[I") ∈ BG := (zm_1 (i := 33) rfl rfl)
set_option maxRecDepth 20000 in
theorem lf_RT_15 : (Cond.fieldLink R_RT 15 "CardDirectory$RouteTable" "lengths" "[I") ∈ BG := (zm_1 (i := 34) rfl rfl)
set_option maxRecDepth 20000 in
theorem lf_RT_18 : (Cond.fieldLink R_RT 18 "CardDirectory$RouteTable" "issuers" "[I") ∈ BG := (zm_1 (i := 35) rfl rfl)
set_option maxRecDepth 20000 in
theorem lf_RT_21 : (Cond.fieldLink R_RT 21 "CardDirectory$RouteTable" "count" "I") ∈ BG := (zm_1 (i := 36) rfl rfl)
set_option maxRecDepth 20000 in
theorem lfN_CD_83 : (Cond.fieldLinkNest R_CD 83 "CardDirectory$RouteTable" "count" "I" "CardDirectory") ∈ BG := (zm_1 (i := 37) rfl rfl)
set_option maxRecDepth 20000 in
theorem lc_CD_32 : (Cond.classLink R_CD 32 "CardDirectory$AccountTable") ∈ BG := (zm_1 (i := 48) rfl rfl)
set_option maxRecDepth 20000 in
theorem nn_AT : (Cond.instantiable R_AT 4) ∈ BG := (zm_1 (i := 49) rfl rfl)
set_option maxRecDepth 20000 in
theorem lk_CD_34 : (Cond.methodLink R_CD 34 y_AT_init) ∈ BG := (zm_1 (i := 50) rfl rfl)
set_option maxRecDepth 20000 in
theorem mi_AT_init : Cond.instanceMethod y_AT_init ∈ BG := (zm_1 (i := 51) rfl rfl)
set_option maxRecDepth 20000 in
theorem lk_AT_3 : (Cond.methodLink R_AT 3 objectInit) ∈ BG := (zm_1 (i := 53) rfl rfl)
set_option maxRecDepth 20000 in
theorem lk_AT_25 : (Cond.methodLink R_AT 25 ⟨"java/util/Arrays", "fill", "([II)V"⟩) ∈ BG := (zm_1 (i := 54) rfl rfl)
set_option maxRecDepth 20000 in
theorem lf_AT_11 : (Cond.fieldLink R_AT 11 "CardDirectory$AccountTable" "issuers" "[I") ∈ BG := (zm_1 (i := 57) rfl rfl)
set_option maxRecDepth 20000 in
theorem lf_AT_15 : (Cond.fieldLink R_AT 15 "CardDirectory$AccountTable" "useTimes" "[I") ∈ BG := (zm_1 (i := 58) rfl rfl)
set_option maxRecDepth 20000 in
theorem lf_AT_18 : (Cond.fieldLink R_AT 18 "CardDirectory$AccountTable" "oldest" "[I") ∈ BG := (zm_1 (i := 59) rfl rfl)
set_option maxRecDepth 20000 in
theorem lf_AT_21 : (Cond.fieldLink R_AT 21 "CardDirectory$AccountTable" "count" "I") ∈ BG := (zm_1 (i := 60) rfl rfl)
set_option maxRecDepth 20000 in
theorem lc_CD_39 : (Cond.classLink R_CD 39 "CardDirectory$CardTable") ∈ BG := (zm_1 (i := 70) rfl rfl)
set_option maxRecDepth 20000 in
theorem nn_CT : (Cond.instantiable R_CT 4) ∈ BG := (zm_1 (i := 71) rfl rfl)
set_option maxRecDepth 20000 in
theorem lkN_CD_41 : (Cond.methodLinkNest R_CD 41 y_CT_init "CardDirectory") ∈ BG := (zm_1 (i := 72) rfl rfl)
set_option maxRecDepth 20000 in
theorem mi_CT_init : Cond.instanceMethod y_CT_init ∈ BG := (zm_1 (i := 73) rfl rfl)
set_option maxRecDepth 20000 in
theorem lk_CT_3 : (Cond.methodLink R_CT 3 objectInit) ∈ BG := (zm_1 (i := 75) rfl rfl)
set_option maxRecDepth 20000 in
theorem lf_CT_11 : (Cond.fieldLink R_CT 11 "CardDirectory$CardTable" "numbers" "[J") ∈ BG := (zm_1 (i := 76) rfl rfl)
set_option maxRecDepth 20000 in
theorem lf_CT_15 : (Cond.fieldLink R_CT 15 "CardDirectory$CardTable" "accounts" "[I") ∈ BG := (zm_1 (i := 77) rfl rfl)
set_option maxRecDepth 20000 in
theorem lf_CT_19 : (Cond.fieldLink R_CT 19 "CardDirectory$CardTable" "blocked" "[Z") ∈ BG := (zm_1 (i := 78) rfl rfl)
set_option maxRecDepth 20000 in
theorem lf_CT_23 : (Cond.fieldLink R_CT 23 "CardDirectory$CardTable" "count" "I") ∈ BG := (zm_1 (i := 79) rfl rfl)
set_option maxRecDepth 20000 in
theorem lf_CD_18 : (Cond.fieldLink R_CD 18 "CardDirectory" "window" "I") ∈ BG := (zm_1 (i := 91) rfl rfl)
set_option maxRecDepth 20000 in
theorem lf_CD_22 : (Cond.fieldLink R_CD 22 "CardDirectory" "many" "I") ∈ BG := (zm_1 (i := 92) rfl rfl)
set_option maxRecDepth 20000 in
theorem lf_CD_28 : (Cond.fieldLink R_CD 28 "CardDirectory" "routeTable" "LCardDirectory$RouteTable;") ∈ BG := (zm_1 (i := 93) rfl rfl)
set_option maxRecDepth 20000 in
theorem lf_CD_35 : (Cond.fieldLink R_CD 35 "CardDirectory" "accountTable" "LCardDirectory$AccountTable;") ∈ BG := (zm_1 (i := 94) rfl rfl)
set_option maxRecDepth 20000 in
theorem lf_CD_42 : (Cond.fieldLink R_CD 42 "CardDirectory" "cardTable" "LCardDirectory$CardTable;") ∈ BG := (zm_1 (i := 95) rfl rfl)
set_option maxRecDepth 20000 in
theorem lf_CD_46 : (Cond.fieldLink R_CD 46 "CardDirectory" "latestTime" "I") ∈ BG := (zm_1 (i := 96) rfl rfl)
set_option maxRecDepth 20000 in
theorem lk_LW_78 : (Cond.methodLink R_LW 78 y_CD_routes) ∈ BG := (zm_1 (i := 110) rfl rfl)
set_option maxRecDepth 20000 in
theorem mi_CD_routes : Cond.instanceMethod y_CD_routes ∈ BG := (zm_1 (i := 111) rfl rfl)
set_option maxRecDepth 20000 in
theorem ms_CD_routes : Cond.selects R_CD y_CD_routes y_CD_routes ∈ BG := (zm_1 (i := 112) rfl rfl)
set_option maxRecDepth 20000 in
theorem lk_LW_54 : (Cond.methodLink R_LW 54 y_LW_cell) ∈ BG := (zm_1 (i := 114) rfl rfl)
set_option maxRecDepth 20000 in
theorem mt_LW_cell : Cond.static y_LW_cell ∈ BG := (zm_1 (i := 115) rfl rfl)
set_option maxRecDepth 20000 in
theorem lk_LW_66 : (Cond.methodLink R_LW 66 y_LW_route) ∈ BG := (zm_1 (i := 117) rfl rfl)
set_option maxRecDepth 20000 in
theorem mt_LW_route : Cond.static y_LW_route ∈ BG := (zm_1 (i := 118) rfl rfl)
set_option maxRecDepth 20000 in
theorem lc_LW_13 : (Cond.classLink R_LW 13 "java/lang/IllegalArgumentException") ∈ BG := (zm_1 (i := 120) rfl rfl)
set_option maxRecDepth 20000 in
theorem lc_LW_15 : (Cond.classLink R_LW 15 "java/lang/IllegalStateException") ∈ BG := (zm_1 (i := 121) rfl rfl)
set_option maxRecDepth 20000 in
theorem lk_LW_7 : (Cond.methodLink R_LW 7 y_CD_route) ∈ BG := (zm_1 (i := 122) rfl rfl)
set_option maxRecDepth 20000 in
theorem mi_CD_route : Cond.instanceMethod y_CD_route ∈ BG := (zm_1 (i := 123) rfl rfl)
set_option maxRecDepth 20000 in
theorem ms_CD_route : Cond.selects R_CD y_CD_route y_CD_route ∈ BG := (zm_1 (i := 124) rfl rfl)
set_option maxRecDepth 20000 in
theorem lk_CD_49 : (Cond.methodLink R_CD 49 y_CD_requireIssuer) ∈ BG := (zm_1 (i := 126) rfl rfl)
set_option maxRecDepth 20000 in
theorem mt_CD_requireIssuer : Cond.static y_CD_requireIssuer ∈ BG := (zm_1 (i := 127) rfl rfl)
set_option maxRecDepth 20000 in
theorem lc_CD_151 : (Cond.classLink R_CD 151 "java/lang/IllegalArgumentException") ∈ BG := (zm_1 (i := 129) rfl rfl)
set_option maxRecDepth 20000 in
theorem sr_CD_156 : (Cond.stringRef R_CD 156 "no such issuer") ∈ BG := (zm_1 (i := 169) rfl rfl)
set_option maxRecDepth 20000 in
theorem lk_CD_155 : (Cond.methodLink R_CD 155 ⟨"java/lang/IllegalArgumentException", "<init>", "(Ljava/lang/String;)V"⟩) ∈ BG := (zm_1 (i := 170) rfl rfl)
set_option maxRecDepth 20000 in
theorem lk_CD_53 : (Cond.methodLink R_CD 53 y_CD_requirePrefix) ∈ BG := (zm_1 (i := 196) rfl rfl)
set_option maxRecDepth 20000 in
theorem mt_CD_requirePrefix : Cond.static y_CD_requirePrefix ∈ BG := (zm_1 (i := 197) rfl rfl)
set_option maxRecDepth 20000 in
theorem sr_CD_158 : (Cond.stringRef R_CD 158 "digits are not 1 .. 8") ∈ BG := (zm_1 (i := 199) rfl rfl)
set_option maxRecDepth 20000 in
theorem lk_CD_148 : (Cond.methodLink R_CD 148 y_CD_digitsOf) ∈ BG := (zm_1 (i := 200) rfl rfl)
set_option maxRecDepth 20000 in
theorem mt_CD_digitsOf : Cond.static y_CD_digitsOf ∈ BG := (zm_1 (i := 201) rfl rfl)
set_option maxRecDepth 20000 in
theorem kl_CD_123 : (Cond.constantLong R_CD 123 10) ∈ BG := (zm_1 (i := 203) rfl rfl)
set_option maxRecDepth 20000 in
theorem sr_CD_160 : (Cond.stringRef R_CD 160 "prefix is below 0 or has more digits") ∈ BG := (zm_1 (i := 204) rfl rfl)
set_option maxRecDepth 20000 in
theorem lk_CD_57 : (Cond.methodLink R_CD 57 y_RT_find) ∈ BG := (zm_1 (i := 205) rfl rfl)
set_option maxRecDepth 20000 in
theorem mi_RT_find : Cond.instanceMethod y_RT_find ∈ BG := (zm_1 (i := 206) rfl rfl)
set_option maxRecDepth 20000 in
theorem ms_RT_find : Cond.selects R_RT y_RT_find y_RT_find ∈ BG := (zm_1 (i := 207) rfl rfl)
set_option maxRecDepth 20000 in
theorem lk_CD_61 : (Cond.methodLink R_CD 61 y_RT_redirect) ∈ BG := (zm_1 (i := 209) rfl rfl)
set_option maxRecDepth 20000 in
theorem mi_RT_redirect : Cond.instanceMethod y_RT_redirect ∈ BG := (zm_1 (i := 210) rfl rfl)
set_option maxRecDepth 20000 in
theorem ms_RT_redirect : Cond.selects R_RT y_RT_redirect y_RT_redirect ∈ BG := (zm_1 (i := 211) rfl rfl)
set_option maxRecDepth 20000 in
theorem lk_RT_25 : (Cond.methodLink R_RT 25 y_RT_has) ∈ BG := (zm_1 (i := 213) rfl rfl)
set_option maxRecDepth 20000 in
theorem mi_RT_has : Cond.instanceMethod y_RT_has ∈ BG := (zm_1 (i := 215) rfl rfl)
set_option maxRecDepth 20000 in
theorem lk_CD_64 : (Cond.methodLink R_CD 64 y_RT_isFull) ∈ BG := (zm_1 (i := 217) rfl rfl)
set_option maxRecDepth 20000 in
theorem mi_RT_isFull : Cond.instanceMethod y_RT_isFull ∈ BG := (zm_1 (i := 218) rfl rfl)
set_option maxRecDepth 20000 in
theorem ms_RT_isFull : Cond.selects R_RT y_RT_isFull y_RT_isFull ∈ BG := (zm_1 (i := 219) rfl rfl)
set_option maxRecDepth 20000 in
theorem lc_CD_68 : (Cond.classLink R_CD 68 "java/lang/IllegalStateException") ∈ BG := (zm_1 (i := 221) rfl rfl)
set_option maxRecDepth 20000 in
theorem sr_CD_70 : (Cond.stringRef R_CD 70 "there are 40 routes") ∈ BG := (zm_1 (i := 230) rfl rfl)
set_option maxRecDepth 20000 in
theorem lk_CD_72 : (Cond.methodLink R_CD 72 ⟨"java/lang/IllegalStateException", "<init>", "(Ljava/lang/String;)V"⟩) ∈ BG := (zm_1 (i := 231) rfl rfl)
set_option maxRecDepth 20000 in
theorem lk_CD_75 : (Cond.methodLink R_CD 75 y_RT_add) ∈ BG := (zm_1 (i := 237) rfl rfl)
set_option maxRecDepth 20000 in
theorem mi_RT_add : Cond.instanceMethod y_RT_add ∈ BG := (zm_1 (i := 238) rfl rfl)
set_option maxRecDepth 20000 in
theorem ms_RT_add : Cond.selects R_RT y_RT_add y_RT_add ∈ BG := (zm_1 (i := 239) rfl rfl)
set_option maxRecDepth 20000 in
theorem lk_LW_74 : (Cond.methodLink R_LW 74 y_LW_unroute) ∈ BG := (zm_2 (i := 1) rfl rfl)
set_option maxRecDepth 20000 in
theorem mt_LW_unroute : Cond.static y_LW_unroute ∈ BG := (zm_2 (i := 2) rfl rfl)
set_option maxRecDepth 20000 in
theorem lk_LW_17 : (Cond.methodLink R_LW 17 y_CD_unroute) ∈ BG := (zm_2 (i := 4) rfl rfl)
set_option maxRecDepth 20000 in
theorem mi_CD_unroute : Cond.instanceMethod y_CD_unroute ∈ BG := (zm_2 (i := 5) rfl rfl)
set_option maxRecDepth 20000 in
theorem ms_CD_unroute : Cond.selects R_CD y_CD_unroute y_CD_unroute ∈ BG := (zm_2 (i := 6) rfl rfl)
set_option maxRecDepth 20000 in
theorem lk_CD_79 : (Cond.methodLink R_CD 79 y_RT_remove) ∈ BG := (zm_2 (i := 8) rfl rfl)
set_option maxRecDepth 20000 in
theorem mi_RT_remove : Cond.instanceMethod y_RT_remove ∈ BG := (zm_2 (i := 9) rfl rfl)
set_option maxRecDepth 20000 in
theorem ms_RT_remove : Cond.selects R_RT y_RT_remove y_RT_remove ∈ BG := (zm_2 (i := 10) rfl rfl)
set_option maxRecDepth 20000 in
theorem lk_LW_82 : (Cond.methodLink R_LW 82 y_LW_account) ∈ BG := (zm_2 (i := 12) rfl rfl)
set_option maxRecDepth 20000 in
theorem mt_LW_account : Cond.static y_LW_account ∈ BG := (zm_2 (i := 13) rfl rfl)
set_option maxRecDepth 20000 in
theorem lk_LW_21 : (Cond.methodLink R_LW 21 y_CD_account) ∈ BG := (zm_2 (i := 15) rfl rfl)
set_option maxRecDepth 20000 in
theorem mi_CD_account : Cond.instanceMethod y_CD_account ∈ BG := (zm_2 (i := 16) rfl rfl)
set_option maxRecDepth 20000 in
theorem ms_CD_account : Cond.selects R_CD y_CD_account y_CD_account ∈ BG := (zm_2 (i := 17) rfl rfl)
set_option maxRecDepth 20000 in
theorem lk_CD_86 : (Cond.methodLink R_CD 86 y_AT_isFull) ∈ BG := (zm_2 (i := 19) rfl rfl)
set_option maxRecDepth 20000 in
theorem mi_AT_isFull : Cond.instanceMethod y_AT_isFull ∈ BG := (zm_2 (i := 20) rfl rfl)
set_option maxRecDepth 20000 in
theorem ms_AT_isFull : Cond.selects R_AT y_AT_isFull y_AT_isFull ∈ BG := (zm_2 (i := 21) rfl rfl)
set_option maxRecDepth 20000 in
theorem sr_CD_87 : (Cond.stringRef R_CD 87 "there are 64 accounts") ∈ BG := (zm_2 (i := 23) rfl rfl)
set_option maxRecDepth 20000 in
theorem lk_CD_89 : (Cond.methodLink R_CD 89 y_AT_add) ∈ BG := (zm_2 (i := 24) rfl rfl)
set_option maxRecDepth 20000 in
theorem mi_AT_add : Cond.instanceMethod y_AT_add ∈ BG := (zm_2 (i := 25) rfl rfl)
set_option maxRecDepth 20000 in
theorem ms_AT_add : Cond.selects R_AT y_AT_add y_AT_add ∈ BG := (zm_2 (i := 26) rfl rfl)
set_option maxRecDepth 20000 in
theorem lk_LW_88 : (Cond.methodLink R_LW 88 y_LW_card) ∈ BG := (zm_2 (i := 28) rfl rfl)
set_option maxRecDepth 20000 in
theorem mt_LW_card : Cond.static y_LW_card ∈ BG := (zm_2 (i := 29) rfl rfl)
set_option maxRecDepth 20000 in
theorem lk_LW_25 : (Cond.methodLink R_LW 25 y_CD_card) ∈ BG := (zm_2 (i := 31) rfl rfl)
set_option maxRecDepth 20000 in
theorem mi_CD_card : Cond.instanceMethod y_CD_card ∈ BG := (zm_2 (i := 32) rfl rfl)
set_option maxRecDepth 20000 in
theorem ms_CD_card : Cond.selects R_CD y_CD_card y_CD_card ∈ BG := (zm_2 (i := 33) rfl rfl)
set_option maxRecDepth 20000 in
theorem lk_CD_91 : (Cond.methodLink R_CD 91 y_CD_requireDigits) ∈ BG := (zm_2 (i := 35) rfl rfl)
set_option maxRecDepth 20000 in
theorem mt_CD_requireDigits : Cond.static y_CD_requireDigits ∈ BG := (zm_2 (i := 36) rfl rfl)
set_option maxRecDepth 20000 in
theorem sr_CD_162 : (Cond.stringRef R_CD 162 "the number has too few or too many digits") ∈ BG := (zm_2 (i := 38) rfl rfl)
set_option maxRecDepth 20000 in
theorem lk_CD_95 : (Cond.methodLink R_CD 95 y_CD_requireAccount) ∈ BG := (zm_2 (i := 39) rfl rfl)
set_option maxRecDepth 20000 in
theorem mi_CD_requireAccount : Cond.instanceMethod y_CD_requireAccount ∈ BG := (zm_2 (i := 41) rfl rfl)
set_option maxRecDepth 20000 in
theorem lk_CD_164 : (Cond.methodLink R_CD 164 y_AT_has) ∈ BG := (zm_2 (i := 43) rfl rfl)
set_option maxRecDepth 20000 in
theorem mi_AT_has : Cond.instanceMethod y_AT_has ∈ BG := (zm_2 (i := 44) rfl rfl)
set_option maxRecDepth 20000 in
theorem ms_AT_has : Cond.selects R_AT y_AT_has y_AT_has ∈ BG := (zm_2 (i := 45) rfl rfl)
set_option maxRecDepth 20000 in
theorem sr_CD_167 : (Cond.stringRef R_CD 167 "no such account") ∈ BG := (zm_2 (i := 47) rfl rfl)
set_option maxRecDepth 20000 in
theorem lk_CD_98 : (Cond.methodLink R_CD 98 y_CT_isFull) ∈ BG := (zm_2 (i := 48) rfl rfl)
set_option maxRecDepth 20000 in
theorem mi_CT_isFull : Cond.instanceMethod y_CT_isFull ∈ BG := (zm_2 (i := 49) rfl rfl)
set_option maxRecDepth 20000 in
theorem ms_CT_isFull : Cond.selects R_CT y_CT_isFull y_CT_isFull ∈ BG := (zm_2 (i := 50) rfl rfl)
set_option maxRecDepth 20000 in
theorem sr_CD_99 : (Cond.stringRef R_CD 99 "there are 100 cards") ∈ BG := (zm_2 (i := 52) rfl rfl)
set_option maxRecDepth 20000 in
theorem lk_CD_101 : (Cond.methodLink R_CD 101 y_CD_isGood) ∈ BG := (zm_2 (i := 53) rfl rfl)
set_option maxRecDepth 20000 in
theorem mt_CD_isGood : Cond.static y_CD_isGood ∈ BG := (zm_2 (i := 54) rfl rfl)
set_option maxRecDepth 20000 in
theorem lk_CD_125 : (Cond.methodLink R_CD 125 y_CD_checkSum) ∈ BG := (zm_2 (i := 56) rfl rfl)
set_option maxRecDepth 20000 in
theorem mt_CD_checkSum : Cond.static y_CD_checkSum ∈ BG := (zm_2 (i := 57) rfl rfl)
set_option maxRecDepth 20000 in
theorem lk_CD_174 : (Cond.methodLink R_CD 174 y_CD_doubled) ∈ BG := (zm_2 (i := 59) rfl rfl)
set_option maxRecDepth 20000 in
theorem mt_CD_doubled : Cond.static y_CD_doubled ∈ BG := (zm_2 (i := 60) rfl rfl)
set_option maxRecDepth 20000 in
theorem lk_CD_105 : (Cond.methodLink R_CD 105 y_RT_issuerFor) ∈ BG := (zm_2 (i := 62) rfl rfl)
set_option maxRecDepth 20000 in
theorem mi_RT_issuerFor : Cond.instanceMethod y_RT_issuerFor ∈ BG := (zm_2 (i := 63) rfl rfl)
set_option maxRecDepth 20000 in
theorem ms_RT_issuerFor : Cond.selects R_RT y_RT_issuerFor y_RT_issuerFor ∈ BG := (zm_2 (i := 64) rfl rfl)
set_option maxRecDepth 20000 in
theorem lkN_RT_29 : (Cond.methodLinkNest R_RT 29 y_CD_digitsOf "CardDirectory") ∈ BG := (zm_2 (i := 66) rfl rfl)
set_option maxRecDepth 20000 in
theorem lk_RT_33 : (Cond.methodLink R_RT 33 y_RT_find) ∈ BG := (zm_2 (i := 67) rfl rfl)
set_option maxRecDepth 20000 in
theorem kl_RT_37 : (Cond.constantLong R_RT 37 10) ∈ BG := (zm_2 (i := 68) rfl rfl)
set_option maxRecDepth 20000 in
theorem lk_CD_109 : (Cond.methodLink R_CD 109 y_AT_issuerOf) ∈ BG := (zm_2 (i := 69) rfl rfl)
set_option maxRecDepth 20000 in
theorem mi_AT_issuerOf : Cond.instanceMethod y_AT_issuerOf ∈ BG := (zm_2 (i := 70) rfl rfl)
set_option maxRecDepth 20000 in
theorem ms_AT_issuerOf : Cond.selects R_AT y_AT_issuerOf y_AT_issuerOf ∈ BG := (zm_2 (i := 71) rfl rfl)
set_option maxRecDepth 20000 in
theorem lk_AT_31 : (Cond.methodLink R_AT 31 y_AT_has) ∈ BG := (zm_2 (i := 73) rfl rfl)
set_option maxRecDepth 20000 in
theorem lk_CD_112 : (Cond.methodLink R_CD 112 y_CT_find) ∈ BG := (zm_2 (i := 74) rfl rfl)
set_option maxRecDepth 20000 in
theorem mi_CT_find : Cond.instanceMethod y_CT_find ∈ BG := (zm_2 (i := 75) rfl rfl)
set_option maxRecDepth 20000 in
theorem ms_CT_find : Cond.selects R_CT y_CT_find y_CT_find ∈ BG := (zm_2 (i := 76) rfl rfl)
set_option maxRecDepth 20000 in
theorem lk_CD_114 : (Cond.methodLink R_CD 114 y_CT_add) ∈ BG := (zm_2 (i := 78) rfl rfl)
set_option maxRecDepth 20000 in
theorem mi_CT_add : Cond.instanceMethod y_CT_add ∈ BG := (zm_2 (i := 79) rfl rfl)
set_option maxRecDepth 20000 in
theorem ms_CT_add : Cond.selects R_CT y_CT_add y_CT_add ∈ BG := (zm_2 (i := 80) rfl rfl)
set_option maxRecDepth 20000 in
theorem lk_LW_92 : (Cond.methodLink R_LW 92 y_LW_block) ∈ BG := (zm_2 (i := 82) rfl rfl)
set_option maxRecDepth 20000 in
theorem mt_LW_block : Cond.static y_LW_block ∈ BG := (zm_2 (i := 83) rfl rfl)
set_option maxRecDepth 20000 in
theorem lk_LW_29 : (Cond.methodLink R_LW 29 y_CD_block) ∈ BG := (zm_2 (i := 85) rfl rfl)
set_option maxRecDepth 20000 in
theorem mi_CD_block : Cond.instanceMethod y_CD_block ∈ BG := (zm_2 (i := 86) rfl rfl)
set_option maxRecDepth 20000 in
theorem ms_CD_block : Cond.selects R_CD y_CD_block y_CD_block ∈ BG := (zm_2 (i := 87) rfl rfl)
set_option maxRecDepth 20000 in
theorem lk_CD_116 : (Cond.methodLink R_CD 116 y_CD_requireCard) ∈ BG := (zm_2 (i := 89) rfl rfl)
set_option maxRecDepth 20000 in
theorem mi_CD_requireCard : Cond.instanceMethod y_CD_requireCard ∈ BG := (zm_2 (i := 91) rfl rfl)
set_option maxRecDepth 20000 in
theorem lk_CD_169 : (Cond.methodLink R_CD 169 y_CT_has) ∈ BG := (zm_2 (i := 93) rfl rfl)
set_option maxRecDepth 20000 in
theorem mi_CT_has : Cond.instanceMethod y_CT_has ∈ BG := (zm_2 (i := 94) rfl rfl)
set_option maxRecDepth 20000 in
theorem ms_CT_has : Cond.selects R_CT y_CT_has y_CT_has ∈ BG := (zm_2 (i := 95) rfl rfl)
set_option maxRecDepth 20000 in
theorem sr_CD_170 : (Cond.stringRef R_CD 170 "no such card") ∈ BG := (zm_2 (i := 97) rfl rfl)
set_option maxRecDepth 20000 in
theorem lk_CD_119 : (Cond.methodLink R_CD 119 y_CT_setBlocked) ∈ BG := (zm_2 (i := 98) rfl rfl)
set_option maxRecDepth 20000 in
theorem mi_CT_setBlocked : Cond.instanceMethod y_CT_setBlocked ∈ BG := (zm_2 (i := 99) rfl rfl)
set_option maxRecDepth 20000 in
theorem ms_CT_setBlocked : Cond.selects R_CT y_CT_setBlocked y_CT_setBlocked ∈ BG := (zm_2 (i := 100) rfl rfl)
set_option maxRecDepth 20000 in
theorem lk_CT_31 : (Cond.methodLink R_CT 31 y_CT_isBlocked) ∈ BG := (zm_2 (i := 102) rfl rfl)
set_option maxRecDepth 20000 in
theorem mi_CT_isBlocked : Cond.instanceMethod y_CT_isBlocked ∈ BG := (zm_2 (i := 103) rfl rfl)
set_option maxRecDepth 20000 in
theorem ms_CT_isBlocked : Cond.selects R_CT y_CT_isBlocked y_CT_isBlocked ∈ BG := (zm_2 (i := 104) rfl rfl)
set_option maxRecDepth 20000 in
theorem lk_CT_27 : (Cond.methodLink R_CT 27 y_CT_has) ∈ BG := (zm_2 (i := 106) rfl rfl)
set_option maxRecDepth 20000 in
theorem lk_LW_96 : (Cond.methodLink R_LW 96 y_LW_whose) ∈ BG := (zm_2 (i := 107) rfl rfl)
set_option maxRecDepth 20000 in
theorem mt_LW_whose : Cond.static y_LW_whose ∈ BG := (zm_2 (i := 108) rfl rfl)
set_option maxRecDepth 20000 in
theorem lk_LW_33 : (Cond.methodLink R_LW 33 y_CD_whose) ∈ BG := (zm_2 (i := 110) rfl rfl)
set_option maxRecDepth 20000 in
theorem mi_CD_whose : Cond.instanceMethod y_CD_whose ∈ BG := (zm_2 (i := 111) rfl rfl)
set_option maxRecDepth 20000 in
theorem ms_CD_whose : Cond.selects R_CD y_CD_whose y_CD_whose ∈ BG := (zm_2 (i := 112) rfl rfl)
set_option maxRecDepth 20000 in
theorem lk_LW_100 : (Cond.methodLink R_LW 100 y_LW_good) ∈ BG := (zm_2 (i := 114) rfl rfl)
set_option maxRecDepth 20000 in
theorem mt_LW_good : Cond.static y_LW_good ∈ BG := (zm_2 (i := 115) rfl rfl)
set_option maxRecDepth 20000 in
theorem lk_LW_37 : (Cond.methodLink R_LW 37 y_CD_good) ∈ BG := (zm_2 (i := 117) rfl rfl)
set_option maxRecDepth 20000 in
theorem mi_CD_good : Cond.instanceMethod y_CD_good ∈ BG := (zm_2 (i := 118) rfl rfl)
set_option maxRecDepth 20000 in
theorem ms_CD_good : Cond.selects R_CD y_CD_good y_CD_good ∈ BG := (zm_2 (i := 119) rfl rfl)
set_option maxRecDepth 20000 in
theorem lk_LW_103 : (Cond.methodLink R_LW 103 y_LW_digit) ∈ BG := (zm_2 (i := 121) rfl rfl)
set_option maxRecDepth 20000 in
theorem mt_LW_digit : Cond.static y_LW_digit ∈ BG := (zm_2 (i := 122) rfl rfl)
set_option maxRecDepth 20000 in
theorem lk_LW_41 : (Cond.methodLink R_LW 41 y_CD_digit) ∈ BG := (zm_2 (i := 124) rfl rfl)
set_option maxRecDepth 20000 in
theorem mi_CD_digit : Cond.instanceMethod y_CD_digit ∈ BG := (zm_2 (i := 125) rfl rfl)
set_option maxRecDepth 20000 in
theorem ms_CD_digit : Cond.selects R_CD y_CD_digit y_CD_digit ∈ BG := (zm_2 (i := 126) rfl rfl)
set_option maxRecDepth 20000 in
theorem lk_LW_106 : (Cond.methodLink R_LW 106 y_LW_use) ∈ BG := (zm_2 (i := 128) rfl rfl)
set_option maxRecDepth 20000 in
theorem mt_LW_use : Cond.static y_LW_use ∈ BG := (zm_2 (i := 129) rfl rfl)
set_option maxRecDepth 20000 in
theorem lk_LW_44 : (Cond.methodLink R_LW 44 y_CD_use) ∈ BG := (zm_2 (i := 131) rfl rfl)
set_option maxRecDepth 20000 in
theorem mi_CD_use : Cond.instanceMethod y_CD_use ∈ BG := (zm_2 (i := 132) rfl rfl)
set_option maxRecDepth 20000 in
theorem ms_CD_use : Cond.selects R_CD y_CD_use y_CD_use ∈ BG := (zm_2 (i := 133) rfl rfl)
set_option maxRecDepth 20000 in
theorem lk_CD_128 : (Cond.methodLink R_CD 128 y_CD_requireTime) ∈ BG := (zm_2 (i := 135) rfl rfl)
set_option maxRecDepth 20000 in
theorem mi_CD_requireTime : Cond.instanceMethod y_CD_requireTime ∈ BG := (zm_2 (i := 137) rfl rfl)
set_option maxRecDepth 20000 in
theorem sr_CD_172 : (Cond.stringRef R_CD 172 "the time is below 0 or below that of the latest use") ∈ BG := (zm_2 (i := 139) rfl rfl)
set_option maxRecDepth 20000 in
theorem lk_CD_131 : (Cond.methodLink R_CD 131 y_CT_isBlocked) ∈ BG := (zm_2 (i := 140) rfl rfl)
set_option maxRecDepth 20000 in
theorem lk_CD_135 : (Cond.methodLink R_CD 135 y_CT_accountOf) ∈ BG := (zm_2 (i := 141) rfl rfl)
set_option maxRecDepth 20000 in
theorem mi_CT_accountOf : Cond.instanceMethod y_CT_accountOf ∈ BG := (zm_2 (i := 142) rfl rfl)
set_option maxRecDepth 20000 in
theorem ms_CT_accountOf : Cond.selects R_CT y_CT_accountOf y_CT_accountOf ∈ BG := (zm_2 (i := 143) rfl rfl)
set_option maxRecDepth 20000 in
theorem lk_CD_138 : (Cond.methodLink R_CD 138 y_AT_usesSince) ∈ BG := (zm_2 (i := 145) rfl rfl)
set_option maxRecDepth 20000 in
theorem mi_AT_usesSince : Cond.instanceMethod y_AT_usesSince ∈ BG := (zm_2 (i := 146) rfl rfl)
set_option maxRecDepth 20000 in
theorem ms_AT_usesSince : Cond.selects R_AT y_AT_usesSince y_AT_usesSince ∈ BG := (zm_2 (i := 147) rfl rfl)
set_option maxRecDepth 20000 in
theorem lk_CD_141 : (Cond.methodLink R_CD 141 y_AT_noteUse) ∈ BG := (zm_2 (i := 149) rfl rfl)
set_option maxRecDepth 20000 in
theorem mi_AT_noteUse : Cond.instanceMethod y_AT_noteUse ∈ BG := (zm_2 (i := 150) rfl rfl)
set_option maxRecDepth 20000 in
theorem ms_AT_noteUse : Cond.selects R_AT y_AT_noteUse y_AT_noteUse ∈ BG := (zm_2 (i := 151) rfl rfl)
set_option maxRecDepth 20000 in
theorem lk_LW_109 : (Cond.methodLink R_LW 109 y_LW_used) ∈ BG := (zm_2 (i := 153) rfl rfl)
set_option maxRecDepth 20000 in
theorem mt_LW_used : Cond.static y_LW_used ∈ BG := (zm_2 (i := 154) rfl rfl)
set_option maxRecDepth 20000 in
theorem lk_LW_47 : (Cond.methodLink R_LW 47 y_CD_used) ∈ BG := (zm_2 (i := 156) rfl rfl)
set_option maxRecDepth 20000 in
theorem mi_CD_used : Cond.instanceMethod y_CD_used ∈ BG := (zm_2 (i := 157) rfl rfl)
set_option maxRecDepth 20000 in
theorem ms_CD_used : Cond.selects R_CD y_CD_used y_CD_used ∈ BG := (zm_2 (i := 158) rfl rfl)
set_option maxRecDepth 20000 in
theorem lk_LW_112 : (Cond.methodLink R_LW 112 y_LW_told) ∈ BG := (zm_2 (i := 160) rfl rfl)
set_option maxRecDepth 20000 in
theorem mt_LW_told : Cond.static y_LW_told ∈ BG := (zm_2 (i := 161) rfl rfl)
set_option maxRecDepth 20000 in
theorem lk_LW_50 : (Cond.methodLink R_LW 50 y_CD_told) ∈ BG := (zm_2 (i := 163) rfl rfl)
set_option maxRecDepth 20000 in
theorem mi_CD_told : Cond.instanceMethod y_CD_told ∈ BG := (zm_2 (i := 164) rfl rfl)
set_option maxRecDepth 20000 in
theorem ms_CD_told : Cond.selects R_CD y_CD_told y_CD_told ∈ BG := (zm_2 (i := 165) rfl rfl)
set_option maxRecDepth 20000 in
theorem lk_CD_144 : (Cond.methodLink R_CD 144 y_CT_numberOf) ∈ BG := (zm_2 (i := 167) rfl rfl)
set_option maxRecDepth 20000 in
theorem mi_CT_numberOf : Cond.instanceMethod y_CT_numberOf ∈ BG := (zm_2 (i := 168) rfl rfl)
set_option maxRecDepth 20000 in
theorem ms_CT_numberOf : Cond.selects R_CT y_CT_numberOf y_CT_numberOf ∈ BG := (zm_2 (i := 169) rfl rfl)
set_option maxRecDepth 20000 in
theorem sr_CD_153 : (Cond.stringRef R_CD 153 "what is not 0 .. 3") ∈ BG := (zm_2 (i := 171) rfl rfl)
set_option maxRecDepth 20000 in
theorem lc_LW_63 : (Cond.classLink R_LW 63 "CardDirectoryModel") ∈ BG := (zm_2 (i := 172) rfl rfl)
set_option maxRecDepth 20000 in
theorem nn_MO : (Cond.instantiable R_MO 16) ∈ BG := (zm_2 (i := 173) rfl rfl)
set_option maxRecDepth 20000 in
theorem lk_LW_65 : (Cond.methodLink R_LW 65 y_MO_init) ∈ BG := (zm_2 (i := 174) rfl rfl)
set_option maxRecDepth 20000 in
theorem mi_MO_init : Cond.instanceMethod y_MO_init ∈ BG := (zm_2 (i := 175) rfl rfl)
set_option maxRecDepth 20000 in
theorem lk_MO_1 : (Cond.methodLink R_MO 1 objectInit) ∈ BG := (zm_2 (i := 177) rfl rfl)
set_option maxRecDepth 20000 in
theorem lf_MO_46 : (Cond.fieldLink R_MO 46 "CardDirectoryModel" "code" "I") ∈ BG := (zm_2 (i := 178) rfl rfl)
set_option maxRecDepth 20000 in
theorem lf_MO_39 : (Cond.fieldLink R_MO 39 "CardDirectoryModel" "window" "I") ∈ BG := (zm_2 (i := 179) rfl rfl)
set_option maxRecDepth 20000 in
theorem lf_MO_43 : (Cond.fieldLink R_MO 43 "CardDirectoryModel" "many" "I") ∈ BG := (zm_2 (i := 180) rfl rfl)
set_option maxRecDepth 20000 in
theorem lf_MO_55 : (Cond.fieldLink R_MO 55 "CardDirectoryModel" "routes" "I") ∈ BG := (zm_2 (i := 181) rfl rfl)
set_option maxRecDepth 20000 in
theorem lf_MO_7 : (Cond.fieldLink R_MO 7 "CardDirectoryModel" "prefix" "[I") ∈ BG := (zm_2 (i := 182) rfl rfl)
set_option maxRecDepth 20000 in
theorem lf_MO_13 : (Cond.fieldLink R_MO 13 "CardDirectoryModel" "digits" "[I") ∈ BG := (zm_2 (i := 183) rfl rfl)
set_option maxRecDepth 20000 in
theorem lf_MO_16 : (Cond.fieldLink R_MO 16 "CardDirectoryModel" "leads" "[I") ∈ BG := (zm_2 (i := 184) rfl rfl)
set_option maxRecDepth 20000 in
theorem lf_MO_85 : (Cond.fieldLink R_MO 85 "CardDirectoryModel" "accounts" "I") ∈ BG := (zm_2 (i := 185) rfl rfl)
set_option maxRecDepth 20000 in
theorem lf_MO_19 : (Cond.fieldLink R_MO 19 "CardDirectoryModel" "issuer" "[I") ∈ BG := (zm_2 (i := 186) rfl rfl)
set_option maxRecDepth 20000 in
theorem lf_MO_22 : (Cond.fieldLink R_MO 22 "CardDirectoryModel" "uses" "[I") ∈ BG := (zm_2 (i := 187) rfl rfl)
set_option maxRecDepth 20000 in
theorem lf_MO_25 : (Cond.fieldLink R_MO 25 "CardDirectoryModel" "usedAt" "[I") ∈ BG := (zm_2 (i := 188) rfl rfl)
set_option maxRecDepth 20000 in
theorem lf_MO_88 : (Cond.fieldLink R_MO 88 "CardDirectoryModel" "cards" "I") ∈ BG := (zm_2 (i := 189) rfl rfl)
set_option maxRecDepth 20000 in
theorem lf_MO_28 : (Cond.fieldLink R_MO 28 "CardDirectoryModel" "card" "[J") ∈ BG := (zm_2 (i := 190) rfl rfl)
set_option maxRecDepth 20000 in
theorem lf_MO_32 : (Cond.fieldLink R_MO 32 "CardDirectoryModel" "of" "[I") ∈ BG := (zm_2 (i := 191) rfl rfl)
set_option maxRecDepth 20000 in
theorem lf_MO_35 : (Cond.fieldLink R_MO 35 "CardDirectoryModel" "blocked" "[Z") ∈ BG := (zm_2 (i := 192) rfl rfl)
set_option maxRecDepth 20000 in
theorem lf_MO_94 : (Cond.fieldLink R_MO 94 "CardDirectoryModel" "now" "I") ∈ BG := (zm_2 (i := 193) rfl rfl)
set_option maxRecDepth 20000 in
theorem lk_LW_70 : (Cond.methodLink R_LW 70 y_MO_thrown) ∈ BG := (zm_2 (i := 227) rfl rfl)
set_option maxRecDepth 20000 in
theorem mi_MO_thrown : Cond.instanceMethod y_MO_thrown ∈ BG := (zm_2 (i := 228) rfl rfl)
set_option maxRecDepth 20000 in
theorem ms_MO_thrown : Cond.selects R_MO y_MO_thrown y_MO_thrown ∈ BG := (zm_2 (i := 229) rfl rfl)
set_option maxRecDepth 20000 in
theorem lk_LW_69 : (Cond.methodLink R_LW 69 y_MO_route) ∈ BG := (zm_2 (i := 231) rfl rfl)
set_option maxRecDepth 20000 in
theorem mi_MO_route : Cond.instanceMethod y_MO_route ∈ BG := (zm_2 (i := 232) rfl rfl)
set_option maxRecDepth 20000 in
theorem ms_MO_route : Cond.selects R_MO y_MO_route y_MO_route ∈ BG := (zm_2 (i := 233) rfl rfl)
set_option maxRecDepth 20000 in
theorem lk_MO_58 : (Cond.methodLink R_MO 58 y_MO_placeOf) ∈ BG := (zm_2 (i := 235) rfl rfl)
set_option maxRecDepth 20000 in
theorem mi_MO_placeOf : Cond.instanceMethod y_MO_placeOf ∈ BG := (zm_2 (i := 237) rfl rfl)
set_option maxRecDepth 20000 in
theorem lk_MO_62 : (Cond.methodLink R_MO 62 y_MO_isPrefix) ∈ BG := (zm_2 (i := 239) rfl rfl)
set_option maxRecDepth 20000 in
theorem mt_MO_isPrefix : Cond.static y_MO_isPrefix ∈ BG := (zm_3 (i := 0) rfl rfl)
set_option maxRecDepth 20000 in
theorem lk_MO_51 : (Cond.methodLink R_MO 51 y_MO_width) ∈ BG := (zm_3 (i := 2) rfl rfl)
set_option maxRecDepth 20000 in
theorem mt_MO_width : Cond.static y_MO_width ∈ BG := (zm_3 (i := 3) rfl rfl)
set_option maxRecDepth 20000 in
theorem kl_MO_49 : (Cond.constantLong R_MO 49 10) ∈ BG := (zm_3 (i := 5) rfl rfl)
set_option maxRecDepth 20000 in
theorem lk_MO_66 : (Cond.methodLink R_MO 66 y_MO_goes) ∈ BG := (zm_3 (i := 6) rfl rfl)
set_option maxRecDepth 20000 in
theorem mi_MO_goes : Cond.instanceMethod y_MO_goes ∈ BG := (zm_3 (i := 8) rfl rfl)
set_option maxRecDepth 20000 in
theorem lk_LW_77 : (Cond.methodLink R_LW 77 y_MO_unroute) ∈ BG := (zm_3 (i := 10) rfl rfl)
set_option maxRecDepth 20000 in
theorem mi_MO_unroute : Cond.instanceMethod y_MO_unroute ∈ BG := (zm_3 (i := 11) rfl rfl)
set_option maxRecDepth 20000 in
theorem ms_MO_unroute : Cond.selects R_MO y_MO_unroute y_MO_unroute ∈ BG := (zm_3 (i := 12) rfl rfl)
set_option maxRecDepth 20000 in
theorem lk_LW_81 : (Cond.methodLink R_LW 81 y_MO_routes) ∈ BG := (zm_3 (i := 14) rfl rfl)
set_option maxRecDepth 20000 in
theorem mi_MO_routes : Cond.instanceMethod y_MO_routes ∈ BG := (zm_3 (i := 15) rfl rfl)
set_option maxRecDepth 20000 in
theorem ms_MO_routes : Cond.selects R_MO y_MO_routes y_MO_routes ∈ BG := (zm_3 (i := 16) rfl rfl)
set_option maxRecDepth 20000 in
theorem lk_LW_99 : (Cond.methodLink R_LW 99 y_MO_whose) ∈ BG := (zm_3 (i := 18) rfl rfl)
set_option maxRecDepth 20000 in
theorem mi_MO_whose : Cond.instanceMethod y_MO_whose ∈ BG := (zm_3 (i := 19) rfl rfl)
set_option maxRecDepth 20000 in
theorem ms_MO_whose : Cond.selects R_MO y_MO_whose y_MO_whose ∈ BG := (zm_3 (i := 20) rfl rfl)
set_option maxRecDepth 20000 in
theorem lk_MO_74 : (Cond.methodLink R_MO 74 y_MO_isNumber) ∈ BG := (zm_3 (i := 22) rfl rfl)
set_option maxRecDepth 20000 in
theorem mt_MO_isNumber : Cond.static y_MO_isNumber ∈ BG := (zm_3 (i := 23) rfl rfl)
set_option maxRecDepth 20000 in
theorem lk_MO_78 : (Cond.methodLink R_MO 78 y_MO_routed) ∈ BG := (zm_3 (i := 25) rfl rfl)
set_option maxRecDepth 20000 in
theorem mi_MO_routed : Cond.instanceMethod y_MO_routed ∈ BG := (zm_3 (i := 27) rfl rfl)
set_option maxRecDepth 20000 in
theorem lk_MO_70 : (Cond.methodLink R_MO 70 y_MO_front) ∈ BG := (zm_3 (i := 29) rfl rfl)
set_option maxRecDepth 20000 in
theorem mt_MO_front : Cond.static y_MO_front ∈ BG := (zm_3 (i := 30) rfl rfl)
set_option maxRecDepth 20000 in
theorem lk_LW_102 : (Cond.methodLink R_LW 102 y_MO_good) ∈ BG := (zm_3 (i := 32) rfl rfl)
set_option maxRecDepth 20000 in
theorem mi_MO_good : Cond.instanceMethod y_MO_good ∈ BG := (zm_3 (i := 33) rfl rfl)
set_option maxRecDepth 20000 in
theorem ms_MO_good : Cond.selects R_MO y_MO_good y_MO_good ∈ BG := (zm_3 (i := 34) rfl rfl)
set_option maxRecDepth 20000 in
theorem lk_MO_81 : (Cond.methodLink R_MO 81 y_MO_sum) ∈ BG := (zm_3 (i := 36) rfl rfl)
set_option maxRecDepth 20000 in
theorem mt_MO_sum : Cond.static y_MO_sum ∈ BG := (zm_3 (i := 37) rfl rfl)
set_option maxRecDepth 20000 in
theorem lk_LW_105 : (Cond.methodLink R_LW 105 y_MO_digit) ∈ BG := (zm_3 (i := 39) rfl rfl)
set_option maxRecDepth 20000 in
theorem mi_MO_digit : Cond.instanceMethod y_MO_digit ∈ BG := (zm_3 (i := 40) rfl rfl)
set_option maxRecDepth 20000 in
theorem ms_MO_digit : Cond.selects R_MO y_MO_digit y_MO_digit ∈ BG := (zm_3 (i := 41) rfl rfl)
set_option maxRecDepth 20000 in
theorem lk_LW_85 : (Cond.methodLink R_LW 85 y_MO_account) ∈ BG := (zm_3 (i := 43) rfl rfl)
set_option maxRecDepth 20000 in
theorem mi_MO_account : Cond.instanceMethod y_MO_account ∈ BG := (zm_3 (i := 44) rfl rfl)
set_option maxRecDepth 20000 in
theorem ms_MO_account : Cond.selects R_MO y_MO_account y_MO_account ∈ BG := (zm_3 (i := 45) rfl rfl)
set_option maxRecDepth 20000 in
theorem lk_LW_91 : (Cond.methodLink R_LW 91 y_MO_card) ∈ BG := (zm_3 (i := 47) rfl rfl)
set_option maxRecDepth 20000 in
theorem mi_MO_card : Cond.instanceMethod y_MO_card ∈ BG := (zm_3 (i := 48) rfl rfl)
set_option maxRecDepth 20000 in
theorem ms_MO_card : Cond.selects R_MO y_MO_card y_MO_card ∈ BG := (zm_3 (i := 49) rfl rfl)
set_option maxRecDepth 20000 in
theorem lk_MO_91 : (Cond.methodLink R_MO 91 y_MO_cardOf) ∈ BG := (zm_3 (i := 51) rfl rfl)
set_option maxRecDepth 20000 in
theorem mi_MO_cardOf : Cond.instanceMethod y_MO_cardOf ∈ BG := (zm_3 (i := 53) rfl rfl)
set_option maxRecDepth 20000 in
theorem lk_LW_95 : (Cond.methodLink R_LW 95 y_MO_block) ∈ BG := (zm_3 (i := 55) rfl rfl)
set_option maxRecDepth 20000 in
theorem mi_MO_block : Cond.instanceMethod y_MO_block ∈ BG := (zm_3 (i := 56) rfl rfl)
set_option maxRecDepth 20000 in
theorem ms_MO_block : Cond.selects R_MO y_MO_block y_MO_block ∈ BG := (zm_3 (i := 57) rfl rfl)
set_option maxRecDepth 20000 in
theorem lk_LW_108 : (Cond.methodLink R_LW 108 y_MO_use) ∈ BG := (zm_3 (i := 59) rfl rfl)
set_option maxRecDepth 20000 in
theorem mi_MO_use : Cond.instanceMethod y_MO_use ∈ BG := (zm_3 (i := 60) rfl rfl)
set_option maxRecDepth 20000 in
theorem ms_MO_use : Cond.selects R_MO y_MO_use y_MO_use ∈ BG := (zm_3 (i := 61) rfl rfl)
set_option maxRecDepth 20000 in
theorem lk_MO_97 : (Cond.methodLink R_MO 97 y_MO_since) ∈ BG := (zm_3 (i := 63) rfl rfl)
set_option maxRecDepth 20000 in
theorem mi_MO_since : Cond.instanceMethod y_MO_since ∈ BG := (zm_3 (i := 65) rfl rfl)
set_option maxRecDepth 20000 in
theorem lk_LW_111 : (Cond.methodLink R_LW 111 y_MO_used) ∈ BG := (zm_3 (i := 67) rfl rfl)
set_option maxRecDepth 20000 in
theorem mi_MO_used : Cond.instanceMethod y_MO_used ∈ BG := (zm_3 (i := 68) rfl rfl)
set_option maxRecDepth 20000 in
theorem ms_MO_used : Cond.selects R_MO y_MO_used y_MO_used ∈ BG := (zm_3 (i := 69) rfl rfl)
set_option maxRecDepth 20000 in
theorem lk_LW_114 : (Cond.methodLink R_LW 114 y_MO_told) ∈ BG := (zm_3 (i := 71) rfl rfl)
set_option maxRecDepth 20000 in
theorem mi_MO_told : Cond.instanceMethod y_MO_told ∈ BG := (zm_3 (i := 72) rfl rfl)
set_option maxRecDepth 20000 in
theorem ms_MO_told : Cond.selects R_MO y_MO_told y_MO_told ∈ BG := (zm_3 (i := 73) rfl rfl)
set_option maxRecDepth 20000 in
theorem kl_LW_86 : (Cond.constantLong R_LW 86 4294967295) ∈ BG := (zm_3 (i := 75) rfl rfl)
theorem ni_IAE : Cond.initialized zIAE ∈ BG := by decide +kernel
theorem ni_ISE : Cond.initialized zISE ∈ BG := by decide +kernel
theorem nn_IAE : Cond.instantiable zIAE 6 ∈ BG := by decide +kernel
theorem nn_ISE : Cond.instantiable zISE 6 ∈ BG := by decide +kernel
theorem ni_Math : Cond.initialized "java/lang/Math" ∈ BG := by decide +kernel
theorem mt_min : Cond.static Lib.Math.min.name ∈ BG := by decide +kernel
theorem mt_max : Cond.static Lib.Math.max.name ∈ BG := by decide +kernel
theorem mi_obj : Cond.instanceMethod objectInit ∈ BG := by decide +kernel
theorem ma_int : Cond.arrayClass .int ∈ BG := by decide +kernel
theorem ma_long : Cond.arrayClass .long ∈ BG := by decide +kernel
theorem ma_bool : Cond.arrayClass .boolean ∈ BG := by decide +kernel
theorem mc_min : Cond.code Lib.Math.min.name Lib.Math.min.code 2 (some .int) ∈ BG := by decide +kernel
theorem mc_max : Cond.code Lib.Math.max.name Lib.Math.max.code 2 (some .int) ∈ BG := by decide +kernel
theorem mc_obj : Cond.code objectInit ⟨#[0xb1]⟩ 1 none ∈ BG := by decide +kernel
