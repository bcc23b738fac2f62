/-- the words that stay as the machine warms: the good ones, and the links to nest mates -/
def bpGd : Cond → Bool
  | .methodLinkNest _ _ _ _ => true
  | w => goodWord w
def bpW : List Cond := lw_tbl.filter bpGd
theorem wd_in {w : Cond} (h : w ∈ lw_tbl) (g : bpGd w = true) : w ∈ bpW := List.mem_filter.mpr ⟨h, g⟩
theorem wd_out {w : Cond} (h : w ∈ bpW) : w ∈ lw_tbl := (List.mem_filter.mp h).1
theorem wse_X1_fits : Cond.selects RX1 yX1_fits yX1_fits ∈ bpW := wd_in (List.mem_of_getElem? (i := 0) (by decide +kernel)) rfl
theorem wse_X4_changeWidth : Cond.selects RX4 yX4_changeWidth yX4_changeWidth ∈ bpW := wd_in (List.mem_of_getElem? (i := 1) (by decide +kernel)) rfl
theorem wse_X4_chooseAll : Cond.selects RX4 yX4_chooseAll yX4_chooseAll ∈ bpW := wd_in (List.mem_of_getElem? (i := 2) (by decide +kernel)) rfl
theorem wse_X4_chooseOfKey : Cond.selects RX4 yX4_chooseOfKey yX4_chooseOfKey ∈ bpW := wd_in (List.mem_of_getElem? (i := 3) (by decide +kernel)) rfl
theorem wse_X4_leadOf : Cond.selects RX4 yX4_leadOf yX4_leadOf ∈ bpW := wd_in (List.mem_of_getElem? (i := 4) (by decide +kernel)) rfl
theorem wse_X4_isAhead : Cond.selects RX4 yX4_isAhead yX4_isAhead ∈ bpW := wd_in (List.mem_of_getElem? (i := 5) (by decide +kernel)) rfl
theorem wse_X4_choiceOf : Cond.selects RX4 yX4_choiceOf yX4_choiceOf ∈ bpW := wd_in (List.mem_of_getElem? (i := 6) (by decide +kernel)) rfl
theorem wse_X4_isPort : Cond.selects RX4 yX4_isPort yX4_isPort ∈ bpW := wd_in (List.mem_of_getElem? (i := 7) (by decide +kernel)) rfl
theorem wse_X4_changeWait : Cond.selects RX4 yX4_changeWait yX4_changeWait ∈ bpW := wd_in (List.mem_of_getElem? (i := 8) (by decide +kernel)) rfl
theorem wse_X4_changeShift : Cond.selects RX4 yX4_changeShift yX4_changeShift ∈ bpW := wd_in (List.mem_of_getElem? (i := 9) (by decide +kernel)) rfl
theorem wse_X4_dropQueue : Cond.selects RX4 yX4_dropQueue yX4_dropQueue ∈ bpW := wd_in (List.mem_of_getElem? (i := 10) (by decide +kernel)) rfl
theorem wse_X4_answerMarker : Cond.selects RX4 yX4_answerMarker yX4_answerMarker ∈ bpW := wd_in (List.mem_of_getElem? (i := 11) (by decide +kernel)) rfl
theorem wse_X4_wayOf : Cond.selects RX4 yX4_wayOf yX4_wayOf ∈ bpW := wd_in (List.mem_of_getElem? (i := 12) (by decide +kernel)) rfl
theorem wse_X4_bitsOf : Cond.selects RX4 yX4_bitsOf yX4_bitsOf ∈ bpW := wd_in (List.mem_of_getElem? (i := 13) (by decide +kernel)) rfl
theorem wse_X4_howItIs : Cond.selects RX4 yX4_howItIs yX4_howItIs ∈ bpW := wd_in (List.mem_of_getElem? (i := 14) (by decide +kernel)) rfl
theorem wse_X4_putLetter : Cond.selects RX4 yX4_putLetter yX4_putLetter ∈ bpW := wd_in (List.mem_of_getElem? (i := 15) (by decide +kernel)) rfl
theorem wse_X4_carries : Cond.selects RX4 yX4_carries yX4_carries ∈ bpW := wd_in (List.mem_of_getElem? (i := 16) (by decide +kernel)) rfl
theorem wse_X4_hasLettersBehind : Cond.selects RX4 yX4_hasLettersBehind yX4_hasLettersBehind ∈ bpW := wd_in (List.mem_of_getElem? (i := 17) (by decide +kernel)) rfl
theorem wse_X4_startMoving : Cond.selects RX4 yX4_startMoving yX4_startMoving ∈ bpW := wd_in (List.mem_of_getElem? (i := 18) (by decide +kernel)) rfl
theorem wse_X4_sumOverFlows : Cond.selects RX4 yX4_sumOverFlows yX4_sumOverFlows ∈ bpW := wd_in (List.mem_of_getElem? (i := 19) (by decide +kernel)) rfl
theorem wse_X4_passTick : Cond.selects RX4 yX4_passTick yX4_passTick ∈ bpW := wd_in (List.mem_of_getElem? (i := 20) (by decide +kernel)) rfl
theorem wse_X4_letFirstOut : Cond.selects RX4 yX4_letFirstOut yX4_letFirstOut ∈ bpW := wd_in (List.mem_of_getElem? (i := 21) (by decide +kernel)) rfl
theorem wse_X4_digestPort : Cond.selects RX4 yX4_digestPort yX4_digestPort ∈ bpW := wd_in (List.mem_of_getElem? (i := 22) (by decide +kernel)) rfl
theorem wse_X5_clearFlows : Cond.selects RX5 yX5_clearFlows yX5_clearFlows ∈ bpW := wd_in (List.mem_of_getElem? (i := 23) (by decide +kernel)) rfl
theorem wse_X5_rightLetters : Cond.selects RX5 yX5_rightLetters yX5_rightLetters ∈ bpW := wd_in (List.mem_of_getElem? (i := 24) (by decide +kernel)) rfl
theorem wse_X5_isRight : Cond.selects RX5 yX5_isRight yX5_isRight ∈ bpW := wd_in (List.mem_of_getElem? (i := 25) (by decide +kernel)) rfl
theorem wse_X5_forget : Cond.selects RX5 yX5_forget yX5_forget ∈ bpW := wd_in (List.mem_of_getElem? (i := 26) (by decide +kernel)) rfl
theorem wse_X5_toldNow : Cond.selects RX5 yX5_toldNow yX5_toldNow ∈ bpW := wd_in (List.mem_of_getElem? (i := 27) (by decide +kernel)) rfl
theorem wse_X5_settle : Cond.selects RX5 yX5_settle yX5_settle ∈ bpW := wd_in (List.mem_of_getElem? (i := 28) (by decide +kernel)) rfl
theorem wse_X5_stateOf : Cond.selects RX5 yX5_stateOf yX5_stateOf ∈ bpW := wd_in (List.mem_of_getElem? (i := 29) (by decide +kernel)) rfl
theorem wse_X5_placeOf : Cond.selects RX5 yX5_placeOf yX5_placeOf ∈ bpW := wd_in (List.mem_of_getElem? (i := 30) (by decide +kernel)) rfl
theorem wse_X5_leadOf : Cond.selects RX5 yX5_leadOf yX5_leadOf ∈ bpW := wd_in (List.mem_of_getElem? (i := 31) (by decide +kernel)) rfl
theorem wse_X5_isAhead : Cond.selects RX5 yX5_isAhead yX5_isAhead ∈ bpW := wd_in (List.mem_of_getElem? (i := 32) (by decide +kernel)) rfl
theorem wse_X5_areAlike : Cond.selects RX5 yX5_areAlike yX5_areAlike ∈ bpW := wd_in (List.mem_of_getElem? (i := 33) (by decide +kernel)) rfl
theorem wse_X5_isPort : Cond.selects RX5 yX5_isPort yX5_isPort ∈ bpW := wd_in (List.mem_of_getElem? (i := 34) (by decide +kernel)) rfl
theorem wse_X5_empty : Cond.selects RX5 yX5_empty yX5_empty ∈ bpW := wd_in (List.mem_of_getElem? (i := 35) (by decide +kernel)) rfl
theorem wse_X5_answer : Cond.selects RX5 yX5_answer yX5_answer ∈ bpW := wd_in (List.mem_of_getElem? (i := 36) (by decide +kernel)) rfl
theorem wse_X5_wayOf : Cond.selects RX5 yX5_wayOf yX5_wayOf ∈ bpW := wd_in (List.mem_of_getElem? (i := 37) (by decide +kernel)) rfl
theorem wse_X5_bitsOf : Cond.selects RX5 yX5_bitsOf yX5_bitsOf ∈ bpW := wd_in (List.mem_of_getElem? (i := 38) (by decide +kernel)) rfl
theorem wse_X5_comes : Cond.selects RX5 yX5_comes yX5_comes ∈ bpW := wd_in (List.mem_of_getElem? (i := 39) (by decide +kernel)) rfl
theorem wse_X5_lay : Cond.selects RX5 yX5_lay yX5_lay ∈ bpW := wd_in (List.mem_of_getElem? (i := 40) (by decide +kernel)) rfl
theorem wse_X5_portNow : Cond.selects RX5 yX5_portNow yX5_portNow ∈ bpW := wd_in (List.mem_of_getElem? (i := 41) (by decide +kernel)) rfl
theorem wse_X5_queueNow : Cond.selects RX5 yX5_queueNow yX5_queueNow ∈ bpW := wd_in (List.mem_of_getElem? (i := 42) (by decide +kernel)) rfl
theorem wse_X5_keyNow : Cond.selects RX5 yX5_keyNow yX5_keyNow ∈ bpW := wd_in (List.mem_of_getElem? (i := 43) (by decide +kernel)) rfl
theorem wse_X5_sendNow : Cond.selects RX5 yX5_sendNow yX5_sendNow ∈ bpW := wd_in (List.mem_of_getElem? (i := 44) (by decide +kernel)) rfl
theorem wse_X5_holds : Cond.selects RX5 yX5_holds yX5_holds ∈ bpW := wd_in (List.mem_of_getElem? (i := 45) (by decide +kernel)) rfl
theorem wse_X5_hasLetter : Cond.selects RX5 yX5_hasLetter yX5_hasLetter ∈ bpW := wd_in (List.mem_of_getElem? (i := 46) (by decide +kernel)) rfl
theorem wse_X5_flowNow : Cond.selects RX5 yX5_flowNow yX5_flowNow ∈ bpW := wd_in (List.mem_of_getElem? (i := 47) (by decide +kernel)) rfl
theorem wse_X5_tickNow : Cond.selects RX5 yX5_tickNow yX5_tickNow ∈ bpW := wd_in (List.mem_of_getElem? (i := 48) (by decide +kernel)) rfl
theorem wse_X5_hearLess : Cond.selects RX5 yX5_hearLess yX5_hearLess ∈ bpW := wd_in (List.mem_of_getElem? (i := 49) (by decide +kernel)) rfl
theorem wse_X5_waitMore : Cond.selects RX5 yX5_waitMore yX5_waitMore ∈ bpW := wd_in (List.mem_of_getElem? (i := 50) (by decide +kernel)) rfl
theorem wse_X5_goesOut : Cond.selects RX5 yX5_goesOut yX5_goesOut ∈ bpW := wd_in (List.mem_of_getElem? (i := 51) (by decide +kernel)) rfl
theorem wse_X5_howMany : Cond.selects RX5 yX5_howMany yX5_howMany ∈ bpW := wd_in (List.mem_of_getElem? (i := 52) (by decide +kernel)) rfl
theorem wse_X5_sumOf : Cond.selects RX5 yX5_sumOf yX5_sumOf ∈ bpW := wd_in (List.mem_of_getElem? (i := 53) (by decide +kernel)) rfl
theorem wse_X5_mixPorts : Cond.selects RX5 yX5_mixPorts yX5_mixPorts ∈ bpW := wd_in (List.mem_of_getElem? (i := 54) (by decide +kernel)) rfl
theorem wse_X5_mix : Cond.selects RX5 yX5_mix yX5_mix ∈ bpW := wd_in (List.mem_of_getElem? (i := 55) (by decide +kernel)) rfl
theorem wse_X5_mixFlows : Cond.selects RX5 yX5_mixFlows yX5_mixFlows ∈ bpW := wd_in (List.mem_of_getElem? (i := 56) (by decide +kernel)) rfl
theorem win_L : Cond.initialized RL ∈ bpW := wd_in (List.mem_of_getElem? (i := 57) (by decide +kernel)) rfl
theorem win_X4 : Cond.initialized RX4 ∈ bpW := wd_in (List.mem_of_getElem? (i := 58) (by decide +kernel)) rfl
theorem win_X1 : Cond.initialized RX1 ∈ bpW := wd_in (List.mem_of_getElem? (i := 59) (by decide +kernel)) rfl
theorem win_X2 : Cond.initialized RX2 ∈ bpW := wd_in (List.mem_of_getElem? (i := 60) (by decide +kernel)) rfl
theorem win_X3 : Cond.initialized RX3 ∈ bpW := wd_in (List.mem_of_getElem? (i := 61) (by decide +kernel)) rfl
theorem win_X0 : Cond.initialized RX0 ∈ bpW := wd_in (List.mem_of_getElem? (i := 62) (by decide +kernel)) rfl
theorem win_X5 : Cond.initialized RX5 ∈ bpW := wd_in (List.mem_of_getElem? (i := 63) (by decide +kernel)) rfl
theorem win_J6 : Cond.initialized RJ6 ∈ bpW := wd_in (List.mem_of_getElem? (i := 64) (by decide +kernel)) rfl
theorem wcl_L_7 : Cond.classLink RL 7 RX4 ∈ bpW := wd_in (List.mem_of_getElem? (i := 65) (by decide +kernel)) rfl
theorem wis_X4 : Cond.instantiable RX4 10 ∈ bpW := wd_in (List.mem_of_getElem? (i := 66) (by decide +kernel)) rfl
theorem wml_L_9 : Cond.methodLink RL 9 yX4_init ∈ bpW := wd_in (List.mem_of_getElem? (i := 67) (by decide +kernel)) rfl
theorem wim_X4_init : Cond.instanceMethod yX4_init ∈ bpW := wd_in (List.mem_of_getElem? (i := 68) (by decide +kernel)) rfl
theorem wcd_X4_init : Cond.code yX4_init cX4_init 2 none ∈ bpW := wd_in (List.mem_of_getElem? (i := 69) (by decide +kernel)) rfl
theorem wml_X4_1 : Cond.methodLink RX4 1 objectInit ∈ bpW := wd_in (List.mem_of_getElem? (i := 70) (by decide +kernel)) rfl
theorem wim_obj : Cond.instanceMethod objectInit ∈ bpW := wd_in (List.mem_of_getElem? (i := 71) (by decide +kernel)) rfl
theorem wcd_obj : Cond.code objectInit ⟨#[0xb1]⟩ 1 none ∈ bpW := wd_in (List.mem_of_getElem? (i := 72) (by decide +kernel)) rfl
theorem wcl_X4_7 : Cond.classLink RX4 7 RX1 ∈ bpW := wd_in (List.mem_of_getElem? (i := 73) (by decide +kernel)) rfl
theorem wis_X1 : Cond.instantiable RX1 2 ∈ bpW := wd_in (List.mem_of_getElem? (i := 74) (by decide +kernel)) rfl
theorem wnb_X4_9 : Cond.methodLinkNest RX4 9 yX1_init RX4 ∈ bpW := wd_in (List.mem_of_getElem? (i := 75) (by decide +kernel)) rfl
theorem wmn_X4_9 : Cond.methodLinkNest RX4 9 yX1_init RX4 ∈ lw_tbl := List.mem_of_getElem? (i := 75) (by decide +kernel)
theorem wim_X1_init : Cond.instanceMethod yX1_init ∈ bpW := wd_in (List.mem_of_getElem? (i := 76) (by decide +kernel)) rfl
theorem wcd_X1_init : Cond.code yX1_init cX1_init 1 none ∈ bpW := wd_in (List.mem_of_getElem? (i := 77) (by decide +kernel)) rfl
theorem wml_X1_3 : Cond.methodLink RX1 3 objectInit ∈ bpW := wd_in (List.mem_of_getElem? (i := 78) (by decide +kernel)) rfl
theorem wfl_X1_9 : Cond.fieldLink RX1 9 "BoundPorts$Page" "codes" "[I" ∈ bpW := wd_in (List.mem_of_getElem? (i := 79) (by decide +kernel)) rfl
theorem wfl_X1_15 : Cond.fieldLink RX1 15 "BoundPorts$Page" "size" "I" ∈ bpW := wd_in (List.mem_of_getElem? (i := 80) (by decide +kernel)) rfl
theorem wfl_X4_56 : Cond.fieldLink RX4 56 "BoundPorts$Page" "size" "I" ∈ bpW := wd_in (List.mem_of_getElem? (i := 81) (by decide +kernel)) rfl
theorem wac_int : Cond.arrayClass .int ∈ bpW := wd_in (List.mem_of_getElem? (i := 87) (by decide +kernel)) rfl
theorem wcl_X4_16 : Cond.classLink RX4 16 RX2 ∈ bpW := wd_in (List.mem_of_getElem? (i := 88) (by decide +kernel)) rfl
theorem wao_Port : Cond.arrayOver (.object "BoundPorts$Port") ∈ lw_tbl := List.mem_of_getElem? (i := 89) (by decide +kernel)
theorem wcl_X4_22 : Cond.classLink RX4 22 RX0 ∈ bpW := wd_in (List.mem_of_getElem? (i := 90) (by decide +kernel)) rfl
theorem wao_Flow : Cond.arrayOver (.object "BoundPorts$Flow") ∈ lw_tbl := List.mem_of_getElem? (i := 91) (by decide +kernel)
theorem wis_X2 : Cond.instantiable RX2 11 ∈ bpW := wd_in (List.mem_of_getElem? (i := 92) (by decide +kernel)) rfl
theorem wnb_X4_50 : Cond.methodLinkNest RX4 50 yX2_init RX4 ∈ bpW := wd_in (List.mem_of_getElem? (i := 93) (by decide +kernel)) rfl
theorem wmn_X4_50 : Cond.methodLinkNest RX4 50 yX2_init RX4 ∈ lw_tbl := List.mem_of_getElem? (i := 93) (by decide +kernel)
theorem wim_X2_init : Cond.instanceMethod yX2_init ∈ bpW := wd_in (List.mem_of_getElem? (i := 94) (by decide +kernel)) rfl
theorem wcd_X2_init : Cond.code yX2_init cX2_init 1 none ∈ bpW := wd_in (List.mem_of_getElem? (i := 95) (by decide +kernel)) rfl
theorem wml_X2_3 : Cond.methodLink RX2 3 objectInit ∈ bpW := wd_in (List.mem_of_getElem? (i := 96) (by decide +kernel)) rfl
theorem wcl_X2_9 : Cond.classLink RX2 9 RX3 ∈ bpW := wd_in (List.mem_of_getElem? (i := 97) (by decide +kernel)) rfl
theorem wis_X3 : Cond.instantiable RX3 3 ∈ bpW := wd_in (List.mem_of_getElem? (i := 98) (by decide +kernel)) rfl
theorem wnb_X2_11 : Cond.methodLinkNest RX2 11 yX3_init RX4 ∈ bpW := wd_in (List.mem_of_getElem? (i := 99) (by decide +kernel)) rfl
theorem wmn_X2_11 : Cond.methodLinkNest RX2 11 yX3_init RX4 ∈ lw_tbl := List.mem_of_getElem? (i := 99) (by decide +kernel)
theorem wim_X3_init : Cond.instanceMethod yX3_init ∈ bpW := wd_in (List.mem_of_getElem? (i := 100) (by decide +kernel)) rfl
theorem wcd_X3_init : Cond.code yX3_init cX3_init 1 none ∈ bpW := wd_in (List.mem_of_getElem? (i := 101) (by decide +kernel)) rfl
theorem wml_X3_3 : Cond.methodLink RX3 3 objectInit ∈ bpW := wd_in (List.mem_of_getElem? (i := 102) (by decide +kernel)) rfl
theorem wfl_X3_11 : Cond.fieldLink RX3 11 "BoundPorts$Queue" "flowRow" "[I" ∈ bpW := wd_in (List.mem_of_getElem? (i := 103) (by decide +kernel)) rfl
theorem wfl_X3_15 : Cond.fieldLink RX3 15 "BoundPorts$Queue" "numberRow" "[I" ∈ bpW := wd_in (List.mem_of_getElem? (i := 104) (by decide +kernel)) rfl
theorem wfl_X3_18 : Cond.fieldLink RX3 18 "BoundPorts$Queue" "size" "I" ∈ bpW := wd_in (List.mem_of_getElem? (i := 105) (by decide +kernel)) rfl
theorem wfl_X2_50 : Cond.fieldLink RX2 50 "BoundPorts$Queue" "size" "I" ∈ bpW := wd_in (List.mem_of_getElem? (i := 106) (by decide +kernel)) rfl
theorem wfl_X4_153 : Cond.fieldLink RX4 153 "BoundPorts$Queue" "size" "I" ∈ bpW := wd_in (List.mem_of_getElem? (i := 107) (by decide +kernel)) rfl
theorem wfl_X2_12 : Cond.fieldLink RX2 12 "BoundPorts$Port" "queue" "LBoundPorts$Queue;" ∈ bpW := wd_in (List.mem_of_getElem? (i := 115) (by decide +kernel)) rfl
theorem wfl_X4_112 : Cond.fieldLink RX4 112 "BoundPorts$Port" "queue" "LBoundPorts$Queue;" ∈ bpW := wd_in (List.mem_of_getElem? (i := 116) (by decide +kernel)) rfl
theorem wfl_X2_18 : Cond.fieldLink RX2 18 "BoundPorts$Port" "key" "I" ∈ bpW := wd_in (List.mem_of_getElem? (i := 117) (by decide +kernel)) rfl
theorem wfl_X4_131 : Cond.fieldLink RX4 131 "BoundPorts$Port" "key" "I" ∈ bpW := wd_in (List.mem_of_getElem? (i := 118) (by decide +kernel)) rfl
theorem wfl_X2_22 : Cond.fieldLink RX2 22 "BoundPorts$Port" "rank" "I" ∈ bpW := wd_in (List.mem_of_getElem? (i := 119) (by decide +kernel)) rfl
theorem wfl_X4_95 : Cond.fieldLink RX4 95 "BoundPorts$Port" "rank" "I" ∈ bpW := wd_in (List.mem_of_getElem? (i := 120) (by decide +kernel)) rfl
theorem wfl_X2_25 : Cond.fieldLink RX2 25 "BoundPorts$Port" "up" "Z" ∈ bpW := wd_in (List.mem_of_getElem? (i := 121) (by decide +kernel)) rfl
theorem wfl_X4_101 : Cond.fieldLink RX4 101 "BoundPorts$Port" "up" "Z" ∈ bpW := wd_in (List.mem_of_getElem? (i := 122) (by decide +kernel)) rfl
theorem wfl_X2_29 : Cond.fieldLink RX2 29 "BoundPorts$Port" "heard" "Z" ∈ bpW := wd_in (List.mem_of_getElem? (i := 123) (by decide +kernel)) rfl
theorem wfl_X4_109 : Cond.fieldLink RX4 109 "BoundPorts$Port" "heard" "Z" ∈ bpW := wd_in (List.mem_of_getElem? (i := 124) (by decide +kernel)) rfl
theorem wfl_X2_32 : Cond.fieldLink RX2 32 "BoundPorts$Port" "partner" "I" ∈ bpW := wd_in (List.mem_of_getElem? (i := 125) (by decide +kernel)) rfl
theorem wfl_X4_134 : Cond.fieldLink RX4 134 "BoundPorts$Port" "partner" "I" ∈ bpW := wd_in (List.mem_of_getElem? (i := 126) (by decide +kernel)) rfl
theorem wfl_X2_35 : Cond.fieldLink RX2 35 "BoundPorts$Port" "partnerKey" "I" ∈ bpW := wd_in (List.mem_of_getElem? (i := 127) (by decide +kernel)) rfl
theorem wfl_X4_137 : Cond.fieldLink RX4 137 "BoundPorts$Port" "partnerKey" "I" ∈ bpW := wd_in (List.mem_of_getElem? (i := 128) (by decide +kernel)) rfl
theorem wfl_X2_38 : Cond.fieldLink RX2 38 "BoundPorts$Port" "ready" "Z" ∈ bpW := wd_in (List.mem_of_getElem? (i := 129) (by decide +kernel)) rfl
theorem wfl_X4_140 : Cond.fieldLink RX4 140 "BoundPorts$Port" "ready" "Z" ∈ bpW := wd_in (List.mem_of_getElem? (i := 130) (by decide +kernel)) rfl
theorem wfl_X2_41 : Cond.fieldLink RX2 41 "BoundPorts$Port" "age" "I" ∈ bpW := wd_in (List.mem_of_getElem? (i := 131) (by decide +kernel)) rfl
theorem wfl_X4_143 : Cond.fieldLink RX4 143 "BoundPorts$Port" "age" "I" ∈ bpW := wd_in (List.mem_of_getElem? (i := 132) (by decide +kernel)) rfl
theorem wfl_X2_44 : Cond.fieldLink RX2 44 "BoundPorts$Port" "choice" "I" ∈ bpW := wd_in (List.mem_of_getElem? (i := 133) (by decide +kernel)) rfl
theorem wfl_X4_260 : Cond.fieldLink RX4 260 "BoundPorts$Port" "choice" "I" ∈ bpW := wd_in (List.mem_of_getElem? (i := 134) (by decide +kernel)) rfl
theorem wfl_X2_47 : Cond.fieldLink RX2 47 "BoundPorts$Port" "waited" "I" ∈ bpW := wd_in (List.mem_of_getElem? (i := 135) (by decide +kernel)) rfl
theorem wfl_X4_150 : Cond.fieldLink RX4 150 "BoundPorts$Port" "waited" "I" ∈ bpW := wd_in (List.mem_of_getElem? (i := 136) (by decide +kernel)) rfl
theorem wis_X0 : Cond.instantiable RX0 8 ∈ bpW := wd_in (List.mem_of_getElem? (i := 160) (by decide +kernel)) rfl
theorem wnb_X4_51 : Cond.methodLinkNest RX4 51 yX0_init RX4 ∈ bpW := wd_in (List.mem_of_getElem? (i := 161) (by decide +kernel)) rfl
theorem wmn_X4_51 : Cond.methodLinkNest RX4 51 yX0_init RX4 ∈ lw_tbl := List.mem_of_getElem? (i := 161) (by decide +kernel)
theorem wim_X0_init : Cond.instanceMethod yX0_init ∈ bpW := wd_in (List.mem_of_getElem? (i := 162) (by decide +kernel)) rfl
theorem wcd_X0_init : Cond.code yX0_init cX0_init 1 none ∈ bpW := wd_in (List.mem_of_getElem? (i := 163) (by decide +kernel)) rfl
theorem wml_X0_3 : Cond.methodLink RX0 3 objectInit ∈ bpW := wd_in (List.mem_of_getElem? (i := 164) (by decide +kernel)) rfl
theorem wfl_X0_9 : Cond.fieldLink RX0 9 "BoundPorts$Flow" "held" "[I" ∈ bpW := wd_in (List.mem_of_getElem? (i := 165) (by decide +kernel)) rfl
theorem wfl_X4_283 : Cond.fieldLink RX4 283 "BoundPorts$Flow" "held" "[I" ∈ bpW := wd_in (List.mem_of_getElem? (i := 166) (by decide +kernel)) rfl
theorem wfl_X0_15 : Cond.fieldLink RX0 15 "BoundPorts$Flow" "heldCount" "I" ∈ bpW := wd_in (List.mem_of_getElem? (i := 167) (by decide +kernel)) rfl
theorem wfl_X4_207 : Cond.fieldLink RX4 207 "BoundPorts$Flow" "heldCount" "I" ∈ bpW := wd_in (List.mem_of_getElem? (i := 168) (by decide +kernel)) rfl
theorem wfl_X0_19 : Cond.fieldLink RX0 19 "BoundPorts$Flow" "on" "I" ∈ bpW := wd_in (List.mem_of_getElem? (i := 169) (by decide +kernel)) rfl
theorem wfl_X4_193 : Cond.fieldLink RX4 193 "BoundPorts$Flow" "on" "I" ∈ bpW := wd_in (List.mem_of_getElem? (i := 170) (by decide +kernel)) rfl
theorem wfl_X0_22 : Cond.fieldLink RX0 22 "BoundPorts$Flow" "moving" "Z" ∈ bpW := wd_in (List.mem_of_getElem? (i := 171) (by decide +kernel)) rfl
theorem wfl_X4_184 : Cond.fieldLink RX4 184 "BoundPorts$Flow" "moving" "Z" ∈ bpW := wd_in (List.mem_of_getElem? (i := 172) (by decide +kernel)) rfl
theorem wfl_X0_26 : Cond.fieldLink RX0 26 "BoundPorts$Flow" "sent" "I" ∈ bpW := wd_in (List.mem_of_getElem? (i := 173) (by decide +kernel)) rfl
theorem wfl_X4_181 : Cond.fieldLink RX4 181 "BoundPorts$Flow" "sent" "I" ∈ bpW := wd_in (List.mem_of_getElem? (i := 174) (by decide +kernel)) rfl
theorem wfl_X0_29 : Cond.fieldLink RX0 29 "BoundPorts$Flow" "delivered" "I" ∈ bpW := wd_in (List.mem_of_getElem? (i := 175) (by decide +kernel)) rfl
theorem wfl_X4_210 : Cond.fieldLink RX4 210 "BoundPorts$Flow" "delivered" "I" ∈ bpW := wd_in (List.mem_of_getElem? (i := 176) (by decide +kernel)) rfl
theorem wfl_X0_32 : Cond.fieldLink RX0 32 "BoundPorts$Flow" "lost" "I" ∈ bpW := wd_in (List.mem_of_getElem? (i := 177) (by decide +kernel)) rfl
theorem wfl_X4_190 : Cond.fieldLink RX4 190 "BoundPorts$Flow" "lost" "I" ∈ bpW := wd_in (List.mem_of_getElem? (i := 178) (by decide +kernel)) rfl
theorem wfl_X0_35 : Cond.fieldLink RX0 35 "BoundPorts$Flow" "latest" "I" ∈ bpW := wd_in (List.mem_of_getElem? (i := 179) (by decide +kernel)) rfl
theorem wfl_X4_213 : Cond.fieldLink RX4 213 "BoundPorts$Flow" "latest" "I" ∈ bpW := wd_in (List.mem_of_getElem? (i := 180) (by decide +kernel)) rfl
theorem wfl_X4_10 : Cond.fieldLink RX4 10 "BoundPorts" "page" "LBoundPorts$Page;" ∈ bpW := wd_in (List.mem_of_getElem? (i := 198) (by decide +kernel)) rfl
theorem wfl_X4_18 : Cond.fieldLink RX4 18 "BoundPorts" "ports" "[LBoundPorts$Port;" ∈ bpW := wd_in (List.mem_of_getElem? (i := 199) (by decide +kernel)) rfl
theorem wfl_X4_24 : Cond.fieldLink RX4 24 "BoundPorts" "flows" "[LBoundPorts$Flow;" ∈ bpW := wd_in (List.mem_of_getElem? (i := 200) (by decide +kernel)) rfl
theorem wfl_X4_28 : Cond.fieldLink RX4 28 "BoundPorts" "portCount" "I" ∈ bpW := wd_in (List.mem_of_getElem? (i := 201) (by decide +kernel)) rfl
theorem wfl_X4_32 : Cond.fieldLink RX4 32 "BoundPorts" "width" "I" ∈ bpW := wd_in (List.mem_of_getElem? (i := 202) (by decide +kernel)) rfl
theorem wfl_X4_35 : Cond.fieldLink RX4 35 "BoundPorts" "waitTicks" "I" ∈ bpW := wd_in (List.mem_of_getElem? (i := 203) (by decide +kernel)) rfl
theorem wfl_X4_38 : Cond.fieldLink RX4 38 "BoundPorts" "shift" "I" ∈ bpW := wd_in (List.mem_of_getElem? (i := 204) (by decide +kernel)) rfl
theorem wfl_X4_41 : Cond.fieldLink RX4 41 "BoundPorts" "ticks" "I" ∈ bpW := wd_in (List.mem_of_getElem? (i := 205) (by decide +kernel)) rfl
theorem wfl_X4_44 : Cond.fieldLink RX4 44 "BoundPorts" "answered" "I" ∈ bpW := wd_in (List.mem_of_getElem? (i := 206) (by decide +kernel)) rfl
theorem wfl_X4_47 : Cond.fieldLink RX4 47 "BoundPorts" "boardsRead" "I" ∈ bpW := wd_in (List.mem_of_getElem? (i := 207) (by decide +kernel)) rfl
theorem wml_L_13 : Cond.methodLink RL 13 yX4_letter ∈ bpW := wd_in (List.mem_of_getElem? (i := 229) (by decide +kernel)) rfl
theorem wim_X4_letter : Cond.instanceMethod yX4_letter ∈ bpW := wd_in (List.mem_of_getElem? (i := 230) (by decide +kernel)) rfl
theorem wse_X4_letter : Cond.selects RX4 yX4_letter yX4_letter ∈ bpW := wd_in (List.mem_of_getElem? (i := 231) (by decide +kernel)) rfl
theorem wcd_X4_letter : Cond.code yX4_letter cX4_letter 2 (some .int) ∈ bpW := wd_in (List.mem_of_getElem? (i := 232) (by decide +kernel)) rfl
theorem wml_X4_52 : Cond.methodLink RX4 52 yX1_append ∈ bpW := wd_in (List.mem_of_getElem? (i := 233) (by decide +kernel)) rfl
theorem wim_X1_append : Cond.instanceMethod yX1_append ∈ bpW := wd_in (List.mem_of_getElem? (i := 234) (by decide +kernel)) rfl
theorem wse_X1_append : Cond.selects RX1 yX1_append yX1_append ∈ bpW := wd_in (List.mem_of_getElem? (i := 235) (by decide +kernel)) rfl
theorem wcd_X1_append : Cond.code yX1_append cX1_append 2 (some .boolean) ∈ bpW := wd_in (List.mem_of_getElem? (i := 236) (by decide +kernel)) rfl
theorem wml_L_18 : Cond.methodLink RL 18 yX4_blank ∈ bpW := wd_in (List.mem_of_getElem? (i := 237) (by decide +kernel)) rfl
theorem wim_X4_blank : Cond.instanceMethod yX4_blank ∈ bpW := wd_in (List.mem_of_getElem? (i := 238) (by decide +kernel)) rfl
theorem wse_X4_blank : Cond.selects RX4 yX4_blank yX4_blank ∈ bpW := wd_in (List.mem_of_getElem? (i := 239) (by decide +kernel)) rfl
theorem wcd_X4_blank : Cond.code yX4_blank cX4_blank 2 (some .int) ∈ bpW := wd_in (List.mem_of_getElem? (i := 240) (by decide +kernel)) rfl
theorem wml_L_23 : Cond.methodLink RL 23 yX4_fault ∈ bpW := wd_in (List.mem_of_getElem? (i := 241) (by decide +kernel)) rfl
theorem wim_X4_fault : Cond.instanceMethod yX4_fault ∈ bpW := wd_in (List.mem_of_getElem? (i := 242) (by decide +kernel)) rfl
theorem wse_X4_fault : Cond.selects RX4 yX4_fault yX4_fault ∈ bpW := wd_in (List.mem_of_getElem? (i := 243) (by decide +kernel)) rfl
theorem wcd_X4_fault : Cond.code yX4_fault cX4_fault 1 (some .int) ∈ bpW := wd_in (List.mem_of_getElem? (i := 244) (by decide +kernel)) rfl
theorem wml_X4_59 : Cond.methodLink RX4 59 yX1_firstWrong ∈ bpW := wd_in (List.mem_of_getElem? (i := 245) (by decide +kernel)) rfl
theorem wim_X1_firstWrong : Cond.instanceMethod yX1_firstWrong ∈ bpW := wd_in (List.mem_of_getElem? (i := 246) (by decide +kernel)) rfl
theorem wse_X1_firstWrong : Cond.selects RX1 yX1_firstWrong yX1_firstWrong ∈ bpW := wd_in (List.mem_of_getElem? (i := 247) (by decide +kernel)) rfl
theorem wcd_X1_firstWrong : Cond.code yX1_firstWrong cX1_firstWrong 2 (some .int) ∈ bpW := wd_in (List.mem_of_getElem? (i := 248) (by decide +kernel)) rfl
theorem wml_X1_19 : Cond.methodLink RX1 19 yX1_fits ∈ bpW := wd_in (List.mem_of_getElem? (i := 249) (by decide +kernel)) rfl
theorem wim_X1_fits : Cond.instanceMethod yX1_fits ∈ bpW := wd_in (List.mem_of_getElem? (i := 251) (by decide +kernel)) rfl
theorem wcd_X1_fits : Cond.code yX1_fits cX1_fits 3 (some .boolean) ∈ bpW := wd_in (List.mem_of_getElem? (i := 252) (by decide +kernel)) rfl
theorem wml_X1_23 : Cond.methodLink RX1 23 yX1_codeAt ∈ bpW := wd_in (List.mem_of_getElem? (i := 253) (by decide +kernel)) rfl
theorem wim_X1_codeAt : Cond.instanceMethod yX1_codeAt ∈ bpW := wd_in (List.mem_of_getElem? (i := 254) (by decide +kernel)) rfl
theorem wse_X1_codeAt : Cond.selects RX1 yX1_codeAt yX1_codeAt ∈ bpW := wd_in (List.mem_of_getElem? (i := 255) (by decide +kernel)) rfl
theorem wcd_X1_codeAt : Cond.code yX1_codeAt cX1_codeAt 2 (some .int) ∈ bpW := wd_in (List.mem_of_getElem? (i := 256) (by decide +kernel)) rfl
theorem wml_L_27 : Cond.methodLink RL 27 yX4_board ∈ bpW := wd_in (List.mem_of_getElem? (i := 257) (by decide +kernel)) rfl
theorem wim_X4_board : Cond.instanceMethod yX4_board ∈ bpW := wd_in (List.mem_of_getElem? (i := 258) (by decide +kernel)) rfl
theorem wse_X4_board : Cond.selects RX4 yX4_board yX4_board ∈ bpW := wd_in (List.mem_of_getElem? (i := 259) (by decide +kernel)) rfl
theorem wcd_X4_board : Cond.code yX4_board cX4_board 2 (some .int) ∈ bpW := wd_in (List.mem_of_getElem? (i := 260) (by decide +kernel)) rfl
theorem wml_X4_63 : Cond.methodLink RX4 63 yX1_isBoard ∈ bpW := wd_in (List.mem_of_getElem? (i := 261) (by decide +kernel)) rfl
theorem wim_X1_isBoard : Cond.instanceMethod yX1_isBoard ∈ bpW := wd_in (List.mem_of_getElem? (i := 262) (by decide +kernel)) rfl
theorem wse_X1_isBoard : Cond.selects RX1 yX1_isBoard yX1_isBoard ∈ bpW := wd_in (List.mem_of_getElem? (i := 263) (by decide +kernel)) rfl
theorem wcd_X1_isBoard : Cond.code yX1_isBoard cX1_isBoard 1 (some .boolean) ∈ bpW := wd_in (List.mem_of_getElem? (i := 264) (by decide +kernel)) rfl
theorem wml_X1_27 : Cond.methodLink RX1 27 yX1_firstWrong ∈ bpW := wd_in (List.mem_of_getElem? (i := 265) (by decide +kernel)) rfl
theorem wml_X4_67 : Cond.methodLink RX4 67 yX1_portsWritten ∈ bpW := wd_in (List.mem_of_getElem? (i := 266) (by decide +kernel)) rfl
theorem wim_X1_portsWritten : Cond.instanceMethod yX1_portsWritten ∈ bpW := wd_in (List.mem_of_getElem? (i := 267) (by decide +kernel)) rfl
theorem wse_X1_portsWritten : Cond.selects RX1 yX1_portsWritten yX1_portsWritten ∈ bpW := wd_in (List.mem_of_getElem? (i := 268) (by decide +kernel)) rfl
theorem wcd_X1_portsWritten : Cond.code yX1_portsWritten cX1_portsWritten 1 (some .int) ∈ bpW := wd_in (List.mem_of_getElem? (i := 269) (by decide +kernel)) rfl
theorem wml_X4_70 : Cond.methodLink RX4 70 yX1_keyOfPort ∈ bpW := wd_in (List.mem_of_getElem? (i := 270) (by decide +kernel)) rfl
theorem wim_X1_keyOfPort : Cond.instanceMethod yX1_keyOfPort ∈ bpW := wd_in (List.mem_of_getElem? (i := 271) (by decide +kernel)) rfl
theorem wse_X1_keyOfPort : Cond.selects RX1 yX1_keyOfPort yX1_keyOfPort ∈ bpW := wd_in (List.mem_of_getElem? (i := 272) (by decide +kernel)) rfl
theorem wcd_X1_keyOfPort : Cond.code yX1_keyOfPort cX1_keyOfPort 2 (some .int) ∈ bpW := wd_in (List.mem_of_getElem? (i := 273) (by decide +kernel)) rfl
theorem wml_X4_74 : Cond.methodLink RX4 74 yX1_rankOfPort ∈ bpW := wd_in (List.mem_of_getElem? (i := 274) (by decide +kernel)) rfl
theorem wim_X1_rankOfPort : Cond.instanceMethod yX1_rankOfPort ∈ bpW := wd_in (List.mem_of_getElem? (i := 275) (by decide +kernel)) rfl
theorem wse_X1_rankOfPort : Cond.selects RX1 yX1_rankOfPort yX1_rankOfPort ∈ bpW := wd_in (List.mem_of_getElem? (i := 276) (by decide +kernel)) rfl
theorem wcd_X1_rankOfPort : Cond.code yX1_rankOfPort cX1_rankOfPort 2 (some .int) ∈ bpW := wd_in (List.mem_of_getElem? (i := 277) (by decide +kernel)) rfl
theorem wml_X4_77 : Cond.methodLink RX4 77 yX2_restart ∈ bpW := wd_in (List.mem_of_getElem? (i := 278) (by decide +kernel)) rfl
theorem wim_X2_restart : Cond.instanceMethod yX2_restart ∈ bpW := wd_in (List.mem_of_getElem? (i := 279) (by decide +kernel)) rfl
theorem wse_X2_restart : Cond.selects RX2 yX2_restart yX2_restart ∈ bpW := wd_in (List.mem_of_getElem? (i := 280) (by decide +kernel)) rfl
theorem wcd_X2_restart : Cond.code yX2_restart cX2_restart 3 none ∈ bpW := wd_in (List.mem_of_getElem? (i := 281) (by decide +kernel)) rfl
theorem wml_X4_81 : Cond.methodLink RX4 81 yX0_restart ∈ bpW := wd_in (List.mem_of_getElem? (i := 282) (by decide +kernel)) rfl
theorem wim_X0_restart : Cond.instanceMethod yX0_restart ∈ bpW := wd_in (List.mem_of_getElem? (i := 283) (by decide +kernel)) rfl
theorem wse_X0_restart : Cond.selects RX0 yX0_restart yX0_restart ∈ bpW := wd_in (List.mem_of_getElem? (i := 284) (by decide +kernel)) rfl
theorem wcd_X0_restart : Cond.code yX0_restart cX0_restart 1 none ∈ bpW := wd_in (List.mem_of_getElem? (i := 285) (by decide +kernel)) rfl
theorem wml_L_31 : Cond.methodLink RL 31 yX4_set ∈ bpW := wd_in (List.mem_of_getElem? (i := 286) (by decide +kernel)) rfl
theorem wim_X4_set : Cond.instanceMethod yX4_set ∈ bpW := wd_in (List.mem_of_getElem? (i := 287) (by decide +kernel)) rfl
theorem wse_X4_set : Cond.selects RX4 yX4_set yX4_set ∈ bpW := wd_in (List.mem_of_getElem? (i := 288) (by decide +kernel)) rfl
theorem wcd_X4_set : Cond.code yX4_set cX4_set 3 (some .int) ∈ bpW := wd_in (List.mem_of_getElem? (i := 289) (by decide +kernel)) rfl
theorem wml_X4_83 : Cond.methodLink RX4 83 yX4_changeWidth ∈ bpW := wd_in (List.mem_of_getElem? (i := 290) (by decide +kernel)) rfl
theorem wim_X4_changeWidth : Cond.instanceMethod yX4_changeWidth ∈ bpW := wd_in (List.mem_of_getElem? (i := 292) (by decide +kernel)) rfl
theorem wcd_X4_changeWidth : Cond.code yX4_changeWidth cX4_changeWidth 3 (some .int) ∈ bpW := wd_in (List.mem_of_getElem? (i := 293) (by decide +kernel)) rfl
theorem wml_X4_98 : Cond.methodLink RX4 98 yX4_chooseAll ∈ bpW := wd_in (List.mem_of_getElem? (i := 294) (by decide +kernel)) rfl
theorem wim_X4_chooseAll : Cond.instanceMethod yX4_chooseAll ∈ bpW := wd_in (List.mem_of_getElem? (i := 296) (by decide +kernel)) rfl
theorem wcd_X4_chooseAll : Cond.code yX4_chooseAll cX4_chooseAll 2 none ∈ bpW := wd_in (List.mem_of_getElem? (i := 297) (by decide +kernel)) rfl
theorem wml_X4_254 : Cond.methodLink RX4 254 yX4_chooseOfKey ∈ bpW := wd_in (List.mem_of_getElem? (i := 298) (by decide +kernel)) rfl
theorem wim_X4_chooseOfKey : Cond.instanceMethod yX4_chooseOfKey ∈ bpW := wd_in (List.mem_of_getElem? (i := 300) (by decide +kernel)) rfl
theorem wcd_X4_chooseOfKey : Cond.code yX4_chooseOfKey cX4_chooseOfKey 4 none ∈ bpW := wd_in (List.mem_of_getElem? (i := 301) (by decide +kernel)) rfl
theorem wml_X4_168 : Cond.methodLink RX4 168 yX4_leadOf ∈ bpW := wd_in (List.mem_of_getElem? (i := 302) (by decide +kernel)) rfl
theorem wim_X4_leadOf : Cond.instanceMethod yX4_leadOf ∈ bpW := wd_in (List.mem_of_getElem? (i := 304) (by decide +kernel)) rfl
theorem wcd_X4_leadOf : Cond.code yX4_leadOf cX4_leadOf 4 (some .int) ∈ bpW := wd_in (List.mem_of_getElem? (i := 305) (by decide +kernel)) rfl
theorem wml_X4_266 : Cond.methodLink RX4 266 yX4_isAhead ∈ bpW := wd_in (List.mem_of_getElem? (i := 306) (by decide +kernel)) rfl
theorem wim_X4_isAhead : Cond.instanceMethod yX4_isAhead ∈ bpW := wd_in (List.mem_of_getElem? (i := 308) (by decide +kernel)) rfl
theorem wcd_X4_isAhead : Cond.code yX4_isAhead cX4_isAhead 3 (some .boolean) ∈ bpW := wd_in (List.mem_of_getElem? (i := 309) (by decide +kernel)) rfl
theorem wml_X4_257 : Cond.methodLink RX4 257 yX4_choiceOf ∈ bpW := wd_in (List.mem_of_getElem? (i := 310) (by decide +kernel)) rfl
theorem wim_X4_choiceOf : Cond.instanceMethod yX4_choiceOf ∈ bpW := wd_in (List.mem_of_getElem? (i := 312) (by decide +kernel)) rfl
theorem wcd_X4_choiceOf : Cond.code yX4_choiceOf cX4_choiceOf 5 (some .int) ∈ bpW := wd_in (List.mem_of_getElem? (i := 313) (by decide +kernel)) rfl
theorem wml_X4_92 : Cond.methodLink RX4 92 yX4_isPort ∈ bpW := wd_in (List.mem_of_getElem? (i := 314) (by decide +kernel)) rfl
theorem wim_X4_isPort : Cond.instanceMethod yX4_isPort ∈ bpW := wd_in (List.mem_of_getElem? (i := 316) (by decide +kernel)) rfl
theorem wcd_X4_isPort : Cond.code yX4_isPort cX4_isPort 2 (some .boolean) ∈ bpW := wd_in (List.mem_of_getElem? (i := 317) (by decide +kernel)) rfl
theorem wml_X4_263 : Cond.methodLink RX4 263 yX2_isAlike ∈ bpW := wd_in (List.mem_of_getElem? (i := 318) (by decide +kernel)) rfl
theorem wim_X2_isAlike : Cond.instanceMethod yX2_isAlike ∈ bpW := wd_in (List.mem_of_getElem? (i := 319) (by decide +kernel)) rfl
theorem wse_X2_isAlike : Cond.selects RX2 yX2_isAlike yX2_isAlike ∈ bpW := wd_in (List.mem_of_getElem? (i := 320) (by decide +kernel)) rfl
theorem wcd_X2_isAlike : Cond.code yX2_isAlike cX2_isAlike 2 (some .boolean) ∈ bpW := wd_in (List.mem_of_getElem? (i := 321) (by decide +kernel)) rfl
theorem wml_X4_86 : Cond.methodLink RX4 86 yX4_changeWait ∈ bpW := wd_in (List.mem_of_getElem? (i := 322) (by decide +kernel)) rfl
theorem wim_X4_changeWait : Cond.instanceMethod yX4_changeWait ∈ bpW := wd_in (List.mem_of_getElem? (i := 324) (by decide +kernel)) rfl
theorem wcd_X4_changeWait : Cond.code yX4_changeWait cX4_changeWait 3 (some .int) ∈ bpW := wd_in (List.mem_of_getElem? (i := 325) (by decide +kernel)) rfl
theorem wml_X4_89 : Cond.methodLink RX4 89 yX4_changeShift ∈ bpW := wd_in (List.mem_of_getElem? (i := 326) (by decide +kernel)) rfl
theorem wim_X4_changeShift : Cond.instanceMethod yX4_changeShift ∈ bpW := wd_in (List.mem_of_getElem? (i := 328) (by decide +kernel)) rfl
theorem wcd_X4_changeShift : Cond.code yX4_changeShift cX4_changeShift 3 (some .int) ∈ bpW := wd_in (List.mem_of_getElem? (i := 329) (by decide +kernel)) rfl
theorem wml_L_36 : Cond.methodLink RL 36 yX4_rank ∈ bpW := wd_in (List.mem_of_getElem? (i := 330) (by decide +kernel)) rfl
theorem wim_X4_rank : Cond.instanceMethod yX4_rank ∈ bpW := wd_in (List.mem_of_getElem? (i := 331) (by decide +kernel)) rfl
theorem wse_X4_rank : Cond.selects RX4 yX4_rank yX4_rank ∈ bpW := wd_in (List.mem_of_getElem? (i := 332) (by decide +kernel)) rfl
theorem wcd_X4_rank : Cond.code yX4_rank cX4_rank 4 (some .int) ∈ bpW := wd_in (List.mem_of_getElem? (i := 333) (by decide +kernel)) rfl
theorem wml_L_40 : Cond.methodLink RL 40 yX4_up ∈ bpW := wd_in (List.mem_of_getElem? (i := 334) (by decide +kernel)) rfl
theorem wim_X4_up : Cond.instanceMethod yX4_up ∈ bpW := wd_in (List.mem_of_getElem? (i := 335) (by decide +kernel)) rfl
theorem wse_X4_up : Cond.selects RX4 yX4_up yX4_up ∈ bpW := wd_in (List.mem_of_getElem? (i := 336) (by decide +kernel)) rfl
theorem wcd_X4_up : Cond.code yX4_up cX4_up 4 (some .int) ∈ bpW := wd_in (List.mem_of_getElem? (i := 337) (by decide +kernel)) rfl
theorem wml_X4_105 : Cond.methodLink RX4 105 yX4_asNumber ∈ bpW := wd_in (List.mem_of_getElem? (i := 338) (by decide +kernel)) rfl
theorem wst_X4_asNumber : Cond.static yX4_asNumber ∈ bpW := wd_in (List.mem_of_getElem? (i := 339) (by decide +kernel)) rfl
theorem wcd_X4_asNumber : Cond.code yX4_asNumber cX4_asNumber 1 (some .int) ∈ bpW := wd_in (List.mem_of_getElem? (i := 340) (by decide +kernel)) rfl
theorem wml_X4_116 : Cond.methodLink RX4 116 yX4_dropQueue ∈ bpW := wd_in (List.mem_of_getElem? (i := 341) (by decide +kernel)) rfl
theorem wim_X4_dropQueue : Cond.instanceMethod yX4_dropQueue ∈ bpW := wd_in (List.mem_of_getElem? (i := 343) (by decide +kernel)) rfl
theorem wcd_X4_dropQueue : Cond.code yX4_dropQueue cX4_dropQueue 4 none ∈ bpW := wd_in (List.mem_of_getElem? (i := 344) (by decide +kernel)) rfl
theorem wml_X4_159 : Cond.methodLink RX4 159 yX3_isMarker ∈ bpW := wd_in (List.mem_of_getElem? (i := 345) (by decide +kernel)) rfl
theorem wim_X3_isMarker : Cond.instanceMethod yX3_isMarker ∈ bpW := wd_in (List.mem_of_getElem? (i := 346) (by decide +kernel)) rfl
theorem wse_X3_isMarker : Cond.selects RX3 yX3_isMarker yX3_isMarker ∈ bpW := wd_in (List.mem_of_getElem? (i := 347) (by decide +kernel)) rfl
theorem wcd_X3_isMarker : Cond.code yX3_isMarker cX3_isMarker 2 (some .boolean) ∈ bpW := wd_in (List.mem_of_getElem? (i := 348) (by decide +kernel)) rfl
theorem wml_X3_30 : Cond.methodLink RX3 30 yX3_has ∈ bpW := wd_in (List.mem_of_getElem? (i := 349) (by decide +kernel)) rfl
theorem wim_X3_has : Cond.instanceMethod yX3_has ∈ bpW := wd_in (List.mem_of_getElem? (i := 350) (by decide +kernel)) rfl
theorem wse_X3_has : Cond.selects RX3 yX3_has yX3_has ∈ bpW := wd_in (List.mem_of_getElem? (i := 351) (by decide +kernel)) rfl
theorem wcd_X3_has : Cond.code yX3_has cX3_has 2 (some .boolean) ∈ bpW := wd_in (List.mem_of_getElem? (i := 352) (by decide +kernel)) rfl
theorem wml_X4_162 : Cond.methodLink RX4 162 yX3_flowAt ∈ bpW := wd_in (List.mem_of_getElem? (i := 353) (by decide +kernel)) rfl
theorem wim_X3_flowAt : Cond.instanceMethod yX3_flowAt ∈ bpW := wd_in (List.mem_of_getElem? (i := 354) (by decide +kernel)) rfl
theorem wse_X3_flowAt : Cond.selects RX3 yX3_flowAt yX3_flowAt ∈ bpW := wd_in (List.mem_of_getElem? (i := 355) (by decide +kernel)) rfl
theorem wcd_X3_flowAt : Cond.code yX3_flowAt cX3_flowAt 2 (some .int) ∈ bpW := wd_in (List.mem_of_getElem? (i := 356) (by decide +kernel)) rfl
theorem wml_X4_287 : Cond.methodLink RX4 287 yX4_answerMarker ∈ bpW := wd_in (List.mem_of_getElem? (i := 357) (by decide +kernel)) rfl
theorem wim_X4_answerMarker : Cond.instanceMethod yX4_answerMarker ∈ bpW := wd_in (List.mem_of_getElem? (i := 359) (by decide +kernel)) rfl
theorem wcd_X4_answerMarker : Cond.code yX4_answerMarker cX4_answerMarker 4 none ∈ bpW := wd_in (List.mem_of_getElem? (i := 360) (by decide +kernel)) rfl
theorem wml_X4_178 : Cond.methodLink RX4 178 yX4_wayOf ∈ bpW := wd_in (List.mem_of_getElem? (i := 361) (by decide +kernel)) rfl
theorem wim_X4_wayOf : Cond.instanceMethod yX4_wayOf ∈ bpW := wd_in (List.mem_of_getElem? (i := 363) (by decide +kernel)) rfl
theorem wcd_X4_wayOf : Cond.code yX4_wayOf cX4_wayOf 6 (some .int) ∈ bpW := wd_in (List.mem_of_getElem? (i := 364) (by decide +kernel)) rfl
theorem wml_X4_171 : Cond.methodLink RX4 171 yX4_bitsOf ∈ bpW := wd_in (List.mem_of_getElem? (i := 365) (by decide +kernel)) rfl
theorem wim_X4_bitsOf : Cond.instanceMethod yX4_bitsOf ∈ bpW := wd_in (List.mem_of_getElem? (i := 367) (by decide +kernel)) rfl
theorem wcd_X4_bitsOf : Cond.code yX4_bitsOf cX4_bitsOf 7 (some .int) ∈ bpW := wd_in (List.mem_of_getElem? (i := 368) (by decide +kernel)) rfl
theorem wml_X4_146 : Cond.methodLink RX4 146 yX4_howItIs ∈ bpW := wd_in (List.mem_of_getElem? (i := 369) (by decide +kernel)) rfl
theorem wim_X4_howItIs : Cond.instanceMethod yX4_howItIs ∈ bpW := wd_in (List.mem_of_getElem? (i := 371) (by decide +kernel)) rfl
theorem wcd_X4_howItIs : Cond.code yX4_howItIs cX4_howItIs 2 (some .int) ∈ bpW := wd_in (List.mem_of_getElem? (i := 372) (by decide +kernel)) rfl
theorem wml_X4_270 : Cond.methodLink RX4 270 yJ6_bitCount_0f7a4 ∈ bpW := wd_in (List.mem_of_getElem? (i := 373) (by decide +kernel)) rfl
theorem wst_J6_bitCount_0f7a4 : Cond.static yJ6_bitCount_0f7a4 ∈ bpW := wd_in (List.mem_of_getElem? (i := 374) (by decide +kernel)) rfl
theorem wcd_J6_bitCount_0f7a4 : Cond.code yJ6_bitCount_0f7a4 cJ6_bitCount_0f7a4 1 (some .int) ∈ bpW := wd_in (List.mem_of_getElem? (i := 375) (by decide +kernel)) rfl
theorem wco_265 : Cond.constant RJ6 265 (1431655765 : Int32) ∈ bpW := wd_in (List.mem_of_getElem? (i := 376) (by decide +kernel)) rfl
theorem wco_266 : Cond.constant RJ6 266 (858993459 : Int32) ∈ bpW := wd_in (List.mem_of_getElem? (i := 377) (by decide +kernel)) rfl
theorem wco_267 : Cond.constant RJ6 267 (252645135 : Int32) ∈ bpW := wd_in (List.mem_of_getElem? (i := 378) (by decide +kernel)) rfl
theorem wml_X4_203 : Cond.methodLink RX4 203 yX4_putLetter ∈ bpW := wd_in (List.mem_of_getElem? (i := 379) (by decide +kernel)) rfl
theorem wim_X4_putLetter : Cond.instanceMethod yX4_putLetter ∈ bpW := wd_in (List.mem_of_getElem? (i := 381) (by decide +kernel)) rfl
theorem wcd_X4_putLetter : Cond.code yX4_putLetter cX4_putLetter 4 (some .boolean) ∈ bpW := wd_in (List.mem_of_getElem? (i := 382) (by decide +kernel)) rfl
theorem wml_X4_281 : Cond.methodLink RX4 281 yX3_append ∈ bpW := wd_in (List.mem_of_getElem? (i := 383) (by decide +kernel)) rfl
theorem wim_X3_append : Cond.instanceMethod yX3_append ∈ bpW := wd_in (List.mem_of_getElem? (i := 384) (by decide +kernel)) rfl
theorem wse_X3_append : Cond.selects RX3 yX3_append yX3_append ∈ bpW := wd_in (List.mem_of_getElem? (i := 385) (by decide +kernel)) rfl
theorem wcd_X3_append : Cond.code yX3_append cX3_append 3 none ∈ bpW := wd_in (List.mem_of_getElem? (i := 386) (by decide +kernel)) rfl
theorem wnb_X3_22 : Cond.methodLinkNest RX3 22 yX4_isFlow RX4 ∈ bpW := wd_in (List.mem_of_getElem? (i := 387) (by decide +kernel)) rfl
theorem wmn_X3_22 : Cond.methodLinkNest RX3 22 yX4_isFlow RX4 ∈ lw_tbl := List.mem_of_getElem? (i := 387) (by decide +kernel)
theorem wst_X4_isFlow : Cond.static yX4_isFlow ∈ bpW := wd_in (List.mem_of_getElem? (i := 388) (by decide +kernel)) rfl
theorem wcd_X4_isFlow : Cond.code yX4_isFlow cX4_isFlow 1 (some .boolean) ∈ bpW := wd_in (List.mem_of_getElem? (i := 389) (by decide +kernel)) rfl
theorem wml_L_45 : Cond.methodLink RL 45 yX4_hear ∈ bpW := wd_in (List.mem_of_getElem? (i := 390) (by decide +kernel)) rfl
theorem wim_X4_hear : Cond.instanceMethod yX4_hear ∈ bpW := wd_in (List.mem_of_getElem? (i := 391) (by decide +kernel)) rfl
theorem wse_X4_hear : Cond.selects RX4 yX4_hear yX4_hear ∈ bpW := wd_in (List.mem_of_getElem? (i := 392) (by decide +kernel)) rfl
theorem wcd_X4_hear : Cond.code yX4_hear cX4_hear 5 (some .int) ∈ bpW := wd_in (List.mem_of_getElem? (i := 393) (by decide +kernel)) rfl
theorem wml_X4_120 : Cond.methodLink RX4 120 yX4_isKey ∈ bpW := wd_in (List.mem_of_getElem? (i := 394) (by decide +kernel)) rfl
theorem wst_X4_isKey : Cond.static yX4_isKey ∈ bpW := wd_in (List.mem_of_getElem? (i := 395) (by decide +kernel)) rfl
theorem wcd_X4_isKey : Cond.code yX4_isKey cX4_isKey 1 (some .boolean) ∈ bpW := wd_in (List.mem_of_getElem? (i := 396) (by decide +kernel)) rfl
theorem wml_X4_123 : Cond.methodLink RX4 123 yX2_keepHeard ∈ bpW := wd_in (List.mem_of_getElem? (i := 397) (by decide +kernel)) rfl
theorem wim_X2_keepHeard : Cond.instanceMethod yX2_keepHeard ∈ bpW := wd_in (List.mem_of_getElem? (i := 398) (by decide +kernel)) rfl
theorem wse_X2_keepHeard : Cond.selects RX2 yX2_keepHeard yX2_keepHeard ∈ bpW := wd_in (List.mem_of_getElem? (i := 399) (by decide +kernel)) rfl
theorem wcd_X2_keepHeard : Cond.code yX2_keepHeard cX2_keepHeard 4 none ∈ bpW := wd_in (List.mem_of_getElem? (i := 400) (by decide +kernel)) rfl
theorem wml_X4_127 : Cond.methodLink RX4 127 yX4_carries ∈ bpW := wd_in (List.mem_of_getElem? (i := 401) (by decide +kernel)) rfl
theorem wim_X4_carries : Cond.instanceMethod yX4_carries ∈ bpW := wd_in (List.mem_of_getElem? (i := 403) (by decide +kernel)) rfl
theorem wcd_X4_carries : Cond.code yX4_carries cX4_carries 2 (some .boolean) ∈ bpW := wd_in (List.mem_of_getElem? (i := 404) (by decide +kernel)) rfl
theorem wml_L_50 : Cond.methodLink RL 50 yX4_of ∈ bpW := wd_in (List.mem_of_getElem? (i := 405) (by decide +kernel)) rfl
theorem wim_X4_of : Cond.instanceMethod yX4_of ∈ bpW := wd_in (List.mem_of_getElem? (i := 406) (by decide +kernel)) rfl
theorem wse_X4_of : Cond.selects RX4 yX4_of yX4_of ∈ bpW := wd_in (List.mem_of_getElem? (i := 407) (by decide +kernel)) rfl
theorem wcd_X4_of : Cond.code yX4_of cX4_of 4 (some .int) ∈ bpW := wd_in (List.mem_of_getElem? (i := 408) (by decide +kernel)) rfl
theorem wml_L_54 : Cond.methodLink RL 54 yX4_queue ∈ bpW := wd_in (List.mem_of_getElem? (i := 409) (by decide +kernel)) rfl
theorem wim_X4_queue : Cond.instanceMethod yX4_queue ∈ bpW := wd_in (List.mem_of_getElem? (i := 410) (by decide +kernel)) rfl
theorem wse_X4_queue : Cond.selects RX4 yX4_queue yX4_queue ∈ bpW := wd_in (List.mem_of_getElem? (i := 411) (by decide +kernel)) rfl
theorem wcd_X4_queue : Cond.code yX4_queue cX4_queue 4 (some .int) ∈ bpW := wd_in (List.mem_of_getElem? (i := 412) (by decide +kernel)) rfl
theorem wml_X4_156 : Cond.methodLink RX4 156 yX3_has ∈ bpW := wd_in (List.mem_of_getElem? (i := 413) (by decide +kernel)) rfl
theorem wml_X4_165 : Cond.methodLink RX4 165 yX3_numberAt ∈ bpW := wd_in (List.mem_of_getElem? (i := 414) (by decide +kernel)) rfl
theorem wim_X3_numberAt : Cond.instanceMethod yX3_numberAt ∈ bpW := wd_in (List.mem_of_getElem? (i := 415) (by decide +kernel)) rfl
theorem wse_X3_numberAt : Cond.selects RX3 yX3_numberAt yX3_numberAt ∈ bpW := wd_in (List.mem_of_getElem? (i := 416) (by decide +kernel)) rfl
theorem wcd_X3_numberAt : Cond.code yX3_numberAt cX3_numberAt 2 (some .int) ∈ bpW := wd_in (List.mem_of_getElem? (i := 417) (by decide +kernel)) rfl
theorem wml_L_58 : Cond.methodLink RL 58 yX4_key ∈ bpW := wd_in (List.mem_of_getElem? (i := 418) (by decide +kernel)) rfl
theorem wim_X4_key : Cond.instanceMethod yX4_key ∈ bpW := wd_in (List.mem_of_getElem? (i := 419) (by decide +kernel)) rfl
theorem wse_X4_key : Cond.selects RX4 yX4_key yX4_key ∈ bpW := wd_in (List.mem_of_getElem? (i := 420) (by decide +kernel)) rfl
theorem wcd_X4_key : Cond.code yX4_key cX4_key 3 (some .int) ∈ bpW := wd_in (List.mem_of_getElem? (i := 421) (by decide +kernel)) rfl
theorem wml_L_62 : Cond.methodLink RL 62 yX4_way ∈ bpW := wd_in (List.mem_of_getElem? (i := 422) (by decide +kernel)) rfl
theorem wim_X4_way : Cond.instanceMethod yX4_way ∈ bpW := wd_in (List.mem_of_getElem? (i := 423) (by decide +kernel)) rfl
theorem wse_X4_way : Cond.selects RX4 yX4_way yX4_way ∈ bpW := wd_in (List.mem_of_getElem? (i := 424) (by decide +kernel)) rfl
theorem wcd_X4_way : Cond.code yX4_way cX4_way 2 (some .int) ∈ bpW := wd_in (List.mem_of_getElem? (i := 425) (by decide +kernel)) rfl
theorem wml_X4_175 : Cond.methodLink RX4 175 yX4_isFlow ∈ bpW := wd_in (List.mem_of_getElem? (i := 426) (by decide +kernel)) rfl
theorem wml_L_66 : Cond.methodLink RL 66 yX4_send ∈ bpW := wd_in (List.mem_of_getElem? (i := 427) (by decide +kernel)) rfl
theorem wim_X4_send : Cond.instanceMethod yX4_send ∈ bpW := wd_in (List.mem_of_getElem? (i := 428) (by decide +kernel)) rfl
theorem wse_X4_send : Cond.selects RX4 yX4_send yX4_send ∈ bpW := wd_in (List.mem_of_getElem? (i := 429) (by decide +kernel)) rfl
theorem wcd_X4_send : Cond.code yX4_send cX4_send 4 (some .int) ∈ bpW := wd_in (List.mem_of_getElem? (i := 430) (by decide +kernel)) rfl
theorem wml_X4_187 : Cond.methodLink RX4 187 yX0_hold ∈ bpW := wd_in (List.mem_of_getElem? (i := 431) (by decide +kernel)) rfl
theorem wim_X0_hold : Cond.instanceMethod yX0_hold ∈ bpW := wd_in (List.mem_of_getElem? (i := 432) (by decide +kernel)) rfl
theorem wse_X0_hold : Cond.selects RX0 yX0_hold yX0_hold ∈ bpW := wd_in (List.mem_of_getElem? (i := 433) (by decide +kernel)) rfl
theorem wcd_X0_hold : Cond.code yX0_hold cX0_hold 2 (some .boolean) ∈ bpW := wd_in (List.mem_of_getElem? (i := 434) (by decide +kernel)) rfl
theorem wml_X4_196 : Cond.methodLink RX4 196 yX4_hasLettersBehind ∈ bpW := wd_in (List.mem_of_getElem? (i := 435) (by decide +kernel)) rfl
theorem wim_X4_hasLettersBehind : Cond.instanceMethod yX4_hasLettersBehind ∈ bpW := wd_in (List.mem_of_getElem? (i := 437) (by decide +kernel)) rfl
theorem wcd_X4_hasLettersBehind : Cond.code yX4_hasLettersBehind cX4_hasLettersBehind 3 (some .boolean) ∈ bpW := wd_in (List.mem_of_getElem? (i := 438) (by decide +kernel)) rfl
theorem wml_X4_275 : Cond.methodLink RX4 275 yX3_hasLetterOf ∈ bpW := wd_in (List.mem_of_getElem? (i := 439) (by decide +kernel)) rfl
theorem wim_X3_hasLetterOf : Cond.instanceMethod yX3_hasLetterOf ∈ bpW := wd_in (List.mem_of_getElem? (i := 440) (by decide +kernel)) rfl
theorem wse_X3_hasLetterOf : Cond.selects RX3 yX3_hasLetterOf yX3_hasLetterOf ∈ bpW := wd_in (List.mem_of_getElem? (i := 441) (by decide +kernel)) rfl
theorem wcd_X3_hasLetterOf : Cond.code yX3_hasLetterOf cX3_hasLetterOf 3 (some .boolean) ∈ bpW := wd_in (List.mem_of_getElem? (i := 442) (by decide +kernel)) rfl
theorem wml_X4_199 : Cond.methodLink RX4 199 yX4_startMoving ∈ bpW := wd_in (List.mem_of_getElem? (i := 443) (by decide +kernel)) rfl
theorem wim_X4_startMoving : Cond.instanceMethod yX4_startMoving ∈ bpW := wd_in (List.mem_of_getElem? (i := 445) (by decide +kernel)) rfl
theorem wcd_X4_startMoving : Cond.code yX4_startMoving cX4_startMoving 3 none ∈ bpW := wd_in (List.mem_of_getElem? (i := 446) (by decide +kernel)) rfl
theorem wml_X4_278 : Cond.methodLink RX4 278 yX3_appendMarker ∈ bpW := wd_in (List.mem_of_getElem? (i := 447) (by decide +kernel)) rfl
theorem wim_X3_appendMarker : Cond.instanceMethod yX3_appendMarker ∈ bpW := wd_in (List.mem_of_getElem? (i := 448) (by decide +kernel)) rfl
theorem wse_X3_appendMarker : Cond.selects RX3 yX3_appendMarker yX3_appendMarker ∈ bpW := wd_in (List.mem_of_getElem? (i := 449) (by decide +kernel)) rfl
theorem wcd_X3_appendMarker : Cond.code yX3_appendMarker cX3_appendMarker 2 none ∈ bpW := wd_in (List.mem_of_getElem? (i := 450) (by decide +kernel)) rfl
theorem wml_X3_26 : Cond.methodLink RX3 26 yX3_append ∈ bpW := wd_in (List.mem_of_getElem? (i := 451) (by decide +kernel)) rfl
theorem wml_L_70 : Cond.methodLink RL 70 yX4_flow ∈ bpW := wd_in (List.mem_of_getElem? (i := 452) (by decide +kernel)) rfl
theorem wim_X4_flow : Cond.instanceMethod yX4_flow ∈ bpW := wd_in (List.mem_of_getElem? (i := 453) (by decide +kernel)) rfl
theorem wse_X4_flow : Cond.selects RX4 yX4_flow yX4_flow ∈ bpW := wd_in (List.mem_of_getElem? (i := 454) (by decide +kernel)) rfl
theorem wcd_X4_flow : Cond.code yX4_flow cX4_flow 4 (some .int) ∈ bpW := wd_in (List.mem_of_getElem? (i := 455) (by decide +kernel)) rfl
theorem wml_L_74 : Cond.methodLink RL 74 yX4_tick ∈ bpW := wd_in (List.mem_of_getElem? (i := 456) (by decide +kernel)) rfl
theorem wim_X4_tick : Cond.instanceMethod yX4_tick ∈ bpW := wd_in (List.mem_of_getElem? (i := 457) (by decide +kernel)) rfl
theorem wse_X4_tick : Cond.selects RX4 yX4_tick yX4_tick ∈ bpW := wd_in (List.mem_of_getElem? (i := 458) (by decide +kernel)) rfl
theorem wcd_X4_tick : Cond.code yX4_tick cX4_tick 4 (some .int) ∈ bpW := wd_in (List.mem_of_getElem? (i := 459) (by decide +kernel)) rfl
theorem wml_X4_216 : Cond.methodLink RX4 216 yX4_sumOverFlows ∈ bpW := wd_in (List.mem_of_getElem? (i := 460) (by decide +kernel)) rfl
theorem wim_X4_sumOverFlows : Cond.instanceMethod yX4_sumOverFlows ∈ bpW := wd_in (List.mem_of_getElem? (i := 462) (by decide +kernel)) rfl
theorem wcd_X4_sumOverFlows : Cond.code yX4_sumOverFlows cX4_sumOverFlows 4 (some .int) ∈ bpW := wd_in (List.mem_of_getElem? (i := 463) (by decide +kernel)) rfl
theorem wml_X4_238 : Cond.methodLink RX4 238 yX4_flow ∈ bpW := wd_in (List.mem_of_getElem? (i := 464) (by decide +kernel)) rfl
theorem wml_X4_219 : Cond.methodLink RX4 219 yX4_passTick ∈ bpW := wd_in (List.mem_of_getElem? (i := 465) (by decide +kernel)) rfl
theorem wim_X4_passTick : Cond.instanceMethod yX4_passTick ∈ bpW := wd_in (List.mem_of_getElem? (i := 467) (by decide +kernel)) rfl
theorem wcd_X4_passTick : Cond.code yX4_passTick cX4_passTick 2 none ∈ bpW := wd_in (List.mem_of_getElem? (i := 468) (by decide +kernel)) rfl
theorem wml_X4_290 : Cond.methodLink RX4 290 yX2_growOlder ∈ bpW := wd_in (List.mem_of_getElem? (i := 469) (by decide +kernel)) rfl
theorem wim_X2_growOlder : Cond.instanceMethod yX2_growOlder ∈ bpW := wd_in (List.mem_of_getElem? (i := 470) (by decide +kernel)) rfl
theorem wse_X2_growOlder : Cond.selects RX2 yX2_growOlder yX2_growOlder ∈ bpW := wd_in (List.mem_of_getElem? (i := 471) (by decide +kernel)) rfl
theorem wcd_X2_growOlder : Cond.code yX2_growOlder cX2_growOlder 1 none ∈ bpW := wd_in (List.mem_of_getElem? (i := 472) (by decide +kernel)) rfl
theorem wml_X4_293 : Cond.methodLink RX4 293 yX4_letFirstOut ∈ bpW := wd_in (List.mem_of_getElem? (i := 473) (by decide +kernel)) rfl
theorem wim_X4_letFirstOut : Cond.instanceMethod yX4_letFirstOut ∈ bpW := wd_in (List.mem_of_getElem? (i := 475) (by decide +kernel)) rfl
theorem wcd_X4_letFirstOut : Cond.code yX4_letFirstOut cX4_letFirstOut 5 none ∈ bpW := wd_in (List.mem_of_getElem? (i := 476) (by decide +kernel)) rfl
theorem wml_X4_296 : Cond.methodLink RX4 296 yX3_removeFirst ∈ bpW := wd_in (List.mem_of_getElem? (i := 477) (by decide +kernel)) rfl
theorem wim_X3_removeFirst : Cond.instanceMethod yX3_removeFirst ∈ bpW := wd_in (List.mem_of_getElem? (i := 478) (by decide +kernel)) rfl
theorem wse_X3_removeFirst : Cond.selects RX3 yX3_removeFirst yX3_removeFirst ∈ bpW := wd_in (List.mem_of_getElem? (i := 479) (by decide +kernel)) rfl
theorem wcd_X3_removeFirst : Cond.code yX3_removeFirst cX3_removeFirst 2 none ∈ bpW := wd_in (List.mem_of_getElem? (i := 480) (by decide +kernel)) rfl
theorem wml_L_78 : Cond.methodLink RL 78 yX4_count ∈ bpW := wd_in (List.mem_of_getElem? (i := 481) (by decide +kernel)) rfl
theorem wim_X4_count : Cond.instanceMethod yX4_count ∈ bpW := wd_in (List.mem_of_getElem? (i := 482) (by decide +kernel)) rfl
theorem wse_X4_count : Cond.selects RX4 yX4_count yX4_count ∈ bpW := wd_in (List.mem_of_getElem? (i := 483) (by decide +kernel)) rfl
theorem wcd_X4_count : Cond.code yX4_count cX4_count 2 (some .int) ∈ bpW := wd_in (List.mem_of_getElem? (i := 484) (by decide +kernel)) rfl
theorem wml_L_82 : Cond.methodLink RL 82 yX4_digest ∈ bpW := wd_in (List.mem_of_getElem? (i := 485) (by decide +kernel)) rfl
theorem wim_X4_digest : Cond.instanceMethod yX4_digest ∈ bpW := wd_in (List.mem_of_getElem? (i := 486) (by decide +kernel)) rfl
theorem wse_X4_digest : Cond.selects RX4 yX4_digest yX4_digest ∈ bpW := wd_in (List.mem_of_getElem? (i := 487) (by decide +kernel)) rfl
theorem wcd_X4_digest : Cond.code yX4_digest cX4_digest 5 (some .long) ∈ bpW := wd_in (List.mem_of_getElem? (i := 488) (by decide +kernel)) rfl
theorem wcL_X4_222 : Cond.constantLong RX4 222 (1741 : Int64) ∈ bpW := wd_in (List.mem_of_getElem? (i := 489) (by decide +kernel)) rfl
theorem wml_X4_224 : Cond.methodLink RX4 224 yX4_digestPort ∈ bpW := wd_in (List.mem_of_getElem? (i := 490) (by decide +kernel)) rfl
theorem wim_X4_digestPort : Cond.instanceMethod yX4_digestPort ∈ bpW := wd_in (List.mem_of_getElem? (i := 492) (by decide +kernel)) rfl
theorem wcd_X4_digestPort : Cond.code yX4_digestPort cX4_digestPort 8 (some .long) ∈ bpW := wd_in (List.mem_of_getElem? (i := 493) (by decide +kernel)) rfl
theorem wml_X4_247 : Cond.methodLink RX4 247 yX4_of ∈ bpW := wd_in (List.mem_of_getElem? (i := 494) (by decide +kernel)) rfl
theorem wml_X4_231 : Cond.methodLink RX4 231 yX4_mix ∈ bpW := wd_in (List.mem_of_getElem? (i := 495) (by decide +kernel)) rfl
theorem wst_X4_mix : Cond.static yX4_mix ∈ bpW := wd_in (List.mem_of_getElem? (i := 496) (by decide +kernel)) rfl
theorem wcd_X4_mix : Cond.code yX4_mix cX4_mix 4 (some .long) ∈ bpW := wd_in (List.mem_of_getElem? (i := 497) (by decide +kernel)) rfl
theorem wcL_X4_252 : Cond.constantLong RX4 252 (31 : Int64) ∈ bpW := wd_in (List.mem_of_getElem? (i := 498) (by decide +kernel)) rfl
theorem wml_X4_250 : Cond.methodLink RX4 250 yX4_queue ∈ bpW := wd_in (List.mem_of_getElem? (i := 499) (by decide +kernel)) rfl
theorem wml_X4_228 : Cond.methodLink RX4 228 yX4_key ∈ bpW := wd_in (List.mem_of_getElem? (i := 500) (by decide +kernel)) rfl
theorem wml_X4_235 : Cond.methodLink RX4 235 yX4_way ∈ bpW := wd_in (List.mem_of_getElem? (i := 501) (by decide +kernel)) rfl
theorem wml_X4_241 : Cond.methodLink RX4 241 yX1_codeAt ∈ bpW := wd_in (List.mem_of_getElem? (i := 502) (by decide +kernel)) rfl
theorem wml_X4_244 : Cond.methodLink RX4 244 yX4_count ∈ bpW := wd_in (List.mem_of_getElem? (i := 503) (by decide +kernel)) rfl
theorem wcl_L_10 : Cond.classLink RL 10 RX5 ∈ bpW := wd_in (List.mem_of_getElem? (i := 504) (by decide +kernel)) rfl
theorem wis_X5 : Cond.instantiable RX5 30 ∈ bpW := wd_in (List.mem_of_getElem? (i := 505) (by decide +kernel)) rfl
theorem wml_L_12 : Cond.methodLink RL 12 yX5_init ∈ bpW := wd_in (List.mem_of_getElem? (i := 506) (by decide +kernel)) rfl
theorem wim_X5_init : Cond.instanceMethod yX5_init ∈ bpW := wd_in (List.mem_of_getElem? (i := 507) (by decide +kernel)) rfl
theorem wcd_X5_init : Cond.code yX5_init cX5_init 1 none ∈ bpW := wd_in (List.mem_of_getElem? (i := 508) (by decide +kernel)) rfl
theorem wml_X5_1 : Cond.methodLink RX5 1 objectInit ∈ bpW := wd_in (List.mem_of_getElem? (i := 509) (by decide +kernel)) rfl
theorem wml_X5_81 : Cond.methodLink RX5 81 yX5_clearFlows ∈ bpW := wd_in (List.mem_of_getElem? (i := 510) (by decide +kernel)) rfl
theorem wim_X5_clearFlows : Cond.instanceMethod yX5_clearFlows ∈ bpW := wd_in (List.mem_of_getElem? (i := 512) (by decide +kernel)) rfl
theorem wcd_X5_clearFlows : Cond.code yX5_clearFlows cX5_clearFlows 2 none ∈ bpW := wd_in (List.mem_of_getElem? (i := 513) (by decide +kernel)) rfl
theorem wfl_X5_88 : Cond.fieldLink RX5 88 "BoundPortsModel" "pageLength" "I" ∈ bpW := wd_in (List.mem_of_getElem? (i := 514) (by decide +kernel)) rfl
theorem wfl_X5_7 : Cond.fieldLink RX5 7 "BoundPortsModel" "page" "[I" ∈ bpW := wd_in (List.mem_of_getElem? (i := 515) (by decide +kernel)) rfl
theorem wfl_X5_105 : Cond.fieldLink RX5 105 "BoundPortsModel" "ports" "I" ∈ bpW := wd_in (List.mem_of_getElem? (i := 516) (by decide +kernel)) rfl
theorem wfl_X5_13 : Cond.fieldLink RX5 13 "BoundPortsModel" "keyOf" "[I" ∈ bpW := wd_in (List.mem_of_getElem? (i := 517) (by decide +kernel)) rfl
theorem wfl_X5_16 : Cond.fieldLink RX5 16 "BoundPortsModel" "rankOf" "[I" ∈ bpW := wd_in (List.mem_of_getElem? (i := 518) (by decide +kernel)) rfl
theorem wfl_X5_19 : Cond.fieldLink RX5 19 "BoundPortsModel" "isUp" "[Z" ∈ bpW := wd_in (List.mem_of_getElem? (i := 519) (by decide +kernel)) rfl
theorem wfl_X5_23 : Cond.fieldLink RX5 23 "BoundPortsModel" "partnerOf" "[I" ∈ bpW := wd_in (List.mem_of_getElem? (i := 520) (by decide +kernel)) rfl
theorem wfl_X5_26 : Cond.fieldLink RX5 26 "BoundPortsModel" "partnerKey" "[I" ∈ bpW := wd_in (List.mem_of_getElem? (i := 521) (by decide +kernel)) rfl
theorem wfl_X5_29 : Cond.fieldLink RX5 29 "BoundPortsModel" "isReady" "[Z" ∈ bpW := wd_in (List.mem_of_getElem? (i := 522) (by decide +kernel)) rfl
theorem wfl_X5_32 : Cond.fieldLink RX5 32 "BoundPortsModel" "age" "[I" ∈ bpW := wd_in (List.mem_of_getElem? (i := 523) (by decide +kernel)) rfl
theorem wfl_X5_35 : Cond.fieldLink RX5 35 "BoundPortsModel" "waited" "[I" ∈ bpW := wd_in (List.mem_of_getElem? (i := 524) (by decide +kernel)) rfl
theorem wfl_X5_38 : Cond.fieldLink RX5 38 "BoundPortsModel" "width" "I" ∈ bpW := wd_in (List.mem_of_getElem? (i := 525) (by decide +kernel)) rfl
theorem wfl_X5_42 : Cond.fieldLink RX5 42 "BoundPortsModel" "wait" "I" ∈ bpW := wd_in (List.mem_of_getElem? (i := 526) (by decide +kernel)) rfl
theorem wfl_X5_132 : Cond.fieldLink RX5 132 "BoundPortsModel" "shift" "I" ∈ bpW := wd_in (List.mem_of_getElem? (i := 527) (by decide +kernel)) rfl
theorem wfl_X5_112 : Cond.fieldLink RX5 112 "BoundPortsModel" "boardsRead" "I" ∈ bpW := wd_in (List.mem_of_getElem? (i := 528) (by decide +kernel)) rfl
theorem wfl_X5_45 : Cond.fieldLink RX5 45 "BoundPortsModel" "queueFlow" "[I" ∈ bpW := wd_in (List.mem_of_getElem? (i := 529) (by decide +kernel)) rfl
theorem wfl_X5_48 : Cond.fieldLink RX5 48 "BoundPortsModel" "queueNumber" "[I" ∈ bpW := wd_in (List.mem_of_getElem? (i := 530) (by decide +kernel)) rfl
theorem wfl_X5_51 : Cond.fieldLink RX5 51 "BoundPortsModel" "queueMany" "[I" ∈ bpW := wd_in (List.mem_of_getElem? (i := 531) (by decide +kernel)) rfl
theorem wfl_X5_54 : Cond.fieldLink RX5 54 "BoundPortsModel" "onPort" "[I" ∈ bpW := wd_in (List.mem_of_getElem? (i := 532) (by decide +kernel)) rfl
theorem wfl_X5_57 : Cond.fieldLink RX5 57 "BoundPortsModel" "isMoving" "[Z" ∈ bpW := wd_in (List.mem_of_getElem? (i := 533) (by decide +kernel)) rfl
theorem wfl_X5_60 : Cond.fieldLink RX5 60 "BoundPortsModel" "heldMany" "[I" ∈ bpW := wd_in (List.mem_of_getElem? (i := 534) (by decide +kernel)) rfl
theorem wfl_X5_63 : Cond.fieldLink RX5 63 "BoundPortsModel" "heldAt" "[I" ∈ bpW := wd_in (List.mem_of_getElem? (i := 535) (by decide +kernel)) rfl
theorem wfl_X5_66 : Cond.fieldLink RX5 66 "BoundPortsModel" "sent" "[I" ∈ bpW := wd_in (List.mem_of_getElem? (i := 536) (by decide +kernel)) rfl
theorem wfl_X5_69 : Cond.fieldLink RX5 69 "BoundPortsModel" "delivered" "[I" ∈ bpW := wd_in (List.mem_of_getElem? (i := 537) (by decide +kernel)) rfl
theorem wfl_X5_72 : Cond.fieldLink RX5 72 "BoundPortsModel" "lost" "[I" ∈ bpW := wd_in (List.mem_of_getElem? (i := 538) (by decide +kernel)) rfl
theorem wfl_X5_75 : Cond.fieldLink RX5 75 "BoundPortsModel" "latest" "[I" ∈ bpW := wd_in (List.mem_of_getElem? (i := 539) (by decide +kernel)) rfl
theorem wfl_X5_99 : Cond.fieldLink RX5 99 "BoundPortsModel" "ticks" "I" ∈ bpW := wd_in (List.mem_of_getElem? (i := 540) (by decide +kernel)) rfl
theorem wfl_X5_102 : Cond.fieldLink RX5 102 "BoundPortsModel" "answered" "I" ∈ bpW := wd_in (List.mem_of_getElem? (i := 541) (by decide +kernel)) rfl
theorem wfl_X5_78 : Cond.fieldLink RX5 78 "BoundPortsModel" "markers" "[I" ∈ bpW := wd_in (List.mem_of_getElem? (i := 542) (by decide +kernel)) rfl
theorem wfl_X5_210 : Cond.fieldLink RX5 210 "BoundPortsModel" "h" "J" ∈ bpW := wd_in (List.mem_of_getElem? (i := 543) (by decide +kernel)) rfl
theorem wac_boolean : Cond.arrayClass .boolean ∈ bpW := wd_in (List.mem_of_getElem? (i := 605) (by decide +kernel)) rfl
theorem wml_L_17 : Cond.methodLink RL 17 yX5_letter ∈ bpW := wd_in (List.mem_of_getElem? (i := 606) (by decide +kernel)) rfl
theorem wim_X5_letter : Cond.instanceMethod yX5_letter ∈ bpW := wd_in (List.mem_of_getElem? (i := 607) (by decide +kernel)) rfl
theorem wse_X5_letter : Cond.selects RX5 yX5_letter yX5_letter ∈ bpW := wd_in (List.mem_of_getElem? (i := 608) (by decide +kernel)) rfl
theorem wcd_X5_letter : Cond.code yX5_letter cX5_letter 2 (some .int) ∈ bpW := wd_in (List.mem_of_getElem? (i := 609) (by decide +kernel)) rfl
theorem wml_X5_84 : Cond.methodLink RX5 84 yX5_within ∈ bpW := wd_in (List.mem_of_getElem? (i := 610) (by decide +kernel)) rfl
theorem wst_X5_within : Cond.static yX5_within ∈ bpW := wd_in (List.mem_of_getElem? (i := 611) (by decide +kernel)) rfl
theorem wcd_X5_within : Cond.code yX5_within cX5_within 3 (some .boolean) ∈ bpW := wd_in (List.mem_of_getElem? (i := 612) (by decide +kernel)) rfl
theorem wml_L_22 : Cond.methodLink RL 22 yX5_blank ∈ bpW := wd_in (List.mem_of_getElem? (i := 613) (by decide +kernel)) rfl
theorem wim_X5_blank : Cond.instanceMethod yX5_blank ∈ bpW := wd_in (List.mem_of_getElem? (i := 614) (by decide +kernel)) rfl
theorem wse_X5_blank : Cond.selects RX5 yX5_blank yX5_blank ∈ bpW := wd_in (List.mem_of_getElem? (i := 615) (by decide +kernel)) rfl
theorem wcd_X5_blank : Cond.code yX5_blank cX5_blank 2 (some .int) ∈ bpW := wd_in (List.mem_of_getElem? (i := 616) (by decide +kernel)) rfl
theorem wml_L_26 : Cond.methodLink RL 26 yX5_fault ∈ bpW := wd_in (List.mem_of_getElem? (i := 617) (by decide +kernel)) rfl
theorem wim_X5_fault : Cond.instanceMethod yX5_fault ∈ bpW := wd_in (List.mem_of_getElem? (i := 618) (by decide +kernel)) rfl
theorem wse_X5_fault : Cond.selects RX5 yX5_fault yX5_fault ∈ bpW := wd_in (List.mem_of_getElem? (i := 619) (by decide +kernel)) rfl
theorem wcd_X5_fault : Cond.code yX5_fault cX5_fault 1 (some .int) ∈ bpW := wd_in (List.mem_of_getElem? (i := 620) (by decide +kernel)) rfl
theorem wml_X5_95 : Cond.methodLink RX5 95 yX5_rightLetters ∈ bpW := wd_in (List.mem_of_getElem? (i := 621) (by decide +kernel)) rfl
theorem wim_X5_rightLetters : Cond.instanceMethod yX5_rightLetters ∈ bpW := wd_in (List.mem_of_getElem? (i := 623) (by decide +kernel)) rfl
theorem wcd_X5_rightLetters : Cond.code yX5_rightLetters cX5_rightLetters 2 (some .int) ∈ bpW := wd_in (List.mem_of_getElem? (i := 624) (by decide +kernel)) rfl
theorem wml_X5_91 : Cond.methodLink RX5 91 yX5_isRight ∈ bpW := wd_in (List.mem_of_getElem? (i := 625) (by decide +kernel)) rfl
theorem wim_X5_isRight : Cond.instanceMethod yX5_isRight ∈ bpW := wd_in (List.mem_of_getElem? (i := 627) (by decide +kernel)) rfl
theorem wcd_X5_isRight : Cond.code yX5_isRight cX5_isRight 3 (some .boolean) ∈ bpW := wd_in (List.mem_of_getElem? (i := 628) (by decide +kernel)) rfl
theorem wml_L_30 : Cond.methodLink RL 30 yX5_board ∈ bpW := wd_in (List.mem_of_getElem? (i := 629) (by decide +kernel)) rfl
theorem wim_X5_board : Cond.instanceMethod yX5_board ∈ bpW := wd_in (List.mem_of_getElem? (i := 630) (by decide +kernel)) rfl
theorem wse_X5_board : Cond.selects RX5 yX5_board yX5_board ∈ bpW := wd_in (List.mem_of_getElem? (i := 631) (by decide +kernel)) rfl
theorem wcd_X5_board : Cond.code yX5_board cX5_board 2 (some .int) ∈ bpW := wd_in (List.mem_of_getElem? (i := 632) (by decide +kernel)) rfl
theorem wml_X5_108 : Cond.methodLink RX5 108 yX5_forget ∈ bpW := wd_in (List.mem_of_getElem? (i := 633) (by decide +kernel)) rfl
theorem wim_X5_forget : Cond.instanceMethod yX5_forget ∈ bpW := wd_in (List.mem_of_getElem? (i := 635) (by decide +kernel)) rfl
theorem wcd_X5_forget : Cond.code yX5_forget cX5_forget 2 none ∈ bpW := wd_in (List.mem_of_getElem? (i := 636) (by decide +kernel)) rfl
theorem wml_L_35 : Cond.methodLink RL 35 yX5_set ∈ bpW := wd_in (List.mem_of_getElem? (i := 637) (by decide +kernel)) rfl
theorem wim_X5_set : Cond.instanceMethod yX5_set ∈ bpW := wd_in (List.mem_of_getElem? (i := 638) (by decide +kernel)) rfl
theorem wse_X5_set : Cond.selects RX5 yX5_set yX5_set ∈ bpW := wd_in (List.mem_of_getElem? (i := 639) (by decide +kernel)) rfl
theorem wcd_X5_set : Cond.code yX5_set cX5_set 4 (some .int) ∈ bpW := wd_in (List.mem_of_getElem? (i := 640) (by decide +kernel)) rfl
theorem wml_X5_135 : Cond.methodLink RX5 135 yX5_toldNow ∈ bpW := wd_in (List.mem_of_getElem? (i := 641) (by decide +kernel)) rfl
theorem wim_X5_toldNow : Cond.instanceMethod yX5_toldNow ∈ bpW := wd_in (List.mem_of_getElem? (i := 643) (by decide +kernel)) rfl
theorem wcd_X5_toldNow : Cond.code yX5_toldNow cX5_toldNow 2 (some .int) ∈ bpW := wd_in (List.mem_of_getElem? (i := 644) (by decide +kernel)) rfl
theorem wml_X5_138 : Cond.methodLink RX5 138 yX5_settle ∈ bpW := wd_in (List.mem_of_getElem? (i := 645) (by decide +kernel)) rfl
theorem wim_X5_settle : Cond.instanceMethod yX5_settle ∈ bpW := wd_in (List.mem_of_getElem? (i := 647) (by decide +kernel)) rfl
theorem wcd_X5_settle : Cond.code yX5_settle cX5_settle 2 none ∈ bpW := wd_in (List.mem_of_getElem? (i := 648) (by decide +kernel)) rfl
theorem wml_X5_129 : Cond.methodLink RX5 129 yX5_stateOf ∈ bpW := wd_in (List.mem_of_getElem? (i := 649) (by decide +kernel)) rfl
theorem wim_X5_stateOf : Cond.instanceMethod yX5_stateOf ∈ bpW := wd_in (List.mem_of_getElem? (i := 651) (by decide +kernel)) rfl
theorem wcd_X5_stateOf : Cond.code yX5_stateOf cX5_stateOf 3 (some .int) ∈ bpW := wd_in (List.mem_of_getElem? (i := 652) (by decide +kernel)) rfl
theorem wml_X5_126 : Cond.methodLink RX5 126 yX5_placeOf ∈ bpW := wd_in (List.mem_of_getElem? (i := 653) (by decide +kernel)) rfl
theorem wim_X5_placeOf : Cond.instanceMethod yX5_placeOf ∈ bpW := wd_in (List.mem_of_getElem? (i := 655) (by decide +kernel)) rfl
theorem wcd_X5_placeOf : Cond.code yX5_placeOf cX5_placeOf 5 (some .int) ∈ bpW := wd_in (List.mem_of_getElem? (i := 656) (by decide +kernel)) rfl
theorem wml_X5_119 : Cond.methodLink RX5 119 yX5_leadOf ∈ bpW := wd_in (List.mem_of_getElem? (i := 657) (by decide +kernel)) rfl
theorem wim_X5_leadOf : Cond.instanceMethod yX5_leadOf ∈ bpW := wd_in (List.mem_of_getElem? (i := 659) (by decide +kernel)) rfl
theorem wcd_X5_leadOf : Cond.code yX5_leadOf cX5_leadOf 5 (some .int) ∈ bpW := wd_in (List.mem_of_getElem? (i := 660) (by decide +kernel)) rfl
theorem wml_X5_115 : Cond.methodLink RX5 115 yX5_isAhead ∈ bpW := wd_in (List.mem_of_getElem? (i := 661) (by decide +kernel)) rfl
theorem wim_X5_isAhead : Cond.instanceMethod yX5_isAhead ∈ bpW := wd_in (List.mem_of_getElem? (i := 663) (by decide +kernel)) rfl
theorem wcd_X5_isAhead : Cond.code yX5_isAhead cX5_isAhead 3 (some .boolean) ∈ bpW := wd_in (List.mem_of_getElem? (i := 664) (by decide +kernel)) rfl
theorem wml_X5_123 : Cond.methodLink RX5 123 yX5_areAlike ∈ bpW := wd_in (List.mem_of_getElem? (i := 665) (by decide +kernel)) rfl
theorem wim_X5_areAlike : Cond.instanceMethod yX5_areAlike ∈ bpW := wd_in (List.mem_of_getElem? (i := 667) (by decide +kernel)) rfl
theorem wcd_X5_areAlike : Cond.code yX5_areAlike cX5_areAlike 3 (some .boolean) ∈ bpW := wd_in (List.mem_of_getElem? (i := 668) (by decide +kernel)) rfl
theorem wml_L_39 : Cond.methodLink RL 39 yX5_rank ∈ bpW := wd_in (List.mem_of_getElem? (i := 669) (by decide +kernel)) rfl
theorem wim_X5_rank : Cond.instanceMethod yX5_rank ∈ bpW := wd_in (List.mem_of_getElem? (i := 670) (by decide +kernel)) rfl
theorem wse_X5_rank : Cond.selects RX5 yX5_rank yX5_rank ∈ bpW := wd_in (List.mem_of_getElem? (i := 671) (by decide +kernel)) rfl
theorem wcd_X5_rank : Cond.code yX5_rank cX5_rank 4 (some .int) ∈ bpW := wd_in (List.mem_of_getElem? (i := 672) (by decide +kernel)) rfl
theorem wml_X5_141 : Cond.methodLink RX5 141 yX5_isPort ∈ bpW := wd_in (List.mem_of_getElem? (i := 673) (by decide +kernel)) rfl
theorem wim_X5_isPort : Cond.instanceMethod yX5_isPort ∈ bpW := wd_in (List.mem_of_getElem? (i := 675) (by decide +kernel)) rfl
theorem wcd_X5_isPort : Cond.code yX5_isPort cX5_isPort 2 (some .boolean) ∈ bpW := wd_in (List.mem_of_getElem? (i := 676) (by decide +kernel)) rfl
theorem wml_L_44 : Cond.methodLink RL 44 yX5_up ∈ bpW := wd_in (List.mem_of_getElem? (i := 677) (by decide +kernel)) rfl
theorem wim_X5_up : Cond.instanceMethod yX5_up ∈ bpW := wd_in (List.mem_of_getElem? (i := 678) (by decide +kernel)) rfl
theorem wse_X5_up : Cond.selects RX5 yX5_up yX5_up ∈ bpW := wd_in (List.mem_of_getElem? (i := 679) (by decide +kernel)) rfl
theorem wcd_X5_up : Cond.code yX5_up cX5_up 4 (some .int) ∈ bpW := wd_in (List.mem_of_getElem? (i := 680) (by decide +kernel)) rfl
theorem wml_X5_144 : Cond.methodLink RX5 144 yX5_empty ∈ bpW := wd_in (List.mem_of_getElem? (i := 681) (by decide +kernel)) rfl
theorem wim_X5_empty : Cond.instanceMethod yX5_empty ∈ bpW := wd_in (List.mem_of_getElem? (i := 683) (by decide +kernel)) rfl
theorem wcd_X5_empty : Cond.code yX5_empty cX5_empty 4 none ∈ bpW := wd_in (List.mem_of_getElem? (i := 684) (by decide +kernel)) rfl
theorem wml_X5_183 : Cond.methodLink RX5 183 yX5_answer ∈ bpW := wd_in (List.mem_of_getElem? (i := 685) (by decide +kernel)) rfl
theorem wim_X5_answer : Cond.instanceMethod yX5_answer ∈ bpW := wd_in (List.mem_of_getElem? (i := 687) (by decide +kernel)) rfl
theorem wcd_X5_answer : Cond.code yX5_answer cX5_answer 5 none ∈ bpW := wd_in (List.mem_of_getElem? (i := 688) (by decide +kernel)) rfl
theorem wml_X5_164 : Cond.methodLink RX5 164 yX5_wayOf ∈ bpW := wd_in (List.mem_of_getElem? (i := 689) (by decide +kernel)) rfl
theorem wim_X5_wayOf : Cond.instanceMethod yX5_wayOf ∈ bpW := wd_in (List.mem_of_getElem? (i := 691) (by decide +kernel)) rfl
theorem wcd_X5_wayOf : Cond.code yX5_wayOf cX5_wayOf 6 (some .int) ∈ bpW := wd_in (List.mem_of_getElem? (i := 692) (by decide +kernel)) rfl
theorem wml_X5_154 : Cond.methodLink RX5 154 yX5_bitsOf ∈ bpW := wd_in (List.mem_of_getElem? (i := 693) (by decide +kernel)) rfl
theorem wim_X5_bitsOf : Cond.instanceMethod yX5_bitsOf ∈ bpW := wd_in (List.mem_of_getElem? (i := 695) (by decide +kernel)) rfl
theorem wcd_X5_bitsOf : Cond.code yX5_bitsOf cX5_bitsOf 6 (some .int) ∈ bpW := wd_in (List.mem_of_getElem? (i := 696) (by decide +kernel)) rfl
theorem wml_X5_177 : Cond.methodLink RX5 177 yX5_comes ∈ bpW := wd_in (List.mem_of_getElem? (i := 697) (by decide +kernel)) rfl
theorem wim_X5_comes : Cond.instanceMethod yX5_comes ∈ bpW := wd_in (List.mem_of_getElem? (i := 699) (by decide +kernel)) rfl
theorem wcd_X5_comes : Cond.code yX5_comes cX5_comes 4 (some .int) ∈ bpW := wd_in (List.mem_of_getElem? (i := 700) (by decide +kernel)) rfl
theorem wml_X5_167 : Cond.methodLink RX5 167 yX5_lay ∈ bpW := wd_in (List.mem_of_getElem? (i := 701) (by decide +kernel)) rfl
theorem wim_X5_lay : Cond.instanceMethod yX5_lay ∈ bpW := wd_in (List.mem_of_getElem? (i := 703) (by decide +kernel)) rfl
theorem wcd_X5_lay : Cond.code yX5_lay cX5_lay 4 none ∈ bpW := wd_in (List.mem_of_getElem? (i := 704) (by decide +kernel)) rfl
theorem wml_L_49 : Cond.methodLink RL 49 yX5_hear ∈ bpW := wd_in (List.mem_of_getElem? (i := 705) (by decide +kernel)) rfl
theorem wim_X5_hear : Cond.instanceMethod yX5_hear ∈ bpW := wd_in (List.mem_of_getElem? (i := 706) (by decide +kernel)) rfl
theorem wse_X5_hear : Cond.selects RX5 yX5_hear yX5_hear ∈ bpW := wd_in (List.mem_of_getElem? (i := 707) (by decide +kernel)) rfl
theorem wcd_X5_hear : Cond.code yX5_hear cX5_hear 5 (some .int) ∈ bpW := wd_in (List.mem_of_getElem? (i := 708) (by decide +kernel)) rfl
theorem wml_L_53 : Cond.methodLink RL 53 yX5_of ∈ bpW := wd_in (List.mem_of_getElem? (i := 709) (by decide +kernel)) rfl
theorem wim_X5_of : Cond.instanceMethod yX5_of ∈ bpW := wd_in (List.mem_of_getElem? (i := 710) (by decide +kernel)) rfl
theorem wse_X5_of : Cond.selects RX5 yX5_of yX5_of ∈ bpW := wd_in (List.mem_of_getElem? (i := 711) (by decide +kernel)) rfl
theorem wcd_X5_of : Cond.code yX5_of cX5_of 3 (some .int) ∈ bpW := wd_in (List.mem_of_getElem? (i := 712) (by decide +kernel)) rfl
theorem wml_X5_147 : Cond.methodLink RX5 147 yX5_portNow ∈ bpW := wd_in (List.mem_of_getElem? (i := 713) (by decide +kernel)) rfl
theorem wim_X5_portNow : Cond.instanceMethod yX5_portNow ∈ bpW := wd_in (List.mem_of_getElem? (i := 715) (by decide +kernel)) rfl
theorem wcd_X5_portNow : Cond.code yX5_portNow cX5_portNow 4 (some .int) ∈ bpW := wd_in (List.mem_of_getElem? (i := 716) (by decide +kernel)) rfl
theorem wml_L_57 : Cond.methodLink RL 57 yX5_queue ∈ bpW := wd_in (List.mem_of_getElem? (i := 717) (by decide +kernel)) rfl
theorem wim_X5_queue : Cond.instanceMethod yX5_queue ∈ bpW := wd_in (List.mem_of_getElem? (i := 718) (by decide +kernel)) rfl
theorem wse_X5_queue : Cond.selects RX5 yX5_queue yX5_queue ∈ bpW := wd_in (List.mem_of_getElem? (i := 719) (by decide +kernel)) rfl
theorem wcd_X5_queue : Cond.code yX5_queue cX5_queue 3 (some .int) ∈ bpW := wd_in (List.mem_of_getElem? (i := 720) (by decide +kernel)) rfl
theorem wml_X5_151 : Cond.methodLink RX5 151 yX5_queueNow ∈ bpW := wd_in (List.mem_of_getElem? (i := 721) (by decide +kernel)) rfl
theorem wim_X5_queueNow : Cond.instanceMethod yX5_queueNow ∈ bpW := wd_in (List.mem_of_getElem? (i := 723) (by decide +kernel)) rfl
theorem wcd_X5_queueNow : Cond.code yX5_queueNow cX5_queueNow 5 (some .int) ∈ bpW := wd_in (List.mem_of_getElem? (i := 724) (by decide +kernel)) rfl
theorem wml_L_61 : Cond.methodLink RL 61 yX5_key ∈ bpW := wd_in (List.mem_of_getElem? (i := 725) (by decide +kernel)) rfl
theorem wim_X5_key : Cond.instanceMethod yX5_key ∈ bpW := wd_in (List.mem_of_getElem? (i := 726) (by decide +kernel)) rfl
theorem wse_X5_key : Cond.selects RX5 yX5_key yX5_key ∈ bpW := wd_in (List.mem_of_getElem? (i := 727) (by decide +kernel)) rfl
theorem wcd_X5_key : Cond.code yX5_key cX5_key 3 (some .int) ∈ bpW := wd_in (List.mem_of_getElem? (i := 728) (by decide +kernel)) rfl
theorem wml_X5_158 : Cond.methodLink RX5 158 yX5_keyNow ∈ bpW := wd_in (List.mem_of_getElem? (i := 729) (by decide +kernel)) rfl
theorem wim_X5_keyNow : Cond.instanceMethod yX5_keyNow ∈ bpW := wd_in (List.mem_of_getElem? (i := 731) (by decide +kernel)) rfl
theorem wcd_X5_keyNow : Cond.code yX5_keyNow cX5_keyNow 3 (some .int) ∈ bpW := wd_in (List.mem_of_getElem? (i := 732) (by decide +kernel)) rfl
theorem wml_L_65 : Cond.methodLink RL 65 yX5_way ∈ bpW := wd_in (List.mem_of_getElem? (i := 733) (by decide +kernel)) rfl
theorem wim_X5_way : Cond.instanceMethod yX5_way ∈ bpW := wd_in (List.mem_of_getElem? (i := 734) (by decide +kernel)) rfl
theorem wse_X5_way : Cond.selects RX5 yX5_way yX5_way ∈ bpW := wd_in (List.mem_of_getElem? (i := 735) (by decide +kernel)) rfl
theorem wcd_X5_way : Cond.code yX5_way cX5_way 2 (some .int) ∈ bpW := wd_in (List.mem_of_getElem? (i := 736) (by decide +kernel)) rfl
theorem wml_X5_161 : Cond.methodLink RX5 161 yX5_isFlow ∈ bpW := wd_in (List.mem_of_getElem? (i := 737) (by decide +kernel)) rfl
theorem wst_X5_isFlow : Cond.static yX5_isFlow ∈ bpW := wd_in (List.mem_of_getElem? (i := 738) (by decide +kernel)) rfl
theorem wcd_X5_isFlow : Cond.code yX5_isFlow cX5_isFlow 1 (some .boolean) ∈ bpW := wd_in (List.mem_of_getElem? (i := 739) (by decide +kernel)) rfl
theorem wml_L_69 : Cond.methodLink RL 69 yX5_send ∈ bpW := wd_in (List.mem_of_getElem? (i := 740) (by decide +kernel)) rfl
theorem wim_X5_send : Cond.instanceMethod yX5_send ∈ bpW := wd_in (List.mem_of_getElem? (i := 741) (by decide +kernel)) rfl
theorem wse_X5_send : Cond.selects RX5 yX5_send yX5_send ∈ bpW := wd_in (List.mem_of_getElem? (i := 742) (by decide +kernel)) rfl
theorem wcd_X5_send : Cond.code yX5_send cX5_send 2 (some .int) ∈ bpW := wd_in (List.mem_of_getElem? (i := 743) (by decide +kernel)) rfl
theorem wml_X5_180 : Cond.methodLink RX5 180 yX5_sendNow ∈ bpW := wd_in (List.mem_of_getElem? (i := 744) (by decide +kernel)) rfl
theorem wim_X5_sendNow : Cond.instanceMethod yX5_sendNow ∈ bpW := wd_in (List.mem_of_getElem? (i := 746) (by decide +kernel)) rfl
theorem wcd_X5_sendNow : Cond.code yX5_sendNow cX5_sendNow 3 (some .int) ∈ bpW := wd_in (List.mem_of_getElem? (i := 747) (by decide +kernel)) rfl
theorem wml_X5_171 : Cond.methodLink RX5 171 yX5_holds ∈ bpW := wd_in (List.mem_of_getElem? (i := 748) (by decide +kernel)) rfl
theorem wim_X5_holds : Cond.instanceMethod yX5_holds ∈ bpW := wd_in (List.mem_of_getElem? (i := 750) (by decide +kernel)) rfl
theorem wcd_X5_holds : Cond.code yX5_holds cX5_holds 3 (some .int) ∈ bpW := wd_in (List.mem_of_getElem? (i := 751) (by decide +kernel)) rfl
theorem wml_X5_174 : Cond.methodLink RX5 174 yX5_hasLetter ∈ bpW := wd_in (List.mem_of_getElem? (i := 752) (by decide +kernel)) rfl
theorem wim_X5_hasLetter : Cond.instanceMethod yX5_hasLetter ∈ bpW := wd_in (List.mem_of_getElem? (i := 754) (by decide +kernel)) rfl
theorem wcd_X5_hasLetter : Cond.code yX5_hasLetter cX5_hasLetter 5 (some .boolean) ∈ bpW := wd_in (List.mem_of_getElem? (i := 755) (by decide +kernel)) rfl
theorem wml_L_73 : Cond.methodLink RL 73 yX5_flow ∈ bpW := wd_in (List.mem_of_getElem? (i := 756) (by decide +kernel)) rfl
theorem wim_X5_flow : Cond.instanceMethod yX5_flow ∈ bpW := wd_in (List.mem_of_getElem? (i := 757) (by decide +kernel)) rfl
theorem wse_X5_flow : Cond.selects RX5 yX5_flow yX5_flow ∈ bpW := wd_in (List.mem_of_getElem? (i := 758) (by decide +kernel)) rfl
theorem wcd_X5_flow : Cond.code yX5_flow cX5_flow 3 (some .int) ∈ bpW := wd_in (List.mem_of_getElem? (i := 759) (by decide +kernel)) rfl
theorem wml_X5_186 : Cond.methodLink RX5 186 yX5_flowNow ∈ bpW := wd_in (List.mem_of_getElem? (i := 760) (by decide +kernel)) rfl
theorem wim_X5_flowNow : Cond.instanceMethod yX5_flowNow ∈ bpW := wd_in (List.mem_of_getElem? (i := 762) (by decide +kernel)) rfl
theorem wcd_X5_flowNow : Cond.code yX5_flowNow cX5_flowNow 3 (some .int) ∈ bpW := wd_in (List.mem_of_getElem? (i := 763) (by decide +kernel)) rfl
theorem wml_L_77 : Cond.methodLink RL 77 yX5_tick ∈ bpW := wd_in (List.mem_of_getElem? (i := 764) (by decide +kernel)) rfl
theorem wim_X5_tick : Cond.instanceMethod yX5_tick ∈ bpW := wd_in (List.mem_of_getElem? (i := 765) (by decide +kernel)) rfl
theorem wse_X5_tick : Cond.selects RX5 yX5_tick yX5_tick ∈ bpW := wd_in (List.mem_of_getElem? (i := 766) (by decide +kernel)) rfl
theorem wcd_X5_tick : Cond.code yX5_tick cX5_tick 4 (some .int) ∈ bpW := wd_in (List.mem_of_getElem? (i := 767) (by decide +kernel)) rfl
theorem wml_X5_198 : Cond.methodLink RX5 198 yX5_tickNow ∈ bpW := wd_in (List.mem_of_getElem? (i := 768) (by decide +kernel)) rfl
theorem wim_X5_tickNow : Cond.instanceMethod yX5_tickNow ∈ bpW := wd_in (List.mem_of_getElem? (i := 770) (by decide +kernel)) rfl
theorem wcd_X5_tickNow : Cond.code yX5_tickNow cX5_tickNow 3 (some .int) ∈ bpW := wd_in (List.mem_of_getElem? (i := 771) (by decide +kernel)) rfl
theorem wml_X5_189 : Cond.methodLink RX5 189 yX5_hearLess ∈ bpW := wd_in (List.mem_of_getElem? (i := 772) (by decide +kernel)) rfl
theorem wim_X5_hearLess : Cond.instanceMethod yX5_hearLess ∈ bpW := wd_in (List.mem_of_getElem? (i := 774) (by decide +kernel)) rfl
theorem wcd_X5_hearLess : Cond.code yX5_hearLess cX5_hearLess 2 none ∈ bpW := wd_in (List.mem_of_getElem? (i := 775) (by decide +kernel)) rfl
theorem wml_X5_192 : Cond.methodLink RX5 192 yX5_waitMore ∈ bpW := wd_in (List.mem_of_getElem? (i := 776) (by decide +kernel)) rfl
theorem wim_X5_waitMore : Cond.instanceMethod yX5_waitMore ∈ bpW := wd_in (List.mem_of_getElem? (i := 778) (by decide +kernel)) rfl
theorem wcd_X5_waitMore : Cond.code yX5_waitMore cX5_waitMore 2 none ∈ bpW := wd_in (List.mem_of_getElem? (i := 779) (by decide +kernel)) rfl
theorem wml_X5_195 : Cond.methodLink RX5 195 yX5_goesOut ∈ bpW := wd_in (List.mem_of_getElem? (i := 780) (by decide +kernel)) rfl
theorem wim_X5_goesOut : Cond.instanceMethod yX5_goesOut ∈ bpW := wd_in (List.mem_of_getElem? (i := 782) (by decide +kernel)) rfl
theorem wcd_X5_goesOut : Cond.code yX5_goesOut cX5_goesOut 5 (some .int) ∈ bpW := wd_in (List.mem_of_getElem? (i := 783) (by decide +kernel)) rfl
theorem wml_L_81 : Cond.methodLink RL 81 yX5_count ∈ bpW := wd_in (List.mem_of_getElem? (i := 784) (by decide +kernel)) rfl
theorem wim_X5_count : Cond.instanceMethod yX5_count ∈ bpW := wd_in (List.mem_of_getElem? (i := 785) (by decide +kernel)) rfl
theorem wse_X5_count : Cond.selects RX5 yX5_count yX5_count ∈ bpW := wd_in (List.mem_of_getElem? (i := 786) (by decide +kernel)) rfl
theorem wcd_X5_count : Cond.code yX5_count cX5_count 2 (some .int) ∈ bpW := wd_in (List.mem_of_getElem? (i := 787) (by decide +kernel)) rfl
theorem wml_X5_205 : Cond.methodLink RX5 205 yX5_howMany ∈ bpW := wd_in (List.mem_of_getElem? (i := 788) (by decide +kernel)) rfl
theorem wim_X5_howMany : Cond.instanceMethod yX5_howMany ∈ bpW := wd_in (List.mem_of_getElem? (i := 790) (by decide +kernel)) rfl
theorem wcd_X5_howMany : Cond.code yX5_howMany cX5_howMany 2 (some .int) ∈ bpW := wd_in (List.mem_of_getElem? (i := 791) (by decide +kernel)) rfl
theorem wml_X5_201 : Cond.methodLink RX5 201 yX5_sumOf ∈ bpW := wd_in (List.mem_of_getElem? (i := 792) (by decide +kernel)) rfl
theorem wim_X5_sumOf : Cond.instanceMethod yX5_sumOf ∈ bpW := wd_in (List.mem_of_getElem? (i := 794) (by decide +kernel)) rfl
theorem wcd_X5_sumOf : Cond.code yX5_sumOf cX5_sumOf 4 (some .int) ∈ bpW := wd_in (List.mem_of_getElem? (i := 795) (by decide +kernel)) rfl
theorem wml_L_86 : Cond.methodLink RL 86 yX5_digest ∈ bpW := wd_in (List.mem_of_getElem? (i := 796) (by decide +kernel)) rfl
theorem wim_X5_digest : Cond.instanceMethod yX5_digest ∈ bpW := wd_in (List.mem_of_getElem? (i := 797) (by decide +kernel)) rfl
theorem wse_X5_digest : Cond.selects RX5 yX5_digest yX5_digest ∈ bpW := wd_in (List.mem_of_getElem? (i := 798) (by decide +kernel)) rfl
theorem wcd_X5_digest : Cond.code yX5_digest cX5_digest 3 (some .long) ∈ bpW := wd_in (List.mem_of_getElem? (i := 799) (by decide +kernel)) rfl
theorem wcL_X5_218 : Cond.constantLong RX5 218 (1741 : Int64) ∈ bpW := wd_in (List.mem_of_getElem? (i := 800) (by decide +kernel)) rfl
theorem wml_X5_220 : Cond.methodLink RX5 220 yX5_mixPorts ∈ bpW := wd_in (List.mem_of_getElem? (i := 801) (by decide +kernel)) rfl
theorem wim_X5_mixPorts : Cond.instanceMethod yX5_mixPorts ∈ bpW := wd_in (List.mem_of_getElem? (i := 803) (by decide +kernel)) rfl
theorem wcd_X5_mixPorts : Cond.code yX5_mixPorts cX5_mixPorts 3 none ∈ bpW := wd_in (List.mem_of_getElem? (i := 804) (by decide +kernel)) rfl
theorem wml_X5_214 : Cond.methodLink RX5 214 yX5_mix ∈ bpW := wd_in (List.mem_of_getElem? (i := 805) (by decide +kernel)) rfl
theorem wim_X5_mix : Cond.instanceMethod yX5_mix ∈ bpW := wd_in (List.mem_of_getElem? (i := 807) (by decide +kernel)) rfl
theorem wcd_X5_mix : Cond.code yX5_mix cX5_mix 3 none ∈ bpW := wd_in (List.mem_of_getElem? (i := 808) (by decide +kernel)) rfl
theorem wcL_X5_208 : Cond.constantLong RX5 208 (31 : Int64) ∈ bpW := wd_in (List.mem_of_getElem? (i := 809) (by decide +kernel)) rfl
theorem wml_X5_223 : Cond.methodLink RX5 223 yX5_mixFlows ∈ bpW := wd_in (List.mem_of_getElem? (i := 810) (by decide +kernel)) rfl
theorem wim_X5_mixFlows : Cond.instanceMethod yX5_mixFlows ∈ bpW := wd_in (List.mem_of_getElem? (i := 812) (by decide +kernel)) rfl
theorem wcd_X5_mixFlows : Cond.code yX5_mixFlows cX5_mixFlows 3 none ∈ bpW := wd_in (List.mem_of_getElem? (i := 813) (by decide +kernel)) rfl
theorem wla_X0 : ∀ w ∈ u_ws RX0 TX0 8, w ∈ bpW := by
  have h : u_ws RX0 TX0 8 = ([181, 183, 185, 187, 189, 191, 193, 195] : List Nat).filterMap (fun i => lw_tbl[i]?) := by decide +kernel
  have g : (u_ws RX0 TX0 8).all bpGd = true := by decide +kernel
  intro w hw
  have gw := List.all_eq_true.mp g w hw
  rw [h] at hw
  obtain ⟨i, -, hi⟩ := List.mem_filterMap.mp hw
  exact wd_in (List.mem_of_getElem? hi) gw
theorem wla_X1 : ∀ w ∈ u_ws RX1 TX1 2, w ∈ bpW := by
  have h : u_ws RX1 TX1 2 = ([82, 84] : List Nat).filterMap (fun i => lw_tbl[i]?) := by decide +kernel
  have g : (u_ws RX1 TX1 2).all bpGd = true := by decide +kernel
  intro w hw
  have gw := List.all_eq_true.mp g w hw
  rw [h] at hw
  obtain ⟨i, -, hi⟩ := List.mem_filterMap.mp hw
  exact wd_in (List.mem_of_getElem? hi) gw
theorem wla_X2 : ∀ w ∈ u_ws RX2 TX2 11, w ∈ bpW := by
  have h : u_ws RX2 TX2 11 = ([137, 139, 141, 143, 145, 147, 149, 151, 153, 155, 157] : List Nat).filterMap (fun i => lw_tbl[i]?) := by decide +kernel
  have g : (u_ws RX2 TX2 11).all bpGd = true := by decide +kernel
  intro w hw
  have gw := List.all_eq_true.mp g w hw
  rw [h] at hw
  obtain ⟨i, -, hi⟩ := List.mem_filterMap.mp hw
  exact wd_in (List.mem_of_getElem? hi) gw
theorem wla_X3 : ∀ w ∈ u_ws RX3 TX3 3, w ∈ bpW := by
  have h : u_ws RX3 TX3 3 = ([108, 110, 112] : List Nat).filterMap (fun i => lw_tbl[i]?) := by decide +kernel
  have g : (u_ws RX3 TX3 3).all bpGd = true := by decide +kernel
  intro w hw
  have gw := List.all_eq_true.mp g w hw
  rw [h] at hw
  obtain ⟨i, -, hi⟩ := List.mem_filterMap.mp hw
  exact wd_in (List.mem_of_getElem? hi) gw
theorem wla_X4 : ∀ w ∈ u_ws RX4 TX4 10, w ∈ bpW := by
  have h : u_ws RX4 TX4 10 = ([208, 210, 212, 214, 216, 218, 220, 222, 224, 226] : List Nat).filterMap (fun i => lw_tbl[i]?) := by decide +kernel
  have g : (u_ws RX4 TX4 10).all bpGd = true := by decide +kernel
  intro w hw
  have gw := List.all_eq_true.mp g w hw
  rw [h] at hw
  obtain ⟨i, -, hi⟩ := List.mem_filterMap.mp hw
  exact wd_in (List.mem_of_getElem? hi) gw
theorem wla_X5 : ∀ w ∈ u_ws RX5 TX5 30, w ∈ bpW := by
  have h : u_ws RX5 TX5 30 = ([544, 546, 548, 550, 552, 554, 556, 558, 560, 562, 564, 566, 568, 570, 572, 574, 576, 578, 580, 582, 584, 586, 588, 590, 592, 594, 596, 598, 600, 602] : List Nat).filterMap (fun i => lw_tbl[i]?) := by decide +kernel
  have g : (u_ws RX5 TX5 30).all bpGd = true := by decide +kernel
  intro w hw
  have gw := List.all_eq_true.mp g w hw
  rw [h] at hw
  obtain ⟨i, -, hi⟩ := List.mem_filterMap.mp hw
  exact wd_in (List.mem_of_getElem? hi) gw
theorem wd_warm {w : Cond} (hw : w ∈ bpW) {A A' : Array Value} {s U : State} (hW : s.WarmedH U.vm) (h : w.before A s = true) : w.before A' U = true := by
  have g := (List.mem_filter.mp hw).2
  cases w
  case methodLinkNest => exact va_Nw.use rfl (va_Nw.warmM hW (va_Nw.of rfl h))
  all_goals exact word_at hW (good_of_word g) h
