set_option maxRecDepth 100000 in
theorem mc_X0_init : k_Mc yX0_init cX0_init 1 none 0 := ⟨List.mem_of_getElem? (i := 50) (by decide +kernel), List.mem_of_getElem? (i := 25) (by decide +kernel), by decide +kernel, by decide +kernel, by decide +kernel⟩
set_option maxRecDepth 100000 in
theorem mi_X0_init : Cond.instanceMethod yX0_init ∈ lw_tbl := List.mem_of_getElem? (i := 49) (by decide +kernel)
set_option maxRecDepth 100000 in
theorem mc_X0_rateOf : k_Mc yX0_rateOf cX0_rateOf 4 (some .int) 2 := ⟨List.mem_of_getElem? (i := 229) (by decide +kernel), List.mem_of_getElem? (i := 25) (by decide +kernel), by decide +kernel, by decide +kernel, by decide +kernel⟩
set_option maxRecDepth 100000 in
theorem mv_X0_rateOf : k_Mv yX0_rateOf := ⟨List.mem_of_getElem? (i := 227) (by decide +kernel), List.mem_of_getElem? (i := 228) (by decide +kernel)⟩
set_option maxRecDepth 100000 in
theorem mc_X0_setLink : k_Mc yX0_setLink cX0_setLink 6 none 4 := ⟨List.mem_of_getElem? (i := 236) (by decide +kernel), List.mem_of_getElem? (i := 25) (by decide +kernel), by decide +kernel, by decide +kernel, by decide +kernel⟩
set_option maxRecDepth 100000 in
theorem mv_X0_setLink : k_Mv yX0_setLink := ⟨List.mem_of_getElem? (i := 234) (by decide +kernel), List.mem_of_getElem? (i := 235) (by decide +kernel)⟩
set_option maxRecDepth 100000 in
theorem mc_X0_debtOf : k_Mc yX0_debtOf cX0_debtOf 4 (some .long) 2 := ⟨List.mem_of_getElem? (i := 570) (by decide +kernel), List.mem_of_getElem? (i := 25) (by decide +kernel), by decide +kernel, by decide +kernel, by decide +kernel⟩
set_option maxRecDepth 100000 in
theorem mv_X0_debtOf : k_Mv yX0_debtOf := ⟨List.mem_of_getElem? (i := 568) (by decide +kernel), List.mem_of_getElem? (i := 569) (by decide +kernel)⟩
set_option maxRecDepth 100000 in
theorem mc_X0_addDebt : k_Mc yX0_addDebt cX0_addDebt 7 none 3 := ⟨List.mem_of_getElem? (i := 499) (by decide +kernel), List.mem_of_getElem? (i := 25) (by decide +kernel), by decide +kernel, by decide +kernel, by decide +kernel⟩
set_option maxRecDepth 100000 in
theorem mv_X0_addDebt : k_Mv yX0_addDebt := ⟨List.mem_of_getElem? (i := 497) (by decide +kernel), List.mem_of_getElem? (i := 498) (by decide +kernel)⟩
set_option maxRecDepth 100000 in
theorem mc_X0_isOpen : k_Mc yX0_isOpen cX0_isOpen 4 (some .boolean) 2 := ⟨List.mem_of_getElem? (i := 374) (by decide +kernel), List.mem_of_getElem? (i := 25) (by decide +kernel), by decide +kernel, by decide +kernel, by decide +kernel⟩
set_option maxRecDepth 100000 in
theorem mv_X0_isOpen : k_Mv yX0_isOpen := ⟨List.mem_of_getElem? (i := 372) (by decide +kernel), List.mem_of_getElem? (i := 373) (by decide +kernel)⟩
set_option maxRecDepth 100000 in
theorem mc_X0_isOpenAlong : k_Mc yX0_isOpenAlong cX0_isOpenAlong 3 (some .boolean) 1 := ⟨List.mem_of_getElem? (i := 481) (by decide +kernel), List.mem_of_getElem? (i := 25) (by decide +kernel), by decide +kernel, by decide +kernel, by decide +kernel⟩
set_option maxRecDepth 100000 in
theorem mv_X0_isOpenAlong : k_Mv yX0_isOpenAlong := ⟨List.mem_of_getElem? (i := 479) (by decide +kernel), List.mem_of_getElem? (i := 480) (by decide +kernel)⟩
set_option maxRecDepth 100000 in
theorem mc_X0_costOf : k_Mc yX0_costOf cX0_costOf 4 (some .int) 1 := ⟨List.mem_of_getElem? (i := 543) (by decide +kernel), List.mem_of_getElem? (i := 25) (by decide +kernel), by decide +kernel, by decide +kernel, by decide +kernel⟩
set_option maxRecDepth 100000 in
theorem mv_X0_costOf : k_Mv yX0_costOf := ⟨List.mem_of_getElem? (i := 541) (by decide +kernel), List.mem_of_getElem? (i := 542) (by decide +kernel)⟩
set_option maxRecDepth 100000 in
theorem mc_X0_charge : k_Mc yX0_charge cX0_charge 6 none 1 := ⟨List.mem_of_getElem? (i := 495) (by decide +kernel), List.mem_of_getElem? (i := 25) (by decide +kernel), by decide +kernel, by decide +kernel, by decide +kernel⟩
set_option maxRecDepth 100000 in
theorem mv_X0_charge : k_Mv yX0_charge := ⟨List.mem_of_getElem? (i := 493) (by decide +kernel), List.mem_of_getElem? (i := 494) (by decide +kernel)⟩
set_option maxRecDepth 100000 in
theorem mc_X0_findBest : k_Mc yX0_findBest cX0_findBest 6 (some .boolean) 3 := ⟨List.mem_of_getElem? (i := 364) (by decide +kernel), List.mem_of_getElem? (i := 25) (by decide +kernel), by decide +kernel, by decide +kernel, by decide +kernel⟩
set_option maxRecDepth 100000 in
theorem mv_X0_findBest : k_Mv yX0_findBest := ⟨List.mem_of_getElem? (i := 362) (by decide +kernel), List.mem_of_getElem? (i := 363) (by decide +kernel)⟩
set_option maxRecDepth 100000 in
theorem mc_X0_weighWaysTo : k_Mc yX0_weighWaysTo cX0_weighWaysTo 5 none 1 := ⟨List.mem_of_getElem? (i := 369) (by decide +kernel), List.mem_of_getElem? (i := 25) (by decide +kernel), by decide +kernel, by decide +kernel, by decide +kernel⟩
set_option maxRecDepth 100000 in
theorem mv_X0_weighWaysTo : k_Mv yX0_weighWaysTo := ⟨List.mem_of_getElem? (i := 368) (by decide +kernel), List.mem_of_getElem? (i := 3) (by decide +kernel)⟩
set_option maxRecDepth 100000 in
theorem mc_X0_nextOnBest : k_Mc yX0_nextOnBest cX0_nextOnBest 3 (some .int) 1 := ⟨List.mem_of_getElem? (i := 394) (by decide +kernel), List.mem_of_getElem? (i := 25) (by decide +kernel), by decide +kernel, by decide +kernel, by decide +kernel⟩
set_option maxRecDepth 100000 in
theorem mv_X0_nextOnBest : k_Mv yX0_nextOnBest := ⟨List.mem_of_getElem? (i := 393) (by decide +kernel), List.mem_of_getElem? (i := 5) (by decide +kernel)⟩
set_option maxRecDepth 100000 in
theorem mc_X0_weightOver : k_Mc yX0_weightOver cX0_weightOver 4 (some .int) 2 := ⟨List.mem_of_getElem? (i := 378) (by decide +kernel), List.mem_of_getElem? (i := 25) (by decide +kernel), by decide +kernel, by decide +kernel, by decide +kernel⟩
set_option maxRecDepth 100000 in
theorem mv_X0_weightOver : k_Mv yX0_weightOver := ⟨List.mem_of_getElem? (i := 377) (by decide +kernel), List.mem_of_getElem? (i := 4) (by decide +kernel)⟩
set_option maxRecDepth 100000 in
theorem mc_X1_init : k_Mc yX1_init cX1_init 1 none 0 := ⟨List.mem_of_getElem? (i := 78) (by decide +kernel), List.mem_of_getElem? (i := 27) (by decide +kernel), by decide +kernel, by decide +kernel, by decide +kernel⟩
set_option maxRecDepth 100000 in
theorem mi_X1_init : Cond.instanceMethod yX1_init ∈ lw_tbl := List.mem_of_getElem? (i := 77) (by decide +kernel)
set_option maxRecDepth 100000 in
theorem mc_X1_carrierAt : k_Mc yX1_carrierAt cX1_carrierAt 2 (some .int) 1 := ⟨List.mem_of_getElem? (i := 451) (by decide +kernel), List.mem_of_getElem? (i := 27) (by decide +kernel), by decide +kernel, by decide +kernel, by decide +kernel⟩
set_option maxRecDepth 100000 in
theorem mv_X1_carrierAt : k_Mv yX1_carrierAt := ⟨List.mem_of_getElem? (i := 449) (by decide +kernel), List.mem_of_getElem? (i := 450) (by decide +kernel)⟩
set_option maxRecDepth 100000 in
theorem mc_X1_clear : k_Mc yX1_clear cX1_clear 1 none 0 := ⟨List.mem_of_getElem? (i := 386) (by decide +kernel), List.mem_of_getElem? (i := 27) (by decide +kernel), by decide +kernel, by decide +kernel, by decide +kernel⟩
set_option maxRecDepth 100000 in
theorem mv_X1_clear : k_Mv yX1_clear := ⟨List.mem_of_getElem? (i := 384) (by decide +kernel), List.mem_of_getElem? (i := 385) (by decide +kernel)⟩
set_option maxRecDepth 100000 in
theorem mc_X1_add : k_Mc yX1_add cX1_add 2 none 1 := ⟨List.mem_of_getElem? (i := 390) (by decide +kernel), List.mem_of_getElem? (i := 27) (by decide +kernel), by decide +kernel, by decide +kernel, by decide +kernel⟩
set_option maxRecDepth 100000 in
theorem mv_X1_add : k_Mv yX1_add := ⟨List.mem_of_getElem? (i := 388) (by decide +kernel), List.mem_of_getElem? (i := 389) (by decide +kernel)⟩
set_option maxRecDepth 100000 in
theorem mc_X1_become : k_Mc yX1_become cX1_become 3 none 1 := ⟨List.mem_of_getElem? (i := 446) (by decide +kernel), List.mem_of_getElem? (i := 27) (by decide +kernel), by decide +kernel, by decide +kernel, by decide +kernel⟩
set_option maxRecDepth 100000 in
theorem mv_X1_become : k_Mv yX1_become := ⟨List.mem_of_getElem? (i := 444) (by decide +kernel), List.mem_of_getElem? (i := 445) (by decide +kernel)⟩
set_option maxRecDepth 100000 in
theorem mc_X2_init : k_Mc yX2_init cX2_init 4 none 3 := ⟨List.mem_of_getElem? (i := 276) (by decide +kernel), List.mem_of_getElem? (i := 35) (by decide +kernel), by decide +kernel, by decide +kernel, by decide +kernel⟩
set_option maxRecDepth 100000 in
theorem mi_X2_init : Cond.instanceMethod yX2_init ∈ lw_tbl := List.mem_of_getElem? (i := 275) (by decide +kernel)
set_option maxRecDepth 100000 in
theorem mc_X2_homeAt : k_Mc yX2_homeAt cX2_homeAt 2 (some .int) 1 := ⟨List.mem_of_getElem? (i := 309) (by decide +kernel), List.mem_of_getElem? (i := 35) (by decide +kernel), by decide +kernel, by decide +kernel, by decide +kernel⟩
set_option maxRecDepth 100000 in
theorem mv_X2_homeAt : k_Mv yX2_homeAt := ⟨List.mem_of_getElem? (i := 307) (by decide +kernel), List.mem_of_getElem? (i := 308) (by decide +kernel)⟩
set_option maxRecDepth 100000 in
theorem mc_X2_moveTo : k_Mc yX2_moveTo cX2_moveTo 2 (some .boolean) 1 := ⟨List.mem_of_getElem? (i := 314) (by decide +kernel), List.mem_of_getElem? (i := 35) (by decide +kernel), by decide +kernel, by decide +kernel, by decide +kernel⟩
set_option maxRecDepth 100000 in
theorem mv_X2_moveTo : k_Mv yX2_moveTo := ⟨List.mem_of_getElem? (i := 312) (by decide +kernel), List.mem_of_getElem? (i := 313) (by decide +kernel)⟩
set_option maxRecDepth 100000 in
theorem mc_X2_pay : k_Mc yX2_pay cX2_pay 3 (some .boolean) 2 := ⟨List.mem_of_getElem? (i := 491) (by decide +kernel), List.mem_of_getElem? (i := 35) (by decide +kernel), by decide +kernel, by decide +kernel, by decide +kernel⟩
set_option maxRecDepth 100000 in
theorem mv_X2_pay : k_Mv yX2_pay := ⟨List.mem_of_getElem? (i := 489) (by decide +kernel), List.mem_of_getElem? (i := 490) (by decide +kernel)⟩
set_option maxRecDepth 100000 in
theorem mc_X3_init : k_Mc yX3_init cX3_init 5 none 4 := ⟨List.mem_of_getElem? (i := 403) (by decide +kernel), List.mem_of_getElem? (i := 37) (by decide +kernel), by decide +kernel, by decide +kernel, by decide +kernel⟩
set_option maxRecDepth 100000 in
theorem mi_X3_init : Cond.instanceMethod yX3_init ∈ lw_tbl := List.mem_of_getElem? (i := 402) (by decide +kernel)
set_option maxRecDepth 100000 in
theorem mc_X3_isStepDue : k_Mc yX3_isStepDue cX3_isStepDue 1 (some .boolean) 0 := ⟨List.mem_of_getElem? (i := 487) (by decide +kernel), List.mem_of_getElem? (i := 37) (by decide +kernel), by decide +kernel, by decide +kernel, by decide +kernel⟩
set_option maxRecDepth 100000 in
theorem mv_X3_isStepDue : k_Mv yX3_isStepDue := ⟨List.mem_of_getElem? (i := 485) (by decide +kernel), List.mem_of_getElem? (i := 486) (by decide +kernel)⟩
set_option maxRecDepth 100000 in
theorem mc_X3_addCharge : k_Mc yX3_addCharge cX3_addCharge 3 none 2 := ⟨List.mem_of_getElem? (i := 503) (by decide +kernel), List.mem_of_getElem? (i := 37) (by decide +kernel), by decide +kernel, by decide +kernel, by decide +kernel⟩
set_option maxRecDepth 100000 in
theorem mv_X3_addCharge : k_Mv yX3_addCharge := ⟨List.mem_of_getElem? (i := 501) (by decide +kernel), List.mem_of_getElem? (i := 502) (by decide +kernel)⟩
set_option maxRecDepth 100000 in
theorem mc_X3_chargeOf : k_Mc yX3_chargeOf cX3_chargeOf 2 (some .long) 1 := ⟨List.mem_of_getElem? (i := 582) (by decide +kernel), List.mem_of_getElem? (i := 37) (by decide +kernel), by decide +kernel, by decide +kernel, by decide +kernel⟩
set_option maxRecDepth 100000 in
theorem mv_X3_chargeOf : k_Mv yX3_chargeOf := ⟨List.mem_of_getElem? (i := 580) (by decide +kernel), List.mem_of_getElem? (i := 581) (by decide +kernel)⟩
set_option maxRecDepth 100000 in
theorem mc_X4_init : k_Mc yX4_init cX4_init 1 none 0 := ⟨List.mem_of_getElem? (i := 42) (by decide +kernel), List.mem_of_getElem? (i := 24) (by decide +kernel), by decide +kernel, by decide +kernel, by decide +kernel⟩
set_option maxRecDepth 100000 in
theorem mi_X4_init : Cond.instanceMethod yX4_init ∈ lw_tbl := List.mem_of_getElem? (i := 41) (by decide +kernel)
set_option maxRecDepth 100000 in
theorem mc_X4_tariff : k_Mc yX4_tariff cX4_tariff 5 (some .int) 3 := ⟨List.mem_of_getElem? (i := 123) (by decide +kernel), List.mem_of_getElem? (i := 24) (by decide +kernel), by decide +kernel, by decide +kernel, by decide +kernel⟩
set_option maxRecDepth 100000 in
theorem mv_X4_tariff : k_Mv yX4_tariff := ⟨List.mem_of_getElem? (i := 121) (by decide +kernel), List.mem_of_getElem? (i := 122) (by decide +kernel)⟩
set_option maxRecDepth 100000 in
theorem mc_X4_link : k_Mc yX4_link cX4_link 6 (some .boolean) 4 := ⟨List.mem_of_getElem? (i := 223) (by decide +kernel), List.mem_of_getElem? (i := 24) (by decide +kernel), by decide +kernel, by decide +kernel, by decide +kernel⟩
set_option maxRecDepth 100000 in
theorem mv_X4_link : k_Mv yX4_link := ⟨List.mem_of_getElem? (i := 221) (by decide +kernel), List.mem_of_getElem? (i := 222) (by decide +kernel)⟩
set_option maxRecDepth 100000 in
theorem mc_X4_unlink : k_Mc yX4_unlink cX4_unlink 4 (some .int) 2 := ⟨List.mem_of_getElem? (i := 244) (by decide +kernel), List.mem_of_getElem? (i := 24) (by decide +kernel), by decide +kernel, by decide +kernel, by decide +kernel⟩
set_option maxRecDepth 100000 in
theorem mv_X4_unlink : k_Mv yX4_unlink := ⟨List.mem_of_getElem? (i := 242) (by decide +kernel), List.mem_of_getElem? (i := 243) (by decide +kernel)⟩
set_option maxRecDepth 100000 in
theorem mc_X4_number : k_Mc yX4_number cX4_number 5 (some .int) 3 := ⟨List.mem_of_getElem? (i := 267) (by decide +kernel), List.mem_of_getElem? (i := 24) (by decide +kernel), by decide +kernel, by decide +kernel, by decide +kernel⟩
set_option maxRecDepth 100000 in
theorem mv_X4_number : k_Mv yX4_number := ⟨List.mem_of_getElem? (i := 265) (by decide +kernel), List.mem_of_getElem? (i := 266) (by decide +kernel)⟩
set_option maxRecDepth 100000 in
theorem mc_X4_carryOver : k_Mc yX4_carryOver cX4_carryOver 4 (some .int) 2 := ⟨List.mem_of_getElem? (i := 300) (by decide +kernel), List.mem_of_getElem? (i := 24) (by decide +kernel), by decide +kernel, by decide +kernel, by decide +kernel⟩
set_option maxRecDepth 100000 in
theorem mv_X4_carryOver : k_Mv yX4_carryOver := ⟨List.mem_of_getElem? (i := 298) (by decide +kernel), List.mem_of_getElem? (i := 299) (by decide +kernel)⟩
set_option maxRecDepth 100000 in
theorem mc_X4_home : k_Mc yX4_home cX4_home 4 (some .int) 2 := ⟨List.mem_of_getElem? (i := 322) (by decide +kernel), List.mem_of_getElem? (i := 24) (by decide +kernel), by decide +kernel, by decide +kernel, by decide +kernel⟩
set_option maxRecDepth 100000 in
theorem mv_X4_home : k_Mv yX4_home := ⟨List.mem_of_getElem? (i := 320) (by decide +kernel), List.mem_of_getElem? (i := 321) (by decide +kernel)⟩
set_option maxRecDepth 100000 in
theorem mc_X4_topUp : k_Mc yX4_topUp cX4_topUp 7 (some .int) 3 := ⟨List.mem_of_getElem? (i := 330) (by decide +kernel), List.mem_of_getElem? (i := 24) (by decide +kernel), by decide +kernel, by decide +kernel, by decide +kernel⟩
set_option maxRecDepth 100000 in
theorem mv_X4_topUp : k_Mv yX4_topUp := ⟨List.mem_of_getElem? (i := 328) (by decide +kernel), List.mem_of_getElem? (i := 329) (by decide +kernel)⟩
set_option maxRecDepth 100000 in
theorem mc_X4_balance : k_Mc yX4_balance cX4_balance 2 (some .int) 1 := ⟨List.mem_of_getElem? (i := 339) (by decide +kernel), List.mem_of_getElem? (i := 24) (by decide +kernel), by decide +kernel, by decide +kernel, by decide +kernel⟩
set_option maxRecDepth 100000 in
theorem mv_X4_balance : k_Mv yX4_balance := ⟨List.mem_of_getElem? (i := 337) (by decide +kernel), List.mem_of_getElem? (i := 338) (by decide +kernel)⟩
set_option maxRecDepth 100000 in
theorem mc_X4_bundle : k_Mc yX4_bundle cX4_bundle 2 (some .int) 1 := ⟨List.mem_of_getElem? (i := 346) (by decide +kernel), List.mem_of_getElem? (i := 24) (by decide +kernel), by decide +kernel, by decide +kernel, by decide +kernel⟩
set_option maxRecDepth 100000 in
theorem mv_X4_bundle : k_Mv yX4_bundle := ⟨List.mem_of_getElem? (i := 344) (by decide +kernel), List.mem_of_getElem? (i := 345) (by decide +kernel)⟩
set_option maxRecDepth 100000 in
theorem mc_X4_call : k_Mc yX4_call cX4_call 6 (some .int) 2 := ⟨List.mem_of_getElem? (i := 353) (by decide +kernel), List.mem_of_getElem? (i := 24) (by decide +kernel), by decide +kernel, by decide +kernel, by decide +kernel⟩
set_option maxRecDepth 100000 in
theorem mv_X4_call : k_Mv yX4_call := ⟨List.mem_of_getElem? (i := 351) (by decide +kernel), List.mem_of_getElem? (i := 352) (by decide +kernel)⟩
set_option maxRecDepth 100000 in
theorem mc_X4_hangUp : k_Mc yX4_hangUp cX4_hangUp 3 (some .int) 1 := ⟨List.mem_of_getElem? (i := 459) (by decide +kernel), List.mem_of_getElem? (i := 24) (by decide +kernel), by decide +kernel, by decide +kernel, by decide +kernel⟩
set_option maxRecDepth 100000 in
theorem mv_X4_hangUp : k_Mv yX4_hangUp := ⟨List.mem_of_getElem? (i := 457) (by decide +kernel), List.mem_of_getElem? (i := 458) (by decide +kernel)⟩
set_option maxRecDepth 100000 in
theorem mc_X4_pass : k_Mc yX4_pass cX4_pass 8 (some .int) 1 := ⟨List.mem_of_getElem? (i := 472) (by decide +kernel), List.mem_of_getElem? (i := 24) (by decide +kernel), by decide +kernel, by decide +kernel, by decide +kernel⟩
set_option maxRecDepth 100000 in
theorem mv_X4_pass : k_Mv yX4_pass := ⟨List.mem_of_getElem? (i := 470) (by decide +kernel), List.mem_of_getElem? (i := 471) (by decide +kernel)⟩
set_option maxRecDepth 100000 in
theorem mc_X4_state : k_Mc yX4_state cX4_state 2 (some .int) 1 := ⟨List.mem_of_getElem? (i := 510) (by decide +kernel), List.mem_of_getElem? (i := 24) (by decide +kernel), by decide +kernel, by decide +kernel, by decide +kernel⟩
set_option maxRecDepth 100000 in
theorem mv_X4_state : k_Mv yX4_state := ⟨List.mem_of_getElem? (i := 508) (by decide +kernel), List.mem_of_getElem? (i := 509) (by decide +kernel)⟩
set_option maxRecDepth 100000 in
theorem mc_X4_minutes : k_Mc yX4_minutes cX4_minutes 2 (some .int) 1 := ⟨List.mem_of_getElem? (i := 517) (by decide +kernel), List.mem_of_getElem? (i := 24) (by decide +kernel), by decide +kernel, by decide +kernel, by decide +kernel⟩
set_option maxRecDepth 100000 in
theorem mv_X4_minutes : k_Mv yX4_minutes := ⟨List.mem_of_getElem? (i := 515) (by decide +kernel), List.mem_of_getElem? (i := 516) (by decide +kernel)⟩
set_option maxRecDepth 100000 in
theorem mc_X4_moved : k_Mc yX4_moved cX4_moved 2 (some .int) 1 := ⟨List.mem_of_getElem? (i := 524) (by decide +kernel), List.mem_of_getElem? (i := 24) (by decide +kernel), by decide +kernel, by decide +kernel, by decide +kernel⟩
set_option maxRecDepth 100000 in
theorem mv_X4_moved : k_Mv yX4_moved := ⟨List.mem_of_getElem? (i := 522) (by decide +kernel), List.mem_of_getElem? (i := 523) (by decide +kernel)⟩
set_option maxRecDepth 100000 in
theorem mc_X4_way : k_Mc yX4_way cX4_way 4 (some .int) 2 := ⟨List.mem_of_getElem? (i := 531) (by decide +kernel), List.mem_of_getElem? (i := 24) (by decide +kernel), by decide +kernel, by decide +kernel, by decide +kernel⟩
set_option maxRecDepth 100000 in
theorem mv_X4_way : k_Mv yX4_way := ⟨List.mem_of_getElem? (i := 529) (by decide +kernel), List.mem_of_getElem? (i := 530) (by decide +kernel)⟩
set_option maxRecDepth 100000 in
theorem mc_X4_cost : k_Mc yX4_cost cX4_cost 3 (some .int) 2 := ⟨List.mem_of_getElem? (i := 539) (by decide +kernel), List.mem_of_getElem? (i := 24) (by decide +kernel), by decide +kernel, by decide +kernel, by decide +kernel⟩
set_option maxRecDepth 100000 in
theorem mv_X4_cost : k_Mv yX4_cost := ⟨List.mem_of_getElem? (i := 537) (by decide +kernel), List.mem_of_getElem? (i := 538) (by decide +kernel)⟩
set_option maxRecDepth 100000 in
theorem mc_X4_best : k_Mc yX4_best cX4_best 5 (some .int) 3 := ⟨List.mem_of_getElem? (i := 550) (by decide +kernel), List.mem_of_getElem? (i := 24) (by decide +kernel), by decide +kernel, by decide +kernel, by decide +kernel⟩
set_option maxRecDepth 100000 in
theorem mv_X4_best : k_Mv yX4_best := ⟨List.mem_of_getElem? (i := 548) (by decide +kernel), List.mem_of_getElem? (i := 549) (by decide +kernel)⟩
set_option maxRecDepth 100000 in
theorem mc_X4_isBarred : k_Mc yX4_isBarred cX4_isBarred 3 (some .boolean) 2 := ⟨List.mem_of_getElem? (i := 558) (by decide +kernel), List.mem_of_getElem? (i := 24) (by decide +kernel), by decide +kernel, by decide +kernel, by decide +kernel⟩
set_option maxRecDepth 100000 in
theorem mv_X4_isBarred : k_Mv yX4_isBarred := ⟨List.mem_of_getElem? (i := 556) (by decide +kernel), List.mem_of_getElem? (i := 557) (by decide +kernel)⟩
set_option maxRecDepth 100000 in
theorem mc_X4_debt : k_Mc yX4_debt cX4_debt 3 (some .long) 2 := ⟨List.mem_of_getElem? (i := 566) (by decide +kernel), List.mem_of_getElem? (i := 24) (by decide +kernel), by decide +kernel, by decide +kernel, by decide +kernel⟩
set_option maxRecDepth 100000 in
theorem mv_X4_debt : k_Mv yX4_debt := ⟨List.mem_of_getElem? (i := 564) (by decide +kernel), List.mem_of_getElem? (i := 565) (by decide +kernel)⟩
set_option maxRecDepth 100000 in
theorem mc_X4_charged : k_Mc yX4_charged cX4_charged 10 (some .long) 2 := ⟨List.mem_of_getElem? (i := 577) (by decide +kernel), List.mem_of_getElem? (i := 24) (by decide +kernel), by decide +kernel, by decide +kernel, by decide +kernel⟩
set_option maxRecDepth 100000 in
theorem mv_X4_charged : k_Mv yX4_charged := ⟨List.mem_of_getElem? (i := 575) (by decide +kernel), List.mem_of_getElem? (i := 576) (by decide +kernel)⟩
set_option maxRecDepth 100000 in
theorem mc_X4_position : k_Mc yX4_position cX4_position 5 (some .long) 1 := ⟨List.mem_of_getElem? (i := 589) (by decide +kernel), List.mem_of_getElem? (i := 24) (by decide +kernel), by decide +kernel, by decide +kernel, by decide +kernel⟩
set_option maxRecDepth 100000 in
theorem mv_X4_position : k_Mv yX4_position := ⟨List.mem_of_getElem? (i := 587) (by decide +kernel), List.mem_of_getElem? (i := 588) (by decide +kernel)⟩
set_option maxRecDepth 100000 in
theorem mc_X4_settle : k_Mc yX4_settle cX4_settle 5 (some .long) 2 := ⟨List.mem_of_getElem? (i := 596) (by decide +kernel), List.mem_of_getElem? (i := 24) (by decide +kernel), by decide +kernel, by decide +kernel, by decide +kernel⟩
set_option maxRecDepth 100000 in
theorem mv_X4_settle : k_Mv yX4_settle := ⟨List.mem_of_getElem? (i := 594) (by decide +kernel), List.mem_of_getElem? (i := 595) (by decide +kernel)⟩
set_option maxRecDepth 100000 in
theorem mc_X4_isWithin : k_Mc yX4_isWithin cX4_isWithin 3 (some .boolean) 3 := ⟨List.mem_of_getElem? (i := 200) (by decide +kernel), List.mem_of_getElem? (i := 24) (by decide +kernel), by decide +kernel, by decide +kernel, by decide +kernel⟩
set_option maxRecDepth 100000 in
theorem ms_X4_isWithin : k_Ms yX4_isWithin := List.mem_of_getElem? (i := 199) (by decide +kernel)
set_option maxRecDepth 100000 in
theorem mc_X4_isCarrier : k_Mc yX4_isCarrier cX4_isCarrier 1 (some .boolean) 1 := ⟨List.mem_of_getElem? (i := 129) (by decide +kernel), List.mem_of_getElem? (i := 24) (by decide +kernel), by decide +kernel, by decide +kernel, by decide +kernel⟩
set_option maxRecDepth 100000 in
theorem ms_X4_isCarrier : k_Ms yX4_isCarrier := List.mem_of_getElem? (i := 128) (by decide +kernel)
set_option maxRecDepth 100000 in
theorem mc_X4_pairOf : k_Mc yX4_pairOf cX4_pairOf 3 (some .int) 2 := ⟨List.mem_of_getElem? (i := 232) (by decide +kernel), List.mem_of_getElem? (i := 24) (by decide +kernel), by decide +kernel, by decide +kernel, by decide +kernel⟩
set_option maxRecDepth 100000 in
theorem ms_X4_pairOf : k_Ms yX4_pairOf := List.mem_of_getElem? (i := 231) (by decide +kernel)
set_option maxRecDepth 100000 in
theorem mc_X4_demandCarrier : k_Mc yX4_demandCarrier cX4_demandCarrier 1 none 1 := ⟨List.mem_of_getElem? (i := 126) (by decide +kernel), List.mem_of_getElem? (i := 24) (by decide +kernel), by decide +kernel, by decide +kernel, by decide +kernel⟩
set_option maxRecDepth 100000 in
theorem ms_X4_demandCarrier : k_Ms yX4_demandCarrier := List.mem_of_getElem? (i := 125) (by decide +kernel)
set_option maxRecDepth 100000 in
theorem mc_X4_demandCredit : k_Mc yX4_demandCredit cX4_demandCredit 2 none 2 := ⟨List.mem_of_getElem? (i := 270) (by decide +kernel), List.mem_of_getElem? (i := 24) (by decide +kernel), by decide +kernel, by decide +kernel, by decide +kernel⟩
set_option maxRecDepth 100000 in
theorem ms_X4_demandCredit : k_Ms yX4_demandCredit := List.mem_of_getElem? (i := 269) (by decide +kernel)
set_option maxRecDepth 100000 in
theorem mc_X4_subscriberOf : k_Mc yX4_subscriberOf cX4_subscriberOf 3 (some (.object "RoamLedger$Subscriber")) 1 := ⟨List.mem_of_getElem? (i := 304) (by decide +kernel), List.mem_of_getElem? (i := 24) (by decide +kernel), by decide +kernel, by decide +kernel, by decide +kernel⟩
set_option maxRecDepth 100000 in
theorem mv_X4_subscriberOf : k_Mv yX4_subscriberOf := ⟨List.mem_of_getElem? (i := 303) (by decide +kernel), List.mem_of_getElem? (i := 1) (by decide +kernel)⟩
set_option maxRecDepth 100000 in
theorem mc_X4_talkOf : k_Mc yX4_talkOf cX4_talkOf 3 (some (.object "RoamLedger$Talk")) 1 := ⟨List.mem_of_getElem? (i := 463) (by decide +kernel), List.mem_of_getElem? (i := 24) (by decide +kernel), by decide +kernel, by decide +kernel, by decide +kernel⟩
set_option maxRecDepth 100000 in
theorem mv_X4_talkOf : k_Mv yX4_talkOf := ⟨List.mem_of_getElem? (i := 462) (by decide +kernel), List.mem_of_getElem? (i := 7) (by decide +kernel)⟩
set_option maxRecDepth 100000 in
theorem mc_X4_isTalking : k_Mc yX4_isTalking cX4_isTalking 6 (some .boolean) 1 := ⟨List.mem_of_getElem? (i := 358) (by decide +kernel), List.mem_of_getElem? (i := 24) (by decide +kernel), by decide +kernel, by decide +kernel, by decide +kernel⟩
set_option maxRecDepth 100000 in
theorem mv_X4_isTalking : k_Mv yX4_isTalking := ⟨List.mem_of_getElem? (i := 357) (by decide +kernel), List.mem_of_getElem? (i := 2) (by decide +kernel)⟩
set_option maxRecDepth 100000 in
theorem mc_X4_newTalk : k_Mc yX4_newTalk cX4_newTalk 8 (some (.object "RoamLedger$Talk")) 3 := ⟨List.mem_of_getElem? (i := 399) (by decide +kernel), List.mem_of_getElem? (i := 24) (by decide +kernel), by decide +kernel, by decide +kernel, by decide +kernel⟩
set_option maxRecDepth 100000 in
theorem mv_X4_newTalk : k_Mv yX4_newTalk := ⟨List.mem_of_getElem? (i := 398) (by decide +kernel), List.mem_of_getElem? (i := 6) (by decide +kernel)⟩
set_option maxRecDepth 100000 in
theorem mc_X4_runOneMinute : k_Mc yX4_runOneMinute cX4_runOneMinute 3 (some .boolean) 1 := ⟨List.mem_of_getElem? (i := 477) (by decide +kernel), List.mem_of_getElem? (i := 24) (by decide +kernel), by decide +kernel, by decide +kernel, by decide +kernel⟩
set_option maxRecDepth 100000 in
theorem mv_X4_runOneMinute : k_Mv yX4_runOneMinute := ⟨List.mem_of_getElem? (i := 476) (by decide +kernel), List.mem_of_getElem? (i := 8) (by decide +kernel)⟩
set_option maxRecDepth 100000 in
theorem mc_X5_init : k_Mc yX5_init cX5_init 2 none 0 := ⟨List.mem_of_getElem? (i := 603) (by decide +kernel), List.mem_of_getElem? (i := 28) (by decide +kernel), by decide +kernel, by decide +kernel, by decide +kernel⟩
set_option maxRecDepth 100000 in
theorem mi_X5_init : Cond.instanceMethod yX5_init ∈ lw_tbl := List.mem_of_getElem? (i := 602) (by decide +kernel)
set_option maxRecDepth 100000 in
theorem mc_X5_thrown : k_Mc yX5_thrown cX5_thrown 1 (some .int) 0 := ⟨List.mem_of_getElem? (i := 691) (by decide +kernel), List.mem_of_getElem? (i := 28) (by decide +kernel), by decide +kernel, by decide +kernel, by decide +kernel⟩
set_option maxRecDepth 100000 in
theorem mv_X5_thrown : k_Mv yX5_thrown := ⟨List.mem_of_getElem? (i := 689) (by decide +kernel), List.mem_of_getElem? (i := 690) (by decide +kernel)⟩
set_option maxRecDepth 100000 in
theorem mc_X5_isIn : k_Mc yX5_isIn cX5_isIn 3 (some .boolean) 3 := ⟨List.mem_of_getElem? (i := 701) (by decide +kernel), List.mem_of_getElem? (i := 28) (by decide +kernel), by decide +kernel, by decide +kernel, by decide +kernel⟩
set_option maxRecDepth 100000 in
theorem ms_X5_isIn : k_Ms yX5_isIn := List.mem_of_getElem? (i := 700) (by decide +kernel)
set_option maxRecDepth 100000 in
theorem mc_X5_isCarrier : k_Mc yX5_isCarrier cX5_isCarrier 1 (some .boolean) 1 := ⟨List.mem_of_getElem? (i := 698) (by decide +kernel), List.mem_of_getElem? (i := 28) (by decide +kernel), by decide +kernel, by decide +kernel, by decide +kernel⟩
set_option maxRecDepth 100000 in
theorem ms_X5_isCarrier : k_Ms yX5_isCarrier := List.mem_of_getElem? (i := 697) (by decide +kernel)
set_option maxRecDepth 100000 in
theorem mc_X5_areCarriers : k_Mc yX5_areCarriers cX5_areCarriers 2 (some .boolean) 2 := ⟨List.mem_of_getElem? (i := 709) (by decide +kernel), List.mem_of_getElem? (i := 28) (by decide +kernel), by decide +kernel, by decide +kernel, by decide +kernel⟩
set_option maxRecDepth 100000 in
theorem ms_X5_areCarriers : k_Ms yX5_areCarriers := List.mem_of_getElem? (i := 708) (by decide +kernel)
set_option maxRecDepth 100000 in
theorem mc_X5_isNumber : k_Mc yX5_isNumber cX5_isNumber 2 (some .boolean) 1 := ⟨List.mem_of_getElem? (i := 725) (by decide +kernel), List.mem_of_getElem? (i := 28) (by decide +kernel), by decide +kernel, by decide +kernel, by decide +kernel⟩
set_option maxRecDepth 100000 in
theorem mv_X5_isNumber : k_Mv yX5_isNumber := ⟨List.mem_of_getElem? (i := 724) (by decide +kernel), List.mem_of_getElem? (i := 9) (by decide +kernel)⟩
set_option maxRecDepth 100000 in
theorem mc_X5_isCall : k_Mc yX5_isCall cX5_isCall 2 (some .boolean) 1 := ⟨List.mem_of_getElem? (i := 786) (by decide +kernel), List.mem_of_getElem? (i := 28) (by decide +kernel), by decide +kernel, by decide +kernel, by decide +kernel⟩
set_option maxRecDepth 100000 in
theorem mv_X5_isCall : k_Mv yX5_isCall := ⟨List.mem_of_getElem? (i := 785) (by decide +kernel), List.mem_of_getElem? (i := 18) (by decide +kernel)⟩
set_option maxRecDepth 100000 in
theorem mc_X5_homeOf : k_Mc yX5_homeOf cX5_homeOf 2 (some .int) 1 := ⟨List.mem_of_getElem? (i := 729) (by decide +kernel), List.mem_of_getElem? (i := 28) (by decide +kernel), by decide +kernel, by decide +kernel, by decide +kernel⟩
set_option maxRecDepth 100000 in
theorem mv_X5_homeOf : k_Mv yX5_homeOf := ⟨List.mem_of_getElem? (i := 728) (by decide +kernel), List.mem_of_getElem? (i := 10) (by decide +kernel)⟩
set_option maxRecDepth 100000 in
theorem mc_X5_tariff : k_Mc yX5_tariff cX5_tariff 5 (some .int) 3 := ⟨List.mem_of_getElem? (i := 695) (by decide +kernel), List.mem_of_getElem? (i := 28) (by decide +kernel), by decide +kernel, by decide +kernel, by decide +kernel⟩
set_option maxRecDepth 100000 in
theorem mv_X5_tariff : k_Mv yX5_tariff := ⟨List.mem_of_getElem? (i := 693) (by decide +kernel), List.mem_of_getElem? (i := 694) (by decide +kernel)⟩
set_option maxRecDepth 100000 in
theorem mc_X5_link : k_Mc yX5_link cX5_link 8 (some .boolean) 4 := ⟨List.mem_of_getElem? (i := 705) (by decide +kernel), List.mem_of_getElem? (i := 28) (by decide +kernel), by decide +kernel, by decide +kernel, by decide +kernel⟩
set_option maxRecDepth 100000 in
theorem mv_X5_link : k_Mv yX5_link := ⟨List.mem_of_getElem? (i := 703) (by decide +kernel), List.mem_of_getElem? (i := 704) (by decide +kernel)⟩
set_option maxRecDepth 100000 in
theorem mc_X5_unlink : k_Mc yX5_unlink cX5_unlink 4 (some .int) 2 := ⟨List.mem_of_getElem? (i := 713) (by decide +kernel), List.mem_of_getElem? (i := 28) (by decide +kernel), by decide +kernel, by decide +kernel, by decide +kernel⟩
set_option maxRecDepth 100000 in
theorem mv_X5_unlink : k_Mv yX5_unlink := ⟨List.mem_of_getElem? (i := 711) (by decide +kernel), List.mem_of_getElem? (i := 712) (by decide +kernel)⟩
set_option maxRecDepth 100000 in
theorem mc_X5_number : k_Mc yX5_number cX5_number 5 (some .int) 3 := ⟨List.mem_of_getElem? (i := 717) (by decide +kernel), List.mem_of_getElem? (i := 28) (by decide +kernel), by decide +kernel, by decide +kernel, by decide +kernel⟩
set_option maxRecDepth 100000 in
theorem mv_X5_number : k_Mv yX5_number := ⟨List.mem_of_getElem? (i := 715) (by decide +kernel), List.mem_of_getElem? (i := 716) (by decide +kernel)⟩
set_option maxRecDepth 100000 in
theorem mc_X5_carryOver : k_Mc yX5_carryOver cX5_carryOver 3 (some .int) 2 := ⟨List.mem_of_getElem? (i := 721) (by decide +kernel), List.mem_of_getElem? (i := 28) (by decide +kernel), by decide +kernel, by decide +kernel, by decide +kernel⟩
set_option maxRecDepth 100000 in
theorem mv_X5_carryOver : k_Mv yX5_carryOver := ⟨List.mem_of_getElem? (i := 719) (by decide +kernel), List.mem_of_getElem? (i := 720) (by decide +kernel)⟩
set_option maxRecDepth 100000 in
theorem mc_X5_home : k_Mc yX5_home cX5_home 4 (some .int) 2 := ⟨List.mem_of_getElem? (i := 733) (by decide +kernel), List.mem_of_getElem? (i := 28) (by decide +kernel), by decide +kernel, by decide +kernel, by decide +kernel⟩
set_option maxRecDepth 100000 in
theorem mv_X5_home : k_Mv yX5_home := ⟨List.mem_of_getElem? (i := 731) (by decide +kernel), List.mem_of_getElem? (i := 732) (by decide +kernel)⟩
set_option maxRecDepth 100000 in
theorem mc_X5_topUp : k_Mc yX5_topUp cX5_topUp 4 (some .int) 3 := ⟨List.mem_of_getElem? (i := 737) (by decide +kernel), List.mem_of_getElem? (i := 28) (by decide +kernel), by decide +kernel, by decide +kernel, by decide +kernel⟩
set_option maxRecDepth 100000 in
theorem mv_X5_topUp : k_Mv yX5_topUp := ⟨List.mem_of_getElem? (i := 735) (by decide +kernel), List.mem_of_getElem? (i := 736) (by decide +kernel)⟩
set_option maxRecDepth 100000 in
theorem mc_X5_balance : k_Mc yX5_balance cX5_balance 2 (some .int) 1 := ⟨List.mem_of_getElem? (i := 742) (by decide +kernel), List.mem_of_getElem? (i := 28) (by decide +kernel), by decide +kernel, by decide +kernel, by decide +kernel⟩
set_option maxRecDepth 100000 in
theorem mv_X5_balance : k_Mv yX5_balance := ⟨List.mem_of_getElem? (i := 740) (by decide +kernel), List.mem_of_getElem? (i := 741) (by decide +kernel)⟩
set_option maxRecDepth 100000 in
theorem mc_X5_bundle : k_Mc yX5_bundle cX5_bundle 2 (some .int) 1 := ⟨List.mem_of_getElem? (i := 746) (by decide +kernel), List.mem_of_getElem? (i := 28) (by decide +kernel), by decide +kernel, by decide +kernel, by decide +kernel⟩
set_option maxRecDepth 100000 in
theorem mv_X5_bundle : k_Mv yX5_bundle := ⟨List.mem_of_getElem? (i := 744) (by decide +kernel), List.mem_of_getElem? (i := 745) (by decide +kernel)⟩
set_option maxRecDepth 100000 in
theorem mc_X5_debtOf : k_Mc yX5_debtOf cX5_debtOf 5 (some .long) 2 := ⟨List.mem_of_getElem? (i := 774) (by decide +kernel), List.mem_of_getElem? (i := 28) (by decide +kernel), by decide +kernel, by decide +kernel, by decide +kernel⟩
set_option maxRecDepth 100000 in
theorem mv_X5_debtOf : k_Mv yX5_debtOf := ⟨List.mem_of_getElem? (i := 773) (by decide +kernel), List.mem_of_getElem? (i := 16) (by decide +kernel)⟩
set_option maxRecDepth 100000 in
theorem mc_X5_isShut : k_Mc yX5_isShut cX5_isShut 4 (some .boolean) 2 := ⟨List.mem_of_getElem? (i := 770) (by decide +kernel), List.mem_of_getElem? (i := 28) (by decide +kernel), by decide +kernel, by decide +kernel, by decide +kernel⟩
set_option maxRecDepth 100000 in
theorem mv_X5_isShut : k_Mv yX5_isShut := ⟨List.mem_of_getElem? (i := 769) (by decide +kernel), List.mem_of_getElem? (i := 15) (by decide +kernel)⟩
set_option maxRecDepth 100000 in
theorem mc_X5_canGo : k_Mc yX5_canGo cX5_canGo 5 (some .boolean) 1 := ⟨List.mem_of_getElem? (i := 766) (by decide +kernel), List.mem_of_getElem? (i := 28) (by decide +kernel), by decide +kernel, by decide +kernel, by decide +kernel⟩
set_option maxRecDepth 100000 in
theorem mv_X5_canGo : k_Mv yX5_canGo := ⟨List.mem_of_getElem? (i := 765) (by decide +kernel), List.mem_of_getElem? (i := 14) (by decide +kernel)⟩
set_option maxRecDepth 100000 in
theorem mc_X5_costOf : k_Mc yX5_costOf cX5_costOf 4 (some .int) 1 := ⟨List.mem_of_getElem? (i := 762) (by decide +kernel), List.mem_of_getElem? (i := 28) (by decide +kernel), by decide +kernel, by decide +kernel, by decide +kernel⟩
set_option maxRecDepth 100000 in
theorem mv_X5_costOf : k_Mv yX5_costOf := ⟨List.mem_of_getElem? (i := 761) (by decide +kernel), List.mem_of_getElem? (i := 13) (by decide +kernel)⟩
set_option maxRecDepth 100000 in
theorem mc_X5_finds : k_Mc yX5_finds cX5_finds 7 (some .boolean) 2 := ⟨List.mem_of_getElem? (i := 758) (by decide +kernel), List.mem_of_getElem? (i := 28) (by decide +kernel), by decide +kernel, by decide +kernel, by decide +kernel⟩
set_option maxRecDepth 100000 in
theorem mv_X5_finds : k_Mv yX5_finds := ⟨List.mem_of_getElem? (i := 757) (by decide +kernel), List.mem_of_getElem? (i := 12) (by decide +kernel)⟩
set_option maxRecDepth 100000 in
theorem mc_X5_isBusy : k_Mc yX5_isBusy cX5_isBusy 4 (some .boolean) 1 := ⟨List.mem_of_getElem? (i := 754) (by decide +kernel), List.mem_of_getElem? (i := 28) (by decide +kernel), by decide +kernel, by decide +kernel, by decide +kernel⟩
set_option maxRecDepth 100000 in
theorem mv_X5_isBusy : k_Mv yX5_isBusy := ⟨List.mem_of_getElem? (i := 753) (by decide +kernel), List.mem_of_getElem? (i := 11) (by decide +kernel)⟩
set_option maxRecDepth 100000 in
theorem mc_X5_takesBest : k_Mc yX5_takesBest cX5_takesBest 3 none 1 := ⟨List.mem_of_getElem? (i := 778) (by decide +kernel), List.mem_of_getElem? (i := 28) (by decide +kernel), by decide +kernel, by decide +kernel, by decide +kernel⟩
set_option maxRecDepth 100000 in
theorem mv_X5_takesBest : k_Mv yX5_takesBest := ⟨List.mem_of_getElem? (i := 777) (by decide +kernel), List.mem_of_getElem? (i := 17) (by decide +kernel)⟩
set_option maxRecDepth 100000 in
theorem mc_X5_call : k_Mc yX5_call cX5_call 4 (some .int) 2 := ⟨List.mem_of_getElem? (i := 750) (by decide +kernel), List.mem_of_getElem? (i := 28) (by decide +kernel), by decide +kernel, by decide +kernel, by decide +kernel⟩
set_option maxRecDepth 100000 in
theorem mv_X5_call : k_Mv yX5_call := ⟨List.mem_of_getElem? (i := 748) (by decide +kernel), List.mem_of_getElem? (i := 749) (by decide +kernel)⟩
set_option maxRecDepth 100000 in
theorem mc_X5_hangUp : k_Mc yX5_hangUp cX5_hangUp 2 (some .int) 1 := ⟨List.mem_of_getElem? (i := 782) (by decide +kernel), List.mem_of_getElem? (i := 28) (by decide +kernel), by decide +kernel, by decide +kernel, by decide +kernel⟩
set_option maxRecDepth 100000 in
theorem mv_X5_hangUp : k_Mv yX5_hangUp := ⟨List.mem_of_getElem? (i := 780) (by decide +kernel), List.mem_of_getElem? (i := 781) (by decide +kernel)⟩
set_option maxRecDepth 100000 in
theorem mc_X5_isStopped : k_Mc yX5_isStopped cX5_isStopped 4 (some .boolean) 1 := ⟨List.mem_of_getElem? (i := 798) (by decide +kernel), List.mem_of_getElem? (i := 28) (by decide +kernel), by decide +kernel, by decide +kernel, by decide +kernel⟩
set_option maxRecDepth 100000 in
theorem mv_X5_isStopped : k_Mv yX5_isStopped := ⟨List.mem_of_getElem? (i := 797) (by decide +kernel), List.mem_of_getElem? (i := 20) (by decide +kernel)⟩
set_option maxRecDepth 100000 in
theorem mc_X5_isPaid : k_Mc yX5_isPaid cX5_isPaid 4 (some .boolean) 1 := ⟨List.mem_of_getElem? (i := 802) (by decide +kernel), List.mem_of_getElem? (i := 28) (by decide +kernel), by decide +kernel, by decide +kernel, by decide +kernel⟩
set_option maxRecDepth 100000 in
theorem mv_X5_isPaid : k_Mv yX5_isPaid := ⟨List.mem_of_getElem? (i := 801) (by decide +kernel), List.mem_of_getElem? (i := 21) (by decide +kernel)⟩
set_option maxRecDepth 100000 in
theorem mc_X5_minute : k_Mc yX5_minute cX5_minute 5 none 1 := ⟨List.mem_of_getElem? (i := 794) (by decide +kernel), List.mem_of_getElem? (i := 28) (by decide +kernel), by decide +kernel, by decide +kernel, by decide +kernel⟩
set_option maxRecDepth 100000 in
theorem mv_X5_minute : k_Mv yX5_minute := ⟨List.mem_of_getElem? (i := 793) (by decide +kernel), List.mem_of_getElem? (i := 19) (by decide +kernel)⟩
set_option maxRecDepth 100000 in
theorem mc_X5_pass : k_Mc yX5_pass cX5_pass 5 (some .int) 1 := ⟨List.mem_of_getElem? (i := 790) (by decide +kernel), List.mem_of_getElem? (i := 28) (by decide +kernel), by decide +kernel, by decide +kernel, by decide +kernel⟩
set_option maxRecDepth 100000 in
theorem mv_X5_pass : k_Mv yX5_pass := ⟨List.mem_of_getElem? (i := 788) (by decide +kernel), List.mem_of_getElem? (i := 789) (by decide +kernel)⟩
set_option maxRecDepth 100000 in
theorem mc_X5_asks : k_Mc yX5_asks cX5_asks 2 (some .boolean) 1 := ⟨List.mem_of_getElem? (i := 810) (by decide +kernel), List.mem_of_getElem? (i := 28) (by decide +kernel), by decide +kernel, by decide +kernel, by decide +kernel⟩
set_option maxRecDepth 100000 in
theorem mv_X5_asks : k_Mv yX5_asks := ⟨List.mem_of_getElem? (i := 809) (by decide +kernel), List.mem_of_getElem? (i := 22) (by decide +kernel)⟩
set_option maxRecDepth 100000 in
theorem mc_X5_state : k_Mc yX5_state cX5_state 2 (some .int) 1 := ⟨List.mem_of_getElem? (i := 806) (by decide +kernel), List.mem_of_getElem? (i := 28) (by decide +kernel), by decide +kernel, by decide +kernel, by decide +kernel⟩
set_option maxRecDepth 100000 in
theorem mv_X5_state : k_Mv yX5_state := ⟨List.mem_of_getElem? (i := 804) (by decide +kernel), List.mem_of_getElem? (i := 805) (by decide +kernel)⟩
set_option maxRecDepth 100000 in
theorem mc_X5_minutes : k_Mc yX5_minutes cX5_minutes 2 (some .int) 1 := ⟨List.mem_of_getElem? (i := 814) (by decide +kernel), List.mem_of_getElem? (i := 28) (by decide +kernel), by decide +kernel, by decide +kernel, by decide +kernel⟩
set_option maxRecDepth 100000 in
theorem mv_X5_minutes : k_Mv yX5_minutes := ⟨List.mem_of_getElem? (i := 812) (by decide +kernel), List.mem_of_getElem? (i := 813) (by decide +kernel)⟩
set_option maxRecDepth 100000 in
theorem mc_X5_moved : k_Mc yX5_moved cX5_moved 2 (some .int) 1 := ⟨List.mem_of_getElem? (i := 818) (by decide +kernel), List.mem_of_getElem? (i := 28) (by decide +kernel), by decide +kernel, by decide +kernel, by decide +kernel⟩
set_option maxRecDepth 100000 in
theorem mv_X5_moved : k_Mv yX5_moved := ⟨List.mem_of_getElem? (i := 816) (by decide +kernel), List.mem_of_getElem? (i := 817) (by decide +kernel)⟩
set_option maxRecDepth 100000 in
theorem mc_X5_way : k_Mc yX5_way cX5_way 3 (some .int) 2 := ⟨List.mem_of_getElem? (i := 822) (by decide +kernel), List.mem_of_getElem? (i := 28) (by decide +kernel), by decide +kernel, by decide +kernel, by decide +kernel⟩
set_option maxRecDepth 100000 in
theorem mv_X5_way : k_Mv yX5_way := ⟨List.mem_of_getElem? (i := 820) (by decide +kernel), List.mem_of_getElem? (i := 821) (by decide +kernel)⟩
set_option maxRecDepth 100000 in
theorem mc_X5_cost : k_Mc yX5_cost cX5_cost 3 (some .int) 2 := ⟨List.mem_of_getElem? (i := 826) (by decide +kernel), List.mem_of_getElem? (i := 28) (by decide +kernel), by decide +kernel, by decide +kernel, by decide +kernel⟩
set_option maxRecDepth 100000 in
theorem mv_X5_cost : k_Mv yX5_cost := ⟨List.mem_of_getElem? (i := 824) (by decide +kernel), List.mem_of_getElem? (i := 825) (by decide +kernel)⟩
set_option maxRecDepth 100000 in
theorem mc_X5_best : k_Mc yX5_best cX5_best 4 (some .int) 3 := ⟨List.mem_of_getElem? (i := 830) (by decide +kernel), List.mem_of_getElem? (i := 28) (by decide +kernel), by decide +kernel, by decide +kernel, by decide +kernel⟩
set_option maxRecDepth 100000 in
theorem mv_X5_best : k_Mv yX5_best := ⟨List.mem_of_getElem? (i := 828) (by decide +kernel), List.mem_of_getElem? (i := 829) (by decide +kernel)⟩
set_option maxRecDepth 100000 in
theorem mc_X5_isBarred : k_Mc yX5_isBarred cX5_isBarred 3 (some .boolean) 2 := ⟨List.mem_of_getElem? (i := 834) (by decide +kernel), List.mem_of_getElem? (i := 28) (by decide +kernel), by decide +kernel, by decide +kernel, by decide +kernel⟩
set_option maxRecDepth 100000 in
theorem mv_X5_isBarred : k_Mv yX5_isBarred := ⟨List.mem_of_getElem? (i := 832) (by decide +kernel), List.mem_of_getElem? (i := 833) (by decide +kernel)⟩
set_option maxRecDepth 100000 in
theorem mc_X5_debt : k_Mc yX5_debt cX5_debt 3 (some .long) 2 := ⟨List.mem_of_getElem? (i := 838) (by decide +kernel), List.mem_of_getElem? (i := 28) (by decide +kernel), by decide +kernel, by decide +kernel, by decide +kernel⟩
set_option maxRecDepth 100000 in
theorem mv_X5_debt : k_Mv yX5_debt := ⟨List.mem_of_getElem? (i := 836) (by decide +kernel), List.mem_of_getElem? (i := 837) (by decide +kernel)⟩
set_option maxRecDepth 100000 in
theorem mc_X5_charged : k_Mc yX5_charged cX5_charged 3 (some .long) 2 := ⟨List.mem_of_getElem? (i := 842) (by decide +kernel), List.mem_of_getElem? (i := 28) (by decide +kernel), by decide +kernel, by decide +kernel, by decide +kernel⟩
set_option maxRecDepth 100000 in
theorem mv_X5_charged : k_Mv yX5_charged := ⟨List.mem_of_getElem? (i := 840) (by decide +kernel), List.mem_of_getElem? (i := 841) (by decide +kernel)⟩
set_option maxRecDepth 100000 in
theorem mc_X5_position : k_Mc yX5_position cX5_position 5 (some .long) 1 := ⟨List.mem_of_getElem? (i := 846) (by decide +kernel), List.mem_of_getElem? (i := 28) (by decide +kernel), by decide +kernel, by decide +kernel, by decide +kernel⟩
set_option maxRecDepth 100000 in
theorem mv_X5_position : k_Mv yX5_position := ⟨List.mem_of_getElem? (i := 844) (by decide +kernel), List.mem_of_getElem? (i := 845) (by decide +kernel)⟩
set_option maxRecDepth 100000 in
theorem mc_X5_settle : k_Mc yX5_settle cX5_settle 5 (some .long) 2 := ⟨List.mem_of_getElem? (i := 850) (by decide +kernel), List.mem_of_getElem? (i := 28) (by decide +kernel), by decide +kernel, by decide +kernel, by decide +kernel⟩
set_option maxRecDepth 100000 in
theorem mv_X5_settle : k_Mv yX5_settle := ⟨List.mem_of_getElem? (i := 848) (by decide +kernel), List.mem_of_getElem? (i := 849) (by decide +kernel)⟩
set_option maxRecDepth 100000 in
theorem mc_J9_min_7cf53 : k_Mc yJ9_min_7cf53 cJ9_min_7cf53 2 (some .int) 2 := ⟨List.mem_of_getElem? (i := 382) (by decide +kernel), List.mem_of_getElem? (i := 36) (by decide +kernel), by decide +kernel, by decide +kernel, by decide +kernel⟩
set_option maxRecDepth 100000 in
theorem ms_J9_min_7cf53 : k_Ms yJ9_min_7cf53 := List.mem_of_getElem? (i := 381) (by decide +kernel)
set_option maxRecDepth 100000 in
theorem mc_J7_fill_53178 : k_Mc yJ7_fill_53178 cJ7_fill_53178 4 none 2 := ⟨List.mem_of_getElem? (i := 54) (by decide +kernel), List.mem_of_getElem? (i := 26) (by decide +kernel), by decide +kernel, by decide +kernel, by decide +kernel⟩
set_option maxRecDepth 100000 in
theorem ms_J7_fill_53178 : k_Ms yJ7_fill_53178 := List.mem_of_getElem? (i := 53) (by decide +kernel)
set_option maxRecDepth 100000 in
theorem ms_L_tariff : k_Ms yL_tariff := List.mem_of_getElem? (i := 116) (by decide +kernel)
set_option maxRecDepth 100000 in
theorem ms_L_link : k_Ms yL_link := List.mem_of_getElem? (i := 218) (by decide +kernel)
set_option maxRecDepth 100000 in
theorem ms_L_unlink : k_Ms yL_unlink := List.mem_of_getElem? (i := 238) (by decide +kernel)
set_option maxRecDepth 100000 in
theorem ms_L_number : k_Ms yL_number := List.mem_of_getElem? (i := 262) (by decide +kernel)
set_option maxRecDepth 100000 in
theorem ms_L_carryOver : k_Ms yL_carryOver := List.mem_of_getElem? (i := 295) (by decide +kernel)
set_option maxRecDepth 100000 in
theorem ms_L_home : k_Ms yL_home := List.mem_of_getElem? (i := 317) (by decide +kernel)
set_option maxRecDepth 100000 in
theorem ms_L_topUp : k_Ms yL_topUp := List.mem_of_getElem? (i := 325) (by decide +kernel)
set_option maxRecDepth 100000 in
theorem ms_L_balance : k_Ms yL_balance := List.mem_of_getElem? (i := 334) (by decide +kernel)
set_option maxRecDepth 100000 in
theorem ms_L_bundle : k_Ms yL_bundle := List.mem_of_getElem? (i := 341) (by decide +kernel)
set_option maxRecDepth 100000 in
theorem ms_L_call : k_Ms yL_call := List.mem_of_getElem? (i := 348) (by decide +kernel)
set_option maxRecDepth 100000 in
theorem ms_L_hangUp : k_Ms yL_hangUp := List.mem_of_getElem? (i := 454) (by decide +kernel)
set_option maxRecDepth 100000 in
theorem ms_L_pass : k_Ms yL_pass := List.mem_of_getElem? (i := 467) (by decide +kernel)
set_option maxRecDepth 100000 in
theorem ms_L_state : k_Ms yL_state := List.mem_of_getElem? (i := 505) (by decide +kernel)
set_option maxRecDepth 100000 in
theorem ms_L_minutes : k_Ms yL_minutes := List.mem_of_getElem? (i := 512) (by decide +kernel)
set_option maxRecDepth 100000 in
theorem ms_L_moved : k_Ms yL_moved := List.mem_of_getElem? (i := 519) (by decide +kernel)
set_option maxRecDepth 100000 in
theorem ms_L_way : k_Ms yL_way := List.mem_of_getElem? (i := 526) (by decide +kernel)
set_option maxRecDepth 100000 in
theorem ms_L_cost : k_Ms yL_cost := List.mem_of_getElem? (i := 534) (by decide +kernel)
set_option maxRecDepth 100000 in
theorem ms_L_best : k_Ms yL_best := List.mem_of_getElem? (i := 545) (by decide +kernel)
set_option maxRecDepth 100000 in
theorem ms_L_isBarred : k_Ms yL_isBarred := List.mem_of_getElem? (i := 553) (by decide +kernel)
set_option maxRecDepth 100000 in
theorem ms_L_debt : k_Ms yL_debt := List.mem_of_getElem? (i := 561) (by decide +kernel)
set_option maxRecDepth 100000 in
theorem ms_L_charged : k_Ms yL_charged := List.mem_of_getElem? (i := 572) (by decide +kernel)
set_option maxRecDepth 100000 in
theorem ms_L_position : k_Ms yL_position := List.mem_of_getElem? (i := 584) (by decide +kernel)
set_option maxRecDepth 100000 in
theorem ms_L_settle : k_Ms yL_settle := List.mem_of_getElem? (i := 591) (by decide +kernel)
set_option maxRecDepth 100000 in
theorem lk_L_91 : Cond.methodLink RL 91 yX4_init ∈ lw_tbl := List.mem_of_getElem? (i := 40) (by decide +kernel)
set_option maxRecDepth 100000 in
theorem lk_X4_18 : Cond.methodLink RX4 18 yX0_init ∈ lw_tbl := List.mem_of_getElem? (i := 48) (by decide +kernel)
set_option maxRecDepth 100000 in
theorem lk_X0_25 : Cond.methodLink RX0 25 yJ7_fill_53178 ∈ lw_tbl := List.mem_of_getElem? (i := 52) (by decide +kernel)
set_option maxRecDepth 100000 in
theorem lk_X4_37 : Cond.methodLinkNest RX4 37 yX1_init RX4 ∈ lw_tbl := List.mem_of_getElem? (i := 76) (by decide +kernel)
set_option maxRecDepth 100000 in
theorem lk_X4_42 : Cond.methodLink RX4 42 yJ7_fill_53178 ∈ lw_tbl := List.mem_of_getElem? (i := 89) (by decide +kernel)
set_option maxRecDepth 100000 in
theorem lk_L_95 : Cond.methodLink RL 95 yL_tariff ∈ lw_tbl := List.mem_of_getElem? (i := 115) (by decide +kernel)
set_option maxRecDepth 100000 in
theorem lk_L_7 : Cond.methodLink RL 7 yX4_tariff ∈ lw_tbl := List.mem_of_getElem? (i := 120) (by decide +kernel)
set_option maxRecDepth 100000 in
theorem lk_X4_48 : Cond.methodLink RX4 48 yX4_demandCarrier ∈ lw_tbl := List.mem_of_getElem? (i := 124) (by decide +kernel)
set_option maxRecDepth 100000 in
theorem lk_X4_204 : Cond.methodLink RX4 204 yX4_isCarrier ∈ lw_tbl := List.mem_of_getElem? (i := 127) (by decide +kernel)
set_option maxRecDepth 100000 in
theorem lk_X4_52 : Cond.methodLink RX4 52 yX4_isWithin ∈ lw_tbl := List.mem_of_getElem? (i := 198) (by decide +kernel)
set_option maxRecDepth 100000 in
theorem lk_L_105 : Cond.methodLink RL 105 yL_link ∈ lw_tbl := List.mem_of_getElem? (i := 217) (by decide +kernel)
set_option maxRecDepth 100000 in
theorem lk_L_17 : Cond.methodLink RL 17 yX4_link ∈ lw_tbl := List.mem_of_getElem? (i := 220) (by decide +kernel)
set_option maxRecDepth 100000 in
theorem lk_X4_66 : Cond.methodLink RX4 66 yX0_rateOf ∈ lw_tbl := List.mem_of_getElem? (i := 226) (by decide +kernel)
set_option maxRecDepth 100000 in
theorem lk_X0_31 : Cond.methodLinkNest RX0 31 yX4_pairOf RX4 ∈ lw_tbl := List.mem_of_getElem? (i := 230) (by decide +kernel)
set_option maxRecDepth 100000 in
theorem lk_X4_70 : Cond.methodLink RX4 70 yX0_setLink ∈ lw_tbl := List.mem_of_getElem? (i := 233) (by decide +kernel)
set_option maxRecDepth 100000 in
theorem lk_L_109 : Cond.methodLink RL 109 yL_unlink ∈ lw_tbl := List.mem_of_getElem? (i := 237) (by decide +kernel)
set_option maxRecDepth 100000 in
theorem lk_L_21 : Cond.methodLink RL 21 yX4_unlink ∈ lw_tbl := List.mem_of_getElem? (i := 241) (by decide +kernel)
set_option maxRecDepth 100000 in
theorem lk_L_113 : Cond.methodLink RL 113 yL_number ∈ lw_tbl := List.mem_of_getElem? (i := 261) (by decide +kernel)
set_option maxRecDepth 100000 in
theorem lk_L_27 : Cond.methodLink RL 27 yX4_number ∈ lw_tbl := List.mem_of_getElem? (i := 264) (by decide +kernel)
set_option maxRecDepth 100000 in
theorem lk_X4_79 : Cond.methodLink RX4 79 yX4_demandCredit ∈ lw_tbl := List.mem_of_getElem? (i := 268) (by decide +kernel)
set_option maxRecDepth 100000 in
theorem lk_X4_89 : Cond.methodLink RX4 89 yX2_init ∈ lw_tbl := List.mem_of_getElem? (i := 274) (by decide +kernel)
set_option maxRecDepth 100000 in
theorem lk_L_116 : Cond.methodLink RL 116 yL_carryOver ∈ lw_tbl := List.mem_of_getElem? (i := 294) (by decide +kernel)
set_option maxRecDepth 100000 in
theorem lk_L_30 : Cond.methodLink RL 30 yX4_carryOver ∈ lw_tbl := List.mem_of_getElem? (i := 297) (by decide +kernel)
set_option maxRecDepth 100000 in
theorem lk_X4_92 : Cond.methodLink RX4 92 yX4_subscriberOf ∈ lw_tbl := List.mem_of_getElem? (i := 301) (by decide +kernel)
set_option maxRecDepth 100000 in
theorem lk_X4_96 : Cond.methodLink RX4 96 yX2_homeAt ∈ lw_tbl := List.mem_of_getElem? (i := 306) (by decide +kernel)
set_option maxRecDepth 100000 in
theorem lk_X4_102 : Cond.methodLink RX4 102 yX2_moveTo ∈ lw_tbl := List.mem_of_getElem? (i := 311) (by decide +kernel)
set_option maxRecDepth 100000 in
theorem lk_L_119 : Cond.methodLink RL 119 yL_home ∈ lw_tbl := List.mem_of_getElem? (i := 316) (by decide +kernel)
set_option maxRecDepth 100000 in
theorem lk_L_33 : Cond.methodLink RL 33 yX4_home ∈ lw_tbl := List.mem_of_getElem? (i := 319) (by decide +kernel)
set_option maxRecDepth 100000 in
theorem lk_L_122 : Cond.methodLink RL 122 yL_topUp ∈ lw_tbl := List.mem_of_getElem? (i := 324) (by decide +kernel)
set_option maxRecDepth 100000 in
theorem lk_L_36 : Cond.methodLink RL 36 yX4_topUp ∈ lw_tbl := List.mem_of_getElem? (i := 327) (by decide +kernel)
set_option maxRecDepth 100000 in
theorem lk_L_125 : Cond.methodLink RL 125 yL_balance ∈ lw_tbl := List.mem_of_getElem? (i := 333) (by decide +kernel)
set_option maxRecDepth 100000 in
theorem lk_L_39 : Cond.methodLink RL 39 yX4_balance ∈ lw_tbl := List.mem_of_getElem? (i := 336) (by decide +kernel)
set_option maxRecDepth 100000 in
theorem lk_L_129 : Cond.methodLink RL 129 yL_bundle ∈ lw_tbl := List.mem_of_getElem? (i := 340) (by decide +kernel)
set_option maxRecDepth 100000 in
theorem lk_L_43 : Cond.methodLink RL 43 yX4_bundle ∈ lw_tbl := List.mem_of_getElem? (i := 343) (by decide +kernel)
set_option maxRecDepth 100000 in
theorem lk_L_132 : Cond.methodLink RL 132 yL_call ∈ lw_tbl := List.mem_of_getElem? (i := 347) (by decide +kernel)
set_option maxRecDepth 100000 in
theorem lk_L_46 : Cond.methodLink RL 46 yX4_call ∈ lw_tbl := List.mem_of_getElem? (i := 350) (by decide +kernel)
set_option maxRecDepth 100000 in
theorem lk_X4_127 : Cond.methodLink RX4 127 yX4_isTalking ∈ lw_tbl := List.mem_of_getElem? (i := 355) (by decide +kernel)
set_option maxRecDepth 100000 in
theorem lk_X4_138 : Cond.methodLink RX4 138 yX0_findBest ∈ lw_tbl := List.mem_of_getElem? (i := 361) (by decide +kernel)
set_option maxRecDepth 100000 in
theorem lk_X0_66 : Cond.methodLinkNest RX0 66 yX4_isCarrier RX4 ∈ lw_tbl := List.mem_of_getElem? (i := 365) (by decide +kernel)
set_option maxRecDepth 100000 in
theorem lk_X0_70 : Cond.methodLink RX0 70 yX0_weighWaysTo ∈ lw_tbl := List.mem_of_getElem? (i := 366) (by decide +kernel)
set_option maxRecDepth 100000 in
theorem lk_X0_45 : Cond.methodLink RX0 45 yX0_isOpen ∈ lw_tbl := List.mem_of_getElem? (i := 371) (by decide +kernel)
set_option maxRecDepth 100000 in
theorem lk_X0_84 : Cond.methodLink RX0 84 yX0_weightOver ∈ lw_tbl := List.mem_of_getElem? (i := 375) (by decide +kernel)
set_option maxRecDepth 100000 in
theorem lk_X0_49 : Cond.methodLink RX0 49 yX0_rateOf ∈ lw_tbl := List.mem_of_getElem? (i := 379) (by decide +kernel)
set_option maxRecDepth 100000 in
theorem lk_X0_87 : Cond.methodLink RX0 87 yJ9_min_7cf53 ∈ lw_tbl := List.mem_of_getElem? (i := 380) (by decide +kernel)
set_option maxRecDepth 100000 in
theorem lk_X0_75 : Cond.methodLink RX0 75 yX1_clear ∈ lw_tbl := List.mem_of_getElem? (i := 383) (by decide +kernel)
set_option maxRecDepth 100000 in
theorem lk_X0_78 : Cond.methodLink RX0 78 yX1_add ∈ lw_tbl := List.mem_of_getElem? (i := 387) (by decide +kernel)
set_option maxRecDepth 100000 in
theorem lk_X0_81 : Cond.methodLink RX0 81 yX0_nextOnBest ∈ lw_tbl := List.mem_of_getElem? (i := 391) (by decide +kernel)
set_option maxRecDepth 100000 in
theorem lk_X4_144 : Cond.methodLink RX4 144 yX4_newTalk ∈ lw_tbl := List.mem_of_getElem? (i := 396) (by decide +kernel)
set_option maxRecDepth 100000 in
theorem lk_X4_222 : Cond.methodLink RX4 222 yX3_init ∈ lw_tbl := List.mem_of_getElem? (i := 401) (by decide +kernel)
set_option maxRecDepth 100000 in
theorem lk_X3_11 : Cond.methodLinkNest RX3 11 yX1_init RX4 ∈ lw_tbl := List.mem_of_getElem? (i := 406) (by decide +kernel)
set_option maxRecDepth 100000 in
theorem lk_X4_225 : Cond.methodLink RX4 225 yX1_become ∈ lw_tbl := List.mem_of_getElem? (i := 443) (by decide +kernel)
set_option maxRecDepth 100000 in
theorem lk_X1_19 : Cond.methodLink RX1 19 yX1_clear ∈ lw_tbl := List.mem_of_getElem? (i := 447) (by decide +kernel)
set_option maxRecDepth 100000 in
theorem lk_X1_22 : Cond.methodLink RX1 22 yX1_carrierAt ∈ lw_tbl := List.mem_of_getElem? (i := 448) (by decide +kernel)
set_option maxRecDepth 100000 in
theorem lk_X1_26 : Cond.methodLink RX1 26 yX1_add ∈ lw_tbl := List.mem_of_getElem? (i := 452) (by decide +kernel)
set_option maxRecDepth 100000 in
theorem lk_L_135 : Cond.methodLink RL 135 yL_hangUp ∈ lw_tbl := List.mem_of_getElem? (i := 453) (by decide +kernel)
set_option maxRecDepth 100000 in
theorem lk_L_49 : Cond.methodLink RL 49 yX4_hangUp ∈ lw_tbl := List.mem_of_getElem? (i := 456) (by decide +kernel)
set_option maxRecDepth 100000 in
theorem lk_X4_148 : Cond.methodLink RX4 148 yX4_talkOf ∈ lw_tbl := List.mem_of_getElem? (i := 460) (by decide +kernel)
set_option maxRecDepth 100000 in
theorem lk_L_138 : Cond.methodLink RL 138 yL_pass ∈ lw_tbl := List.mem_of_getElem? (i := 466) (by decide +kernel)
set_option maxRecDepth 100000 in
theorem lk_L_52 : Cond.methodLink RL 52 yX4_pass ∈ lw_tbl := List.mem_of_getElem? (i := 469) (by decide +kernel)
set_option maxRecDepth 100000 in
theorem lk_X4_162 : Cond.methodLink RX4 162 yX4_runOneMinute ∈ lw_tbl := List.mem_of_getElem? (i := 474) (by decide +kernel)
set_option maxRecDepth 100000 in
theorem lk_X4_229 : Cond.methodLink RX4 229 yX0_isOpenAlong ∈ lw_tbl := List.mem_of_getElem? (i := 478) (by decide +kernel)
set_option maxRecDepth 100000 in
theorem lk_X0_41 : Cond.methodLink RX0 41 yX1_carrierAt ∈ lw_tbl := List.mem_of_getElem? (i := 482) (by decide +kernel)
set_option maxRecDepth 100000 in
theorem lk_X4_172 : Cond.methodLink RX4 172 yX1_carrierAt ∈ lw_tbl := List.mem_of_getElem? (i := 483) (by decide +kernel)
set_option maxRecDepth 100000 in
theorem lk_X4_236 : Cond.methodLink RX4 236 yX3_isStepDue ∈ lw_tbl := List.mem_of_getElem? (i := 484) (by decide +kernel)
set_option maxRecDepth 100000 in
theorem lk_X4_246 : Cond.methodLink RX4 246 yX2_pay ∈ lw_tbl := List.mem_of_getElem? (i := 488) (by decide +kernel)
set_option maxRecDepth 100000 in
theorem lk_X4_249 : Cond.methodLink RX4 249 yX0_charge ∈ lw_tbl := List.mem_of_getElem? (i := 492) (by decide +kernel)
set_option maxRecDepth 100000 in
theorem lk_X0_58 : Cond.methodLink RX0 58 yX0_addDebt ∈ lw_tbl := List.mem_of_getElem? (i := 496) (by decide +kernel)
set_option maxRecDepth 100000 in
theorem lk_X0_62 : Cond.methodLink RX0 62 yX3_addCharge ∈ lw_tbl := List.mem_of_getElem? (i := 500) (by decide +kernel)
set_option maxRecDepth 100000 in
theorem lk_L_141 : Cond.methodLink RL 141 yL_state ∈ lw_tbl := List.mem_of_getElem? (i := 504) (by decide +kernel)
set_option maxRecDepth 100000 in
theorem lk_L_55 : Cond.methodLink RL 55 yX4_state ∈ lw_tbl := List.mem_of_getElem? (i := 507) (by decide +kernel)
set_option maxRecDepth 100000 in
theorem lk_L_144 : Cond.methodLink RL 144 yL_minutes ∈ lw_tbl := List.mem_of_getElem? (i := 511) (by decide +kernel)
set_option maxRecDepth 100000 in
theorem lk_L_58 : Cond.methodLink RL 58 yX4_minutes ∈ lw_tbl := List.mem_of_getElem? (i := 514) (by decide +kernel)
set_option maxRecDepth 100000 in
theorem lk_L_147 : Cond.methodLink RL 147 yL_moved ∈ lw_tbl := List.mem_of_getElem? (i := 518) (by decide +kernel)
set_option maxRecDepth 100000 in
theorem lk_L_61 : Cond.methodLink RL 61 yX4_moved ∈ lw_tbl := List.mem_of_getElem? (i := 521) (by decide +kernel)
set_option maxRecDepth 100000 in
theorem lk_L_150 : Cond.methodLink RL 150 yL_way ∈ lw_tbl := List.mem_of_getElem? (i := 525) (by decide +kernel)
set_option maxRecDepth 100000 in
theorem lk_L_64 : Cond.methodLink RL 64 yX4_way ∈ lw_tbl := List.mem_of_getElem? (i := 528) (by decide +kernel)
set_option maxRecDepth 100000 in
theorem lk_L_153 : Cond.methodLink RL 153 yL_cost ∈ lw_tbl := List.mem_of_getElem? (i := 533) (by decide +kernel)
set_option maxRecDepth 100000 in
theorem lk_L_67 : Cond.methodLink RL 67 yX4_cost ∈ lw_tbl := List.mem_of_getElem? (i := 536) (by decide +kernel)
set_option maxRecDepth 100000 in
theorem lk_X4_177 : Cond.methodLink RX4 177 yX0_costOf ∈ lw_tbl := List.mem_of_getElem? (i := 540) (by decide +kernel)
set_option maxRecDepth 100000 in
theorem lk_L_156 : Cond.methodLink RL 156 yL_best ∈ lw_tbl := List.mem_of_getElem? (i := 544) (by decide +kernel)
set_option maxRecDepth 100000 in
theorem lk_L_70 : Cond.methodLink RL 70 yX4_best ∈ lw_tbl := List.mem_of_getElem? (i := 547) (by decide +kernel)
set_option maxRecDepth 100000 in
theorem lk_L_159 : Cond.methodLink RL 159 yL_isBarred ∈ lw_tbl := List.mem_of_getElem? (i := 552) (by decide +kernel)
set_option maxRecDepth 100000 in
theorem lk_L_73 : Cond.methodLink RL 73 yX4_isBarred ∈ lw_tbl := List.mem_of_getElem? (i := 555) (by decide +kernel)
set_option maxRecDepth 100000 in
theorem lk_X4_183 : Cond.methodLink RX4 183 yX0_isOpen ∈ lw_tbl := List.mem_of_getElem? (i := 559) (by decide +kernel)
set_option maxRecDepth 100000 in
theorem lk_L_162 : Cond.methodLink RL 162 yL_debt ∈ lw_tbl := List.mem_of_getElem? (i := 560) (by decide +kernel)
set_option maxRecDepth 100000 in
theorem lk_L_77 : Cond.methodLink RL 77 yX4_debt ∈ lw_tbl := List.mem_of_getElem? (i := 563) (by decide +kernel)
set_option maxRecDepth 100000 in
theorem lk_X4_187 : Cond.methodLink RX4 187 yX0_debtOf ∈ lw_tbl := List.mem_of_getElem? (i := 567) (by decide +kernel)
set_option maxRecDepth 100000 in
theorem lk_L_165 : Cond.methodLink RL 165 yL_charged ∈ lw_tbl := List.mem_of_getElem? (i := 571) (by decide +kernel)
set_option maxRecDepth 100000 in
theorem lk_L_81 : Cond.methodLink RL 81 yX4_charged ∈ lw_tbl := List.mem_of_getElem? (i := 574) (by decide +kernel)
set_option maxRecDepth 100000 in
theorem lk_X4_191 : Cond.methodLink RX4 191 yX4_pairOf ∈ lw_tbl := List.mem_of_getElem? (i := 578) (by decide +kernel)
set_option maxRecDepth 100000 in
theorem lk_X4_194 : Cond.methodLink RX4 194 yX3_chargeOf ∈ lw_tbl := List.mem_of_getElem? (i := 579) (by decide +kernel)
set_option maxRecDepth 100000 in
theorem lk_L_168 : Cond.methodLink RL 168 yL_position ∈ lw_tbl := List.mem_of_getElem? (i := 583) (by decide +kernel)
set_option maxRecDepth 100000 in
theorem lk_L_84 : Cond.methodLink RL 84 yX4_position ∈ lw_tbl := List.mem_of_getElem? (i := 586) (by decide +kernel)
set_option maxRecDepth 100000 in
theorem lk_L_171 : Cond.methodLink RL 171 yL_settle ∈ lw_tbl := List.mem_of_getElem? (i := 590) (by decide +kernel)
set_option maxRecDepth 100000 in
theorem lk_L_88 : Cond.methodLink RL 88 yX4_settle ∈ lw_tbl := List.mem_of_getElem? (i := 593) (by decide +kernel)
set_option maxRecDepth 100000 in
theorem lk_X4_200 : Cond.methodLink RX4 200 yX0_addDebt ∈ lw_tbl := List.mem_of_getElem? (i := 598) (by decide +kernel)
set_option maxRecDepth 100000 in
theorem lk_L_94 : Cond.methodLink RL 94 yX5_init ∈ lw_tbl := List.mem_of_getElem? (i := 601) (by decide +kernel)
set_option maxRecDepth 100000 in
theorem lk_L_101 : Cond.methodLink RL 101 yX5_thrown ∈ lw_tbl := List.mem_of_getElem? (i := 688) (by decide +kernel)
set_option maxRecDepth 100000 in
theorem lk_L_100 : Cond.methodLink RL 100 yX5_tariff ∈ lw_tbl := List.mem_of_getElem? (i := 692) (by decide +kernel)
set_option maxRecDepth 100000 in
theorem lk_X5_86 : Cond.methodLink RX5 86 yX5_isCarrier ∈ lw_tbl := List.mem_of_getElem? (i := 696) (by decide +kernel)
set_option maxRecDepth 100000 in
theorem lk_X5_82 : Cond.methodLink RX5 82 yX5_isIn ∈ lw_tbl := List.mem_of_getElem? (i := 699) (by decide +kernel)
set_option maxRecDepth 100000 in
theorem lk_L_108 : Cond.methodLink RL 108 yX5_link ∈ lw_tbl := List.mem_of_getElem? (i := 702) (by decide +kernel)
set_option maxRecDepth 100000 in
theorem lk_X5_97 : Cond.methodLink RX5 97 yX5_areCarriers ∈ lw_tbl := List.mem_of_getElem? (i := 707) (by decide +kernel)
set_option maxRecDepth 100000 in
theorem lk_L_112 : Cond.methodLink RL 112 yX5_unlink ∈ lw_tbl := List.mem_of_getElem? (i := 710) (by decide +kernel)
set_option maxRecDepth 100000 in
theorem lk_L_115 : Cond.methodLink RL 115 yX5_number ∈ lw_tbl := List.mem_of_getElem? (i := 714) (by decide +kernel)
set_option maxRecDepth 100000 in
theorem lk_L_118 : Cond.methodLink RL 118 yX5_carryOver ∈ lw_tbl := List.mem_of_getElem? (i := 718) (by decide +kernel)
set_option maxRecDepth 100000 in
theorem lk_X5_101 : Cond.methodLink RX5 101 yX5_isNumber ∈ lw_tbl := List.mem_of_getElem? (i := 722) (by decide +kernel)
set_option maxRecDepth 100000 in
theorem lk_X5_104 : Cond.methodLink RX5 104 yX5_homeOf ∈ lw_tbl := List.mem_of_getElem? (i := 726) (by decide +kernel)
set_option maxRecDepth 100000 in
theorem lk_L_121 : Cond.methodLink RL 121 yX5_home ∈ lw_tbl := List.mem_of_getElem? (i := 730) (by decide +kernel)
set_option maxRecDepth 100000 in
theorem lk_L_124 : Cond.methodLink RL 124 yX5_topUp ∈ lw_tbl := List.mem_of_getElem? (i := 734) (by decide +kernel)
set_option maxRecDepth 100000 in
theorem lk_L_128 : Cond.methodLink RL 128 yX5_balance ∈ lw_tbl := List.mem_of_getElem? (i := 739) (by decide +kernel)
set_option maxRecDepth 100000 in
theorem lk_L_131 : Cond.methodLink RL 131 yX5_bundle ∈ lw_tbl := List.mem_of_getElem? (i := 743) (by decide +kernel)
set_option maxRecDepth 100000 in
theorem lk_L_134 : Cond.methodLink RL 134 yX5_call ∈ lw_tbl := List.mem_of_getElem? (i := 747) (by decide +kernel)
set_option maxRecDepth 100000 in
theorem lk_X5_128 : Cond.methodLink RX5 128 yX5_isBusy ∈ lw_tbl := List.mem_of_getElem? (i := 751) (by decide +kernel)
set_option maxRecDepth 100000 in
theorem lk_X5_131 : Cond.methodLink RX5 131 yX5_finds ∈ lw_tbl := List.mem_of_getElem? (i := 755) (by decide +kernel)
set_option maxRecDepth 100000 in
theorem lk_X5_119 : Cond.methodLink RX5 119 yX5_costOf ∈ lw_tbl := List.mem_of_getElem? (i := 759) (by decide +kernel)
set_option maxRecDepth 100000 in
theorem lk_X5_125 : Cond.methodLink RX5 125 yX5_canGo ∈ lw_tbl := List.mem_of_getElem? (i := 763) (by decide +kernel)
set_option maxRecDepth 100000 in
theorem lk_X5_113 : Cond.methodLink RX5 113 yX5_isShut ∈ lw_tbl := List.mem_of_getElem? (i := 767) (by decide +kernel)
set_option maxRecDepth 100000 in
theorem lk_X5_109 : Cond.methodLink RX5 109 yX5_debtOf ∈ lw_tbl := List.mem_of_getElem? (i := 771) (by decide +kernel)
set_option maxRecDepth 100000 in
theorem lk_X5_134 : Cond.methodLink RX5 134 yX5_takesBest ∈ lw_tbl := List.mem_of_getElem? (i := 775) (by decide +kernel)
set_option maxRecDepth 100000 in
theorem lk_L_137 : Cond.methodLink RL 137 yX5_hangUp ∈ lw_tbl := List.mem_of_getElem? (i := 779) (by decide +kernel)
set_option maxRecDepth 100000 in
theorem lk_X5_138 : Cond.methodLink RX5 138 yX5_isCall ∈ lw_tbl := List.mem_of_getElem? (i := 783) (by decide +kernel)
set_option maxRecDepth 100000 in
theorem lk_L_140 : Cond.methodLink RL 140 yX5_pass ∈ lw_tbl := List.mem_of_getElem? (i := 787) (by decide +kernel)
set_option maxRecDepth 100000 in
theorem lk_X5_147 : Cond.methodLink RX5 147 yX5_minute ∈ lw_tbl := List.mem_of_getElem? (i := 791) (by decide +kernel)
set_option maxRecDepth 100000 in
theorem lk_X5_141 : Cond.methodLink RX5 141 yX5_isStopped ∈ lw_tbl := List.mem_of_getElem? (i := 795) (by decide +kernel)
set_option maxRecDepth 100000 in
theorem lk_X5_144 : Cond.methodLink RX5 144 yX5_isPaid ∈ lw_tbl := List.mem_of_getElem? (i := 799) (by decide +kernel)
set_option maxRecDepth 100000 in
theorem lk_L_143 : Cond.methodLink RL 143 yX5_state ∈ lw_tbl := List.mem_of_getElem? (i := 803) (by decide +kernel)
set_option maxRecDepth 100000 in
theorem lk_X5_150 : Cond.methodLink RX5 150 yX5_asks ∈ lw_tbl := List.mem_of_getElem? (i := 807) (by decide +kernel)
set_option maxRecDepth 100000 in
theorem lk_L_146 : Cond.methodLink RL 146 yX5_minutes ∈ lw_tbl := List.mem_of_getElem? (i := 811) (by decide +kernel)
set_option maxRecDepth 100000 in
theorem lk_L_149 : Cond.methodLink RL 149 yX5_moved ∈ lw_tbl := List.mem_of_getElem? (i := 815) (by decide +kernel)
set_option maxRecDepth 100000 in
theorem lk_L_152 : Cond.methodLink RL 152 yX5_way ∈ lw_tbl := List.mem_of_getElem? (i := 819) (by decide +kernel)
set_option maxRecDepth 100000 in
theorem lk_L_155 : Cond.methodLink RL 155 yX5_cost ∈ lw_tbl := List.mem_of_getElem? (i := 823) (by decide +kernel)
set_option maxRecDepth 100000 in
theorem lk_L_158 : Cond.methodLink RL 158 yX5_best ∈ lw_tbl := List.mem_of_getElem? (i := 827) (by decide +kernel)
set_option maxRecDepth 100000 in
theorem lk_L_161 : Cond.methodLink RL 161 yX5_isBarred ∈ lw_tbl := List.mem_of_getElem? (i := 831) (by decide +kernel)
set_option maxRecDepth 100000 in
theorem lk_L_164 : Cond.methodLink RL 164 yX5_debt ∈ lw_tbl := List.mem_of_getElem? (i := 835) (by decide +kernel)
set_option maxRecDepth 100000 in
theorem lk_L_167 : Cond.methodLink RL 167 yX5_charged ∈ lw_tbl := List.mem_of_getElem? (i := 839) (by decide +kernel)
set_option maxRecDepth 100000 in
theorem lk_L_170 : Cond.methodLink RL 170 yX5_position ∈ lw_tbl := List.mem_of_getElem? (i := 843) (by decide +kernel)
set_option maxRecDepth 100000 in
theorem lk_L_173 : Cond.methodLink RL 173 yX5_settle ∈ lw_tbl := List.mem_of_getElem? (i := 847) (by decide +kernel)
set_option maxRecDepth 100000 in
theorem ck_L_8 : Cond.classLink RL 8 RX4 ∈ lw_tbl := List.mem_of_getElem? (i := 38) (by decide +kernel)
set_option maxRecDepth 100000 in
theorem ck_X4_16 : Cond.classLink RX4 16 RX0 ∈ lw_tbl := List.mem_of_getElem? (i := 46) (by decide +kernel)
set_option maxRecDepth 100000 in
theorem ck_X4_23 : Cond.classLink RX4 23 RX2 ∈ lw_tbl := List.mem_of_getElem? (i := 70) (by decide +kernel)
set_option maxRecDepth 100000 in
theorem ck_X4_29 : Cond.classLink RX4 29 RX3 ∈ lw_tbl := List.mem_of_getElem? (i := 72) (by decide +kernel)
set_option maxRecDepth 100000 in
theorem ck_X4_35 : Cond.classLink RX4 35 RX1 ∈ lw_tbl := List.mem_of_getElem? (i := 74) (by decide +kernel)
set_option maxRecDepth 100000 in
theorem ck_L_13 : Cond.classLink RL 13 e_IO ∈ lw_tbl := List.mem_of_getElem? (i := 118) (by decide +kernel)
set_option maxRecDepth 100000 in
theorem ck_L_15 : Cond.classLink RL 15 e_IA ∈ lw_tbl := List.mem_of_getElem? (i := 119) (by decide +kernel)
set_option maxRecDepth 100000 in
theorem ck_X4_111 : Cond.classLink RX4 111 e_IO ∈ lw_tbl := List.mem_of_getElem? (i := 130) (by decide +kernel)
set_option maxRecDepth 100000 in
theorem ck_X4_56 : Cond.classLink RX4 56 e_IA ∈ lw_tbl := List.mem_of_getElem? (i := 201) (by decide +kernel)
set_option maxRecDepth 100000 in
theorem ck_L_25 : Cond.classLink RL 25 e_IS ∈ lw_tbl := List.mem_of_getElem? (i := 240) (by decide +kernel)
set_option maxRecDepth 100000 in
theorem ck_X4_74 : Cond.classLink RX4 74 e_IS ∈ lw_tbl := List.mem_of_getElem? (i := 245) (by decide +kernel)
set_option maxRecDepth 100000 in
theorem ck_X3_9 : Cond.classLink RX3 9 RX1 ∈ lw_tbl := List.mem_of_getElem? (i := 405) (by decide +kernel)
set_option maxRecDepth 100000 in
theorem ck_L_92 : Cond.classLink RL 92 RX5 ∈ lw_tbl := List.mem_of_getElem? (i := 599) (by decide +kernel)
set_option maxRecDepth 100000 in
theorem sk_X4_207 : Cond.stringRef RX4 207 "no such carrier" ∈ lw_tbl := List.mem_of_getElem? (i := 171) (by decide +kernel)
set_option maxRecDepth 100000 in
theorem sk_X4_58 : Cond.stringRef RX4 58 "step or price is out of its range" ∈ lw_tbl := List.mem_of_getElem? (i := 210) (by decide +kernel)
set_option maxRecDepth 100000 in
theorem sk_X4_64 : Cond.stringRef RX4 64 "both are the same, or rate or trust is out of its range" ∈ lw_tbl := List.mem_of_getElem? (i := 225) (by decide +kernel)
set_option maxRecDepth 100000 in
theorem sk_X4_76 : Cond.stringRef RX4 76 "there is no such link" ∈ lw_tbl := List.mem_of_getElem? (i := 254) (by decide +kernel)
set_option maxRecDepth 100000 in
theorem sk_X4_209 : Cond.stringRef RX4 209 "balance or bundle is out of its range" ∈ lw_tbl := List.mem_of_getElem? (i := 271) (by decide +kernel)
set_option maxRecDepth 100000 in
theorem sk_X4_87 : Cond.stringRef RX4 87 "all numbers are given out" ∈ lw_tbl := List.mem_of_getElem? (i := 272) (by decide +kernel)
set_option maxRecDepth 100000 in
theorem sk_X4_211 : Cond.stringRef RX4 211 "no such number" ∈ lw_tbl := List.mem_of_getElem? (i := 305) (by decide +kernel)
set_option maxRecDepth 100000 in
theorem sk_X4_100 : Cond.stringRef RX4 100 "it is its home already" ∈ lw_tbl := List.mem_of_getElem? (i := 310) (by decide +kernel)
set_option maxRecDepth 100000 in
theorem sk_X4_106 : Cond.stringRef RX4 106 "its chain is full" ∈ lw_tbl := List.mem_of_getElem? (i := 315) (by decide +kernel)
set_option maxRecDepth 100000 in
theorem sk_X4_113 : Cond.stringRef RX4 113 "there are not so many homes" ∈ lw_tbl := List.mem_of_getElem? (i := 323) (by decide +kernel)
set_option maxRecDepth 100000 in
theorem sk_X4_123 : Cond.stringRef RX4 123 "its balance or its bundle would be too large" ∈ lw_tbl := List.mem_of_getElem? (i := 332) (by decide +kernel)
set_option maxRecDepth 100000 in
theorem sk_X4_125 : Cond.stringRef RX4 125 "a number cannot call itself" ∈ lw_tbl := List.mem_of_getElem? (i := 354) (by decide +kernel)
set_option maxRecDepth 100000 in
theorem sk_X4_131 : Cond.stringRef RX4 131 "one of them has a running call" ∈ lw_tbl := List.mem_of_getElem? (i := 359) (by decide +kernel)
set_option maxRecDepth 100000 in
theorem sk_X4_136 : Cond.stringRef RX4 136 "the list of calls is full" ∈ lw_tbl := List.mem_of_getElem? (i := 360) (by decide +kernel)
set_option maxRecDepth 100000 in
theorem sk_X4_142 : Cond.stringRef RX4 142 "there is no way" ∈ lw_tbl := List.mem_of_getElem? (i := 395) (by decide +kernel)
set_option maxRecDepth 100000 in
theorem sk_X4_213 : Cond.stringRef RX4 213 "no such call" ∈ lw_tbl := List.mem_of_getElem? (i := 464) (by decide +kernel)
set_option maxRecDepth 100000 in
theorem sk_X4_155 : Cond.stringRef RX4 155 "it is not running" ∈ lw_tbl := List.mem_of_getElem? (i := 465) (by decide +kernel)
set_option maxRecDepth 100000 in
theorem sk_X4_160 : Cond.stringRef RX4 160 "minutes is out of its range" ∈ lw_tbl := List.mem_of_getElem? (i := 473) (by decide +kernel)
set_option maxRecDepth 100000 in
theorem sk_X4_175 : Cond.stringRef RX4 175 "its way has not so many carriers" ∈ lw_tbl := List.mem_of_getElem? (i := 532) (by decide +kernel)
set_option maxRecDepth 100000 in
theorem sk_X4_181 : Cond.stringRef RX4 181 "there is no way, or it has not so many carriers" ∈ lw_tbl := List.mem_of_getElem? (i := 551) (by decide +kernel)
set_option maxRecDepth 100000 in
theorem sk_X4_198 : Cond.stringRef RX4 198 "its debt is not above 0" ∈ lw_tbl := List.mem_of_getElem? (i := 597) (by decide +kernel)
set_option maxRecDepth 100000 in
theorem ik_L : Cond.initialized RL ∈ lw_tbl := List.mem_of_getElem? (i := 23) (by decide +kernel)
set_option maxRecDepth 100000 in
theorem ik_X4 : Cond.initialized RX4 ∈ lw_tbl := List.mem_of_getElem? (i := 24) (by decide +kernel)
set_option maxRecDepth 100000 in
theorem ik_X0 : Cond.initialized RX0 ∈ lw_tbl := List.mem_of_getElem? (i := 25) (by decide +kernel)
set_option maxRecDepth 100000 in
theorem ik_J7 : Cond.initialized RJ7 ∈ lw_tbl := List.mem_of_getElem? (i := 26) (by decide +kernel)
set_option maxRecDepth 100000 in
theorem ik_X1 : Cond.initialized RX1 ∈ lw_tbl := List.mem_of_getElem? (i := 27) (by decide +kernel)
set_option maxRecDepth 100000 in
theorem ik_X5 : Cond.initialized RX5 ∈ lw_tbl := List.mem_of_getElem? (i := 28) (by decide +kernel)
set_option maxRecDepth 100000 in
theorem ik_X2 : Cond.initialized RX2 ∈ lw_tbl := List.mem_of_getElem? (i := 35) (by decide +kernel)
set_option maxRecDepth 100000 in
theorem ik_J9 : Cond.initialized RJ9 ∈ lw_tbl := List.mem_of_getElem? (i := 36) (by decide +kernel)
set_option maxRecDepth 100000 in
theorem ik_X3 : Cond.initialized RX3 ∈ lw_tbl := List.mem_of_getElem? (i := 37) (by decide +kernel)
set_option maxRecDepth 100000 in
theorem ik_IO : Cond.initialized e_IO ∈ lw_tbl := List.mem_of_getElem? (i := 32) (by decide +kernel)
set_option maxRecDepth 100000 in
theorem tk_IO : Cond.castable e_IO e_IO ∈ lw_tbl := List.mem_of_getElem? (i := 132) (by decide +kernel)
set_option maxRecDepth 100000 in
theorem ik_IA : Cond.initialized e_IA ∈ lw_tbl := List.mem_of_getElem? (i := 33) (by decide +kernel)
set_option maxRecDepth 100000 in
theorem tk_IA : Cond.castable e_IA e_IA ∈ lw_tbl := List.mem_of_getElem? (i := 203) (by decide +kernel)
set_option maxRecDepth 100000 in
theorem ik_IS : Cond.initialized e_IS ∈ lw_tbl := List.mem_of_getElem? (i := 34) (by decide +kernel)
set_option maxRecDepth 100000 in
theorem tk_IS : Cond.castable e_IS e_IS ∈ lw_tbl := List.mem_of_getElem? (i := 247) (by decide +kernel)
set_option maxRecDepth 100000 in
theorem ok_i : Cond.instanceMethod Lib.objectInit ∈ lw_tbl := List.mem_of_getElem? (i := 44) (by decide +kernel)
set_option maxRecDepth 100000 in
theorem ok_c : Cond.code Lib.objectInit ⟨#[0xb1]⟩ 1 none ∈ lw_tbl := List.mem_of_getElem? (i := 45) (by decide +kernel)
