set_option maxRecDepth 100000 in
theorem mc_X0_init : k_Mc yX0_init cX0_init 1 none 0 := ⟨List.mem_of_getElem? (i := 35) (by decide +kernel), List.mem_of_getElem? (i := 11) (by decide +kernel), by decide +kernel, by decide +kernel, by decide +kernel⟩
set_option maxRecDepth 100000 in
theorem mi_X0_init : Cond.instanceMethod yX0_init ∈ lw_tbl := List.mem_of_getElem? (i := 34) (by decide +kernel)
set_option maxRecDepth 100000 in
theorem mc_X0_rateOf : k_Mc yX0_rateOf cX0_rateOf 4 (some .int) 2 := ⟨List.mem_of_getElem? (i := 206) (by decide +kernel), List.mem_of_getElem? (i := 11) (by decide +kernel), by decide +kernel, by decide +kernel, by decide +kernel⟩
set_option maxRecDepth 100000 in
theorem mv_X0_rateOf : k_Mv yX0_rateOf := ⟨List.mem_of_getElem? (i := 204) (by decide +kernel), List.mem_of_getElem? (i := 205) (by decide +kernel)⟩
set_option maxRecDepth 100000 in
theorem mc_X0_setLink : k_Mc yX0_setLink cX0_setLink 6 none 4 := ⟨List.mem_of_getElem? (i := 213) (by decide +kernel), List.mem_of_getElem? (i := 11) (by decide +kernel), by decide +kernel, by decide +kernel, by decide +kernel⟩
set_option maxRecDepth 100000 in
theorem mv_X0_setLink : k_Mv yX0_setLink := ⟨List.mem_of_getElem? (i := 211) (by decide +kernel), List.mem_of_getElem? (i := 212) (by decide +kernel)⟩
set_option maxRecDepth 100000 in
theorem mc_X0_debtOf : k_Mc yX0_debtOf cX0_debtOf 4 (some .long) 2 := ⟨List.mem_of_getElem? (i := 444) (by decide +kernel), List.mem_of_getElem? (i := 11) (by decide +kernel), by decide +kernel, by decide +kernel, by decide +kernel⟩
set_option maxRecDepth 100000 in
theorem mv_X0_debtOf : k_Mv yX0_debtOf := ⟨List.mem_of_getElem? (i := 442) (by decide +kernel), List.mem_of_getElem? (i := 443) (by decide +kernel)⟩
set_option maxRecDepth 100000 in
theorem mc_X0_addDebt : k_Mc yX0_addDebt cX0_addDebt 7 none 3 := ⟨List.mem_of_getElem? (i := 432) (by decide +kernel), List.mem_of_getElem? (i := 11) (by decide +kernel), by decide +kernel, by decide +kernel, by decide +kernel⟩
set_option maxRecDepth 100000 in
theorem mv_X0_addDebt : k_Mv yX0_addDebt := ⟨List.mem_of_getElem? (i := 430) (by decide +kernel), List.mem_of_getElem? (i := 431) (by decide +kernel)⟩
set_option maxRecDepth 100000 in
theorem mc_X0_isOpen : k_Mc yX0_isOpen cX0_isOpen 4 (some .boolean) 2 := ⟨List.mem_of_getElem? (i := 313) (by decide +kernel), List.mem_of_getElem? (i := 11) (by decide +kernel), by decide +kernel, by decide +kernel, by decide +kernel⟩
set_option maxRecDepth 100000 in
theorem mv_X0_isOpen : k_Mv yX0_isOpen := ⟨List.mem_of_getElem? (i := 311) (by decide +kernel), List.mem_of_getElem? (i := 312) (by decide +kernel)⟩
set_option maxRecDepth 100000 in
theorem mc_X0_isOpenAlong : k_Mc yX0_isOpenAlong cX0_isOpenAlong 3 (some .boolean) 1 := ⟨List.mem_of_getElem? (i := 414) (by decide +kernel), List.mem_of_getElem? (i := 11) (by decide +kernel), by decide +kernel, by decide +kernel, by decide +kernel⟩
set_option maxRecDepth 100000 in
theorem mv_X0_isOpenAlong : k_Mv yX0_isOpenAlong := ⟨List.mem_of_getElem? (i := 412) (by decide +kernel), List.mem_of_getElem? (i := 413) (by decide +kernel)⟩
set_option maxRecDepth 100000 in
theorem mc_X0_costOf : k_Mc yX0_costOf cX0_costOf 4 (some .int) 1 := ⟨List.mem_of_getElem? (i := 541) (by decide +kernel), List.mem_of_getElem? (i := 11) (by decide +kernel), by decide +kernel, by decide +kernel, by decide +kernel⟩
set_option maxRecDepth 100000 in
theorem mv_X0_costOf : k_Mv yX0_costOf := ⟨List.mem_of_getElem? (i := 539) (by decide +kernel), List.mem_of_getElem? (i := 540) (by decide +kernel)⟩
set_option maxRecDepth 100000 in
theorem mc_X0_charge : k_Mc yX0_charge cX0_charge 6 none 1 := ⟨List.mem_of_getElem? (i := 428) (by decide +kernel), List.mem_of_getElem? (i := 11) (by decide +kernel), by decide +kernel, by decide +kernel, by decide +kernel⟩
set_option maxRecDepth 100000 in
theorem mv_X0_charge : k_Mv yX0_charge := ⟨List.mem_of_getElem? (i := 426) (by decide +kernel), List.mem_of_getElem? (i := 427) (by decide +kernel)⟩
set_option maxRecDepth 100000 in
theorem mc_X0_findBest : k_Mc yX0_findBest cX0_findBest 6 (some .boolean) 3 := ⟨List.mem_of_getElem? (i := 303) (by decide +kernel), List.mem_of_getElem? (i := 11) (by decide +kernel), by decide +kernel, by decide +kernel, by decide +kernel⟩
set_option maxRecDepth 100000 in
theorem mv_X0_findBest : k_Mv yX0_findBest := ⟨List.mem_of_getElem? (i := 301) (by decide +kernel), List.mem_of_getElem? (i := 302) (by decide +kernel)⟩
set_option maxRecDepth 100000 in
theorem mc_X0_weighWaysTo : k_Mc yX0_weighWaysTo cX0_weighWaysTo 5 none 1 := ⟨List.mem_of_getElem? (i := 308) (by decide +kernel), List.mem_of_getElem? (i := 11) (by decide +kernel), by decide +kernel, by decide +kernel, by decide +kernel⟩
set_option maxRecDepth 100000 in
theorem mv_X0_weighWaysTo : k_Mv yX0_weighWaysTo := ⟨List.mem_of_getElem? (i := 307) (by decide +kernel), List.mem_of_getElem? (i := 3) (by decide +kernel)⟩
set_option maxRecDepth 100000 in
theorem mc_X0_nextOnBest : k_Mc yX0_nextOnBest cX0_nextOnBest 3 (some .int) 1 := ⟨List.mem_of_getElem? (i := 333) (by decide +kernel), List.mem_of_getElem? (i := 11) (by decide +kernel), by decide +kernel, by decide +kernel, by decide +kernel⟩
set_option maxRecDepth 100000 in
theorem mv_X0_nextOnBest : k_Mv yX0_nextOnBest := ⟨List.mem_of_getElem? (i := 332) (by decide +kernel), List.mem_of_getElem? (i := 5) (by decide +kernel)⟩
set_option maxRecDepth 100000 in
theorem mc_X0_weightOver : k_Mc yX0_weightOver cX0_weightOver 4 (some .int) 2 := ⟨List.mem_of_getElem? (i := 317) (by decide +kernel), List.mem_of_getElem? (i := 11) (by decide +kernel), by decide +kernel, by decide +kernel, by decide +kernel⟩
set_option maxRecDepth 100000 in
theorem mv_X0_weightOver : k_Mv yX0_weightOver := ⟨List.mem_of_getElem? (i := 316) (by decide +kernel), List.mem_of_getElem? (i := 4) (by decide +kernel)⟩
set_option maxRecDepth 100000 in
theorem mc_X1_init : k_Mc yX1_init cX1_init 1 none 0 := ⟨List.mem_of_getElem? (i := 63) (by decide +kernel), List.mem_of_getElem? (i := 13) (by decide +kernel), by decide +kernel, by decide +kernel, by decide +kernel⟩
set_option maxRecDepth 100000 in
theorem mi_X1_init : Cond.instanceMethod yX1_init ∈ lw_tbl := List.mem_of_getElem? (i := 62) (by decide +kernel)
set_option maxRecDepth 100000 in
theorem mc_X1_carrierAt : k_Mc yX1_carrierAt cX1_carrierAt 2 (some .int) 1 := ⟨List.mem_of_getElem? (i := 390) (by decide +kernel), List.mem_of_getElem? (i := 13) (by decide +kernel), by decide +kernel, by decide +kernel, by decide +kernel⟩
set_option maxRecDepth 100000 in
theorem mv_X1_carrierAt : k_Mv yX1_carrierAt := ⟨List.mem_of_getElem? (i := 388) (by decide +kernel), List.mem_of_getElem? (i := 389) (by decide +kernel)⟩
set_option maxRecDepth 100000 in
theorem mc_X1_clear : k_Mc yX1_clear cX1_clear 1 none 0 := ⟨List.mem_of_getElem? (i := 325) (by decide +kernel), List.mem_of_getElem? (i := 13) (by decide +kernel), by decide +kernel, by decide +kernel, by decide +kernel⟩
set_option maxRecDepth 100000 in
theorem mv_X1_clear : k_Mv yX1_clear := ⟨List.mem_of_getElem? (i := 323) (by decide +kernel), List.mem_of_getElem? (i := 324) (by decide +kernel)⟩
set_option maxRecDepth 100000 in
theorem mc_X1_add : k_Mc yX1_add cX1_add 2 none 1 := ⟨List.mem_of_getElem? (i := 329) (by decide +kernel), List.mem_of_getElem? (i := 13) (by decide +kernel), by decide +kernel, by decide +kernel, by decide +kernel⟩
set_option maxRecDepth 100000 in
theorem mv_X1_add : k_Mv yX1_add := ⟨List.mem_of_getElem? (i := 327) (by decide +kernel), List.mem_of_getElem? (i := 328) (by decide +kernel)⟩
set_option maxRecDepth 100000 in
theorem mc_X1_become : k_Mc yX1_become cX1_become 3 none 1 := ⟨List.mem_of_getElem? (i := 385) (by decide +kernel), List.mem_of_getElem? (i := 13) (by decide +kernel), by decide +kernel, by decide +kernel, by decide +kernel⟩
set_option maxRecDepth 100000 in
theorem mv_X1_become : k_Mv yX1_become := ⟨List.mem_of_getElem? (i := 383) (by decide +kernel), List.mem_of_getElem? (i := 384) (by decide +kernel)⟩
set_option maxRecDepth 100000 in
theorem mc_X2_init : k_Mc yX2_init cX2_init 4 none 3 := ⟨List.mem_of_getElem? (i := 246) (by decide +kernel), List.mem_of_getElem? (i := 20) (by decide +kernel), by decide +kernel, by decide +kernel, by decide +kernel⟩
set_option maxRecDepth 100000 in
theorem mi_X2_init : Cond.instanceMethod yX2_init ∈ lw_tbl := List.mem_of_getElem? (i := 245) (by decide +kernel)
set_option maxRecDepth 100000 in
theorem mc_X2_homeAt : k_Mc yX2_homeAt cX2_homeAt 2 (some .int) 1 := ⟨List.mem_of_getElem? (i := 276) (by decide +kernel), List.mem_of_getElem? (i := 20) (by decide +kernel), by decide +kernel, by decide +kernel, by decide +kernel⟩
set_option maxRecDepth 100000 in
theorem mv_X2_homeAt : k_Mv yX2_homeAt := ⟨List.mem_of_getElem? (i := 274) (by decide +kernel), List.mem_of_getElem? (i := 275) (by decide +kernel)⟩
set_option maxRecDepth 100000 in
theorem mc_X2_moveTo : k_Mc yX2_moveTo cX2_moveTo 2 (some .boolean) 1 := ⟨List.mem_of_getElem? (i := 281) (by decide +kernel), List.mem_of_getElem? (i := 20) (by decide +kernel), by decide +kernel, by decide +kernel, by decide +kernel⟩
set_option maxRecDepth 100000 in
theorem mv_X2_moveTo : k_Mv yX2_moveTo := ⟨List.mem_of_getElem? (i := 279) (by decide +kernel), List.mem_of_getElem? (i := 280) (by decide +kernel)⟩
set_option maxRecDepth 100000 in
theorem mc_X2_pay : k_Mc yX2_pay cX2_pay 3 (some .boolean) 2 := ⟨List.mem_of_getElem? (i := 424) (by decide +kernel), List.mem_of_getElem? (i := 20) (by decide +kernel), by decide +kernel, by decide +kernel, by decide +kernel⟩
set_option maxRecDepth 100000 in
theorem mv_X2_pay : k_Mv yX2_pay := ⟨List.mem_of_getElem? (i := 422) (by decide +kernel), List.mem_of_getElem? (i := 423) (by decide +kernel)⟩
set_option maxRecDepth 100000 in
theorem mc_X3_init : k_Mc yX3_init cX3_init 5 none 4 := ⟨List.mem_of_getElem? (i := 342) (by decide +kernel), List.mem_of_getElem? (i := 22) (by decide +kernel), by decide +kernel, by decide +kernel, by decide +kernel⟩
set_option maxRecDepth 100000 in
theorem mi_X3_init : Cond.instanceMethod yX3_init ∈ lw_tbl := List.mem_of_getElem? (i := 341) (by decide +kernel)
set_option maxRecDepth 100000 in
theorem mc_X3_isStepDue : k_Mc yX3_isStepDue cX3_isStepDue 1 (some .boolean) 0 := ⟨List.mem_of_getElem? (i := 420) (by decide +kernel), List.mem_of_getElem? (i := 22) (by decide +kernel), by decide +kernel, by decide +kernel, by decide +kernel⟩
set_option maxRecDepth 100000 in
theorem mv_X3_isStepDue : k_Mv yX3_isStepDue := ⟨List.mem_of_getElem? (i := 418) (by decide +kernel), List.mem_of_getElem? (i := 419) (by decide +kernel)⟩
set_option maxRecDepth 100000 in
theorem mc_X3_addCharge : k_Mc yX3_addCharge cX3_addCharge 3 none 2 := ⟨List.mem_of_getElem? (i := 436) (by decide +kernel), List.mem_of_getElem? (i := 22) (by decide +kernel), by decide +kernel, by decide +kernel, by decide +kernel⟩
set_option maxRecDepth 100000 in
theorem mv_X3_addCharge : k_Mv yX3_addCharge := ⟨List.mem_of_getElem? (i := 434) (by decide +kernel), List.mem_of_getElem? (i := 435) (by decide +kernel)⟩
set_option maxRecDepth 100000 in
theorem mc_X3_chargeOf : k_Mc yX3_chargeOf cX3_chargeOf 2 (some .long) 1 := ⟨List.mem_of_getElem? (i := 528) (by decide +kernel), List.mem_of_getElem? (i := 22) (by decide +kernel), by decide +kernel, by decide +kernel, by decide +kernel⟩
set_option maxRecDepth 100000 in
theorem mv_X3_chargeOf : k_Mv yX3_chargeOf := ⟨List.mem_of_getElem? (i := 526) (by decide +kernel), List.mem_of_getElem? (i := 527) (by decide +kernel)⟩
set_option maxRecDepth 100000 in
theorem mc_X4_init : k_Mc yX4_init cX4_init 1 none 0 := ⟨List.mem_of_getElem? (i := 27) (by decide +kernel), List.mem_of_getElem? (i := 10) (by decide +kernel), by decide +kernel, by decide +kernel, by decide +kernel⟩
set_option maxRecDepth 100000 in
theorem mi_X4_init : Cond.instanceMethod yX4_init ∈ lw_tbl := List.mem_of_getElem? (i := 26) (by decide +kernel)
set_option maxRecDepth 100000 in
theorem mc_X4_tariff : k_Mc yX4_tariff cX4_tariff 5 (some .int) 3 := ⟨List.mem_of_getElem? (i := 103) (by decide +kernel), List.mem_of_getElem? (i := 10) (by decide +kernel), by decide +kernel, by decide +kernel, by decide +kernel⟩
set_option maxRecDepth 100000 in
theorem mv_X4_tariff : k_Mv yX4_tariff := ⟨List.mem_of_getElem? (i := 101) (by decide +kernel), List.mem_of_getElem? (i := 102) (by decide +kernel)⟩
set_option maxRecDepth 100000 in
theorem mc_X4_link : k_Mc yX4_link cX4_link 6 (some .boolean) 4 := ⟨List.mem_of_getElem? (i := 200) (by decide +kernel), List.mem_of_getElem? (i := 10) (by decide +kernel), by decide +kernel, by decide +kernel, by decide +kernel⟩
set_option maxRecDepth 100000 in
theorem mv_X4_link : k_Mv yX4_link := ⟨List.mem_of_getElem? (i := 198) (by decide +kernel), List.mem_of_getElem? (i := 199) (by decide +kernel)⟩
set_option maxRecDepth 100000 in
theorem mc_X4_unlink : k_Mc yX4_unlink cX4_unlink 4 (some .int) 2 := ⟨List.mem_of_getElem? (i := 217) (by decide +kernel), List.mem_of_getElem? (i := 10) (by decide +kernel), by decide +kernel, by decide +kernel, by decide +kernel⟩
set_option maxRecDepth 100000 in
theorem mv_X4_unlink : k_Mv yX4_unlink := ⟨List.mem_of_getElem? (i := 215) (by decide +kernel), List.mem_of_getElem? (i := 216) (by decide +kernel)⟩
set_option maxRecDepth 100000 in
theorem mc_X4_number : k_Mc yX4_number cX4_number 5 (some .int) 3 := ⟨List.mem_of_getElem? (i := 237) (by decide +kernel), List.mem_of_getElem? (i := 10) (by decide +kernel), by decide +kernel, by decide +kernel, by decide +kernel⟩
set_option maxRecDepth 100000 in
theorem mv_X4_number : k_Mv yX4_number := ⟨List.mem_of_getElem? (i := 235) (by decide +kernel), List.mem_of_getElem? (i := 236) (by decide +kernel)⟩
set_option maxRecDepth 100000 in
theorem mc_X4_carryOver : k_Mc yX4_carryOver cX4_carryOver 4 (some .int) 2 := ⟨List.mem_of_getElem? (i := 267) (by decide +kernel), List.mem_of_getElem? (i := 10) (by decide +kernel), by decide +kernel, by decide +kernel, by decide +kernel⟩
set_option maxRecDepth 100000 in
theorem mv_X4_carryOver : k_Mv yX4_carryOver := ⟨List.mem_of_getElem? (i := 265) (by decide +kernel), List.mem_of_getElem? (i := 266) (by decide +kernel)⟩
set_option maxRecDepth 100000 in
theorem mc_X4_home : k_Mc yX4_home cX4_home 4 (some .int) 2 := ⟨List.mem_of_getElem? (i := 491) (by decide +kernel), List.mem_of_getElem? (i := 10) (by decide +kernel), by decide +kernel, by decide +kernel, by decide +kernel⟩
set_option maxRecDepth 100000 in
theorem mv_X4_home : k_Mv yX4_home := ⟨List.mem_of_getElem? (i := 489) (by decide +kernel), List.mem_of_getElem? (i := 490) (by decide +kernel)⟩
set_option maxRecDepth 100000 in
theorem mc_X4_topUp : k_Mc yX4_topUp cX4_topUp 7 (some .int) 3 := ⟨List.mem_of_getElem? (i := 286) (by decide +kernel), List.mem_of_getElem? (i := 10) (by decide +kernel), by decide +kernel, by decide +kernel, by decide +kernel⟩
set_option maxRecDepth 100000 in
theorem mv_X4_topUp : k_Mv yX4_topUp := ⟨List.mem_of_getElem? (i := 284) (by decide +kernel), List.mem_of_getElem? (i := 285) (by decide +kernel)⟩
set_option maxRecDepth 100000 in
theorem mc_X4_balance : k_Mc yX4_balance cX4_balance 2 (some .int) 1 := ⟨List.mem_of_getElem? (i := 499) (by decide +kernel), List.mem_of_getElem? (i := 10) (by decide +kernel), by decide +kernel, by decide +kernel, by decide +kernel⟩
set_option maxRecDepth 100000 in
theorem mv_X4_balance : k_Mv yX4_balance := ⟨List.mem_of_getElem? (i := 497) (by decide +kernel), List.mem_of_getElem? (i := 498) (by decide +kernel)⟩
set_option maxRecDepth 100000 in
theorem mc_X4_bundle : k_Mc yX4_bundle cX4_bundle 2 (some .int) 1 := ⟨List.mem_of_getElem? (i := 503) (by decide +kernel), List.mem_of_getElem? (i := 10) (by decide +kernel), by decide +kernel, by decide +kernel, by decide +kernel⟩
set_option maxRecDepth 100000 in
theorem mv_X4_bundle : k_Mv yX4_bundle := ⟨List.mem_of_getElem? (i := 501) (by decide +kernel), List.mem_of_getElem? (i := 502) (by decide +kernel)⟩
set_option maxRecDepth 100000 in
theorem mc_X4_call : k_Mc yX4_call cX4_call 6 (some .int) 2 := ⟨List.mem_of_getElem? (i := 292) (by decide +kernel), List.mem_of_getElem? (i := 10) (by decide +kernel), by decide +kernel, by decide +kernel, by decide +kernel⟩
set_option maxRecDepth 100000 in
theorem mv_X4_call : k_Mv yX4_call := ⟨List.mem_of_getElem? (i := 290) (by decide +kernel), List.mem_of_getElem? (i := 291) (by decide +kernel)⟩
set_option maxRecDepth 100000 in
theorem mc_X4_hangUp : k_Mc yX4_hangUp cX4_hangUp 3 (some .int) 1 := ⟨List.mem_of_getElem? (i := 395) (by decide +kernel), List.mem_of_getElem? (i := 10) (by decide +kernel), by decide +kernel, by decide +kernel, by decide +kernel⟩
set_option maxRecDepth 100000 in
theorem mv_X4_hangUp : k_Mv yX4_hangUp := ⟨List.mem_of_getElem? (i := 393) (by decide +kernel), List.mem_of_getElem? (i := 394) (by decide +kernel)⟩
set_option maxRecDepth 100000 in
theorem mc_X4_pass : k_Mc yX4_pass cX4_pass 8 (some .int) 1 := ⟨List.mem_of_getElem? (i := 405) (by decide +kernel), List.mem_of_getElem? (i := 10) (by decide +kernel), by decide +kernel, by decide +kernel, by decide +kernel⟩
set_option maxRecDepth 100000 in
theorem mv_X4_pass : k_Mv yX4_pass := ⟨List.mem_of_getElem? (i := 403) (by decide +kernel), List.mem_of_getElem? (i := 404) (by decide +kernel)⟩
set_option maxRecDepth 100000 in
theorem mc_X4_state : k_Mc yX4_state cX4_state 2 (some .int) 1 := ⟨List.mem_of_getElem? (i := 507) (by decide +kernel), List.mem_of_getElem? (i := 10) (by decide +kernel), by decide +kernel, by decide +kernel, by decide +kernel⟩
set_option maxRecDepth 100000 in
theorem mv_X4_state : k_Mv yX4_state := ⟨List.mem_of_getElem? (i := 505) (by decide +kernel), List.mem_of_getElem? (i := 506) (by decide +kernel)⟩
set_option maxRecDepth 100000 in
theorem mc_X4_minutes : k_Mc yX4_minutes cX4_minutes 2 (some .int) 1 := ⟨List.mem_of_getElem? (i := 511) (by decide +kernel), List.mem_of_getElem? (i := 10) (by decide +kernel), by decide +kernel, by decide +kernel, by decide +kernel⟩
set_option maxRecDepth 100000 in
theorem mv_X4_minutes : k_Mv yX4_minutes := ⟨List.mem_of_getElem? (i := 509) (by decide +kernel), List.mem_of_getElem? (i := 510) (by decide +kernel)⟩
set_option maxRecDepth 100000 in
theorem mc_X4_moved : k_Mc yX4_moved cX4_moved 2 (some .int) 1 := ⟨List.mem_of_getElem? (i := 515) (by decide +kernel), List.mem_of_getElem? (i := 10) (by decide +kernel), by decide +kernel, by decide +kernel, by decide +kernel⟩
set_option maxRecDepth 100000 in
theorem mv_X4_moved : k_Mv yX4_moved := ⟨List.mem_of_getElem? (i := 513) (by decide +kernel), List.mem_of_getElem? (i := 514) (by decide +kernel)⟩
set_option maxRecDepth 100000 in
theorem mc_X4_way : k_Mc yX4_way cX4_way 4 (some .int) 2 := ⟨List.mem_of_getElem? (i := 481) (by decide +kernel), List.mem_of_getElem? (i := 10) (by decide +kernel), by decide +kernel, by decide +kernel, by decide +kernel⟩
set_option maxRecDepth 100000 in
theorem mv_X4_way : k_Mv yX4_way := ⟨List.mem_of_getElem? (i := 479) (by decide +kernel), List.mem_of_getElem? (i := 480) (by decide +kernel)⟩
set_option maxRecDepth 100000 in
theorem mc_X4_cost : k_Mc yX4_cost cX4_cost 3 (some .int) 2 := ⟨List.mem_of_getElem? (i := 537) (by decide +kernel), List.mem_of_getElem? (i := 10) (by decide +kernel), by decide +kernel, by decide +kernel, by decide +kernel⟩
set_option maxRecDepth 100000 in
theorem mv_X4_cost : k_Mv yX4_cost := ⟨List.mem_of_getElem? (i := 535) (by decide +kernel), List.mem_of_getElem? (i := 536) (by decide +kernel)⟩
set_option maxRecDepth 100000 in
theorem mc_X4_best : k_Mc yX4_best cX4_best 5 (some .int) 3 := ⟨List.mem_of_getElem? (i := 486) (by decide +kernel), List.mem_of_getElem? (i := 10) (by decide +kernel), by decide +kernel, by decide +kernel, by decide +kernel⟩
set_option maxRecDepth 100000 in
theorem mv_X4_best : k_Mv yX4_best := ⟨List.mem_of_getElem? (i := 484) (by decide +kernel), List.mem_of_getElem? (i := 485) (by decide +kernel)⟩
set_option maxRecDepth 100000 in
theorem mc_X4_isBarred : k_Mc yX4_isBarred cX4_isBarred 3 (some .boolean) 2 := ⟨List.mem_of_getElem? (i := 532) (by decide +kernel), List.mem_of_getElem? (i := 10) (by decide +kernel), by decide +kernel, by decide +kernel, by decide +kernel⟩
set_option maxRecDepth 100000 in
theorem mv_X4_isBarred : k_Mv yX4_isBarred := ⟨List.mem_of_getElem? (i := 530) (by decide +kernel), List.mem_of_getElem? (i := 531) (by decide +kernel)⟩
set_option maxRecDepth 100000 in
theorem mc_X4_debt : k_Mc yX4_debt cX4_debt 3 (some .long) 2 := ⟨List.mem_of_getElem? (i := 519) (by decide +kernel), List.mem_of_getElem? (i := 10) (by decide +kernel), by decide +kernel, by decide +kernel, by decide +kernel⟩
set_option maxRecDepth 100000 in
theorem mv_X4_debt : k_Mv yX4_debt := ⟨List.mem_of_getElem? (i := 517) (by decide +kernel), List.mem_of_getElem? (i := 518) (by decide +kernel)⟩
set_option maxRecDepth 100000 in
theorem mc_X4_charged : k_Mc yX4_charged cX4_charged 10 (some .long) 2 := ⟨List.mem_of_getElem? (i := 523) (by decide +kernel), List.mem_of_getElem? (i := 10) (by decide +kernel), by decide +kernel, by decide +kernel, by decide +kernel⟩
set_option maxRecDepth 100000 in
theorem mv_X4_charged : k_Mv yX4_charged := ⟨List.mem_of_getElem? (i := 521) (by decide +kernel), List.mem_of_getElem? (i := 522) (by decide +kernel)⟩
set_option maxRecDepth 100000 in
theorem mc_X4_position : k_Mc yX4_position cX4_position 5 (some .long) 1 := ⟨List.mem_of_getElem? (i := 548) (by decide +kernel), List.mem_of_getElem? (i := 10) (by decide +kernel), by decide +kernel, by decide +kernel, by decide +kernel⟩
set_option maxRecDepth 100000 in
theorem mv_X4_position : k_Mv yX4_position := ⟨List.mem_of_getElem? (i := 546) (by decide +kernel), List.mem_of_getElem? (i := 547) (by decide +kernel)⟩
set_option maxRecDepth 100000 in
theorem mc_X4_settle : k_Mc yX4_settle cX4_settle 5 (some .long) 2 := ⟨List.mem_of_getElem? (i := 440) (by decide +kernel), List.mem_of_getElem? (i := 10) (by decide +kernel), by decide +kernel, by decide +kernel, by decide +kernel⟩
set_option maxRecDepth 100000 in
theorem mv_X4_settle : k_Mv yX4_settle := ⟨List.mem_of_getElem? (i := 438) (by decide +kernel), List.mem_of_getElem? (i := 439) (by decide +kernel)⟩
set_option maxRecDepth 100000 in
theorem mc_X4_isWithin : k_Mc yX4_isWithin cX4_isWithin 3 (some .boolean) 3 := ⟨List.mem_of_getElem? (i := 180) (by decide +kernel), List.mem_of_getElem? (i := 10) (by decide +kernel), by decide +kernel, by decide +kernel, by decide +kernel⟩
set_option maxRecDepth 100000 in
theorem ms_X4_isWithin : k_Ms yX4_isWithin := List.mem_of_getElem? (i := 179) (by decide +kernel)
set_option maxRecDepth 100000 in
theorem mc_X4_isCarrier : k_Mc yX4_isCarrier cX4_isCarrier 1 (some .boolean) 1 := ⟨List.mem_of_getElem? (i := 109) (by decide +kernel), List.mem_of_getElem? (i := 10) (by decide +kernel), by decide +kernel, by decide +kernel, by decide +kernel⟩
set_option maxRecDepth 100000 in
theorem ms_X4_isCarrier : k_Ms yX4_isCarrier := List.mem_of_getElem? (i := 108) (by decide +kernel)
set_option maxRecDepth 100000 in
theorem mc_X4_pairOf : k_Mc yX4_pairOf cX4_pairOf 3 (some .int) 2 := ⟨List.mem_of_getElem? (i := 209) (by decide +kernel), List.mem_of_getElem? (i := 10) (by decide +kernel), by decide +kernel, by decide +kernel, by decide +kernel⟩
set_option maxRecDepth 100000 in
theorem ms_X4_pairOf : k_Ms yX4_pairOf := List.mem_of_getElem? (i := 208) (by decide +kernel)
set_option maxRecDepth 100000 in
theorem mc_X4_demandCarrier : k_Mc yX4_demandCarrier cX4_demandCarrier 1 none 1 := ⟨List.mem_of_getElem? (i := 106) (by decide +kernel), List.mem_of_getElem? (i := 10) (by decide +kernel), by decide +kernel, by decide +kernel, by decide +kernel⟩
set_option maxRecDepth 100000 in
theorem ms_X4_demandCarrier : k_Ms yX4_demandCarrier := List.mem_of_getElem? (i := 105) (by decide +kernel)
set_option maxRecDepth 100000 in
theorem mc_X4_demandCredit : k_Mc yX4_demandCredit cX4_demandCredit 2 none 2 := ⟨List.mem_of_getElem? (i := 240) (by decide +kernel), List.mem_of_getElem? (i := 10) (by decide +kernel), by decide +kernel, by decide +kernel, by decide +kernel⟩
set_option maxRecDepth 100000 in
theorem ms_X4_demandCredit : k_Ms yX4_demandCredit := List.mem_of_getElem? (i := 239) (by decide +kernel)
set_option maxRecDepth 100000 in
theorem mc_X4_subscriberOf : k_Mc yX4_subscriberOf cX4_subscriberOf 3 (some (.object "RoamLedger$Subscriber")) 1 := ⟨List.mem_of_getElem? (i := 271) (by decide +kernel), List.mem_of_getElem? (i := 10) (by decide +kernel), by decide +kernel, by decide +kernel, by decide +kernel⟩
set_option maxRecDepth 100000 in
theorem mv_X4_subscriberOf : k_Mv yX4_subscriberOf := ⟨List.mem_of_getElem? (i := 270) (by decide +kernel), List.mem_of_getElem? (i := 1) (by decide +kernel)⟩
set_option maxRecDepth 100000 in
theorem mc_X4_talkOf : k_Mc yX4_talkOf cX4_talkOf 3 (some (.object "RoamLedger$Talk")) 1 := ⟨List.mem_of_getElem? (i := 399) (by decide +kernel), List.mem_of_getElem? (i := 10) (by decide +kernel), by decide +kernel, by decide +kernel, by decide +kernel⟩
set_option maxRecDepth 100000 in
theorem mv_X4_talkOf : k_Mv yX4_talkOf := ⟨List.mem_of_getElem? (i := 398) (by decide +kernel), List.mem_of_getElem? (i := 7) (by decide +kernel)⟩
set_option maxRecDepth 100000 in
theorem mc_X4_isTalking : k_Mc yX4_isTalking cX4_isTalking 6 (some .boolean) 1 := ⟨List.mem_of_getElem? (i := 297) (by decide +kernel), List.mem_of_getElem? (i := 10) (by decide +kernel), by decide +kernel, by decide +kernel, by decide +kernel⟩
set_option maxRecDepth 100000 in
theorem mv_X4_isTalking : k_Mv yX4_isTalking := ⟨List.mem_of_getElem? (i := 296) (by decide +kernel), List.mem_of_getElem? (i := 2) (by decide +kernel)⟩
set_option maxRecDepth 100000 in
theorem mc_X4_newTalk : k_Mc yX4_newTalk cX4_newTalk 8 (some (.object "RoamLedger$Talk")) 3 := ⟨List.mem_of_getElem? (i := 338) (by decide +kernel), List.mem_of_getElem? (i := 10) (by decide +kernel), by decide +kernel, by decide +kernel, by decide +kernel⟩
set_option maxRecDepth 100000 in
theorem mv_X4_newTalk : k_Mv yX4_newTalk := ⟨List.mem_of_getElem? (i := 337) (by decide +kernel), List.mem_of_getElem? (i := 6) (by decide +kernel)⟩
set_option maxRecDepth 100000 in
theorem mc_X4_runOneMinute : k_Mc yX4_runOneMinute cX4_runOneMinute 3 (some .boolean) 1 := ⟨List.mem_of_getElem? (i := 410) (by decide +kernel), List.mem_of_getElem? (i := 10) (by decide +kernel), by decide +kernel, by decide +kernel, by decide +kernel⟩
set_option maxRecDepth 100000 in
theorem mv_X4_runOneMinute : k_Mv yX4_runOneMinute := ⟨List.mem_of_getElem? (i := 409) (by decide +kernel), List.mem_of_getElem? (i := 8) (by decide +kernel)⟩
set_option maxRecDepth 100000 in
theorem mc_J9_min_7cf53 : k_Mc yJ9_min_7cf53 cJ9_min_7cf53 2 (some .int) 2 := ⟨List.mem_of_getElem? (i := 321) (by decide +kernel), List.mem_of_getElem? (i := 21) (by decide +kernel), by decide +kernel, by decide +kernel, by decide +kernel⟩
set_option maxRecDepth 100000 in
theorem ms_J9_min_7cf53 : k_Ms yJ9_min_7cf53 := List.mem_of_getElem? (i := 320) (by decide +kernel)
set_option maxRecDepth 100000 in
theorem mc_J7_fill_53178 : k_Mc yJ7_fill_53178 cJ7_fill_53178 4 none 2 := ⟨List.mem_of_getElem? (i := 39) (by decide +kernel), List.mem_of_getElem? (i := 12) (by decide +kernel), by decide +kernel, by decide +kernel, by decide +kernel⟩
set_option maxRecDepth 100000 in
theorem ms_J7_fill_53178 : k_Ms yJ7_fill_53178 := List.mem_of_getElem? (i := 38) (by decide +kernel)
set_option maxRecDepth 100000 in
theorem mc_L_cell : k_Mc yL_cell cL_cell 2 (some .int) 2 := ⟨List.mem_of_getElem? (i := 449) (by decide +kernel), List.mem_of_getElem? (i := 9) (by decide +kernel), by decide +kernel, by decide +kernel, by decide +kernel⟩
set_option maxRecDepth 100000 in
theorem ms_L_cell : k_Ms yL_cell := List.mem_of_getElem? (i := 448) (by decide +kernel)
set_option maxRecDepth 100000 in
theorem mc_L_low : k_Mc yL_low cL_low 2 (some .int) 2 := ⟨List.mem_of_getElem? (i := 454) (by decide +kernel), List.mem_of_getElem? (i := 9) (by decide +kernel), by decide +kernel, by decide +kernel, by decide +kernel⟩
set_option maxRecDepth 100000 in
theorem ms_L_low : k_Ms yL_low := List.mem_of_getElem? (i := 453) (by decide +kernel)
set_option maxRecDepth 100000 in
theorem mc_L_shut : k_Mc yL_shut cL_shut 5 (some .boolean) 4 := ⟨List.mem_of_getElem? (i := 462) (by decide +kernel), List.mem_of_getElem? (i := 9) (by decide +kernel), by decide +kernel, by decide +kernel, by decide +kernel⟩
set_option maxRecDepth 100000 in
theorem ms_L_shut : k_Ms yL_shut := List.mem_of_getElem? (i := 461) (by decide +kernel)
set_option maxRecDepth 100000 in
theorem mc_L_best : k_Mc yL_best cL_best 17 (some .int) 4 := ⟨List.mem_of_getElem? (i := 458) (by decide +kernel), List.mem_of_getElem? (i := 9) (by decide +kernel), by decide +kernel, by decide +kernel, by decide +kernel⟩
set_option maxRecDepth 100000 in
theorem ms_L_best : k_Ms yL_best := List.mem_of_getElem? (i := 457) (by decide +kernel)
set_option maxRecDepth 100000 in
theorem mc_L_cost : k_Mc yL_cost cL_cost 4 (some .int) 2 := ⟨List.mem_of_getElem? (i := 544) (by decide +kernel), List.mem_of_getElem? (i := 9) (by decide +kernel), by decide +kernel, by decide +kernel, by decide +kernel⟩
set_option maxRecDepth 100000 in
theorem ms_L_cost : k_Ms yL_cost := List.mem_of_getElem? (i := 543) (by decide +kernel)
set_option maxRecDepth 100000 in
theorem mc_L_end : k_Mc yL_end cL_end 2 (some .int) 1 := ⟨List.mem_of_getElem? (i := 471) (by decide +kernel), List.mem_of_getElem? (i := 9) (by decide +kernel), by decide +kernel, by decide +kernel, by decide +kernel⟩
set_option maxRecDepth 100000 in
theorem ms_L_end : k_Ms yL_end := List.mem_of_getElem? (i := 470) (by decide +kernel)
set_option maxRecDepth 100000 in
theorem mc_L_busy : k_Mc yL_busy cL_busy 4 (some .boolean) 3 := ⟨List.mem_of_getElem? (i := 465) (by decide +kernel), List.mem_of_getElem? (i := 9) (by decide +kernel), by decide +kernel, by decide +kernel, by decide +kernel⟩
set_option maxRecDepth 100000 in
theorem ms_L_busy : k_Ms yL_busy := List.mem_of_getElem? (i := 464) (by decide +kernel)
set_option maxRecDepth 100000 in
theorem mc_L_minute : k_Mc yL_minute cL_minute 12 none 6 := ⟨List.mem_of_getElem? (i := 468) (by decide +kernel), List.mem_of_getElem? (i := 9) (by decide +kernel), by decide +kernel, by decide +kernel, by decide +kernel⟩
set_option maxRecDepth 100000 in
theorem ms_L_minute : k_Ms yL_minute := List.mem_of_getElem? (i := 467) (by decide +kernel)
set_option maxRecDepth 100000 in
theorem ms_L_refused : k_Ms yL_refused := List.mem_of_getElem? (i := 473) (by decide +kernel)
set_option maxRecDepth 100000 in
theorem mc_L_same : k_Mc yL_same cL_same 14 (some .boolean) 8 := ⟨List.mem_of_getElem? (i := 495) (by decide +kernel), List.mem_of_getElem? (i := 9) (by decide +kernel), by decide +kernel, by decide +kernel, by decide +kernel⟩
set_option maxRecDepth 100000 in
theorem ms_L_same : k_Ms yL_same := List.mem_of_getElem? (i := 494) (by decide +kernel)
set_option maxRecDepth 100000 in
theorem lk_L_98 : Cond.methodLink RL 98 yX4_init ∈ lw_tbl := List.mem_of_getElem? (i := 25) (by decide +kernel)
set_option maxRecDepth 100000 in
theorem lk_X4_18 : Cond.methodLink RX4 18 yX0_init ∈ lw_tbl := List.mem_of_getElem? (i := 33) (by decide +kernel)
set_option maxRecDepth 100000 in
theorem lk_X0_25 : Cond.methodLink RX0 25 yJ7_fill_53178 ∈ lw_tbl := List.mem_of_getElem? (i := 37) (by decide +kernel)
set_option maxRecDepth 100000 in
theorem lk_X4_37 : Cond.methodLinkNest RX4 37 yX1_init RX4 ∈ lw_tbl := List.mem_of_getElem? (i := 61) (by decide +kernel)
set_option maxRecDepth 100000 in
theorem lk_X4_42 : Cond.methodLink RX4 42 yJ7_fill_53178 ∈ lw_tbl := List.mem_of_getElem? (i := 74) (by decide +kernel)
set_option maxRecDepth 100000 in
theorem lk_L_114 : Cond.methodLink RL 114 yX4_tariff ∈ lw_tbl := List.mem_of_getElem? (i := 100) (by decide +kernel)
set_option maxRecDepth 100000 in
theorem lk_X4_48 : Cond.methodLink RX4 48 yX4_demandCarrier ∈ lw_tbl := List.mem_of_getElem? (i := 104) (by decide +kernel)
set_option maxRecDepth 100000 in
theorem lk_X4_204 : Cond.methodLink RX4 204 yX4_isCarrier ∈ lw_tbl := List.mem_of_getElem? (i := 107) (by decide +kernel)
set_option maxRecDepth 100000 in
theorem lk_X4_52 : Cond.methodLink RX4 52 yX4_isWithin ∈ lw_tbl := List.mem_of_getElem? (i := 178) (by decide +kernel)
set_option maxRecDepth 100000 in
theorem lk_L_110 : Cond.methodLink RL 110 yX4_link ∈ lw_tbl := List.mem_of_getElem? (i := 197) (by decide +kernel)
set_option maxRecDepth 100000 in
theorem lk_X4_66 : Cond.methodLink RX4 66 yX0_rateOf ∈ lw_tbl := List.mem_of_getElem? (i := 203) (by decide +kernel)
set_option maxRecDepth 100000 in
theorem lk_X0_31 : Cond.methodLinkNest RX0 31 yX4_pairOf RX4 ∈ lw_tbl := List.mem_of_getElem? (i := 207) (by decide +kernel)
set_option maxRecDepth 100000 in
theorem lk_X4_70 : Cond.methodLink RX4 70 yX0_setLink ∈ lw_tbl := List.mem_of_getElem? (i := 210) (by decide +kernel)
set_option maxRecDepth 100000 in
theorem lk_L_38 : Cond.methodLink RL 38 yX4_unlink ∈ lw_tbl := List.mem_of_getElem? (i := 214) (by decide +kernel)
set_option maxRecDepth 100000 in
theorem lk_L_106 : Cond.methodLink RL 106 yX4_number ∈ lw_tbl := List.mem_of_getElem? (i := 234) (by decide +kernel)
set_option maxRecDepth 100000 in
theorem lk_X4_79 : Cond.methodLink RX4 79 yX4_demandCredit ∈ lw_tbl := List.mem_of_getElem? (i := 238) (by decide +kernel)
set_option maxRecDepth 100000 in
theorem lk_X4_89 : Cond.methodLink RX4 89 yX2_init ∈ lw_tbl := List.mem_of_getElem? (i := 244) (by decide +kernel)
set_option maxRecDepth 100000 in
theorem lk_L_41 : Cond.methodLink RL 41 yX4_carryOver ∈ lw_tbl := List.mem_of_getElem? (i := 264) (by decide +kernel)
set_option maxRecDepth 100000 in
theorem lk_X4_92 : Cond.methodLink RX4 92 yX4_subscriberOf ∈ lw_tbl := List.mem_of_getElem? (i := 268) (by decide +kernel)
set_option maxRecDepth 100000 in
theorem lk_X4_96 : Cond.methodLink RX4 96 yX2_homeAt ∈ lw_tbl := List.mem_of_getElem? (i := 273) (by decide +kernel)
set_option maxRecDepth 100000 in
theorem lk_X4_102 : Cond.methodLink RX4 102 yX2_moveTo ∈ lw_tbl := List.mem_of_getElem? (i := 278) (by decide +kernel)
set_option maxRecDepth 100000 in
theorem lk_L_117 : Cond.methodLink RL 117 yX4_topUp ∈ lw_tbl := List.mem_of_getElem? (i := 283) (by decide +kernel)
set_option maxRecDepth 100000 in
theorem lk_L_25 : Cond.methodLink RL 25 yX4_call ∈ lw_tbl := List.mem_of_getElem? (i := 289) (by decide +kernel)
set_option maxRecDepth 100000 in
theorem lk_X4_127 : Cond.methodLink RX4 127 yX4_isTalking ∈ lw_tbl := List.mem_of_getElem? (i := 294) (by decide +kernel)
set_option maxRecDepth 100000 in
theorem lk_X4_138 : Cond.methodLink RX4 138 yX0_findBest ∈ lw_tbl := List.mem_of_getElem? (i := 300) (by decide +kernel)
set_option maxRecDepth 100000 in
theorem lk_X0_66 : Cond.methodLinkNest RX0 66 yX4_isCarrier RX4 ∈ lw_tbl := List.mem_of_getElem? (i := 304) (by decide +kernel)
set_option maxRecDepth 100000 in
theorem lk_X0_70 : Cond.methodLink RX0 70 yX0_weighWaysTo ∈ lw_tbl := List.mem_of_getElem? (i := 305) (by decide +kernel)
set_option maxRecDepth 100000 in
theorem lk_X0_45 : Cond.methodLink RX0 45 yX0_isOpen ∈ lw_tbl := List.mem_of_getElem? (i := 310) (by decide +kernel)
set_option maxRecDepth 100000 in
theorem lk_X0_84 : Cond.methodLink RX0 84 yX0_weightOver ∈ lw_tbl := List.mem_of_getElem? (i := 314) (by decide +kernel)
set_option maxRecDepth 100000 in
theorem lk_X0_49 : Cond.methodLink RX0 49 yX0_rateOf ∈ lw_tbl := List.mem_of_getElem? (i := 318) (by decide +kernel)
set_option maxRecDepth 100000 in
theorem lk_X0_87 : Cond.methodLink RX0 87 yJ9_min_7cf53 ∈ lw_tbl := List.mem_of_getElem? (i := 319) (by decide +kernel)
set_option maxRecDepth 100000 in
theorem lk_X0_75 : Cond.methodLink RX0 75 yX1_clear ∈ lw_tbl := List.mem_of_getElem? (i := 322) (by decide +kernel)
set_option maxRecDepth 100000 in
theorem lk_X0_78 : Cond.methodLink RX0 78 yX1_add ∈ lw_tbl := List.mem_of_getElem? (i := 326) (by decide +kernel)
set_option maxRecDepth 100000 in
theorem lk_X0_81 : Cond.methodLink RX0 81 yX0_nextOnBest ∈ lw_tbl := List.mem_of_getElem? (i := 330) (by decide +kernel)
set_option maxRecDepth 100000 in
theorem lk_X4_144 : Cond.methodLink RX4 144 yX4_newTalk ∈ lw_tbl := List.mem_of_getElem? (i := 335) (by decide +kernel)
set_option maxRecDepth 100000 in
theorem lk_X4_222 : Cond.methodLink RX4 222 yX3_init ∈ lw_tbl := List.mem_of_getElem? (i := 340) (by decide +kernel)
set_option maxRecDepth 100000 in
theorem lk_X3_11 : Cond.methodLinkNest RX3 11 yX1_init RX4 ∈ lw_tbl := List.mem_of_getElem? (i := 345) (by decide +kernel)
set_option maxRecDepth 100000 in
theorem lk_X4_225 : Cond.methodLink RX4 225 yX1_become ∈ lw_tbl := List.mem_of_getElem? (i := 382) (by decide +kernel)
set_option maxRecDepth 100000 in
theorem lk_X1_19 : Cond.methodLink RX1 19 yX1_clear ∈ lw_tbl := List.mem_of_getElem? (i := 386) (by decide +kernel)
set_option maxRecDepth 100000 in
theorem lk_X1_22 : Cond.methodLink RX1 22 yX1_carrierAt ∈ lw_tbl := List.mem_of_getElem? (i := 387) (by decide +kernel)
set_option maxRecDepth 100000 in
theorem lk_X1_26 : Cond.methodLink RX1 26 yX1_add ∈ lw_tbl := List.mem_of_getElem? (i := 391) (by decide +kernel)
set_option maxRecDepth 100000 in
theorem lk_L_31 : Cond.methodLink RL 31 yX4_hangUp ∈ lw_tbl := List.mem_of_getElem? (i := 392) (by decide +kernel)
set_option maxRecDepth 100000 in
theorem lk_X4_148 : Cond.methodLink RX4 148 yX4_talkOf ∈ lw_tbl := List.mem_of_getElem? (i := 396) (by decide +kernel)
set_option maxRecDepth 100000 in
theorem lk_L_128 : Cond.methodLink RL 128 yX4_pass ∈ lw_tbl := List.mem_of_getElem? (i := 402) (by decide +kernel)
set_option maxRecDepth 100000 in
theorem lk_X4_162 : Cond.methodLink RX4 162 yX4_runOneMinute ∈ lw_tbl := List.mem_of_getElem? (i := 407) (by decide +kernel)
set_option maxRecDepth 100000 in
theorem lk_X4_229 : Cond.methodLink RX4 229 yX0_isOpenAlong ∈ lw_tbl := List.mem_of_getElem? (i := 411) (by decide +kernel)
set_option maxRecDepth 100000 in
theorem lk_X0_41 : Cond.methodLink RX0 41 yX1_carrierAt ∈ lw_tbl := List.mem_of_getElem? (i := 415) (by decide +kernel)
set_option maxRecDepth 100000 in
theorem lk_X4_172 : Cond.methodLink RX4 172 yX1_carrierAt ∈ lw_tbl := List.mem_of_getElem? (i := 416) (by decide +kernel)
set_option maxRecDepth 100000 in
theorem lk_X4_236 : Cond.methodLink RX4 236 yX3_isStepDue ∈ lw_tbl := List.mem_of_getElem? (i := 417) (by decide +kernel)
set_option maxRecDepth 100000 in
theorem lk_X4_246 : Cond.methodLink RX4 246 yX2_pay ∈ lw_tbl := List.mem_of_getElem? (i := 421) (by decide +kernel)
set_option maxRecDepth 100000 in
theorem lk_X4_249 : Cond.methodLink RX4 249 yX0_charge ∈ lw_tbl := List.mem_of_getElem? (i := 425) (by decide +kernel)
set_option maxRecDepth 100000 in
theorem lk_X0_58 : Cond.methodLink RX0 58 yX0_addDebt ∈ lw_tbl := List.mem_of_getElem? (i := 429) (by decide +kernel)
set_option maxRecDepth 100000 in
theorem lk_X0_62 : Cond.methodLink RX0 62 yX3_addCharge ∈ lw_tbl := List.mem_of_getElem? (i := 433) (by decide +kernel)
set_option maxRecDepth 100000 in
theorem lk_L_34 : Cond.methodLink RL 34 yX4_settle ∈ lw_tbl := List.mem_of_getElem? (i := 437) (by decide +kernel)
set_option maxRecDepth 100000 in
theorem lk_X4_187 : Cond.methodLink RX4 187 yX0_debtOf ∈ lw_tbl := List.mem_of_getElem? (i := 441) (by decide +kernel)
set_option maxRecDepth 100000 in
theorem lk_X4_200 : Cond.methodLink RX4 200 yX0_addDebt ∈ lw_tbl := List.mem_of_getElem? (i := 446) (by decide +kernel)
set_option maxRecDepth 100000 in
theorem lk_L_99 : Cond.methodLink RL 99 yL_cell ∈ lw_tbl := List.mem_of_getElem? (i := 447) (by decide +kernel)
set_option maxRecDepth 100000 in
theorem lk_L_103 : Cond.methodLink RL 103 yL_low ∈ lw_tbl := List.mem_of_getElem? (i := 452) (by decide +kernel)
set_option maxRecDepth 100000 in
theorem lk_L_21 : Cond.methodLink RL 21 yL_best ∈ lw_tbl := List.mem_of_getElem? (i := 456) (by decide +kernel)
set_option maxRecDepth 100000 in
theorem lk_L_11 : Cond.methodLink RL 11 yL_shut ∈ lw_tbl := List.mem_of_getElem? (i := 460) (by decide +kernel)
set_option maxRecDepth 100000 in
theorem lk_L_120 : Cond.methodLink RL 120 yL_busy ∈ lw_tbl := List.mem_of_getElem? (i := 463) (by decide +kernel)
set_option maxRecDepth 100000 in
theorem lk_L_124 : Cond.methodLink RL 124 yL_minute ∈ lw_tbl := List.mem_of_getElem? (i := 466) (by decide +kernel)
set_option maxRecDepth 100000 in
theorem lk_L_17 : Cond.methodLink RL 17 yL_end ∈ lw_tbl := List.mem_of_getElem? (i := 469) (by decide +kernel)
set_option maxRecDepth 100000 in
theorem lk_L_65 : Cond.methodLink RL 65 yL_refused ∈ lw_tbl := List.mem_of_getElem? (i := 472) (by decide +kernel)
set_option maxRecDepth 100000 in
theorem lk_L_44 : Cond.methodLink RL 44 yX4_way ∈ lw_tbl := List.mem_of_getElem? (i := 478) (by decide +kernel)
set_option maxRecDepth 100000 in
theorem lk_L_47 : Cond.methodLink RL 47 yX4_best ∈ lw_tbl := List.mem_of_getElem? (i := 483) (by decide +kernel)
set_option maxRecDepth 100000 in
theorem lk_L_50 : Cond.methodLink RL 50 yX4_home ∈ lw_tbl := List.mem_of_getElem? (i := 488) (by decide +kernel)
set_option maxRecDepth 100000 in
theorem lk_L_131 : Cond.methodLink RL 131 yL_same ∈ lw_tbl := List.mem_of_getElem? (i := 493) (by decide +kernel)
set_option maxRecDepth 100000 in
theorem lk_L_59 : Cond.methodLink RL 59 yX4_balance ∈ lw_tbl := List.mem_of_getElem? (i := 496) (by decide +kernel)
set_option maxRecDepth 100000 in
theorem lk_L_62 : Cond.methodLink RL 62 yX4_bundle ∈ lw_tbl := List.mem_of_getElem? (i := 500) (by decide +kernel)
set_option maxRecDepth 100000 in
theorem lk_L_69 : Cond.methodLink RL 69 yX4_state ∈ lw_tbl := List.mem_of_getElem? (i := 504) (by decide +kernel)
set_option maxRecDepth 100000 in
theorem lk_L_72 : Cond.methodLink RL 72 yX4_minutes ∈ lw_tbl := List.mem_of_getElem? (i := 508) (by decide +kernel)
set_option maxRecDepth 100000 in
theorem lk_L_75 : Cond.methodLink RL 75 yX4_moved ∈ lw_tbl := List.mem_of_getElem? (i := 512) (by decide +kernel)
set_option maxRecDepth 100000 in
theorem lk_L_78 : Cond.methodLink RL 78 yX4_debt ∈ lw_tbl := List.mem_of_getElem? (i := 516) (by decide +kernel)
set_option maxRecDepth 100000 in
theorem lk_L_81 : Cond.methodLink RL 81 yX4_charged ∈ lw_tbl := List.mem_of_getElem? (i := 520) (by decide +kernel)
set_option maxRecDepth 100000 in
theorem lk_X4_191 : Cond.methodLink RX4 191 yX4_pairOf ∈ lw_tbl := List.mem_of_getElem? (i := 524) (by decide +kernel)
set_option maxRecDepth 100000 in
theorem lk_X4_194 : Cond.methodLink RX4 194 yX3_chargeOf ∈ lw_tbl := List.mem_of_getElem? (i := 525) (by decide +kernel)
set_option maxRecDepth 100000 in
theorem lk_L_84 : Cond.methodLink RL 84 yX4_isBarred ∈ lw_tbl := List.mem_of_getElem? (i := 529) (by decide +kernel)
set_option maxRecDepth 100000 in
theorem lk_X4_183 : Cond.methodLink RX4 183 yX0_isOpen ∈ lw_tbl := List.mem_of_getElem? (i := 533) (by decide +kernel)
set_option maxRecDepth 100000 in
theorem lk_L_88 : Cond.methodLink RL 88 yX4_cost ∈ lw_tbl := List.mem_of_getElem? (i := 534) (by decide +kernel)
set_option maxRecDepth 100000 in
theorem lk_X4_177 : Cond.methodLink RX4 177 yX0_costOf ∈ lw_tbl := List.mem_of_getElem? (i := 538) (by decide +kernel)
set_option maxRecDepth 100000 in
theorem lk_L_91 : Cond.methodLink RL 91 yL_cost ∈ lw_tbl := List.mem_of_getElem? (i := 542) (by decide +kernel)
set_option maxRecDepth 100000 in
theorem lk_L_94 : Cond.methodLink RL 94 yX4_position ∈ lw_tbl := List.mem_of_getElem? (i := 545) (by decide +kernel)
set_option maxRecDepth 100000 in
theorem ck_L_26 : Cond.classLink RL 26 RX4 ∈ lw_tbl := List.mem_of_getElem? (i := 23) (by decide +kernel)
set_option maxRecDepth 100000 in
theorem ck_X4_16 : Cond.classLink RX4 16 RX0 ∈ lw_tbl := List.mem_of_getElem? (i := 31) (by decide +kernel)
set_option maxRecDepth 100000 in
theorem ck_X4_23 : Cond.classLink RX4 23 RX2 ∈ lw_tbl := List.mem_of_getElem? (i := 55) (by decide +kernel)
set_option maxRecDepth 100000 in
theorem ck_X4_29 : Cond.classLink RX4 29 RX3 ∈ lw_tbl := List.mem_of_getElem? (i := 57) (by decide +kernel)
set_option maxRecDepth 100000 in
theorem ck_X4_35 : Cond.classLink RX4 35 RX1 ∈ lw_tbl := List.mem_of_getElem? (i := 59) (by decide +kernel)
set_option maxRecDepth 100000 in
theorem ck_X4_111 : Cond.classLink RX4 111 e_IO ∈ lw_tbl := List.mem_of_getElem? (i := 110) (by decide +kernel)
set_option maxRecDepth 100000 in
theorem ck_X4_56 : Cond.classLink RX4 56 e_IA ∈ lw_tbl := List.mem_of_getElem? (i := 181) (by decide +kernel)
set_option maxRecDepth 100000 in
theorem ck_X4_74 : Cond.classLink RX4 74 e_IS ∈ lw_tbl := List.mem_of_getElem? (i := 218) (by decide +kernel)
set_option maxRecDepth 100000 in
theorem ck_X3_9 : Cond.classLink RX3 9 RX1 ∈ lw_tbl := List.mem_of_getElem? (i := 344) (by decide +kernel)
set_option maxRecDepth 100000 in
theorem ck_L_53 : Cond.classLink RL 53 e_IO ∈ lw_tbl := List.mem_of_getElem? (i := 475) (by decide +kernel)
set_option maxRecDepth 100000 in
theorem ck_L_55 : Cond.classLink RL 55 e_IA ∈ lw_tbl := List.mem_of_getElem? (i := 476) (by decide +kernel)
set_option maxRecDepth 100000 in
theorem ck_L_57 : Cond.classLink RL 57 e_IS ∈ lw_tbl := List.mem_of_getElem? (i := 477) (by decide +kernel)
set_option maxRecDepth 100000 in
theorem sk_X4_207 : Cond.stringRef RX4 207 "no such carrier" ∈ lw_tbl := List.mem_of_getElem? (i := 151) (by decide +kernel)
set_option maxRecDepth 100000 in
theorem sk_X4_58 : Cond.stringRef RX4 58 "step or price is out of its range" ∈ lw_tbl := List.mem_of_getElem? (i := 190) (by decide +kernel)
set_option maxRecDepth 100000 in
theorem sk_X4_64 : Cond.stringRef RX4 64 "both are the same, or rate or trust is out of its range" ∈ lw_tbl := List.mem_of_getElem? (i := 202) (by decide +kernel)
set_option maxRecDepth 100000 in
theorem sk_X4_76 : Cond.stringRef RX4 76 "there is no such link" ∈ lw_tbl := List.mem_of_getElem? (i := 227) (by decide +kernel)
set_option maxRecDepth 100000 in
theorem sk_X4_209 : Cond.stringRef RX4 209 "balance or bundle is out of its range" ∈ lw_tbl := List.mem_of_getElem? (i := 241) (by decide +kernel)
set_option maxRecDepth 100000 in
theorem sk_X4_87 : Cond.stringRef RX4 87 "all numbers are given out" ∈ lw_tbl := List.mem_of_getElem? (i := 242) (by decide +kernel)
set_option maxRecDepth 100000 in
theorem sk_X4_211 : Cond.stringRef RX4 211 "no such number" ∈ lw_tbl := List.mem_of_getElem? (i := 272) (by decide +kernel)
set_option maxRecDepth 100000 in
theorem sk_X4_100 : Cond.stringRef RX4 100 "it is its home already" ∈ lw_tbl := List.mem_of_getElem? (i := 277) (by decide +kernel)
set_option maxRecDepth 100000 in
theorem sk_X4_106 : Cond.stringRef RX4 106 "its chain is full" ∈ lw_tbl := List.mem_of_getElem? (i := 282) (by decide +kernel)
set_option maxRecDepth 100000 in
theorem sk_X4_123 : Cond.stringRef RX4 123 "its balance or its bundle would be too large" ∈ lw_tbl := List.mem_of_getElem? (i := 288) (by decide +kernel)
set_option maxRecDepth 100000 in
theorem sk_X4_125 : Cond.stringRef RX4 125 "a number cannot call itself" ∈ lw_tbl := List.mem_of_getElem? (i := 293) (by decide +kernel)
set_option maxRecDepth 100000 in
theorem sk_X4_131 : Cond.stringRef RX4 131 "one of them has a running call" ∈ lw_tbl := List.mem_of_getElem? (i := 298) (by decide +kernel)
set_option maxRecDepth 100000 in
theorem sk_X4_136 : Cond.stringRef RX4 136 "the list of calls is full" ∈ lw_tbl := List.mem_of_getElem? (i := 299) (by decide +kernel)
set_option maxRecDepth 100000 in
theorem sk_X4_142 : Cond.stringRef RX4 142 "there is no way" ∈ lw_tbl := List.mem_of_getElem? (i := 334) (by decide +kernel)
set_option maxRecDepth 100000 in
theorem sk_X4_213 : Cond.stringRef RX4 213 "no such call" ∈ lw_tbl := List.mem_of_getElem? (i := 400) (by decide +kernel)
set_option maxRecDepth 100000 in
theorem sk_X4_155 : Cond.stringRef RX4 155 "it is not running" ∈ lw_tbl := List.mem_of_getElem? (i := 401) (by decide +kernel)
set_option maxRecDepth 100000 in
theorem sk_X4_160 : Cond.stringRef RX4 160 "minutes is out of its range" ∈ lw_tbl := List.mem_of_getElem? (i := 406) (by decide +kernel)
set_option maxRecDepth 100000 in
theorem sk_X4_198 : Cond.stringRef RX4 198 "its debt is not above 0" ∈ lw_tbl := List.mem_of_getElem? (i := 445) (by decide +kernel)
set_option maxRecDepth 100000 in
theorem sk_X4_175 : Cond.stringRef RX4 175 "its way has not so many carriers" ∈ lw_tbl := List.mem_of_getElem? (i := 482) (by decide +kernel)
set_option maxRecDepth 100000 in
theorem sk_X4_181 : Cond.stringRef RX4 181 "there is no way, or it has not so many carriers" ∈ lw_tbl := List.mem_of_getElem? (i := 487) (by decide +kernel)
set_option maxRecDepth 100000 in
theorem sk_X4_113 : Cond.stringRef RX4 113 "there are not so many homes" ∈ lw_tbl := List.mem_of_getElem? (i := 492) (by decide +kernel)
set_option maxRecDepth 100000 in
theorem ik_L : Cond.initialized RL ∈ lw_tbl := List.mem_of_getElem? (i := 9) (by decide +kernel)
set_option maxRecDepth 100000 in
theorem ik_X4 : Cond.initialized RX4 ∈ lw_tbl := List.mem_of_getElem? (i := 10) (by decide +kernel)
set_option maxRecDepth 100000 in
theorem ik_X0 : Cond.initialized RX0 ∈ lw_tbl := List.mem_of_getElem? (i := 11) (by decide +kernel)
set_option maxRecDepth 100000 in
theorem ik_J7 : Cond.initialized RJ7 ∈ lw_tbl := List.mem_of_getElem? (i := 12) (by decide +kernel)
set_option maxRecDepth 100000 in
theorem ik_X1 : Cond.initialized RX1 ∈ lw_tbl := List.mem_of_getElem? (i := 13) (by decide +kernel)
set_option maxRecDepth 100000 in
theorem ik_X2 : Cond.initialized RX2 ∈ lw_tbl := List.mem_of_getElem? (i := 20) (by decide +kernel)
set_option maxRecDepth 100000 in
theorem ik_J9 : Cond.initialized RJ9 ∈ lw_tbl := List.mem_of_getElem? (i := 21) (by decide +kernel)
set_option maxRecDepth 100000 in
theorem ik_X3 : Cond.initialized RX3 ∈ lw_tbl := List.mem_of_getElem? (i := 22) (by decide +kernel)
set_option maxRecDepth 100000 in
theorem ik_IO : Cond.initialized e_IO ∈ lw_tbl := List.mem_of_getElem? (i := 17) (by decide +kernel)
set_option maxRecDepth 100000 in
theorem tk_IO : Cond.castable e_IO e_IO ∈ lw_tbl := List.mem_of_getElem? (i := 112) (by decide +kernel)
set_option maxRecDepth 100000 in
theorem ik_IA : Cond.initialized e_IA ∈ lw_tbl := List.mem_of_getElem? (i := 18) (by decide +kernel)
set_option maxRecDepth 100000 in
theorem tk_IA : Cond.castable e_IA e_IA ∈ lw_tbl := List.mem_of_getElem? (i := 183) (by decide +kernel)
set_option maxRecDepth 100000 in
theorem ik_IS : Cond.initialized e_IS ∈ lw_tbl := List.mem_of_getElem? (i := 19) (by decide +kernel)
set_option maxRecDepth 100000 in
theorem tk_IS : Cond.castable e_IS e_IS ∈ lw_tbl := List.mem_of_getElem? (i := 220) (by decide +kernel)
set_option maxRecDepth 100000 in
theorem ok_i : Cond.instanceMethod Lib.objectInit ∈ lw_tbl := List.mem_of_getElem? (i := 29) (by decide +kernel)
set_option maxRecDepth 100000 in
theorem ok_c : Cond.code Lib.objectInit ⟨#[0xb1]⟩ 1 none ∈ lw_tbl := List.mem_of_getElem? (i := 30) (by decide +kernel)
