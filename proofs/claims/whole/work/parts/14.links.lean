theorem ok_X0_init : sh_ok mX0_init 0 := ⟨List.mem_of_getElem? (i := 104) (by decide +kernel), List.mem_of_getElem? (i := 55) (by decide +kernel), ⟨by decide, by decide⟩, by decide +kernel, by decide, rfl⟩
theorem ki_X0_init : Cond.instanceMethod yX0_init ∈ lw_tbl := List.mem_of_getElem? (i := 103) (by decide +kernel)
theorem ok_X0_placeWith : sh_ok mX0_placeWith 1 := ⟨List.mem_of_getElem? (i := 438) (by decide +kernel), List.mem_of_getElem? (i := 55) (by decide +kernel), ⟨by decide, by decide⟩, by decide +kernel, by decide, rfl⟩
theorem ks_X0_placeWith : Cond.static yX0_placeWith ∈ lw_tbl := List.mem_of_getElem? (i := 437) (by decide +kernel)
theorem ok_X0_leave : sh_ok mX0_leave 0 := ⟨List.mem_of_getElem? (i := 374) (by decide +kernel), List.mem_of_getElem? (i := 55) (by decide +kernel), ⟨by decide, by decide⟩, by decide +kernel, by decide, rfl⟩
theorem ki_X0_leave : Cond.instanceMethod yX0_leave ∈ lw_tbl := List.mem_of_getElem? (i := 372) (by decide +kernel)
theorem kv_X0_leave : Cond.selects yX0_leave.cls yX0_leave yX0_leave ∈ lw_tbl := List.mem_of_getElem? (i := 373) (by decide +kernel)
theorem ok_X0_hasPerson : sh_ok mX0_hasPerson 1 := ⟨List.mem_of_getElem? (i := 431) (by decide +kernel), List.mem_of_getElem? (i := 55) (by decide +kernel), ⟨by decide, by decide⟩, by decide +kernel, by decide, rfl⟩
theorem ki_X0_hasPerson : Cond.instanceMethod yX0_hasPerson ∈ lw_tbl := List.mem_of_getElem? (i := 429) (by decide +kernel)
theorem kv_X0_hasPerson : Cond.selects yX0_hasPerson.cls yX0_hasPerson yX0_hasPerson ∈ lw_tbl := List.mem_of_getElem? (i := 430) (by decide +kernel)
theorem ok_X0_hasStone : sh_ok mX0_hasStone 1 := ⟨List.mem_of_getElem? (i := 450) (by decide +kernel), List.mem_of_getElem? (i := 55) (by decide +kernel), ⟨by decide, by decide⟩, by decide +kernel, by decide, rfl⟩
theorem ki_X0_hasStone : Cond.instanceMethod yX0_hasStone ∈ lw_tbl := List.mem_of_getElem? (i := 448) (by decide +kernel)
theorem kv_X0_hasStone : Cond.selects yX0_hasStone.cls yX0_hasStone yX0_hasStone ∈ lw_tbl := List.mem_of_getElem? (i := 449) (by decide +kernel)
theorem ok_X0_addPerson : sh_ok mX0_addPerson 2 := ⟨List.mem_of_getElem? (i := 415) (by decide +kernel), List.mem_of_getElem? (i := 55) (by decide +kernel), ⟨by decide, by decide⟩, by decide +kernel, by decide, rfl⟩
theorem ki_X0_addPerson : Cond.instanceMethod yX0_addPerson ∈ lw_tbl := List.mem_of_getElem? (i := 413) (by decide +kernel)
theorem kv_X0_addPerson : Cond.selects yX0_addPerson.cls yX0_addPerson yX0_addPerson ∈ lw_tbl := List.mem_of_getElem? (i := 414) (by decide +kernel)
theorem ok_X0_addStone : sh_ok mX0_addStone 2 := ⟨List.mem_of_getElem? (i := 423) (by decide +kernel), List.mem_of_getElem? (i := 55) (by decide +kernel), ⟨by decide, by decide⟩, by decide +kernel, by decide, rfl⟩
theorem ki_X0_addStone : Cond.instanceMethod yX0_addStone ∈ lw_tbl := List.mem_of_getElem? (i := 421) (by decide +kernel)
theorem kv_X0_addStone : Cond.selects yX0_addStone.cls yX0_addStone yX0_addStone ∈ lw_tbl := List.mem_of_getElem? (i := 422) (by decide +kernel)
theorem ok_X0_carriedBy : sh_ok mX0_carriedBy 1 := ⟨List.mem_of_getElem? (i := 435) (by decide +kernel), List.mem_of_getElem? (i := 55) (by decide +kernel), ⟨by decide, by decide⟩, by decide +kernel, by decide, rfl⟩
theorem ki_X0_carriedBy : Cond.instanceMethod yX0_carriedBy ∈ lw_tbl := List.mem_of_getElem? (i := 433) (by decide +kernel)
theorem kv_X0_carriedBy : Cond.selects yX0_carriedBy.cls yX0_carriedBy yX0_carriedBy ∈ lw_tbl := List.mem_of_getElem? (i := 434) (by decide +kernel)
theorem ok_X0_howManyCarriedBy : sh_ok mX0_howManyCarriedBy 1 := ⟨List.mem_of_getElem? (i := 458) (by decide +kernel), List.mem_of_getElem? (i := 55) (by decide +kernel), ⟨by decide, by decide⟩, by decide +kernel, by decide, rfl⟩
theorem ki_X0_howManyCarriedBy : Cond.instanceMethod yX0_howManyCarriedBy ∈ lw_tbl := List.mem_of_getElem? (i := 456) (by decide +kernel)
theorem kv_X0_howManyCarriedBy : Cond.selects yX0_howManyCarriedBy.cls yX0_howManyCarriedBy yX0_howManyCarriedBy ∈ lw_tbl := List.mem_of_getElem? (i := 457) (by decide +kernel)
theorem ok_X0_weightWithStones : sh_ok mX0_weightWithStones 1 := ⟨List.mem_of_getElem? (i := 442) (by decide +kernel), List.mem_of_getElem? (i := 55) (by decide +kernel), ⟨by decide, by decide⟩, by decide +kernel, by decide, rfl⟩
theorem ki_X0_weightWithStones : Cond.instanceMethod yX0_weightWithStones ∈ lw_tbl := List.mem_of_getElem? (i := 440) (by decide +kernel)
theorem kv_X0_weightWithStones : Cond.selects yX0_weightWithStones.cls yX0_weightWithStones yX0_weightWithStones ∈ lw_tbl := List.mem_of_getElem? (i := 441) (by decide +kernel)
theorem ok_X0_isParty : sh_ok mX0_isParty 1 := ⟨List.mem_of_getElem? (i := 478) (by decide +kernel), List.mem_of_getElem? (i := 55) (by decide +kernel), ⟨by decide, by decide⟩, by decide +kernel, by decide, rfl⟩
theorem ki_X0_isParty : Cond.instanceMethod yX0_isParty ∈ lw_tbl := List.mem_of_getElem? (i := 476) (by decide +kernel)
theorem kv_X0_isParty : Cond.selects yX0_isParty.cls yX0_isParty yX0_isParty ∈ lw_tbl := List.mem_of_getElem? (i := 477) (by decide +kernel)
theorem ok_X0_roomOfParty : sh_ok mX0_roomOfParty 1 := ⟨List.mem_of_getElem? (i := 482) (by decide +kernel), List.mem_of_getElem? (i := 55) (by decide +kernel), ⟨by decide, by decide⟩, by decide +kernel, by decide, rfl⟩
theorem ki_X0_roomOfParty : Cond.instanceMethod yX0_roomOfParty ∈ lw_tbl := List.mem_of_getElem? (i := 480) (by decide +kernel)
theorem kv_X0_roomOfParty : Cond.selects yX0_roomOfParty.cls yX0_roomOfParty yX0_roomOfParty ∈ lw_tbl := List.mem_of_getElem? (i := 481) (by decide +kernel)
theorem ok_X0_weightOfParty : sh_ok mX0_weightOfParty 1 := ⟨List.mem_of_getElem? (i := 493) (by decide +kernel), List.mem_of_getElem? (i := 55) (by decide +kernel), ⟨by decide, by decide⟩, by decide +kernel, by decide, rfl⟩
theorem ki_X0_weightOfParty : Cond.instanceMethod yX0_weightOfParty ∈ lw_tbl := List.mem_of_getElem? (i := 491) (by decide +kernel)
theorem kv_X0_weightOfParty : Cond.selects yX0_weightOfParty.cls yX0_weightOfParty yX0_weightOfParty ∈ lw_tbl := List.mem_of_getElem? (i := 492) (by decide +kernel)
theorem ok_X0_moveParty : sh_ok mX0_moveParty 2 := ⟨List.mem_of_getElem? (i := 510) (by decide +kernel), List.mem_of_getElem? (i := 55) (by decide +kernel), ⟨by decide, by decide⟩, by decide +kernel, by decide, rfl⟩
theorem ki_X0_moveParty : Cond.instanceMethod yX0_moveParty ∈ lw_tbl := List.mem_of_getElem? (i := 508) (by decide +kernel)
theorem kv_X0_moveParty : Cond.selects yX0_moveParty.cls yX0_moveParty yX0_moveParty ∈ lw_tbl := List.mem_of_getElem? (i := 509) (by decide +kernel)
theorem ok_X1_init : sh_ok mX1_init 0 := ⟨List.mem_of_getElem? (i := 81) (by decide +kernel), List.mem_of_getElem? (i := 54) (by decide +kernel), ⟨by decide, by decide⟩, by decide +kernel, by decide, rfl⟩
theorem ki_X1_init : Cond.instanceMethod yX1_init ∈ lw_tbl := List.mem_of_getElem? (i := 80) (by decide +kernel)
theorem ok_X1_build : sh_ok mX1_build 1 := ⟨List.mem_of_getElem? (i := 291) (by decide +kernel), List.mem_of_getElem? (i := 54) (by decide +kernel), ⟨by decide, by decide⟩, by decide +kernel, by decide, rfl⟩
theorem ki_X1_build : Cond.instanceMethod yX1_build ∈ lw_tbl := List.mem_of_getElem? (i := 289) (by decide +kernel)
theorem kv_X1_build : Cond.selects yX1_build.cls yX1_build yX1_build ∈ lw_tbl := List.mem_of_getElem? (i := 290) (by decide +kernel)
theorem ok_X1_hasRoom : sh_ok mX1_hasRoom 1 := ⟨List.mem_of_getElem? (i := 408) (by decide +kernel), List.mem_of_getElem? (i := 54) (by decide +kernel), ⟨by decide, by decide⟩, by decide +kernel, by decide, rfl⟩
theorem ki_X1_hasRoom : Cond.instanceMethod yX1_hasRoom ∈ lw_tbl := List.mem_of_getElem? (i := 406) (by decide +kernel)
theorem kv_X1_hasRoom : Cond.selects yX1_hasRoom.cls yX1_hasRoom yX1_hasRoom ∈ lw_tbl := List.mem_of_getElem? (i := 407) (by decide +kernel)
theorem ok_X1_hasDoor : sh_ok mX1_hasDoor 1 := ⟨List.mem_of_getElem? (i := 382) (by decide +kernel), List.mem_of_getElem? (i := 54) (by decide +kernel), ⟨by decide, by decide⟩, by decide +kernel, by decide, rfl⟩
theorem ki_X1_hasDoor : Cond.instanceMethod yX1_hasDoor ∈ lw_tbl := List.mem_of_getElem? (i := 380) (by decide +kernel)
theorem kv_X1_hasDoor : Cond.selects yX1_hasDoor.cls yX1_hasDoor yX1_hasDoor ∈ lw_tbl := List.mem_of_getElem? (i := 381) (by decide +kernel)
theorem ok_X1_reachOf : sh_ok mX1_reachOf 2 := ⟨List.mem_of_getElem? (i := 566) (by decide +kernel), List.mem_of_getElem? (i := 54) (by decide +kernel), ⟨by decide, by decide⟩, by decide +kernel, by decide, rfl⟩
theorem ki_X1_reachOf : Cond.instanceMethod yX1_reachOf ∈ lw_tbl := List.mem_of_getElem? (i := 564) (by decide +kernel)
theorem kv_X1_reachOf : Cond.selects yX1_reachOf.cls yX1_reachOf yX1_reachOf ∈ lw_tbl := List.mem_of_getElem? (i := 565) (by decide +kernel)
theorem ok_X1_reaches : sh_ok mX1_reaches 3 := ⟨List.mem_of_getElem? (i := 578) (by decide +kernel), List.mem_of_getElem? (i := 54) (by decide +kernel), ⟨by decide, by decide⟩, by decide +kernel, by decide, rfl⟩
theorem ki_X1_reaches : Cond.instanceMethod yX1_reaches ∈ lw_tbl := List.mem_of_getElem? (i := 576) (by decide +kernel)
theorem kv_X1_reaches : Cond.selects yX1_reaches.cls yX1_reaches yX1_reaches ∈ lw_tbl := List.mem_of_getElem? (i := 577) (by decide +kernel)
theorem ok_X1_through : sh_ok mX1_through 4 := ⟨List.mem_of_getElem? (i := 569) (by decide +kernel), List.mem_of_getElem? (i := 54) (by decide +kernel), ⟨by decide, by decide⟩, by decide +kernel, by decide, rfl⟩
theorem ks_X1_through : Cond.static yX1_through ∈ lw_tbl := List.mem_of_getElem? (i := 568) (by decide +kernel)
theorem ok_X2_init : sh_ok mX2_init 0 := ⟨List.mem_of_getElem? (i := 136) (by decide +kernel), List.mem_of_getElem? (i := 56) (by decide +kernel), ⟨by decide, by decide⟩, by decide +kernel, by decide, rfl⟩
theorem ki_X2_init : Cond.instanceMethod yX2_init ∈ lw_tbl := List.mem_of_getElem? (i := 135) (by decide +kernel)
theorem ok_X2_begin : sh_ok mX2_begin 2 := ⟨List.mem_of_getElem? (i := 522) (by decide +kernel), List.mem_of_getElem? (i := 56) (by decide +kernel), ⟨by decide, by decide⟩, by decide +kernel, by decide, rfl⟩
theorem ki_X2_begin : Cond.instanceMethod yX2_begin ∈ lw_tbl := List.mem_of_getElem? (i := 520) (by decide +kernel)
theorem kv_X2_begin : Cond.selects yX2_begin.cls yX2_begin yX2_begin ∈ lw_tbl := List.mem_of_getElem? (i := 521) (by decide +kernel)
theorem ok_X2_setStone : sh_ok mX2_setStone 3 := ⟨List.mem_of_getElem? (i := 526) (by decide +kernel), List.mem_of_getElem? (i := 56) (by decide +kernel), ⟨by decide, by decide⟩, by decide +kernel, by decide, rfl⟩
theorem ki_X2_setStone : Cond.instanceMethod yX2_setStone ∈ lw_tbl := List.mem_of_getElem? (i := 524) (by decide +kernel)
theorem kv_X2_setStone : Cond.selects yX2_setStone.cls yX2_setStone yX2_setStone ∈ lw_tbl := List.mem_of_getElem? (i := 525) (by decide +kernel)
theorem ok_X2_finds : sh_ok mX2_finds 2 := ⟨List.mem_of_getElem? (i := 533) (by decide +kernel), List.mem_of_getElem? (i := 56) (by decide +kernel), ⟨by decide, by decide⟩, by decide +kernel, by decide, rfl⟩
theorem ki_X2_finds : Cond.instanceMethod yX2_finds ∈ lw_tbl := List.mem_of_getElem? (i := 531) (by decide +kernel)
theorem kv_X2_finds : Cond.selects yX2_finds.cls yX2_finds yX2_finds ∈ lw_tbl := List.mem_of_getElem? (i := 532) (by decide +kernel)
theorem ok_X2_howManySteps : sh_ok mX2_howManySteps 0 := ⟨List.mem_of_getElem? (i := 553) (by decide +kernel), List.mem_of_getElem? (i := 56) (by decide +kernel), ⟨by decide, by decide⟩, by decide +kernel, by decide, rfl⟩
theorem ki_X2_howManySteps : Cond.instanceMethod yX2_howManySteps ∈ lw_tbl := List.mem_of_getElem? (i := 551) (by decide +kernel)
theorem kv_X2_howManySteps : Cond.selects yX2_howManySteps.cls yX2_howManySteps yX2_howManySteps ∈ lw_tbl := List.mem_of_getElem? (i := 552) (by decide +kernel)
theorem ok_X2_stepAt : sh_ok mX2_stepAt 1 := ⟨List.mem_of_getElem? (i := 557) (by decide +kernel), List.mem_of_getElem? (i := 56) (by decide +kernel), ⟨by decide, by decide⟩, by decide +kernel, by decide, rfl⟩
theorem ki_X2_stepAt : Cond.instanceMethod yX2_stepAt ∈ lw_tbl := List.mem_of_getElem? (i := 555) (by decide +kernel)
theorem kv_X2_stepAt : Cond.selects yX2_stepAt.cls yX2_stepAt yX2_stepAt ∈ lw_tbl := List.mem_of_getElem? (i := 556) (by decide +kernel)
theorem ok_X2_leaveBySteps : sh_ok mX2_leaveBySteps 2 := ⟨List.mem_of_getElem? (i := 541) (by decide +kernel), List.mem_of_getElem? (i := 56) (by decide +kernel), ⟨by decide, by decide⟩, by decide +kernel, by decide, rfl⟩
theorem ki_X2_leaveBySteps : Cond.instanceMethod yX2_leaveBySteps ∈ lw_tbl := List.mem_of_getElem? (i := 540) (by decide +kernel)
theorem kv_X2_leaveBySteps : Cond.selects yX2_leaveBySteps.cls yX2_leaveBySteps yX2_leaveBySteps ∈ lw_tbl := List.mem_of_getElem? (i := 9) (by decide +kernel)
theorem ok_X2_meet : sh_ok mX2_meet 3 := ⟨List.mem_of_getElem? (i := 537) (by decide +kernel), List.mem_of_getElem? (i := 56) (by decide +kernel), ⟨by decide, by decide⟩, by decide +kernel, by decide, rfl⟩
theorem ki_X2_meet : Cond.instanceMethod yX2_meet ∈ lw_tbl := List.mem_of_getElem? (i := 536) (by decide +kernel)
theorem kv_X2_meet : Cond.selects yX2_meet.cls yX2_meet yX2_meet ∈ lw_tbl := List.mem_of_getElem? (i := 8) (by decide +kernel)
theorem ok_X2_forgetSeen : sh_ok mX2_forgetSeen 0 := ⟨List.mem_of_getElem? (i := 549) (by decide +kernel), List.mem_of_getElem? (i := 56) (by decide +kernel), ⟨by decide, by decide⟩, by decide +kernel, by decide, rfl⟩
theorem ki_X2_forgetSeen : Cond.instanceMethod yX2_forgetSeen ∈ lw_tbl := List.mem_of_getElem? (i := 548) (by decide +kernel)
theorem kv_X2_forgetSeen : Cond.selects yX2_forgetSeen.cls yX2_forgetSeen yX2_forgetSeen ∈ lw_tbl := List.mem_of_getElem? (i := 10) (by decide +kernel)
theorem ok_X2_place : sh_ok mX2_place 2 := ⟨List.mem_of_getElem? (i := 544) (by decide +kernel), List.mem_of_getElem? (i := 56) (by decide +kernel), ⟨by decide, by decide⟩, by decide +kernel, by decide, rfl⟩
theorem ks_X2_place : Cond.static yX2_place ∈ lw_tbl := List.mem_of_getElem? (i := 543) (by decide +kernel)
theorem ok_X2_withPlace : sh_ok mX2_withPlace 3 := ⟨List.mem_of_getElem? (i := 529) (by decide +kernel), List.mem_of_getElem? (i := 56) (by decide +kernel), ⟨by decide, by decide⟩, by decide +kernel, by decide, rfl⟩
theorem ks_X2_withPlace : Cond.static yX2_withPlace ∈ lw_tbl := List.mem_of_getElem? (i := 528) (by decide +kernel)
theorem ok_X3_init : sh_ok mX3_init 0 := ⟨List.mem_of_getElem? (i := 181) (by decide +kernel), List.mem_of_getElem? (i := 58) (by decide +kernel), ⟨by decide, by decide⟩, by decide +kernel, by decide, rfl⟩
theorem ki_X3_init : Cond.instanceMethod yX3_init ∈ lw_tbl := List.mem_of_getElem? (i := 180) (by decide +kernel)
theorem ok_X3_hasNothing : sh_ok mX3_hasNothing 0 := ⟨List.mem_of_getElem? (i := 231) (by decide +kernel), List.mem_of_getElem? (i := 58) (by decide +kernel), ⟨by decide, by decide⟩, by decide +kernel, by decide, rfl⟩
theorem ki_X3_hasNothing : Cond.instanceMethod yX3_hasNothing ∈ lw_tbl := List.mem_of_getElem? (i := 229) (by decide +kernel)
theorem kv_X3_hasNothing : Cond.selects yX3_hasNothing.cls yX3_hasNothing yX3_hasNothing ∈ lw_tbl := List.mem_of_getElem? (i := 230) (by decide +kernel)
theorem ok_X3_empty : sh_ok mX3_empty 0 := ⟨List.mem_of_getElem? (i := 634) (by decide +kernel), List.mem_of_getElem? (i := 58) (by decide +kernel), ⟨by decide, by decide⟩, by decide +kernel, by decide, rfl⟩
theorem ki_X3_empty : Cond.instanceMethod yX3_empty ∈ lw_tbl := List.mem_of_getElem? (i := 632) (by decide +kernel)
theorem kv_X3_empty : Cond.selects yX3_empty.cls yX3_empty yX3_empty ∈ lw_tbl := List.mem_of_getElem? (i := 633) (by decide +kernel)
theorem ok_X3_renew : sh_ok mX3_renew 2 := ⟨List.mem_of_getElem? (i := 626) (by decide +kernel), List.mem_of_getElem? (i := 58) (by decide +kernel), ⟨by decide, by decide⟩, by decide +kernel, by decide, rfl⟩
theorem ki_X3_renew : Cond.instanceMethod yX3_renew ∈ lw_tbl := List.mem_of_getElem? (i := 624) (by decide +kernel)
theorem kv_X3_renew : Cond.selects yX3_renew.cls yX3_renew yX3_renew ∈ lw_tbl := List.mem_of_getElem? (i := 625) (by decide +kernel)
theorem ok_X3_has : sh_ok mX3_has 2 := ⟨List.mem_of_getElem? (i := 239) (by decide +kernel), List.mem_of_getElem? (i := 58) (by decide +kernel), ⟨by decide, by decide⟩, by decide +kernel, by decide, rfl⟩
theorem ki_X3_has : Cond.instanceMethod yX3_has ∈ lw_tbl := List.mem_of_getElem? (i := 237) (by decide +kernel)
theorem kv_X3_has : Cond.selects yX3_has.cls yX3_has yX3_has ∈ lw_tbl := List.mem_of_getElem? (i := 238) (by decide +kernel)
theorem ok_X3_cut : sh_ok mX3_cut 1 := ⟨List.mem_of_getElem? (i := 642) (by decide +kernel), List.mem_of_getElem? (i := 58) (by decide +kernel), ⟨by decide, by decide⟩, by decide +kernel, by decide, rfl⟩
theorem ki_X3_cut : Cond.instanceMethod yX3_cut ∈ lw_tbl := List.mem_of_getElem? (i := 640) (by decide +kernel)
theorem kv_X3_cut : Cond.selects yX3_cut.cls yX3_cut yX3_cut ∈ lw_tbl := List.mem_of_getElem? (i := 641) (by decide +kernel)
theorem ok_X4_init : sh_ok mX4_init 3 := ⟨List.mem_of_getElem? (i := 308) (by decide +kernel), List.mem_of_getElem? (i := 62) (by decide +kernel), ⟨by decide, by decide⟩, by decide +kernel, by decide, rfl⟩
theorem ki_X4_init : Cond.instanceMethod yX4_init ∈ lw_tbl := List.mem_of_getElem? (i := 307) (by decide +kernel)
theorem ok_X4_init_ : sh_ok mX4_init_ 5 := ⟨List.mem_of_getElem? (i := 311) (by decide +kernel), List.mem_of_getElem? (i := 62) (by decide +kernel), ⟨by decide, by decide⟩, by decide +kernel, by decide, rfl⟩
theorem ki_X4_init_ : Cond.instanceMethod yX4_init_ ∈ lw_tbl := List.mem_of_getElem? (i := 310) (by decide +kernel)
theorem ok_X4_kind : sh_ok mX4_kind 0 := ⟨List.mem_of_getElem? (i := 400) (by decide +kernel), List.mem_of_getElem? (i := 62) (by decide +kernel), ⟨by decide, by decide⟩, by decide +kernel, by decide, rfl⟩
theorem ki_X4_kind : Cond.instanceMethod yX4_kind ∈ lw_tbl := List.mem_of_getElem? (i := 391) (by decide +kernel)
theorem kv_X4_kind : Cond.selects yX4_kind.cls yX4_kind yX4_kind ∈ lw_tbl := List.mem_of_getElem? (i := 392) (by decide +kernel)
theorem ok_X4_isOf : sh_ok mX4_isOf 1 := ⟨List.mem_of_getElem? (i := 489) (by decide +kernel), List.mem_of_getElem? (i := 62) (by decide +kernel), ⟨by decide, by decide⟩, by decide +kernel, by decide, rfl⟩
theorem ki_X4_isOf : Cond.instanceMethod yX4_isOf ∈ lw_tbl := List.mem_of_getElem? (i := 484) (by decide +kernel)
theorem kv_X4_isOf : Cond.selects yX4_isOf.cls yX4_isOf yX4_isOf ∈ lw_tbl := List.mem_of_getElem? (i := 485) (by decide +kernel)
theorem ok_X4_beyond : sh_ok mX4_beyond 2 := ⟨List.mem_of_getElem? (i := 501) (by decide +kernel), List.mem_of_getElem? (i := 62) (by decide +kernel), ⟨by decide, by decide⟩, by decide +kernel, by decide, rfl⟩
theorem ki_X4_beyond : Cond.instanceMethod yX4_beyond ∈ lw_tbl := List.mem_of_getElem? (i := 496) (by decide +kernel)
theorem kv_X4_beyond : Cond.selects yX4_beyond.cls yX4_beyond yX4_beyond ∈ lw_tbl := List.mem_of_getElem? (i := 497) (by decide +kernel)
theorem ok_X4_told : sh_ok mX4_told 1 := ⟨List.mem_of_getElem? (i := 389) (by decide +kernel), List.mem_of_getElem? (i := 62) (by decide +kernel), ⟨by decide, by decide⟩, by decide +kernel, by decide, rfl⟩
theorem ki_X4_told : Cond.instanceMethod yX4_told ∈ lw_tbl := List.mem_of_getElem? (i := 384) (by decide +kernel)
theorem kv_X4_told : Cond.selects yX4_told.cls yX4_told yX4_told ∈ lw_tbl := List.mem_of_getElem? (i := 385) (by decide +kernel)
theorem ok_X4_sillsTelling : sh_ok mX4_sillsTelling 1 := ⟨List.mem_of_getElem? (i := 681) (by decide +kernel), List.mem_of_getElem? (i := 62) (by decide +kernel), ⟨by decide, by decide⟩, by decide +kernel, by decide, rfl⟩
theorem ki_X4_sillsTelling : Cond.instanceMethod yX4_sillsTelling ∈ lw_tbl := List.mem_of_getElem? (i := 680) (by decide +kernel)
theorem kv_X4_sillsTelling : Cond.selects yX4_sillsTelling.cls yX4_sillsTelling yX4_sillsTelling ∈ lw_tbl := List.mem_of_getElem? (i := 1122) (by decide +kernel)
theorem ok_X4_telling : sh_ok mX4_telling 1 := ⟨List.mem_of_getElem? (i := 683) (by decide +kernel), List.mem_of_getElem? (i := 62) (by decide +kernel), ⟨by decide, by decide⟩, by decide +kernel, by decide, rfl⟩
theorem ki_X4_telling : Cond.instanceMethod yX4_telling ∈ lw_tbl := List.mem_of_getElem? (i := 660) (by decide +kernel)
theorem kv_X4_telling : Cond.selects yX4_telling.cls yX4_telling yX4_telling ∈ lw_tbl := List.mem_of_getElem? (i := 661) (by decide +kernel)
theorem ok_X4_rung : sh_ok mX4_rung 2 := ⟨List.mem_of_getElem? (i := 697) (by decide +kernel), List.mem_of_getElem? (i := 62) (by decide +kernel), ⟨by decide, by decide⟩, by decide +kernel, by decide, rfl⟩
theorem ki_X4_rung : Cond.instanceMethod yX4_rung ∈ lw_tbl := List.mem_of_getElem? (i := 690) (by decide +kernel)
theorem kv_X4_rung : Cond.selects yX4_rung.cls yX4_rung yX4_rung ∈ lw_tbl := List.mem_of_getElem? (i := 691) (by decide +kernel)
theorem ok_X5_init : sh_ok mX5_init 3 := ⟨List.mem_of_getElem? (i := 244) (by decide +kernel), List.mem_of_getElem? (i := 60) (by decide +kernel), ⟨by decide, by decide⟩, by decide +kernel, by decide, rfl⟩
theorem ki_X5_init : Cond.instanceMethod yX5_init ∈ lw_tbl := List.mem_of_getElem? (i := 243) (by decide +kernel)
theorem ok_X5_firstFault : sh_ok mX5_firstFault 0 := ⟨List.mem_of_getElem? (i := 259) (by decide +kernel), List.mem_of_getElem? (i := 60) (by decide +kernel), ⟨by decide, by decide⟩, by decide +kernel, by decide, rfl⟩
theorem ki_X5_firstFault : Cond.instanceMethod yX5_firstFault ∈ lw_tbl := List.mem_of_getElem? (i := 257) (by decide +kernel)
theorem kv_X5_firstFault : Cond.selects yX5_firstFault.cls yX5_firstFault yX5_firstFault ∈ lw_tbl := List.mem_of_getElem? (i := 258) (by decide +kernel)
theorem ok_X5_rooms : sh_ok mX5_rooms 0 := ⟨List.mem_of_getElem? (i := 279) (by decide +kernel), List.mem_of_getElem? (i := 60) (by decide +kernel), ⟨by decide, by decide⟩, by decide +kernel, by decide, rfl⟩
theorem ki_X5_rooms : Cond.instanceMethod yX5_rooms ∈ lw_tbl := List.mem_of_getElem? (i := 277) (by decide +kernel)
theorem kv_X5_rooms : Cond.selects yX5_rooms.cls yX5_rooms yX5_rooms ∈ lw_tbl := List.mem_of_getElem? (i := 278) (by decide +kernel)
theorem ok_X5_doorCount : sh_ok mX5_doorCount 0 := ⟨List.mem_of_getElem? (i := 296) (by decide +kernel), List.mem_of_getElem? (i := 60) (by decide +kernel), ⟨by decide, by decide⟩, by decide +kernel, by decide, rfl⟩
theorem ki_X5_doorCount : Cond.instanceMethod yX5_doorCount ∈ lw_tbl := List.mem_of_getElem? (i := 294) (by decide +kernel)
theorem kv_X5_doorCount : Cond.selects yX5_doorCount.cls yX5_doorCount yX5_doorCount ∈ lw_tbl := List.mem_of_getElem? (i := 295) (by decide +kernel)
theorem ok_X5_door : sh_ok mX5_door 1 := ⟨List.mem_of_getElem? (i := 303) (by decide +kernel), List.mem_of_getElem? (i := 60) (by decide +kernel), ⟨by decide, by decide⟩, by decide +kernel, by decide, rfl⟩
theorem ki_X5_door : Cond.instanceMethod yX5_door ∈ lw_tbl := List.mem_of_getElem? (i := 301) (by decide +kernel)
theorem kv_X5_door : Cond.selects yX5_door.cls yX5_door yX5_door ∈ lw_tbl := List.mem_of_getElem? (i := 302) (by decide +kernel)
theorem ok_X5_code : sh_ok mX5_code 1 := ⟨List.mem_of_getElem? (i := 267) (by decide +kernel), List.mem_of_getElem? (i := 60) (by decide +kernel), ⟨by decide, by decide⟩, by decide +kernel, by decide, rfl⟩
theorem ki_X5_code : Cond.instanceMethod yX5_code ∈ lw_tbl := List.mem_of_getElem? (i := 266) (by decide +kernel)
theorem kv_X5_code : Cond.selects yX5_code.cls yX5_code yX5_code ∈ lw_tbl := List.mem_of_getElem? (i := 3) (by decide +kernel)
theorem ok_X5_digit : sh_ok mX5_digit 1 := ⟨List.mem_of_getElem? (i := 275) (by decide +kernel), List.mem_of_getElem? (i := 60) (by decide +kernel), ⟨by decide, by decide⟩, by decide +kernel, by decide, rfl⟩
theorem ki_X5_digit : Cond.instanceMethod yX5_digit ∈ lw_tbl := List.mem_of_getElem? (i := 274) (by decide +kernel)
theorem kv_X5_digit : Cond.selects yX5_digit.cls yX5_digit yX5_digit ∈ lw_tbl := List.mem_of_getElem? (i := 5) (by decide +kernel)
theorem ok_X5_isDigit : sh_ok mX5_isDigit 1 := ⟨List.mem_of_getElem? (i := 283) (by decide +kernel), List.mem_of_getElem? (i := 60) (by decide +kernel), ⟨by decide, by decide⟩, by decide +kernel, by decide, rfl⟩
theorem ki_X5_isDigit : Cond.instanceMethod yX5_isDigit ∈ lw_tbl := List.mem_of_getElem? (i := 282) (by decide +kernel)
theorem kv_X5_isDigit : Cond.selects yX5_isDigit.cls yX5_isDigit yX5_isDigit ∈ lw_tbl := List.mem_of_getElem? (i := 6) (by decide +kernel)
theorem ok_X5_isRoom : sh_ok mX5_isRoom 1 := ⟨List.mem_of_getElem? (i := 271) (by decide +kernel), List.mem_of_getElem? (i := 60) (by decide +kernel), ⟨by decide, by decide⟩, by decide +kernel, by decide, rfl⟩
theorem ki_X5_isRoom : Cond.instanceMethod yX5_isRoom ∈ lw_tbl := List.mem_of_getElem? (i := 270) (by decide +kernel)
theorem kv_X5_isRoom : Cond.selects yX5_isRoom.cls yX5_isRoom yX5_isRoom ∈ lw_tbl := List.mem_of_getElem? (i := 4) (by decide +kernel)
theorem ok_X5_goesOn : sh_ok mX5_goesOn 1 := ⟨List.mem_of_getElem? (i := 263) (by decide +kernel), List.mem_of_getElem? (i := 60) (by decide +kernel), ⟨by decide, by decide⟩, by decide +kernel, by decide, rfl⟩
theorem ki_X5_goesOn : Cond.instanceMethod yX5_goesOn ∈ lw_tbl := List.mem_of_getElem? (i := 262) (by decide +kernel)
theorem kv_X5_goesOn : Cond.selects yX5_goesOn.cls yX5_goesOn yX5_goesOn ∈ lw_tbl := List.mem_of_getElem? (i := 2) (by decide +kernel)
theorem ok_X5_isNought : sh_ok mX5_isNought 1 := ⟨List.mem_of_getElem? (i := 287) (by decide +kernel), List.mem_of_getElem? (i := 60) (by decide +kernel), ⟨by decide, by decide⟩, by decide +kernel, by decide, rfl⟩
theorem ki_X5_isNought : Cond.instanceMethod yX5_isNought ∈ lw_tbl := List.mem_of_getElem? (i := 286) (by decide +kernel)
theorem kv_X5_isNought : Cond.selects yX5_isNought.cls yX5_isNought yX5_isNought ∈ lw_tbl := List.mem_of_getElem? (i := 7) (by decide +kernel)
theorem ok_X6_init : sh_ok mX6_init 0 := ⟨List.mem_of_getElem? (i := 171) (by decide +kernel), List.mem_of_getElem? (i := 57) (by decide +kernel), ⟨by decide, by decide⟩, by decide +kernel, by decide, rfl⟩
theorem ki_X6_init : Cond.instanceMethod yX6_init ∈ lw_tbl := List.mem_of_getElem? (i := 170) (by decide +kernel)
theorem ok_X6_note : sh_ok mX6_note 1 := ⟨List.mem_of_getElem? (i := 669) (by decide +kernel), List.mem_of_getElem? (i := 57) (by decide +kernel), ⟨by decide, by decide⟩, by decide +kernel, by decide, rfl⟩
theorem ki_X6_note : Cond.instanceMethod yX6_note ∈ lw_tbl := List.mem_of_getElem? (i := 667) (by decide +kernel)
theorem kv_X6_note : Cond.selects yX6_note.cls yX6_note yX6_note ∈ lw_tbl := List.mem_of_getElem? (i := 668) (by decide +kernel)
theorem ok_X7_init : sh_ok mX7_init 3 := ⟨List.mem_of_getElem? (i := 344) (by decide +kernel), List.mem_of_getElem? (i := 63) (by decide +kernel), ⟨by decide, by decide⟩, by decide +kernel, by decide, rfl⟩
theorem ki_X7_init : Cond.instanceMethod yX7_init ∈ lw_tbl := List.mem_of_getElem? (i := 343) (by decide +kernel)
theorem ok_X7_init_ : sh_ok mX7_init_ 4 := ⟨List.mem_of_getElem? (i := 347) (by decide +kernel), List.mem_of_getElem? (i := 63) (by decide +kernel), ⟨by decide, by decide⟩, by decide +kernel, by decide, rfl⟩
theorem ki_X7_init_ : Cond.instanceMethod yX7_init_ ∈ lw_tbl := List.mem_of_getElem? (i := 346) (by decide +kernel)
theorem ok_X7_kind : sh_ok mX7_kind 0 := ⟨List.mem_of_getElem? (i := 396) (by decide +kernel), List.mem_of_getElem? (i := 63) (by decide +kernel), ⟨by decide, by decide⟩, by decide +kernel, by decide, rfl⟩
theorem ki_X7_kind : Cond.instanceMethod yX7_kind ∈ lw_tbl := List.mem_of_getElem? (i := 395) (by decide +kernel)
theorem ok_X7_telling : sh_ok mX7_telling 1 := ⟨List.mem_of_getElem? (i := 665) (by decide +kernel), List.mem_of_getElem? (i := 63) (by decide +kernel), ⟨by decide, by decide⟩, by decide +kernel, by decide, rfl⟩
theorem ki_X7_telling : Cond.instanceMethod yX7_telling ∈ lw_tbl := List.mem_of_getElem? (i := 664) (by decide +kernel)
theorem ok_X8_init : sh_ok mX8_init 3 := ⟨List.mem_of_getElem? (i := 361) (by decide +kernel), List.mem_of_getElem? (i := 64) (by decide +kernel), ⟨by decide, by decide⟩, by decide +kernel, by decide, rfl⟩
theorem ki_X8_init : Cond.instanceMethod yX8_init ∈ lw_tbl := List.mem_of_getElem? (i := 360) (by decide +kernel)
theorem ok_X8_kind : sh_ok mX8_kind 0 := ⟨List.mem_of_getElem? (i := 399) (by decide +kernel), List.mem_of_getElem? (i := 64) (by decide +kernel), ⟨by decide, by decide⟩, by decide +kernel, by decide, rfl⟩
theorem ki_X8_kind : Cond.instanceMethod yX8_kind ∈ lw_tbl := List.mem_of_getElem? (i := 398) (by decide +kernel)
theorem ok_X8_telling : sh_ok mX8_telling 1 := ⟨List.mem_of_getElem? (i := 673) (by decide +kernel), List.mem_of_getElem? (i := 64) (by decide +kernel), ⟨by decide, by decide⟩, by decide +kernel, by decide, rfl⟩
theorem ki_X8_telling : Cond.instanceMethod yX8_telling ∈ lw_tbl := List.mem_of_getElem? (i := 672) (by decide +kernel)
theorem ok_X8_rung : sh_ok mX8_rung 2 := ⟨List.mem_of_getElem? (i := 696) (by decide +kernel), List.mem_of_getElem? (i := 64) (by decide +kernel), ⟨by decide, by decide⟩, by decide +kernel, by decide, rfl⟩
theorem ki_X8_rung : Cond.instanceMethod yX8_rung ∈ lw_tbl := List.mem_of_getElem? (i := 695) (by decide +kernel)
theorem ok_X9_init : sh_ok mX9_init 0 := ⟨List.mem_of_getElem? (i := 71) (by decide +kernel), List.mem_of_getElem? (i := 53) (by decide +kernel), ⟨by decide, by decide⟩, by decide +kernel, by decide, rfl⟩
theorem ki_X9_init : Cond.instanceMethod yX9_init ∈ lw_tbl := List.mem_of_getElem? (i := 70) (by decide +kernel)
theorem ok_X9_house : sh_ok mX9_house 4 := ⟨List.mem_of_getElem? (i := 217) (by decide +kernel), List.mem_of_getElem? (i := 53) (by decide +kernel), ⟨by decide, by decide⟩, by decide +kernel, by decide, rfl⟩
theorem ki_X9_house : Cond.instanceMethod yX9_house ∈ lw_tbl := List.mem_of_getElem? (i := 215) (by decide +kernel)
theorem kv_X9_house : Cond.selects yX9_house.cls yX9_house yX9_house ∈ lw_tbl := List.mem_of_getElem? (i := 216) (by decide +kernel)
theorem ok_X9_ofDoor : sh_ok mX9_ofDoor 2 := ⟨List.mem_of_getElem? (i := 378) (by decide +kernel), List.mem_of_getElem? (i := 53) (by decide +kernel), ⟨by decide, by decide⟩, by decide +kernel, by decide, rfl⟩
theorem ki_X9_ofDoor : Cond.instanceMethod yX9_ofDoor ∈ lw_tbl := List.mem_of_getElem? (i := 376) (by decide +kernel)
theorem kv_X9_ofDoor : Cond.selects yX9_ofDoor.cls yX9_ofDoor yX9_ofDoor ∈ lw_tbl := List.mem_of_getElem? (i := 377) (by decide +kernel)
theorem ok_X9_person : sh_ok mX9_person 2 := ⟨List.mem_of_getElem? (i := 404) (by decide +kernel), List.mem_of_getElem? (i := 53) (by decide +kernel), ⟨by decide, by decide⟩, by decide +kernel, by decide, rfl⟩
theorem ki_X9_person : Cond.instanceMethod yX9_person ∈ lw_tbl := List.mem_of_getElem? (i := 402) (by decide +kernel)
theorem kv_X9_person : Cond.selects yX9_person.cls yX9_person yX9_person ∈ lw_tbl := List.mem_of_getElem? (i := 403) (by decide +kernel)
theorem ok_X9_stone : sh_ok mX9_stone 2 := ⟨List.mem_of_getElem? (i := 419) (by decide +kernel), List.mem_of_getElem? (i := 53) (by decide +kernel), ⟨by decide, by decide⟩, by decide +kernel, by decide, rfl⟩
theorem ki_X9_stone : Cond.instanceMethod yX9_stone ∈ lw_tbl := List.mem_of_getElem? (i := 417) (by decide +kernel)
theorem kv_X9_stone : Cond.selects yX9_stone.cls yX9_stone yX9_stone ∈ lw_tbl := List.mem_of_getElem? (i := 418) (by decide +kernel)
theorem ok_X9_ofPerson : sh_ok mX9_ofPerson 2 := ⟨List.mem_of_getElem? (i := 427) (by decide +kernel), List.mem_of_getElem? (i := 53) (by decide +kernel), ⟨by decide, by decide⟩, by decide +kernel, by decide, rfl⟩
theorem ki_X9_ofPerson : Cond.instanceMethod yX9_ofPerson ∈ lw_tbl := List.mem_of_getElem? (i := 425) (by decide +kernel)
theorem kv_X9_ofPerson : Cond.selects yX9_ofPerson.cls yX9_ofPerson yX9_ofPerson ∈ lw_tbl := List.mem_of_getElem? (i := 426) (by decide +kernel)
theorem ok_X9_ofStone : sh_ok mX9_ofStone 2 := ⟨List.mem_of_getElem? (i := 446) (by decide +kernel), List.mem_of_getElem? (i := 53) (by decide +kernel), ⟨by decide, by decide⟩, by decide +kernel, by decide, rfl⟩
theorem ki_X9_ofStone : Cond.instanceMethod yX9_ofStone ∈ lw_tbl := List.mem_of_getElem? (i := 444) (by decide +kernel)
theorem kv_X9_ofStone : Cond.selects yX9_ofStone.cls yX9_ofStone yX9_ofStone ∈ lw_tbl := List.mem_of_getElem? (i := 445) (by decide +kernel)
theorem ok_X9_take : sh_ok mX9_take 2 := ⟨List.mem_of_getElem? (i := 454) (by decide +kernel), List.mem_of_getElem? (i := 53) (by decide +kernel), ⟨by decide, by decide⟩, by decide +kernel, by decide, rfl⟩
theorem ki_X9_take : Cond.instanceMethod yX9_take ∈ lw_tbl := List.mem_of_getElem? (i := 452) (by decide +kernel)
theorem kv_X9_take : Cond.selects yX9_take.cls yX9_take yX9_take ∈ lw_tbl := List.mem_of_getElem? (i := 453) (by decide +kernel)
theorem ok_X9_lay : sh_ok mX9_lay 2 := ⟨List.mem_of_getElem? (i := 470) (by decide +kernel), List.mem_of_getElem? (i := 53) (by decide +kernel), ⟨by decide, by decide⟩, by decide +kernel, by decide, rfl⟩
theorem ki_X9_lay : Cond.instanceMethod yX9_lay ∈ lw_tbl := List.mem_of_getElem? (i := 468) (by decide +kernel)
theorem kv_X9_lay : Cond.selects yX9_lay.cls yX9_lay yX9_lay ∈ lw_tbl := List.mem_of_getElem? (i := 469) (by decide +kernel)
theorem ok_X9_opens : sh_ok mX9_opens 2 := ⟨List.mem_of_getElem? (i := 474) (by decide +kernel), List.mem_of_getElem? (i := 53) (by decide +kernel), ⟨by decide, by decide⟩, by decide +kernel, by decide, rfl⟩
theorem ki_X9_opens : Cond.instanceMethod yX9_opens ∈ lw_tbl := List.mem_of_getElem? (i := 472) (by decide +kernel)
theorem kv_X9_opens : Cond.selects yX9_opens.cls yX9_opens yX9_opens ∈ lw_tbl := List.mem_of_getElem? (i := 473) (by decide +kernel)
theorem ok_X9_pass : sh_ok mX9_pass 2 := ⟨List.mem_of_getElem? (i := 505) (by decide +kernel), List.mem_of_getElem? (i := 53) (by decide +kernel), ⟨by decide, by decide⟩, by decide +kernel, by decide, rfl⟩
theorem ki_X9_pass : Cond.instanceMethod yX9_pass ∈ lw_tbl := List.mem_of_getElem? (i := 503) (by decide +kernel)
theorem kv_X9_pass : Cond.selects yX9_pass.cls yX9_pass yX9_pass ∈ lw_tbl := List.mem_of_getElem? (i := 504) (by decide +kernel)
theorem ok_X9_weigh : sh_ok mX9_weigh 2 := ⟨List.mem_of_getElem? (i := 514) (by decide +kernel), List.mem_of_getElem? (i := 53) (by decide +kernel), ⟨by decide, by decide⟩, by decide +kernel, by decide, rfl⟩
theorem ki_X9_weigh : Cond.instanceMethod yX9_weigh ∈ lw_tbl := List.mem_of_getElem? (i := 512) (by decide +kernel)
theorem kv_X9_weigh : Cond.selects yX9_weigh.cls yX9_weigh yX9_weigh ∈ lw_tbl := List.mem_of_getElem? (i := 513) (by decide +kernel)
theorem ok_X9_fewest : sh_ok mX9_fewest 3 := ⟨List.mem_of_getElem? (i := 518) (by decide +kernel), List.mem_of_getElem? (i := 53) (by decide +kernel), ⟨by decide, by decide⟩, by decide +kernel, by decide, rfl⟩
theorem ki_X9_fewest : Cond.instanceMethod yX9_fewest ∈ lw_tbl := List.mem_of_getElem? (i := 516) (by decide +kernel)
theorem kv_X9_fewest : Cond.selects yX9_fewest.cls yX9_fewest yX9_fewest ∈ lw_tbl := List.mem_of_getElem? (i := 517) (by decide +kernel)
theorem ok_X9_reach : sh_ok mX9_reach 2 := ⟨List.mem_of_getElem? (i := 562) (by decide +kernel), List.mem_of_getElem? (i := 53) (by decide +kernel), ⟨by decide, by decide⟩, by decide +kernel, by decide, rfl⟩
theorem ki_X9_reach : Cond.instanceMethod yX9_reach ∈ lw_tbl := List.mem_of_getElem? (i := 560) (by decide +kernel)
theorem kv_X9_reach : Cond.selects yX9_reach.cls yX9_reach yX9_reach ∈ lw_tbl := List.mem_of_getElem? (i := 561) (by decide +kernel)
theorem ok_X9_strangers : sh_ok mX9_strangers 3 := ⟨List.mem_of_getElem? (i := 574) (by decide +kernel), List.mem_of_getElem? (i := 53) (by decide +kernel), ⟨by decide, by decide⟩, by decide +kernel, by decide, rfl⟩
theorem ki_X9_strangers : Cond.instanceMethod yX9_strangers ∈ lw_tbl := List.mem_of_getElem? (i := 572) (by decide +kernel)
theorem kv_X9_strangers : Cond.selects yX9_strangers.cls yX9_strangers yX9_strangers ∈ lw_tbl := List.mem_of_getElem? (i := 573) (by decide +kernel)
theorem ok_X9_laid : sh_ok mX9_laid 3 := ⟨List.mem_of_getElem? (i := 583) (by decide +kernel), List.mem_of_getElem? (i := 53) (by decide +kernel), ⟨by decide, by decide⟩, by decide +kernel, by decide, rfl⟩
theorem ki_X9_laid : Cond.instanceMethod yX9_laid ∈ lw_tbl := List.mem_of_getElem? (i := 581) (by decide +kernel)
theorem kv_X9_laid : Cond.selects yX9_laid.cls yX9_laid yX9_laid ∈ lw_tbl := List.mem_of_getElem? (i := 582) (by decide +kernel)
theorem ok_X9_guest : sh_ok mX9_guest 2 := ⟨List.mem_of_getElem? (i := 594) (by decide +kernel), List.mem_of_getElem? (i := 53) (by decide +kernel), ⟨by decide, by decide⟩, by decide +kernel, by decide, rfl⟩
theorem ki_X9_guest : Cond.instanceMethod yX9_guest ∈ lw_tbl := List.mem_of_getElem? (i := 592) (by decide +kernel)
theorem kv_X9_guest : Cond.selects yX9_guest.cls yX9_guest yX9_guest ∈ lw_tbl := List.mem_of_getElem? (i := 593) (by decide +kernel)
theorem ok_X9_heard : sh_ok mX9_heard 4 := ⟨List.mem_of_getElem? (i := 602) (by decide +kernel), List.mem_of_getElem? (i := 53) (by decide +kernel), ⟨by decide, by decide⟩, by decide +kernel, by decide, rfl⟩
theorem ki_X9_heard : Cond.instanceMethod yX9_heard ∈ lw_tbl := List.mem_of_getElem? (i := 600) (by decide +kernel)
theorem kv_X9_heard : Cond.selects yX9_heard.cls yX9_heard yX9_heard ∈ lw_tbl := List.mem_of_getElem? (i := 601) (by decide +kernel)
theorem ok_X9_byStrangers : sh_ok mX9_byStrangers 5 := ⟨List.mem_of_getElem? (i := 614) (by decide +kernel), List.mem_of_getElem? (i := 53) (by decide +kernel), ⟨by decide, by decide⟩, by decide +kernel, by decide, rfl⟩
theorem ki_X9_byStrangers : Cond.instanceMethod yX9_byStrangers ∈ lw_tbl := List.mem_of_getElem? (i := 612) (by decide +kernel)
theorem kv_X9_byStrangers : Cond.selects yX9_byStrangers.cls yX9_byStrangers yX9_byStrangers ∈ lw_tbl := List.mem_of_getElem? (i := 613) (by decide +kernel)
theorem ok_X9_grows : sh_ok mX9_grows 3 := ⟨List.mem_of_getElem? (i := 618) (by decide +kernel), List.mem_of_getElem? (i := 53) (by decide +kernel), ⟨by decide, by decide⟩, by decide +kernel, by decide, rfl⟩
theorem ki_X9_grows : Cond.instanceMethod yX9_grows ∈ lw_tbl := List.mem_of_getElem? (i := 616) (by decide +kernel)
theorem kv_X9_grows : Cond.selects yX9_grows.cls yX9_grows yX9_grows ∈ lw_tbl := List.mem_of_getElem? (i := 617) (by decide +kernel)
theorem ok_X9_sheet : sh_ok mX9_sheet 3 := ⟨List.mem_of_getElem? (i := 622) (by decide +kernel), List.mem_of_getElem? (i := 53) (by decide +kernel), ⟨by decide, by decide⟩, by decide +kernel, by decide, rfl⟩
theorem ki_X9_sheet : Cond.instanceMethod yX9_sheet ∈ lw_tbl := List.mem_of_getElem? (i := 620) (by decide +kernel)
theorem kv_X9_sheet : Cond.selects yX9_sheet.cls yX9_sheet yX9_sheet ∈ lw_tbl := List.mem_of_getElem? (i := 621) (by decide +kernel)
theorem ok_X9_lose : sh_ok mX9_lose 1 := ⟨List.mem_of_getElem? (i := 630) (by decide +kernel), List.mem_of_getElem? (i := 53) (by decide +kernel), ⟨by decide, by decide⟩, by decide +kernel, by decide, rfl⟩
theorem ki_X9_lose : Cond.instanceMethod yX9_lose ∈ lw_tbl := List.mem_of_getElem? (i := 628) (by decide +kernel)
theorem kv_X9_lose : Cond.selects yX9_lose.cls yX9_lose yX9_lose ∈ lw_tbl := List.mem_of_getElem? (i := 629) (by decide +kernel)
theorem ok_X9_put : sh_ok mX9_put 3 := ⟨List.mem_of_getElem? (i := 638) (by decide +kernel), List.mem_of_getElem? (i := 53) (by decide +kernel), ⟨by decide, by decide⟩, by decide +kernel, by decide, rfl⟩
theorem ki_X9_put : Cond.instanceMethod yX9_put ∈ lw_tbl := List.mem_of_getElem? (i := 636) (by decide +kernel)
theorem kv_X9_put : Cond.selects yX9_put.cls yX9_put yX9_put ∈ lw_tbl := List.mem_of_getElem? (i := 637) (by decide +kernel)
theorem ok_X9_cell : sh_ok mX9_cell 3 := ⟨List.mem_of_getElem? (i := 646) (by decide +kernel), List.mem_of_getElem? (i := 53) (by decide +kernel), ⟨by decide, by decide⟩, by decide +kernel, by decide, rfl⟩
theorem ki_X9_cell : Cond.instanceMethod yX9_cell ∈ lw_tbl := List.mem_of_getElem? (i := 644) (by decide +kernel)
theorem kv_X9_cell : Cond.selects yX9_cell.cls yX9_cell yX9_cell ∈ lw_tbl := List.mem_of_getElem? (i := 645) (by decide +kernel)
theorem ok_X9_copy : sh_ok mX9_copy 5 := ⟨List.mem_of_getElem? (i := 651) (by decide +kernel), List.mem_of_getElem? (i := 53) (by decide +kernel), ⟨by decide, by decide⟩, by decide +kernel, by decide, rfl⟩
theorem ki_X9_copy : Cond.instanceMethod yX9_copy ∈ lw_tbl := List.mem_of_getElem? (i := 649) (by decide +kernel)
theorem kv_X9_copy : Cond.selects yX9_copy.cls yX9_copy yX9_copy ∈ lw_tbl := List.mem_of_getElem? (i := 650) (by decide +kernel)
theorem ok_X9_tell : sh_ok mX9_tell 1 := ⟨List.mem_of_getElem? (i := 658) (by decide +kernel), List.mem_of_getElem? (i := 53) (by decide +kernel), ⟨by decide, by decide⟩, by decide +kernel, by decide, rfl⟩
theorem ki_X9_tell : Cond.instanceMethod yX9_tell ∈ lw_tbl := List.mem_of_getElem? (i := 656) (by decide +kernel)
theorem kv_X9_tell : Cond.selects yX9_tell.cls yX9_tell yX9_tell ∈ lw_tbl := List.mem_of_getElem? (i := 657) (by decide +kernel)
theorem ok_X9_ring : sh_ok mX9_ring 1 := ⟨List.mem_of_getElem? (i := 688) (by decide +kernel), List.mem_of_getElem? (i := 53) (by decide +kernel), ⟨by decide, by decide⟩, by decide +kernel, by decide, rfl⟩
theorem ki_X9_ring : Cond.instanceMethod yX9_ring ∈ lw_tbl := List.mem_of_getElem? (i := 686) (by decide +kernel)
theorem kv_X9_ring : Cond.selects yX9_ring.cls yX9_ring yX9_ring ∈ lw_tbl := List.mem_of_getElem? (i := 687) (by decide +kernel)
theorem ok_X9_as : sh_ok mX9_as 2 := ⟨List.mem_of_getElem? (i := 701) (by decide +kernel), List.mem_of_getElem? (i := 53) (by decide +kernel), ⟨by decide, by decide⟩, by decide +kernel, by decide, rfl⟩
theorem ki_X9_as : Cond.instanceMethod yX9_as ∈ lw_tbl := List.mem_of_getElem? (i := 699) (by decide +kernel)
theorem kv_X9_as : Cond.selects yX9_as.cls yX9_as yX9_as ∈ lw_tbl := List.mem_of_getElem? (i := 700) (by decide +kernel)
theorem ok_X9_trace : sh_ok mX9_trace 0 := ⟨List.mem_of_getElem? (i := 706) (by decide +kernel), List.mem_of_getElem? (i := 53) (by decide +kernel), ⟨by decide, by decide⟩, by decide +kernel, by decide, rfl⟩
theorem ki_X9_trace : Cond.instanceMethod yX9_trace ∈ lw_tbl := List.mem_of_getElem? (i := 704) (by decide +kernel)
theorem kv_X9_trace : Cond.selects yX9_trace.cls yX9_trace yX9_trace ∈ lw_tbl := List.mem_of_getElem? (i := 705) (by decide +kernel)
theorem ok_X9_fault : sh_ok mX9_fault 0 := ⟨List.mem_of_getElem? (i := 710) (by decide +kernel), List.mem_of_getElem? (i := 53) (by decide +kernel), ⟨by decide, by decide⟩, by decide +kernel, by decide, rfl⟩
theorem ki_X9_fault : Cond.instanceMethod yX9_fault ∈ lw_tbl := List.mem_of_getElem? (i := 708) (by decide +kernel)
theorem kv_X9_fault : Cond.selects yX9_fault.cls yX9_fault yX9_fault ∈ lw_tbl := List.mem_of_getElem? (i := 709) (by decide +kernel)
theorem ok_X9_many : sh_ok mX9_many 1 := ⟨List.mem_of_getElem? (i := 714) (by decide +kernel), List.mem_of_getElem? (i := 53) (by decide +kernel), ⟨by decide, by decide⟩, by decide +kernel, by decide, rfl⟩
theorem ki_X9_many : Cond.instanceMethod yX9_many ∈ lw_tbl := List.mem_of_getElem? (i := 712) (by decide +kernel)
theorem kv_X9_many : Cond.selects yX9_many.cls yX9_many yX9_many ∈ lw_tbl := List.mem_of_getElem? (i := 713) (by decide +kernel)
theorem ok_X9_isSheet : sh_ok mX9_isSheet 1 := ⟨List.mem_of_getElem? (i := 224) (by decide +kernel), List.mem_of_getElem? (i := 53) (by decide +kernel), ⟨by decide, by decide⟩, by decide +kernel, by decide, rfl⟩
theorem ks_X9_isSheet : Cond.static yX9_isSheet ∈ lw_tbl := List.mem_of_getElem? (i := 223) (by decide +kernel)
theorem ok_X9_isLane : sh_ok mX9_isLane 1 := ⟨List.mem_of_getElem? (i := 227) (by decide +kernel), List.mem_of_getElem? (i := 53) (by decide +kernel), ⟨by decide, by decide⟩, by decide +kernel, by decide, rfl⟩
theorem ks_X9_isLane : Cond.static yX9_isLane ∈ lw_tbl := List.mem_of_getElem? (i := 226) (by decide +kernel)
theorem ok_X9_isPersonsWeight : sh_ok mX9_isPersonsWeight 1 := ⟨List.mem_of_getElem? (i := 411) (by decide +kernel), List.mem_of_getElem? (i := 53) (by decide +kernel), ⟨by decide, by decide⟩, by decide +kernel, by decide, rfl⟩
theorem ks_X9_isPersonsWeight : Cond.static yX9_isPersonsWeight ∈ lw_tbl := List.mem_of_getElem? (i := 410) (by decide +kernel)
theorem ok_X9_faulted : sh_ok mX9_faulted 1 := ⟨List.mem_of_getElem? (i := 235) (by decide +kernel), List.mem_of_getElem? (i := 53) (by decide +kernel), ⟨by decide, by decide⟩, by decide +kernel, by decide, rfl⟩
theorem ki_X9_faulted : Cond.instanceMethod yX9_faulted ∈ lw_tbl := List.mem_of_getElem? (i := 234) (by decide +kernel)
theorem kv_X9_faulted : Cond.selects yX9_faulted.cls yX9_faulted yX9_faulted ∈ lw_tbl := List.mem_of_getElem? (i := 1) (by decide +kernel)
theorem ok_X9_cellsRefused : sh_ok mX9_cellsRefused 4 := ⟨List.mem_of_getElem? (i := 221) (by decide +kernel), List.mem_of_getElem? (i := 53) (by decide +kernel), ⟨by decide, by decide⟩, by decide +kernel, by decide, rfl⟩
theorem ki_X9_cellsRefused : Cond.instanceMethod yX9_cellsRefused ∈ lw_tbl := List.mem_of_getElem? (i := 220) (by decide +kernel)
theorem kv_X9_cellsRefused : Cond.selects yX9_cellsRefused.cls yX9_cellsRefused yX9_cellsRefused ∈ lw_tbl := List.mem_of_getElem? (i := 0) (by decide +kernel)
theorem ok_X9_doorsRefused : sh_ok mX9_doorsRefused 4 := ⟨List.mem_of_getElem? (i := 606) (by decide +kernel), List.mem_of_getElem? (i := 53) (by decide +kernel), ⟨by decide, by decide⟩, by decide +kernel, by decide, rfl⟩
theorem ki_X9_doorsRefused : Cond.instanceMethod yX9_doorsRefused ∈ lw_tbl := List.mem_of_getElem? (i := 605) (by decide +kernel)
theorem kv_X9_doorsRefused : Cond.selects yX9_doorsRefused.cls yX9_doorsRefused yX9_doorsRefused ∈ lw_tbl := List.mem_of_getElem? (i := 13) (by decide +kernel)
theorem ok_X9_passesAll : sh_ok mX9_passesAll 5 := ⟨List.mem_of_getElem? (i := 610) (by decide +kernel), List.mem_of_getElem? (i := 53) (by decide +kernel), ⟨by decide, by decide⟩, by decide +kernel, by decide, rfl⟩
theorem ki_X9_passesAll : Cond.instanceMethod yX9_passesAll ∈ lw_tbl := List.mem_of_getElem? (i := 609) (by decide +kernel)
theorem kv_X9_passesAll : Cond.selects yX9_passesAll.cls yX9_passesAll yX9_passesAll ∈ lw_tbl := List.mem_of_getElem? (i := 14) (by decide +kernel)
theorem ok_X9_comesChanged : sh_ok mX9_comesChanged 3 := ⟨List.mem_of_getElem? (i := 598) (by decide +kernel), List.mem_of_getElem? (i := 53) (by decide +kernel), ⟨by decide, by decide⟩, by decide +kernel, by decide, rfl⟩
theorem ki_X9_comesChanged : Cond.instanceMethod yX9_comesChanged ∈ lw_tbl := List.mem_of_getElem? (i := 597) (by decide +kernel)
theorem kv_X9_comesChanged : Cond.selects yX9_comesChanged.cls yX9_comesChanged yX9_comesChanged ∈ lw_tbl := List.mem_of_getElem? (i := 12) (by decide +kernel)
theorem ok_X9_comesWith : sh_ok mX9_comesWith 4 := ⟨List.mem_of_getElem? (i := 587) (by decide +kernel), List.mem_of_getElem? (i := 53) (by decide +kernel), ⟨by decide, by decide⟩, by decide +kernel, by decide, rfl⟩
theorem ki_X9_comesWith : Cond.instanceMethod yX9_comesWith ∈ lw_tbl := List.mem_of_getElem? (i := 586) (by decide +kernel)
theorem kv_X9_comesWith : Cond.selects yX9_comesWith.cls yX9_comesWith yX9_comesWith ∈ lw_tbl := List.mem_of_getElem? (i := 11) (by decide +kernel)
theorem ok_X9_ofLaidRow : sh_ok mX9_ofLaidRow 3 := ⟨List.mem_of_getElem? (i := 590) (by decide +kernel), List.mem_of_getElem? (i := 53) (by decide +kernel), ⟨by decide, by decide⟩, by decide +kernel, by decide, rfl⟩
theorem ks_X9_ofLaidRow : Cond.static yX9_ofLaidRow ∈ lw_tbl := List.mem_of_getElem? (i := 589) (by decide +kernel)
theorem ok_X10_init : sh_ok mX10_init 0 := ⟨List.mem_of_getElem? (i := 719) (by decide +kernel), List.mem_of_getElem? (i := 59) (by decide +kernel), ⟨by decide, by decide⟩, by decide +kernel, by decide, rfl⟩
theorem ki_X10_init : Cond.instanceMethod yX10_init ∈ lw_tbl := List.mem_of_getElem? (i := 718) (by decide +kernel)
theorem ok_X10_in : sh_ok mX10_in 3 := ⟨List.mem_of_getElem? (i := 842) (by decide +kernel), List.mem_of_getElem? (i := 59) (by decide +kernel), ⟨by decide, by decide⟩, by decide +kernel, by decide, rfl⟩
theorem ks_X10_in : Cond.static yX10_in ∈ lw_tbl := List.mem_of_getElem? (i := 841) (by decide +kernel)
theorem ok_X10_lost : sh_ok mX10_lost 0 := ⟨List.mem_of_getElem? (i := 1082) (by decide +kernel), List.mem_of_getElem? (i := 59) (by decide +kernel), ⟨by decide, by decide⟩, by decide +kernel, by decide, rfl⟩
theorem ks_X10_lost : Cond.static yX10_lost ∈ lw_tbl := List.mem_of_getElem? (i := 1081) (by decide +kernel)
theorem ok_X10_refused : sh_ok mX10_refused 1 := ⟨List.mem_of_getElem? (i := 846) (by decide +kernel), List.mem_of_getElem? (i := 59) (by decide +kernel), ⟨by decide, by decide⟩, by decide +kernel, by decide, rfl⟩
theorem ki_X10_refused : Cond.instanceMethod yX10_refused ∈ lw_tbl := List.mem_of_getElem? (i := 845) (by decide +kernel)
theorem kv_X10_refused : Cond.selects yX10_refused.cls yX10_refused yX10_refused ∈ lw_tbl := List.mem_of_getElem? (i := 16) (by decide +kernel)
theorem ok_X10_failed : sh_ok mX10_failed 1 := ⟨List.mem_of_getElem? (i := 851) (by decide +kernel), List.mem_of_getElem? (i := 59) (by decide +kernel), ⟨by decide, by decide⟩, by decide +kernel, by decide, rfl⟩
theorem ki_X10_failed : Cond.instanceMethod yX10_failed ∈ lw_tbl := List.mem_of_getElem? (i := 850) (by decide +kernel)
theorem kv_X10_failed : Cond.selects yX10_failed.cls yX10_failed yX10_failed ∈ lw_tbl := List.mem_of_getElem? (i := 17) (by decide +kernel)
theorem ok_X10_failedLong : sh_ok mX10_failedLong 1 := ⟨List.mem_of_getElem? (i := 1087) (by decide +kernel), List.mem_of_getElem? (i := 59) (by decide +kernel), ⟨by decide, by decide⟩, by decide +kernel, by decide, rfl⟩
theorem ki_X10_failedLong : Cond.instanceMethod yX10_failedLong ∈ lw_tbl := List.mem_of_getElem? (i := 1086) (by decide +kernel)
theorem kv_X10_failedLong : Cond.selects yX10_failedLong.cls yX10_failedLong yX10_failedLong ∈ lw_tbl := List.mem_of_getElem? (i := 50) (by decide +kernel)
theorem ok_X10_barred : sh_ok mX10_barred 4 := ⟨List.mem_of_getElem? (i := 835) (by decide +kernel), List.mem_of_getElem? (i := 59) (by decide +kernel), ⟨by decide, by decide⟩, by decide +kernel, by decide, rfl⟩
theorem ki_X10_barred : Cond.instanceMethod yX10_barred ∈ lw_tbl := List.mem_of_getElem? (i := 834) (by decide +kernel)
theorem kv_X10_barred : Cond.selects yX10_barred.cls yX10_barred yX10_barred ∈ lw_tbl := List.mem_of_getElem? (i := 15) (by decide +kernel)
theorem ok_X10_noRoom : sh_ok mX10_noRoom 1 := ⟨List.mem_of_getElem? (i := 898) (by decide +kernel), List.mem_of_getElem? (i := 59) (by decide +kernel), ⟨by decide, by decide⟩, by decide +kernel, by decide, rfl⟩
theorem ki_X10_noRoom : Cond.instanceMethod yX10_noRoom ∈ lw_tbl := List.mem_of_getElem? (i := 897) (by decide +kernel)
theorem kv_X10_noRoom : Cond.selects yX10_noRoom.cls yX10_noRoom yX10_noRoom ∈ lw_tbl := List.mem_of_getElem? (i := 26) (by decide +kernel)
theorem ok_X10_noDoor : sh_ok mX10_noDoor 1 := ⟨List.mem_of_getElem? (i := 882) (by decide +kernel), List.mem_of_getElem? (i := 59) (by decide +kernel), ⟨by decide, by decide⟩, by decide +kernel, by decide, rfl⟩
theorem ki_X10_noDoor : Cond.instanceMethod yX10_noDoor ∈ lw_tbl := List.mem_of_getElem? (i := 881) (by decide +kernel)
theorem kv_X10_noDoor : Cond.selects yX10_noDoor.cls yX10_noDoor yX10_noDoor ∈ lw_tbl := List.mem_of_getElem? (i := 23) (by decide +kernel)
theorem ok_X10_codeAt : sh_ok mX10_codeAt 2 := ⟨List.mem_of_getElem? (i := 862) (by decide +kernel), List.mem_of_getElem? (i := 59) (by decide +kernel), ⟨by decide, by decide⟩, by decide +kernel, by decide, rfl⟩
theorem ki_X10_codeAt : Cond.instanceMethod yX10_codeAt ∈ lw_tbl := List.mem_of_getElem? (i := 861) (by decide +kernel)
theorem kv_X10_codeAt : Cond.selects yX10_codeAt.cls yX10_codeAt yX10_codeAt ∈ lw_tbl := List.mem_of_getElem? (i := 19) (by decide +kernel)
theorem ok_X10_figure : sh_ok mX10_figure 4 := ⟨List.mem_of_getElem? (i := 866) (by decide +kernel), List.mem_of_getElem? (i := 59) (by decide +kernel), ⟨by decide, by decide⟩, by decide +kernel, by decide, rfl⟩
theorem ki_X10_figure : Cond.instanceMethod yX10_figure ∈ lw_tbl := List.mem_of_getElem? (i := 865) (by decide +kernel)
theorem kv_X10_figure : Cond.selects yX10_figure.cls yX10_figure yX10_figure ∈ lw_tbl := List.mem_of_getElem? (i := 20) (by decide +kernel)
theorem ok_X10_readsWeight : sh_ok mX10_readsWeight 2 := ⟨List.mem_of_getElem? (i := 874) (by decide +kernel), List.mem_of_getElem? (i := 59) (by decide +kernel), ⟨by decide, by decide⟩, by decide +kernel, by decide, rfl⟩
theorem ki_X10_readsWeight : Cond.instanceMethod yX10_readsWeight ∈ lw_tbl := List.mem_of_getElem? (i := 873) (by decide +kernel)
theorem kv_X10_readsWeight : Cond.selects yX10_readsWeight.cls yX10_readsWeight yX10_readsWeight ∈ lw_tbl := List.mem_of_getElem? (i := 22) (by decide +kernel)
theorem ok_X10_readsDoor : sh_ok mX10_readsDoor 2 := ⟨List.mem_of_getElem? (i := 870) (by decide +kernel), List.mem_of_getElem? (i := 59) (by decide +kernel), ⟨by decide, by decide⟩, by decide +kernel, by decide, rfl⟩
theorem ki_X10_readsDoor : Cond.instanceMethod yX10_readsDoor ∈ lw_tbl := List.mem_of_getElem? (i := 869) (by decide +kernel)
theorem kv_X10_readsDoor : Cond.selects yX10_readsDoor.cls yX10_readsDoor yX10_readsDoor ∈ lw_tbl := List.mem_of_getElem? (i := 21) (by decide +kernel)
theorem ok_X10_readsHouse : sh_ok mX10_readsHouse 2 := ⟨List.mem_of_getElem? (i := 858) (by decide +kernel), List.mem_of_getElem? (i := 59) (by decide +kernel), ⟨by decide, by decide⟩, by decide +kernel, by decide, rfl⟩
theorem ki_X10_readsHouse : Cond.instanceMethod yX10_readsHouse ∈ lw_tbl := List.mem_of_getElem? (i := 857) (by decide +kernel)
theorem kv_X10_readsHouse : Cond.selects yX10_readsHouse.cls yX10_readsHouse yX10_readsHouse ∈ lw_tbl := List.mem_of_getElem? (i := 18) (by decide +kernel)
theorem ok_X10_house : sh_ok mX10_house 4 := ⟨List.mem_of_getElem? (i := 831) (by decide +kernel), List.mem_of_getElem? (i := 59) (by decide +kernel), ⟨by decide, by decide⟩, by decide +kernel, by decide, rfl⟩
theorem ki_X10_house : Cond.instanceMethod yX10_house ∈ lw_tbl := List.mem_of_getElem? (i := 829) (by decide +kernel)
theorem kv_X10_house : Cond.selects yX10_house.cls yX10_house yX10_house ∈ lw_tbl := List.mem_of_getElem? (i := 830) (by decide +kernel)
theorem ok_X10_slackOf : sh_ok mX10_slackOf 1 := ⟨List.mem_of_getElem? (i := 890) (by decide +kernel), List.mem_of_getElem? (i := 59) (by decide +kernel), ⟨by decide, by decide⟩, by decide +kernel, by decide, rfl⟩
theorem ki_X10_slackOf : Cond.instanceMethod yX10_slackOf ∈ lw_tbl := List.mem_of_getElem? (i := 889) (by decide +kernel)
theorem kv_X10_slackOf : Cond.selects yX10_slackOf.cls yX10_slackOf yX10_slackOf ∈ lw_tbl := List.mem_of_getElem? (i := 25) (by decide +kernel)
theorem ok_X10_asks : sh_ok mX10_asks 2 := ⟨List.mem_of_getElem? (i := 886) (by decide +kernel), List.mem_of_getElem? (i := 59) (by decide +kernel), ⟨by decide, by decide⟩, by decide +kernel, by decide, rfl⟩
theorem ki_X10_asks : Cond.instanceMethod yX10_asks ∈ lw_tbl := List.mem_of_getElem? (i := 885) (by decide +kernel)
theorem kv_X10_asks : Cond.selects yX10_asks.cls yX10_asks yX10_asks ∈ lw_tbl := List.mem_of_getElem? (i := 24) (by decide +kernel)
theorem ok_X10_isOpen : sh_ok mX10_isOpen 3 := ⟨List.mem_of_getElem? (i := 968) (by decide +kernel), List.mem_of_getElem? (i := 59) (by decide +kernel), ⟨by decide, by decide⟩, by decide +kernel, by decide, rfl⟩
theorem ki_X10_isOpen : Cond.instanceMethod yX10_isOpen ∈ lw_tbl := List.mem_of_getElem? (i := 967) (by decide +kernel)
theorem kv_X10_isOpen : Cond.selects yX10_isOpen.cls yX10_isOpen yX10_isOpen ∈ lw_tbl := List.mem_of_getElem? (i := 36) (by decide +kernel)
theorem ok_X10_sideIn : sh_ok mX10_sideIn 2 := ⟨List.mem_of_getElem? (i := 956) (by decide +kernel), List.mem_of_getElem? (i := 59) (by decide +kernel), ⟨by decide, by decide⟩, by decide +kernel, by decide, rfl⟩
theorem ki_X10_sideIn : Cond.instanceMethod yX10_sideIn ∈ lw_tbl := List.mem_of_getElem? (i := 955) (by decide +kernel)
theorem kv_X10_sideIn : Cond.selects yX10_sideIn.cls yX10_sideIn yX10_sideIn ∈ lw_tbl := List.mem_of_getElem? (i := 33) (by decide +kernel)
theorem ok_X10_throughTo : sh_ok mX10_throughTo 3 := ⟨List.mem_of_getElem? (i := 964) (by decide +kernel), List.mem_of_getElem? (i := 59) (by decide +kernel), ⟨by decide, by decide⟩, by decide +kernel, by decide, rfl⟩
theorem ki_X10_throughTo : Cond.instanceMethod yX10_throughTo ∈ lw_tbl := List.mem_of_getElem? (i := 963) (by decide +kernel)
theorem kv_X10_throughTo : Cond.selects yX10_throughTo.cls yX10_throughTo yX10_throughTo ∈ lw_tbl := List.mem_of_getElem? (i := 35) (by decide +kernel)
theorem ok_X10_ofDoor : sh_ok mX10_ofDoor 2 := ⟨List.mem_of_getElem? (i := 878) (by decide +kernel), List.mem_of_getElem? (i := 59) (by decide +kernel), ⟨by decide, by decide⟩, by decide +kernel, by decide, rfl⟩
theorem ki_X10_ofDoor : Cond.instanceMethod yX10_ofDoor ∈ lw_tbl := List.mem_of_getElem? (i := 876) (by decide +kernel)
theorem kv_X10_ofDoor : Cond.selects yX10_ofDoor.cls yX10_ofDoor yX10_ofDoor ∈ lw_tbl := List.mem_of_getElem? (i := 877) (by decide +kernel)
theorem ok_X10_noPerson : sh_ok mX10_noPerson 1 := ⟨List.mem_of_getElem? (i := 913) (by decide +kernel), List.mem_of_getElem? (i := 59) (by decide +kernel), ⟨by decide, by decide⟩, by decide +kernel, by decide, rfl⟩
theorem ki_X10_noPerson : Cond.instanceMethod yX10_noPerson ∈ lw_tbl := List.mem_of_getElem? (i := 912) (by decide +kernel)
theorem kv_X10_noPerson : Cond.selects yX10_noPerson.cls yX10_noPerson yX10_noPerson ∈ lw_tbl := List.mem_of_getElem? (i := 27) (by decide +kernel)
theorem ok_X10_noStone : sh_ok mX10_noStone 1 := ⟨List.mem_of_getElem? (i := 929) (by decide +kernel), List.mem_of_getElem? (i := 59) (by decide +kernel), ⟨by decide, by decide⟩, by decide +kernel, by decide, rfl⟩
theorem ki_X10_noStone : Cond.instanceMethod yX10_noStone ∈ lw_tbl := List.mem_of_getElem? (i := 928) (by decide +kernel)
theorem kv_X10_noStone : Cond.selects yX10_noStone.cls yX10_noStone yX10_noStone ∈ lw_tbl := List.mem_of_getElem? (i := 30) (by decide +kernel)
theorem ok_X10_person : sh_ok mX10_person 2 := ⟨List.mem_of_getElem? (i := 894) (by decide +kernel), List.mem_of_getElem? (i := 59) (by decide +kernel), ⟨by decide, by decide⟩, by decide +kernel, by decide, rfl⟩
theorem ki_X10_person : Cond.instanceMethod yX10_person ∈ lw_tbl := List.mem_of_getElem? (i := 892) (by decide +kernel)
theorem kv_X10_person : Cond.selects yX10_person.cls yX10_person yX10_person ∈ lw_tbl := List.mem_of_getElem? (i := 893) (by decide +kernel)
theorem ok_X10_stone : sh_ok mX10_stone 2 := ⟨List.mem_of_getElem? (i := 904) (by decide +kernel), List.mem_of_getElem? (i := 59) (by decide +kernel), ⟨by decide, by decide⟩, by decide +kernel, by decide, rfl⟩
theorem ki_X10_stone : Cond.instanceMethod yX10_stone ∈ lw_tbl := List.mem_of_getElem? (i := 902) (by decide +kernel)
theorem kv_X10_stone : Cond.selects yX10_stone.cls yX10_stone yX10_stone ∈ lw_tbl := List.mem_of_getElem? (i := 903) (by decide +kernel)
theorem ok_X10_carriedBy : sh_ok mX10_carriedBy 1 := ⟨List.mem_of_getElem? (i := 917) (by decide +kernel), List.mem_of_getElem? (i := 59) (by decide +kernel), ⟨by decide, by decide⟩, by decide +kernel, by decide, rfl⟩
theorem ki_X10_carriedBy : Cond.instanceMethod yX10_carriedBy ∈ lw_tbl := List.mem_of_getElem? (i := 916) (by decide +kernel)
theorem kv_X10_carriedBy : Cond.selects yX10_carriedBy.cls yX10_carriedBy yX10_carriedBy ∈ lw_tbl := List.mem_of_getElem? (i := 28) (by decide +kernel)
theorem ok_X10_bits : sh_ok mX10_bits 1 := ⟨List.mem_of_getElem? (i := 936) (by decide +kernel), List.mem_of_getElem? (i := 59) (by decide +kernel), ⟨by decide, by decide⟩, by decide +kernel, by decide, rfl⟩
theorem ks_X10_bits : Cond.static yX10_bits ∈ lw_tbl := List.mem_of_getElem? (i := 935) (by decide +kernel)
theorem ok_X10_withStones : sh_ok mX10_withStones 1 := ⟨List.mem_of_getElem? (i := 921) (by decide +kernel), List.mem_of_getElem? (i := 59) (by decide +kernel), ⟨by decide, by decide⟩, by decide +kernel, by decide, rfl⟩
theorem ki_X10_withStones : Cond.instanceMethod yX10_withStones ∈ lw_tbl := List.mem_of_getElem? (i := 920) (by decide +kernel)
theorem kv_X10_withStones : Cond.selects yX10_withStones.cls yX10_withStones yX10_withStones ∈ lw_tbl := List.mem_of_getElem? (i := 29) (by decide +kernel)
theorem ok_X10_ofPerson : sh_ok mX10_ofPerson 2 := ⟨List.mem_of_getElem? (i := 909) (by decide +kernel), List.mem_of_getElem? (i := 59) (by decide +kernel), ⟨by decide, by decide⟩, by decide +kernel, by decide, rfl⟩
theorem ki_X10_ofPerson : Cond.instanceMethod yX10_ofPerson ∈ lw_tbl := List.mem_of_getElem? (i := 907) (by decide +kernel)
theorem kv_X10_ofPerson : Cond.selects yX10_ofPerson.cls yX10_ofPerson yX10_ofPerson ∈ lw_tbl := List.mem_of_getElem? (i := 908) (by decide +kernel)
theorem ok_X10_ofStone : sh_ok mX10_ofStone 2 := ⟨List.mem_of_getElem? (i := 925) (by decide +kernel), List.mem_of_getElem? (i := 59) (by decide +kernel), ⟨by decide, by decide⟩, by decide +kernel, by decide, rfl⟩
theorem ki_X10_ofStone : Cond.instanceMethod yX10_ofStone ∈ lw_tbl := List.mem_of_getElem? (i := 923) (by decide +kernel)
theorem kv_X10_ofStone : Cond.selects yX10_ofStone.cls yX10_ofStone yX10_ofStone ∈ lw_tbl := List.mem_of_getElem? (i := 924) (by decide +kernel)
theorem ok_X10_take : sh_ok mX10_take 2 := ⟨List.mem_of_getElem? (i := 933) (by decide +kernel), List.mem_of_getElem? (i := 59) (by decide +kernel), ⟨by decide, by decide⟩, by decide +kernel, by decide, rfl⟩
theorem ki_X10_take : Cond.instanceMethod yX10_take ∈ lw_tbl := List.mem_of_getElem? (i := 931) (by decide +kernel)
theorem kv_X10_take : Cond.selects yX10_take.cls yX10_take yX10_take ∈ lw_tbl := List.mem_of_getElem? (i := 932) (by decide +kernel)
theorem ok_X10_lay : sh_ok mX10_lay 2 := ⟨List.mem_of_getElem? (i := 940) (by decide +kernel), List.mem_of_getElem? (i := 59) (by decide +kernel), ⟨by decide, by decide⟩, by decide +kernel, by decide, rfl⟩
theorem ki_X10_lay : Cond.instanceMethod yX10_lay ∈ lw_tbl := List.mem_of_getElem? (i := 938) (by decide +kernel)
theorem kv_X10_lay : Cond.selects yX10_lay.cls yX10_lay yX10_lay ∈ lw_tbl := List.mem_of_getElem? (i := 939) (by decide +kernel)
theorem ok_X10_roomOf : sh_ok mX10_roomOf 1 := ⟨List.mem_of_getElem? (i := 952) (by decide +kernel), List.mem_of_getElem? (i := 59) (by decide +kernel), ⟨by decide, by decide⟩, by decide +kernel, by decide, rfl⟩
theorem ki_X10_roomOf : Cond.instanceMethod yX10_roomOf ∈ lw_tbl := List.mem_of_getElem? (i := 951) (by decide +kernel)
theorem kv_X10_roomOf : Cond.selects yX10_roomOf.cls yX10_roomOf yX10_roomOf ∈ lw_tbl := List.mem_of_getElem? (i := 32) (by decide +kernel)
theorem ok_X10_weightOfAll : sh_ok mX10_weightOfAll 1 := ⟨List.mem_of_getElem? (i := 960) (by decide +kernel), List.mem_of_getElem? (i := 59) (by decide +kernel), ⟨by decide, by decide⟩, by decide +kernel, by decide, rfl⟩
theorem ki_X10_weightOfAll : Cond.instanceMethod yX10_weightOfAll ∈ lw_tbl := List.mem_of_getElem? (i := 959) (by decide +kernel)
theorem kv_X10_weightOfAll : Cond.selects yX10_weightOfAll.cls yX10_weightOfAll yX10_weightOfAll ∈ lw_tbl := List.mem_of_getElem? (i := 34) (by decide +kernel)
theorem ok_X10_partyBarred : sh_ok mX10_partyBarred 2 := ⟨List.mem_of_getElem? (i := 948) (by decide +kernel), List.mem_of_getElem? (i := 59) (by decide +kernel), ⟨by decide, by decide⟩, by decide +kernel, by decide, rfl⟩
theorem ki_X10_partyBarred : Cond.instanceMethod yX10_partyBarred ∈ lw_tbl := List.mem_of_getElem? (i := 947) (by decide +kernel)
theorem kv_X10_partyBarred : Cond.selects yX10_partyBarred.cls yX10_partyBarred yX10_partyBarred ∈ lw_tbl := List.mem_of_getElem? (i := 31) (by decide +kernel)
theorem ok_X10_opens : sh_ok mX10_opens 2 := ⟨List.mem_of_getElem? (i := 944) (by decide +kernel), List.mem_of_getElem? (i := 59) (by decide +kernel), ⟨by decide, by decide⟩, by decide +kernel, by decide, rfl⟩
theorem ki_X10_opens : Cond.instanceMethod yX10_opens ∈ lw_tbl := List.mem_of_getElem? (i := 942) (by decide +kernel)
theorem kv_X10_opens : Cond.selects yX10_opens.cls yX10_opens yX10_opens ∈ lw_tbl := List.mem_of_getElem? (i := 943) (by decide +kernel)
theorem ok_X10_pass : sh_ok mX10_pass 2 := ⟨List.mem_of_getElem? (i := 972) (by decide +kernel), List.mem_of_getElem? (i := 59) (by decide +kernel), ⟨by decide, by decide⟩, by decide +kernel, by decide, rfl⟩
theorem ki_X10_pass : Cond.instanceMethod yX10_pass ∈ lw_tbl := List.mem_of_getElem? (i := 970) (by decide +kernel)
theorem kv_X10_pass : Cond.selects yX10_pass.cls yX10_pass yX10_pass ∈ lw_tbl := List.mem_of_getElem? (i := 971) (by decide +kernel)
theorem ok_X10_weigh : sh_ok mX10_weigh 2 := ⟨List.mem_of_getElem? (i := 976) (by decide +kernel), List.mem_of_getElem? (i := 59) (by decide +kernel), ⟨by decide, by decide⟩, by decide +kernel, by decide, rfl⟩
theorem ki_X10_weigh : Cond.instanceMethod yX10_weigh ∈ lw_tbl := List.mem_of_getElem? (i := 974) (by decide +kernel)
theorem kv_X10_weigh : Cond.selects yX10_weigh.cls yX10_weigh yX10_weigh ∈ lw_tbl := List.mem_of_getElem? (i := 975) (by decide +kernel)
theorem ok_X10_stateNow : sh_ok mX10_stateNow 0 := ⟨List.mem_of_getElem? (i := 992) (by decide +kernel), List.mem_of_getElem? (i := 59) (by decide +kernel), ⟨by decide, by decide⟩, by decide +kernel, by decide, rfl⟩
theorem ki_X10_stateNow : Cond.instanceMethod yX10_stateNow ∈ lw_tbl := List.mem_of_getElem? (i := 991) (by decide +kernel)
theorem kv_X10_stateNow : Cond.selects yX10_stateNow.cls yX10_stateNow yX10_stateNow ∈ lw_tbl := List.mem_of_getElem? (i := 39) (by decide +kernel)
theorem ok_X10_takeState : sh_ok mX10_takeState 1 := ⟨List.mem_of_getElem? (i := 1000) (by decide +kernel), List.mem_of_getElem? (i := 59) (by decide +kernel), ⟨by decide, by decide⟩, by decide +kernel, by decide, rfl⟩
theorem ki_X10_takeState : Cond.instanceMethod yX10_takeState ∈ lw_tbl := List.mem_of_getElem? (i := 999) (by decide +kernel)
theorem kv_X10_takeState : Cond.selects yX10_takeState.cls yX10_takeState yX10_takeState ∈ lw_tbl := List.mem_of_getElem? (i := 41) (by decide +kernel)
theorem ok_X10_add : sh_ok mX10_add 2 := ⟨List.mem_of_getElem? (i := 988) (by decide +kernel), List.mem_of_getElem? (i := 59) (by decide +kernel), ⟨by decide, by decide⟩, by decide +kernel, by decide, rfl⟩
theorem ki_X10_add : Cond.instanceMethod yX10_add ∈ lw_tbl := List.mem_of_getElem? (i := 987) (by decide +kernel)
theorem kv_X10_add : Cond.selects yX10_add.cls yX10_add yX10_add ∈ lw_tbl := List.mem_of_getElem? (i := 38) (by decide +kernel)
theorem ok_X10_carriedNow : sh_ok mX10_carriedNow 0 := ⟨List.mem_of_getElem? (i := 1004) (by decide +kernel), List.mem_of_getElem? (i := 59) (by decide +kernel), ⟨by decide, by decide⟩, by decide +kernel, by decide, rfl⟩
theorem ki_X10_carriedNow : Cond.instanceMethod yX10_carriedNow ∈ lw_tbl := List.mem_of_getElem? (i := 1003) (by decide +kernel)
theorem kv_X10_carriedNow : Cond.selects yX10_carriedNow.cls yX10_carriedNow yX10_carriedNow ∈ lw_tbl := List.mem_of_getElem? (i := 42) (by decide +kernel)
theorem ok_X10_weightNow : sh_ok mX10_weightNow 0 := ⟨List.mem_of_getElem? (i := 1008) (by decide +kernel), List.mem_of_getElem? (i := 59) (by decide +kernel), ⟨by decide, by decide⟩, by decide +kernel, by decide, rfl⟩
theorem ki_X10_weightNow : Cond.instanceMethod yX10_weightNow ∈ lw_tbl := List.mem_of_getElem? (i := 1007) (by decide +kernel)
theorem kv_X10_weightNow : Cond.selects yX10_weightNow.cls yX10_weightNow yX10_weightNow ∈ lw_tbl := List.mem_of_getElem? (i := 43) (by decide +kernel)
theorem ok_X10_spread : sh_ok mX10_spread 1 := ⟨List.mem_of_getElem? (i := 996) (by decide +kernel), List.mem_of_getElem? (i := 59) (by decide +kernel), ⟨by decide, by decide⟩, by decide +kernel, by decide, rfl⟩
theorem ki_X10_spread : Cond.instanceMethod yX10_spread ∈ lw_tbl := List.mem_of_getElem? (i := 995) (by decide +kernel)
theorem kv_X10_spread : Cond.selects yX10_spread.cls yX10_spread yX10_spread ∈ lw_tbl := List.mem_of_getElem? (i := 40) (by decide +kernel)
theorem ok_X10_goTill : sh_ok mX10_goTill 1 := ⟨List.mem_of_getElem? (i := 984) (by decide +kernel), List.mem_of_getElem? (i := 59) (by decide +kernel), ⟨by decide, by decide⟩, by decide +kernel, by decide, rfl⟩
theorem ki_X10_goTill : Cond.instanceMethod yX10_goTill ∈ lw_tbl := List.mem_of_getElem? (i := 983) (by decide +kernel)
theorem kv_X10_goTill : Cond.selects yX10_goTill.cls yX10_goTill yX10_goTill ∈ lw_tbl := List.mem_of_getElem? (i := 37) (by decide +kernel)
theorem ok_X10_fewest : sh_ok mX10_fewest 3 := ⟨List.mem_of_getElem? (i := 980) (by decide +kernel), List.mem_of_getElem? (i := 59) (by decide +kernel), ⟨by decide, by decide⟩, by decide +kernel, by decide, rfl⟩
theorem ki_X10_fewest : Cond.instanceMethod yX10_fewest ∈ lw_tbl := List.mem_of_getElem? (i := 978) (by decide +kernel)
theorem kv_X10_fewest : Cond.selects yX10_fewest.cls yX10_fewest yX10_fewest ∈ lw_tbl := List.mem_of_getElem? (i := 979) (by decide +kernel)
theorem ok_X10_reachOf : sh_ok mX10_reachOf 2 := ⟨List.mem_of_getElem? (i := 1017) (by decide +kernel), List.mem_of_getElem? (i := 59) (by decide +kernel), ⟨by decide, by decide⟩, by decide +kernel, by decide, rfl⟩
theorem ki_X10_reachOf : Cond.instanceMethod yX10_reachOf ∈ lw_tbl := List.mem_of_getElem? (i := 1016) (by decide +kernel)
theorem kv_X10_reachOf : Cond.selects yX10_reachOf.cls yX10_reachOf yX10_reachOf ∈ lw_tbl := List.mem_of_getElem? (i := 44) (by decide +kernel)
theorem ok_X10_reach : sh_ok mX10_reach 2 := ⟨List.mem_of_getElem? (i := 1012) (by decide +kernel), List.mem_of_getElem? (i := 59) (by decide +kernel), ⟨by decide, by decide⟩, by decide +kernel, by decide, rfl⟩
theorem ki_X10_reach : Cond.instanceMethod yX10_reach ∈ lw_tbl := List.mem_of_getElem? (i := 1010) (by decide +kernel)
theorem kv_X10_reach : Cond.selects yX10_reach.cls yX10_reach yX10_reach ∈ lw_tbl := List.mem_of_getElem? (i := 1011) (by decide +kernel)
theorem ok_X10_comesTo : sh_ok mX10_comesTo 3 := ⟨List.mem_of_getElem? (i := 1025) (by decide +kernel), List.mem_of_getElem? (i := 59) (by decide +kernel), ⟨by decide, by decide⟩, by decide +kernel, by decide, rfl⟩
theorem ki_X10_comesTo : Cond.instanceMethod yX10_comesTo ∈ lw_tbl := List.mem_of_getElem? (i := 1024) (by decide +kernel)
theorem kv_X10_comesTo : Cond.selects yX10_comesTo.cls yX10_comesTo yX10_comesTo ∈ lw_tbl := List.mem_of_getElem? (i := 45) (by decide +kernel)
theorem ok_X10_strangers : sh_ok mX10_strangers 3 := ⟨List.mem_of_getElem? (i := 1021) (by decide +kernel), List.mem_of_getElem? (i := 59) (by decide +kernel), ⟨by decide, by decide⟩, by decide +kernel, by decide, rfl⟩
theorem ki_X10_strangers : Cond.instanceMethod yX10_strangers ∈ lw_tbl := List.mem_of_getElem? (i := 1019) (by decide +kernel)
theorem kv_X10_strangers : Cond.selects yX10_strangers.cls yX10_strangers yX10_strangers ∈ lw_tbl := List.mem_of_getElem? (i := 1020) (by decide +kernel)
theorem ok_X10_goesWith : sh_ok mX10_goesWith 5 := ⟨List.mem_of_getElem? (i := 1034) (by decide +kernel), List.mem_of_getElem? (i := 59) (by decide +kernel), ⟨by decide, by decide⟩, by decide +kernel, by decide, rfl⟩
theorem ki_X10_goesWith : Cond.instanceMethod yX10_goesWith ∈ lw_tbl := List.mem_of_getElem? (i := 1033) (by decide +kernel)
theorem kv_X10_goesWith : Cond.selects yX10_goesWith.cls yX10_goesWith yX10_goesWith ∈ lw_tbl := List.mem_of_getElem? (i := 46) (by decide +kernel)
theorem ok_X10_laid : sh_ok mX10_laid 3 := ⟨List.mem_of_getElem? (i := 1029) (by decide +kernel), List.mem_of_getElem? (i := 59) (by decide +kernel), ⟨by decide, by decide⟩, by decide +kernel, by decide, rfl⟩
theorem ki_X10_laid : Cond.instanceMethod yX10_laid ∈ lw_tbl := List.mem_of_getElem? (i := 1027) (by decide +kernel)
theorem kv_X10_laid : Cond.selects yX10_laid.cls yX10_laid yX10_laid ∈ lw_tbl := List.mem_of_getElem? (i := 1028) (by decide +kernel)
theorem ok_X10_guest : sh_ok mX10_guest 2 := ⟨List.mem_of_getElem? (i := 1038) (by decide +kernel), List.mem_of_getElem? (i := 59) (by decide +kernel), ⟨by decide, by decide⟩, by decide +kernel, by decide, rfl⟩
theorem ki_X10_guest : Cond.instanceMethod yX10_guest ∈ lw_tbl := List.mem_of_getElem? (i := 1036) (by decide +kernel)
theorem kv_X10_guest : Cond.selects yX10_guest.cls yX10_guest yX10_guest ∈ lw_tbl := List.mem_of_getElem? (i := 1037) (by decide +kernel)
theorem ok_X10_passesAll : sh_ok mX10_passesAll 4 := ⟨List.mem_of_getElem? (i := 1050) (by decide +kernel), List.mem_of_getElem? (i := 59) (by decide +kernel), ⟨by decide, by decide⟩, by decide +kernel, by decide, rfl⟩
theorem ki_X10_passesAll : Cond.instanceMethod yX10_passesAll ∈ lw_tbl := List.mem_of_getElem? (i := 1049) (by decide +kernel)
theorem kv_X10_passesAll : Cond.selects yX10_passesAll.cls yX10_passesAll yX10_passesAll ∈ lw_tbl := List.mem_of_getElem? (i := 48) (by decide +kernel)
theorem ok_X10_areDoors : sh_ok mX10_areDoors 2 := ⟨List.mem_of_getElem? (i := 1046) (by decide +kernel), List.mem_of_getElem? (i := 59) (by decide +kernel), ⟨by decide, by decide⟩, by decide +kernel, by decide, rfl⟩
theorem ki_X10_areDoors : Cond.instanceMethod yX10_areDoors ∈ lw_tbl := List.mem_of_getElem? (i := 1045) (by decide +kernel)
theorem kv_X10_areDoors : Cond.selects yX10_areDoors.cls yX10_areDoors yX10_areDoors ∈ lw_tbl := List.mem_of_getElem? (i := 47) (by decide +kernel)
theorem ok_X10_heard : sh_ok mX10_heard 4 := ⟨List.mem_of_getElem? (i := 1042) (by decide +kernel), List.mem_of_getElem? (i := 59) (by decide +kernel), ⟨by decide, by decide⟩, by decide +kernel, by decide, rfl⟩
theorem ki_X10_heard : Cond.instanceMethod yX10_heard ∈ lw_tbl := List.mem_of_getElem? (i := 1040) (by decide +kernel)
theorem kv_X10_heard : Cond.selects yX10_heard.cls yX10_heard yX10_heard ∈ lw_tbl := List.mem_of_getElem? (i := 1041) (by decide +kernel)
theorem ok_X10_byStrangers : sh_ok mX10_byStrangers 5 := ⟨List.mem_of_getElem? (i := 1054) (by decide +kernel), List.mem_of_getElem? (i := 59) (by decide +kernel), ⟨by decide, by decide⟩, by decide +kernel, by decide, rfl⟩
theorem ki_X10_byStrangers : Cond.instanceMethod yX10_byStrangers ∈ lw_tbl := List.mem_of_getElem? (i := 1052) (by decide +kernel)
theorem kv_X10_byStrangers : Cond.selects yX10_byStrangers.cls yX10_byStrangers yX10_byStrangers ∈ lw_tbl := List.mem_of_getElem? (i := 1053) (by decide +kernel)
theorem ok_X10_grows : sh_ok mX10_grows 3 := ⟨List.mem_of_getElem? (i := 1058) (by decide +kernel), List.mem_of_getElem? (i := 59) (by decide +kernel), ⟨by decide, by decide⟩, by decide +kernel, by decide, rfl⟩
theorem ki_X10_grows : Cond.instanceMethod yX10_grows ∈ lw_tbl := List.mem_of_getElem? (i := 1056) (by decide +kernel)
theorem kv_X10_grows : Cond.selects yX10_grows.cls yX10_grows yX10_grows ∈ lw_tbl := List.mem_of_getElem? (i := 1057) (by decide +kernel)
theorem ok_X10_noSheet : sh_ok mX10_noSheet 1 := ⟨List.mem_of_getElem? (i := 838) (by decide +kernel), List.mem_of_getElem? (i := 59) (by decide +kernel), ⟨by decide, by decide⟩, by decide +kernel, by decide, rfl⟩
theorem ks_X10_noSheet : Cond.static yX10_noSheet ∈ lw_tbl := List.mem_of_getElem? (i := 837) (by decide +kernel)
theorem ok_X10_sheet : sh_ok mX10_sheet 3 := ⟨List.mem_of_getElem? (i := 1063) (by decide +kernel), List.mem_of_getElem? (i := 59) (by decide +kernel), ⟨by decide, by decide⟩, by decide +kernel, by decide, rfl⟩
theorem ki_X10_sheet : Cond.instanceMethod yX10_sheet ∈ lw_tbl := List.mem_of_getElem? (i := 1061) (by decide +kernel)
theorem kv_X10_sheet : Cond.selects yX10_sheet.cls yX10_sheet yX10_sheet ∈ lw_tbl := List.mem_of_getElem? (i := 1062) (by decide +kernel)
theorem ok_X10_lose : sh_ok mX10_lose 1 := ⟨List.mem_of_getElem? (i := 1067) (by decide +kernel), List.mem_of_getElem? (i := 59) (by decide +kernel), ⟨by decide, by decide⟩, by decide +kernel, by decide, rfl⟩
theorem ki_X10_lose : Cond.instanceMethod yX10_lose ∈ lw_tbl := List.mem_of_getElem? (i := 1065) (by decide +kernel)
theorem kv_X10_lose : Cond.selects yX10_lose.cls yX10_lose yX10_lose ∈ lw_tbl := List.mem_of_getElem? (i := 1066) (by decide +kernel)
theorem ok_X10_noCell : sh_ok mX10_noCell 2 := ⟨List.mem_of_getElem? (i := 1075) (by decide +kernel), List.mem_of_getElem? (i := 59) (by decide +kernel), ⟨by decide, by decide⟩, by decide +kernel, by decide, rfl⟩
theorem ki_X10_noCell : Cond.instanceMethod yX10_noCell ∈ lw_tbl := List.mem_of_getElem? (i := 1074) (by decide +kernel)
theorem kv_X10_noCell : Cond.selects yX10_noCell.cls yX10_noCell yX10_noCell ∈ lw_tbl := List.mem_of_getElem? (i := 49) (by decide +kernel)
theorem ok_X10_put : sh_ok mX10_put 3 := ⟨List.mem_of_getElem? (i := 1071) (by decide +kernel), List.mem_of_getElem? (i := 59) (by decide +kernel), ⟨by decide, by decide⟩, by decide +kernel, by decide, rfl⟩
theorem ki_X10_put : Cond.instanceMethod yX10_put ∈ lw_tbl := List.mem_of_getElem? (i := 1069) (by decide +kernel)
theorem kv_X10_put : Cond.selects yX10_put.cls yX10_put yX10_put ∈ lw_tbl := List.mem_of_getElem? (i := 1070) (by decide +kernel)
theorem ok_X10_cell : sh_ok mX10_cell 3 := ⟨List.mem_of_getElem? (i := 1079) (by decide +kernel), List.mem_of_getElem? (i := 59) (by decide +kernel), ⟨by decide, by decide⟩, by decide +kernel, by decide, rfl⟩
theorem ki_X10_cell : Cond.instanceMethod yX10_cell ∈ lw_tbl := List.mem_of_getElem? (i := 1077) (by decide +kernel)
theorem kv_X10_cell : Cond.selects yX10_cell.cls yX10_cell yX10_cell ∈ lw_tbl := List.mem_of_getElem? (i := 1078) (by decide +kernel)
theorem ok_X10_isBeyond : sh_ok mX10_isBeyond 3 := ⟨List.mem_of_getElem? (i := 854) (by decide +kernel), List.mem_of_getElem? (i := 59) (by decide +kernel), ⟨by decide, by decide⟩, by decide +kernel, by decide, rfl⟩
theorem ks_X10_isBeyond : Cond.static yX10_isBeyond ∈ lw_tbl := List.mem_of_getElem? (i := 853) (by decide +kernel)
theorem ok_X10_copy : sh_ok mX10_copy 5 := ⟨List.mem_of_getElem? (i := 1091) (by decide +kernel), List.mem_of_getElem? (i := 59) (by decide +kernel), ⟨by decide, by decide⟩, by decide +kernel, by decide, rfl⟩
theorem ki_X10_copy : Cond.instanceMethod yX10_copy ∈ lw_tbl := List.mem_of_getElem? (i := 1089) (by decide +kernel)
theorem kv_X10_copy : Cond.selects yX10_copy.cls yX10_copy yX10_copy ∈ lw_tbl := List.mem_of_getElem? (i := 1090) (by decide +kernel)
theorem ok_X10_traced : sh_ok mX10_traced 1 := ⟨List.mem_of_getElem? (i := 1099) (by decide +kernel), List.mem_of_getElem? (i := 59) (by decide +kernel), ⟨by decide, by decide⟩, by decide +kernel, by decide, rfl⟩
theorem ki_X10_traced : Cond.instanceMethod yX10_traced ∈ lw_tbl := List.mem_of_getElem? (i := 1098) (by decide +kernel)
theorem kv_X10_traced : Cond.selects yX10_traced.cls yX10_traced yX10_traced ∈ lw_tbl := List.mem_of_getElem? (i := 51) (by decide +kernel)
theorem ok_X10_tell : sh_ok mX10_tell 1 := ⟨List.mem_of_getElem? (i := 1095) (by decide +kernel), List.mem_of_getElem? (i := 59) (by decide +kernel), ⟨by decide, by decide⟩, by decide +kernel, by decide, rfl⟩
theorem ki_X10_tell : Cond.instanceMethod yX10_tell ∈ lw_tbl := List.mem_of_getElem? (i := 1093) (by decide +kernel)
theorem kv_X10_tell : Cond.selects yX10_tell.cls yX10_tell yX10_tell ∈ lw_tbl := List.mem_of_getElem? (i := 1094) (by decide +kernel)
theorem ok_X10_ring : sh_ok mX10_ring 1 := ⟨List.mem_of_getElem? (i := 1103) (by decide +kernel), List.mem_of_getElem? (i := 59) (by decide +kernel), ⟨by decide, by decide⟩, by decide +kernel, by decide, rfl⟩
theorem ki_X10_ring : Cond.instanceMethod yX10_ring ∈ lw_tbl := List.mem_of_getElem? (i := 1101) (by decide +kernel)
theorem kv_X10_ring : Cond.selects yX10_ring.cls yX10_ring yX10_ring ∈ lw_tbl := List.mem_of_getElem? (i := 1102) (by decide +kernel)
theorem ok_X10_as : sh_ok mX10_as 2 := ⟨List.mem_of_getElem? (i := 1107) (by decide +kernel), List.mem_of_getElem? (i := 59) (by decide +kernel), ⟨by decide, by decide⟩, by decide +kernel, by decide, rfl⟩
theorem ki_X10_as : Cond.instanceMethod yX10_as ∈ lw_tbl := List.mem_of_getElem? (i := 1105) (by decide +kernel)
theorem kv_X10_as : Cond.selects yX10_as.cls yX10_as yX10_as ∈ lw_tbl := List.mem_of_getElem? (i := 1106) (by decide +kernel)
theorem ok_X10_trace : sh_ok mX10_trace 0 := ⟨List.mem_of_getElem? (i := 1111) (by decide +kernel), List.mem_of_getElem? (i := 59) (by decide +kernel), ⟨by decide, by decide⟩, by decide +kernel, by decide, rfl⟩
theorem ki_X10_trace : Cond.instanceMethod yX10_trace ∈ lw_tbl := List.mem_of_getElem? (i := 1109) (by decide +kernel)
theorem kv_X10_trace : Cond.selects yX10_trace.cls yX10_trace yX10_trace ∈ lw_tbl := List.mem_of_getElem? (i := 1110) (by decide +kernel)
theorem ok_X10_fault : sh_ok mX10_fault 0 := ⟨List.mem_of_getElem? (i := 1115) (by decide +kernel), List.mem_of_getElem? (i := 59) (by decide +kernel), ⟨by decide, by decide⟩, by decide +kernel, by decide, rfl⟩
theorem ki_X10_fault : Cond.instanceMethod yX10_fault ∈ lw_tbl := List.mem_of_getElem? (i := 1113) (by decide +kernel)
theorem kv_X10_fault : Cond.selects yX10_fault.cls yX10_fault yX10_fault ∈ lw_tbl := List.mem_of_getElem? (i := 1114) (by decide +kernel)
theorem ok_X10_many : sh_ok mX10_many 1 := ⟨List.mem_of_getElem? (i := 1119) (by decide +kernel), List.mem_of_getElem? (i := 59) (by decide +kernel), ⟨by decide, by decide⟩, by decide +kernel, by decide, rfl⟩
theorem ki_X10_many : Cond.instanceMethod yX10_many ∈ lw_tbl := List.mem_of_getElem? (i := 1117) (by decide +kernel)
theorem kv_X10_many : Cond.selects yX10_many.cls yX10_many yX10_many ∈ lw_tbl := List.mem_of_getElem? (i := 1118) (by decide +kernel)
theorem ok_J6_bitCount_0f7a4 : sh_ok mJ6_bitCount_0f7a4 1 := ⟨List.mem_of_getElem? (i := 462) (by decide +kernel), List.mem_of_getElem? (i := 65) (by decide +kernel), ⟨by decide, by decide⟩, by decide +kernel, by decide, rfl⟩
theorem ks_J6_bitCount_0f7a4 : Cond.static yJ6_bitCount_0f7a4 ∈ lw_tbl := List.mem_of_getElem? (i := 461) (by decide +kernel)
theorem kl_X0_3 : Cond.methodLink RX0 3 objectInit ∈ lw_tbl := List.mem_of_getElem? (i := 105) (by decide +kernel)
theorem kp_X0_init_9_0 : sh_fp mX0_init 9 0 2 (.array .int) := ⟨RX0, TX0, 6, "SillHouse$Folk", tyX0, rfl, by decide, uw_X0, List.mem_of_getElem? (i := 110) (by decide +kernel), rfl, tyX0_ok, nmX0, rfl, Or.inr ⟨rfl, rfl, rfl⟩⟩
theorem kp_X0_init_15_0 : sh_fp mX0_init 15 0 3 (.array .int) := ⟨RX0, TX0, 6, "SillHouse$Folk", tyX0, rfl, by decide, uw_X0, List.mem_of_getElem? (i := 112) (by decide +kernel), rfl, tyX0_ok, nmX0, rfl, Or.inr ⟨rfl, rfl, rfl⟩⟩
theorem kp_X0_init_18_0 : sh_fp mX0_init 18 0 4 (.array .int) := ⟨RX0, TX0, 6, "SillHouse$Folk", tyX0, rfl, by decide, uw_X0, List.mem_of_getElem? (i := 114) (by decide +kernel), rfl, tyX0_ok, nmX0, rfl, Or.inr ⟨rfl, rfl, rfl⟩⟩
theorem kp_X0_init_21_0 : sh_fp mX0_init 21 0 5 (.array .int) := ⟨RX0, TX0, 6, "SillHouse$Folk", tyX0, rfl, by decide, uw_X0, List.mem_of_getElem? (i := 116) (by decide +kernel), rfl, tyX0_ok, nmX0, rfl, Or.inr ⟨rfl, rfl, rfl⟩⟩
theorem kp_X0_leave_24_0 : sh_fp mX0_leave 24 0 0 .int := ⟨RX0, TX0, 6, "SillHouse$Folk", tyX0, rfl, by decide, uw_X0, List.mem_of_getElem? (i := 106) (by decide +kernel), rfl, tyX0_ok, nmX0, rfl, Or.inl rfl⟩
theorem kp_X0_leave_28_0 : sh_fp mX0_leave 28 0 1 .int := ⟨RX0, TX0, 6, "SillHouse$Folk", tyX0, rfl, by decide, uw_X0, List.mem_of_getElem? (i := 108) (by decide +kernel), rfl, tyX0_ok, nmX0, rfl, Or.inl rfl⟩
theorem kf_X0_24_0 : sh_fl RX0 24 0 0 := ⟨RX0, TX0, 6, "SillHouse$Folk", rfl, by decide, uw_X0, List.mem_of_getElem? (i := 106) (by decide +kernel), rfl⟩
theorem kf_X0_28_0 : sh_fl RX0 28 0 1 := ⟨RX0, TX0, 6, "SillHouse$Folk", rfl, by decide, uw_X0, List.mem_of_getElem? (i := 108) (by decide +kernel), rfl⟩
theorem kf_X0_9_0 : sh_fl RX0 9 0 2 := ⟨RX0, TX0, 6, "SillHouse$Folk", rfl, by decide, uw_X0, List.mem_of_getElem? (i := 110) (by decide +kernel), rfl⟩
theorem kf_X0_15_0 : sh_fl RX0 15 0 3 := ⟨RX0, TX0, 6, "SillHouse$Folk", rfl, by decide, uw_X0, List.mem_of_getElem? (i := 112) (by decide +kernel), rfl⟩
theorem kp_X0_addPerson_24_0 : sh_fp mX0_addPerson 24 0 0 .int := ⟨RX0, TX0, 6, "SillHouse$Folk", tyX0, rfl, by decide, uw_X0, List.mem_of_getElem? (i := 106) (by decide +kernel), rfl, tyX0_ok, nmX0, rfl, Or.inl rfl⟩
theorem kf_X0_18_0 : sh_fl RX0 18 0 4 := ⟨RX0, TX0, 6, "SillHouse$Folk", rfl, by decide, uw_X0, List.mem_of_getElem? (i := 114) (by decide +kernel), rfl⟩
theorem kf_X0_21_0 : sh_fl RX0 21 0 5 := ⟨RX0, TX0, 6, "SillHouse$Folk", rfl, by decide, uw_X0, List.mem_of_getElem? (i := 116) (by decide +kernel), rfl⟩
theorem kp_X0_addStone_28_0 : sh_fp mX0_addStone 28 0 1 .int := ⟨RX0, TX0, 6, "SillHouse$Folk", tyX0, rfl, by decide, uw_X0, List.mem_of_getElem? (i := 108) (by decide +kernel), rfl, tyX0_ok, nmX0, rfl, Or.inl rfl⟩
theorem kl_X0_31 : Cond.methodLink RX0 31 yX0_placeWith ∈ lw_tbl := List.mem_of_getElem? (i := 436) (by decide +kernel)
theorem kl_X0_35 : Cond.methodLink RX0 35 yX0_carriedBy ∈ lw_tbl := List.mem_of_getElem? (i := 459) (by decide +kernel)
theorem kl_X0_38 : Cond.methodLink RX0 38 yJ6_bitCount_0f7a4 ∈ lw_tbl := List.mem_of_getElem? (i := 460) (by decide +kernel)
theorem kl_X0_43 : Cond.methodLink RX0 43 yX0_weightWithStones ∈ lw_tbl := List.mem_of_getElem? (i := 494) (by decide +kernel)
theorem kl_X1_3 : Cond.methodLink RX1 3 objectInit ∈ lw_tbl := List.mem_of_getElem? (i := 82) (by decide +kernel)
theorem ka_X1_9 : Cond.classLink RX1 9 RX4 ∈ lw_tbl := List.mem_of_getElem? (i := 83) (by decide +kernel)
theorem kp_X1_init_11_1 : sh_fp mX1_init 11 1 2 (.array (.object "SillHouse$Sill")) := ⟨RX1, TX1, 3, "SillHouse$Plan", tyX1, rfl, by decide, uw_X1, List.mem_of_getElem? (i := 90) (by decide +kernel), rfl, tyX1_ok, nmX1, rfl, Or.inr ⟨rfl, rfl, rfl⟩⟩
theorem kl_X1_17 : Cond.methodLink RX1 17 yX5_rooms ∈ lw_tbl := List.mem_of_getElem? (i := 292) (by decide +kernel)
theorem kp_X1_build_23_1 : sh_fp mX1_build 23 1 0 .int := ⟨RX1, TX1, 3, "SillHouse$Plan", tyX1, rfl, by decide, uw_X1, List.mem_of_getElem? (i := 85) (by decide +kernel), rfl, tyX1_ok, nmX1, rfl, Or.inl rfl⟩
theorem kl_X1_26 : Cond.methodLink RX1 26 yX5_doorCount ∈ lw_tbl := List.mem_of_getElem? (i := 293) (by decide +kernel)
theorem kl_X1_29 : Cond.methodLink RX1 29 yJ9_min_7cf53 ∈ lw_tbl := List.mem_of_getElem? (i := 297) (by decide +kernel)
theorem kp_X1_build_35_1 : sh_fp mX1_build 35 1 1 .int := ⟨RX1, TX1, 3, "SillHouse$Plan", tyX1, rfl, by decide, uw_X1, List.mem_of_getElem? (i := 87) (by decide +kernel), rfl, tyX1_ok, nmX1, rfl, Or.inl rfl⟩
theorem kf_X1_35_1 : sh_fl RX1 35 1 1 := ⟨RX1, TX1, 3, "SillHouse$Plan", rfl, by decide, uw_X1, List.mem_of_getElem? (i := 87) (by decide +kernel), rfl⟩
theorem kf_X1_11_1 : sh_fl RX1 11 1 2 := ⟨RX1, TX1, 3, "SillHouse$Plan", rfl, by decide, uw_X1, List.mem_of_getElem? (i := 90) (by decide +kernel), rfl⟩
theorem kl_X1_37 : Cond.methodLink RX1 37 yX5_door ∈ lw_tbl := List.mem_of_getElem? (i := 300) (by decide +kernel)
theorem kf_X1_23_1 : sh_fl RX1 23 1 0 := ⟨RX1, TX1, 3, "SillHouse$Plan", rfl, by decide, uw_X1, List.mem_of_getElem? (i := 85) (by decide +kernel), rfl⟩
theorem kf_X1_41_4 : sh_fl RX1 41 4 0 := ⟨RX4, TX4, 7, "SillHouse$Sill", rfl, by decide, uw_X4, List.mem_of_getElem? (i := 317) (by decide +kernel), rfl⟩
theorem kf_X1_41_7 : sh_fl RX1 41 7 0 := ⟨RX7, TX7, 7, "SillHouse$Sill", rfl, by decide, uw_X7, List.mem_of_getElem? (i := 317) (by decide +kernel), rfl⟩
theorem kf_X1_41_8 : sh_fl RX1 41 8 0 := ⟨RX8, TX8, 7, "SillHouse$Sill", rfl, by decide, uw_X8, List.mem_of_getElem? (i := 317) (by decide +kernel), rfl⟩
theorem kl_X1_44 : Cond.methodLink RX1 44 yX1_through ∈ lw_tbl := List.mem_of_getElem? (i := 567) (by decide +kernel)
theorem kf_X1_48_4 : sh_fl RX1 48 4 1 := ⟨RX4, TX4, 7, "SillHouse$Sill", rfl, by decide, uw_X4, List.mem_of_getElem? (i := 319) (by decide +kernel), rfl⟩
theorem kf_X1_48_7 : sh_fl RX1 48 7 1 := ⟨RX7, TX7, 7, "SillHouse$Sill", rfl, by decide, uw_X7, List.mem_of_getElem? (i := 319) (by decide +kernel), rfl⟩
theorem kf_X1_48_8 : sh_fl RX1 48 8 1 := ⟨RX8, TX8, 7, "SillHouse$Sill", rfl, by decide, uw_X8, List.mem_of_getElem? (i := 319) (by decide +kernel), rfl⟩
theorem kl_X1_51 : Cond.methodLink RX1 51 yX1_reachOf ∈ lw_tbl := List.mem_of_getElem? (i := 579) (by decide +kernel)
theorem kl_X1_54 : Cond.methodLink RX1 54 yX4_beyond ∈ lw_tbl := List.mem_of_getElem? (i := 570) (by decide +kernel)
theorem kq_X4_X4_beyond : Cond.sameMethod RX4 RX4 "beyond" "(II)I" ∈ lw_tbl := List.mem_of_getElem? (i := 498) (by decide +kernel)
theorem kx_X7_X4_beyond_X4 : Cond.selects RX7 yX4_beyond yX4_beyond ∈ lw_tbl := List.mem_of_getElem? (i := 499) (by decide +kernel)
theorem kx_X8_X4_beyond_X4 : Cond.selects RX8 yX4_beyond yX4_beyond ∈ lw_tbl := List.mem_of_getElem? (i := 500) (by decide +kernel)
theorem kl_X2_5 : Cond.methodLink RX2 5 objectInit ∈ lw_tbl := List.mem_of_getElem? (i := 137) (by decide +kernel)
theorem kp_X2_init_11_2 : sh_fp mX2_init 11 2 0 (.array .int) := ⟨RX2, TX2, 9, "SillHouse$Search", tyX2, rfl, by decide, uw_X2, List.mem_of_getElem? (i := 138) (by decide +kernel), rfl, tyX2_ok, nmX2, rfl, Or.inr ⟨rfl, rfl, rfl⟩⟩
theorem kp_X2_init_15_2 : sh_fp mX2_init 15 2 1 (.array .int) := ⟨RX2, TX2, 9, "SillHouse$Search", tyX2, rfl, by decide, uw_X2, List.mem_of_getElem? (i := 139) (by decide +kernel), rfl, tyX2_ok, nmX2, rfl, Or.inr ⟨rfl, rfl, rfl⟩⟩
theorem kp_X2_init_18_2 : sh_fp mX2_init 18 2 2 (.array .long) := ⟨RX2, TX2, 9, "SillHouse$Search", tyX2, rfl, by decide, uw_X2, List.mem_of_getElem? (i := 140) (by decide +kernel), rfl, tyX2_ok, nmX2, rfl, Or.inr ⟨rfl, rfl, rfl⟩⟩
theorem kp_X2_init_22_2 : sh_fp mX2_init 22 2 3 (.array .int) := ⟨RX2, TX2, 9, "SillHouse$Search", tyX2, rfl, by decide, uw_X2, List.mem_of_getElem? (i := 141) (by decide +kernel), rfl, tyX2_ok, nmX2, rfl, Or.inr ⟨rfl, rfl, rfl⟩⟩
theorem kp_X2_begin_25_2 : sh_fp mX2_begin 25 2 4 .int := ⟨RX2, TX2, 9, "SillHouse$Search", tyX2, rfl, by decide, uw_X2, List.mem_of_getElem? (i := 142) (by decide +kernel), rfl, tyX2_ok, nmX2, rfl, Or.inl rfl⟩
theorem kp_X2_begin_29_2 : sh_fp mX2_begin 29 2 5 .int := ⟨RX2, TX2, 9, "SillHouse$Search", tyX2, rfl, by decide, uw_X2, List.mem_of_getElem? (i := 143) (by decide +kernel), rfl, tyX2_ok, nmX2, rfl, Or.inl rfl⟩
theorem kf_X2_29_2 : sh_fl RX2 29 2 5 := ⟨RX2, TX2, 9, "SillHouse$Search", rfl, by decide, uw_X2, List.mem_of_getElem? (i := 143) (by decide +kernel), rfl⟩
theorem kf_X2_22_2 : sh_fl RX2 22 2 3 := ⟨RX2, TX2, 9, "SillHouse$Search", rfl, by decide, uw_X2, List.mem_of_getElem? (i := 141) (by decide +kernel), rfl⟩
theorem kl_X2_32 : Cond.methodLink RX2 32 yX2_withPlace ∈ lw_tbl := List.mem_of_getElem? (i := 527) (by decide +kernel)
theorem kp_X2_setStone_29_2 : sh_fp mX2_setStone 29 2 5 .int := ⟨RX2, TX2, 9, "SillHouse$Search", tyX2, rfl, by decide, uw_X2, List.mem_of_getElem? (i := 143) (by decide +kernel), rfl, tyX2_ok, nmX2, rfl, Or.inl rfl⟩
theorem kp_X2_finds_36_2 : sh_fp mX2_finds 36 2 7 .int := ⟨RX2, TX2, 9, "SillHouse$Search", tyX2, rfl, by decide, uw_X2, List.mem_of_getElem? (i := 145) (by decide +kernel), rfl, tyX2_ok, nmX2, rfl, Or.inl rfl⟩
theorem kp_X2_finds_39_2 : sh_fp mX2_finds 39 2 8 .int := ⟨RX2, TX2, 9, "SillHouse$Search", tyX2, rfl, by decide, uw_X2, List.mem_of_getElem? (i := 146) (by decide +kernel), rfl, tyX2_ok, nmX2, rfl, Or.inl rfl⟩
theorem kp_X2_finds_42_2 : sh_fp mX2_finds 42 2 6 .int := ⟨RX2, TX2, 9, "SillHouse$Search", tyX2, rfl, by decide, uw_X2, List.mem_of_getElem? (i := 144) (by decide +kernel), rfl, tyX2_ok, nmX2, rfl, Or.inl rfl⟩
theorem kl_X2_45 : Cond.methodLink RX2 45 yX2_meet ∈ lw_tbl := List.mem_of_getElem? (i := 534) (by decide +kernel)
theorem kf_X2_42_2 : sh_fl RX2 42 2 6 := ⟨RX2, TX2, 9, "SillHouse$Search", rfl, by decide, uw_X2, List.mem_of_getElem? (i := 144) (by decide +kernel), rfl⟩
theorem kf_X2_39_2 : sh_fl RX2 39 2 8 := ⟨RX2, TX2, 9, "SillHouse$Search", rfl, by decide, uw_X2, List.mem_of_getElem? (i := 146) (by decide +kernel), rfl⟩
theorem kl_X2_49 : Cond.methodLink RX2 49 yX2_leaveBySteps ∈ lw_tbl := List.mem_of_getElem? (i := 538) (by decide +kernel)
theorem kl_X2_53 : Cond.methodLink RX2 53 yX2_forgetSeen ∈ lw_tbl := List.mem_of_getElem? (i := 546) (by decide +kernel)
theorem kf_X2_15_2 : sh_fl RX2 15 2 1 := ⟨RX2, TX2, 9, "SillHouse$Search", rfl, by decide, uw_X2, List.mem_of_getElem? (i := 139) (by decide +kernel), rfl⟩
theorem kl_X2_56 : Cond.methodLink RX2 56 yX2_howManySteps ∈ lw_tbl := List.mem_of_getElem? (i := 558) (by decide +kernel)
theorem kf_X2_11_2 : sh_fl RX2 11 2 0 := ⟨RX2, TX2, 9, "SillHouse$Search", rfl, by decide, uw_X2, List.mem_of_getElem? (i := 138) (by decide +kernel), rfl⟩
theorem kf_X2_25_2 : sh_fl RX2 25 2 4 := ⟨RX2, TX2, 9, "SillHouse$Search", rfl, by decide, uw_X2, List.mem_of_getElem? (i := 142) (by decide +kernel), rfl⟩
theorem kl_X2_60 : Cond.methodLink RX2 60 yX2_place ∈ lw_tbl := List.mem_of_getElem? (i := 542) (by decide +kernel)
theorem kf_X2_64_1 : sh_fl RX2 64 1 1 := ⟨RX1, TX1, 3, "SillHouse$Plan", rfl, by decide, uw_X1, List.mem_of_getElem? (i := 89) (by decide +kernel), rfl⟩
theorem kf_X2_69_1 : sh_fl RX2 69 1 2 := ⟨RX1, TX1, 3, "SillHouse$Plan", rfl, by decide, uw_X1, List.mem_of_getElem? (i := 92) (by decide +kernel), rfl⟩
theorem kl_X2_73 : Cond.methodLink RX2 73 yX4_beyond ∈ lw_tbl := List.mem_of_getElem? (i := 545) (by decide +kernel)
theorem kf_X2_18_2 : sh_fl RX2 18 2 2 := ⟨RX2, TX2, 9, "SillHouse$Search", rfl, by decide, uw_X2, List.mem_of_getElem? (i := 140) (by decide +kernel), rfl⟩
theorem kf_X2_36_2 : sh_fl RX2 36 2 7 := ⟨RX2, TX2, 9, "SillHouse$Search", rfl, by decide, uw_X2, List.mem_of_getElem? (i := 145) (by decide +kernel), rfl⟩
theorem kp_X2_meet_39_2 : sh_fp mX2_meet 39 2 8 .int := ⟨RX2, TX2, 9, "SillHouse$Search", tyX2, rfl, by decide, uw_X2, List.mem_of_getElem? (i := 146) (by decide +kernel), rfl, tyX2_ok, nmX2, rfl, Or.inl rfl⟩
theorem kp_X2_meet_42_2 : sh_fp mX2_meet 42 2 6 .int := ⟨RX2, TX2, 9, "SillHouse$Search", tyX2, rfl, by decide, uw_X2, List.mem_of_getElem? (i := 144) (by decide +kernel), rfl, tyX2_ok, nmX2, rfl, Or.inl rfl⟩
theorem kl_X3_3 : Cond.methodLink RX3 3 objectInit ∈ lw_tbl := List.mem_of_getElem? (i := 182) (by decide +kernel)
theorem kp_X3_init_9_3 : sh_fp mX3_init 9 3 0 (.array .int) := ⟨RX3, TX3, 3, "SillHouse$Sheet", tyX3, rfl, by decide, uw_X3, List.mem_of_getElem? (i := 183) (by decide +kernel), rfl, tyX3_ok, nmX3, rfl, Or.inr ⟨rfl, rfl, rfl⟩⟩
theorem kp_X3_init_15_3 : sh_fp mX3_init 15 3 1 .int := ⟨RX3, TX3, 3, "SillHouse$Sheet", tyX3, rfl, by decide, uw_X3, List.mem_of_getElem? (i := 185) (by decide +kernel), rfl, tyX3_ok, nmX3, rfl, Or.inl rfl⟩
theorem kf_X3_15_3 : sh_fl RX3 15 3 1 := ⟨RX3, TX3, 3, "SillHouse$Sheet", rfl, by decide, uw_X3, List.mem_of_getElem? (i := 185) (by decide +kernel), rfl⟩
theorem kp_X3_empty_15_3 : sh_fp mX3_empty 15 3 1 .int := ⟨RX3, TX3, 3, "SillHouse$Sheet", tyX3, rfl, by decide, uw_X3, List.mem_of_getElem? (i := 185) (by decide +kernel), rfl, tyX3_ok, nmX3, rfl, Or.inl rfl⟩
theorem kp_X3_empty_19_3 : sh_fp mX3_empty 19 3 2 .int := ⟨RX3, TX3, 3, "SillHouse$Sheet", tyX3, rfl, by decide, uw_X3, List.mem_of_getElem? (i := 187) (by decide +kernel), rfl, tyX3_ok, nmX3, rfl, Or.inl rfl⟩
theorem kp_X3_renew_15_3 : sh_fp mX3_renew 15 3 1 .int := ⟨RX3, TX3, 3, "SillHouse$Sheet", tyX3, rfl, by decide, uw_X3, List.mem_of_getElem? (i := 185) (by decide +kernel), rfl, tyX3_ok, nmX3, rfl, Or.inl rfl⟩
theorem kp_X3_renew_19_3 : sh_fp mX3_renew 19 3 2 .int := ⟨RX3, TX3, 3, "SillHouse$Sheet", tyX3, rfl, by decide, uw_X3, List.mem_of_getElem? (i := 187) (by decide +kernel), rfl, tyX3_ok, nmX3, rfl, Or.inl rfl⟩
theorem kf_X3_9_3 : sh_fl RX3 9 3 0 := ⟨RX3, TX3, 3, "SillHouse$Sheet", rfl, by decide, uw_X3, List.mem_of_getElem? (i := 183) (by decide +kernel), rfl⟩
theorem kf_X3_19_3 : sh_fl RX3 19 3 2 := ⟨RX3, TX3, 3, "SillHouse$Sheet", rfl, by decide, uw_X3, List.mem_of_getElem? (i := 187) (by decide +kernel), rfl⟩
theorem kl_X4_5 : Cond.methodLink RX4 5 yX4_init_ ∈ lw_tbl := List.mem_of_getElem? (i := 309) (by decide +kernel)
theorem kl_X4_9 : Cond.methodLink RX4 9 objectInit ∈ lw_tbl := List.mem_of_getElem? (i := 312) (by decide +kernel)
theorem kp_X4_init__14_4 : sh_fp mX4_init_ 14 4 0 .int := ⟨RX4, TX4, 7, "SillHouse$Sill", tyX4, rfl, by decide, uw_X4, List.mem_of_getElem? (i := 316) (by decide +kernel), rfl, tyX4_ok, nmX4, rfl, Or.inr ⟨rfl, rfl, rfl⟩⟩
theorem kp_X4_init__14_7 : sh_fp mX4_init_ 14 7 0 .int := ⟨RX7, TX7, 7, "SillHouse$Sill", tyX7, rfl, by decide, uw_X7, List.mem_of_getElem? (i := 316) (by decide +kernel), rfl, tyX7_ok, nmX7, rfl, Or.inr ⟨rfl, rfl, rfl⟩⟩
theorem kp_X4_init__14_8 : sh_fp mX4_init_ 14 8 0 .int := ⟨RX8, TX8, 7, "SillHouse$Sill", tyX8, rfl, by decide, uw_X8, List.mem_of_getElem? (i := 316) (by decide +kernel), rfl, tyX8_ok, nmX8, rfl, Or.inr ⟨rfl, rfl, rfl⟩⟩
theorem kp_X4_init__18_4 : sh_fp mX4_init_ 18 4 1 .int := ⟨RX4, TX4, 7, "SillHouse$Sill", tyX4, rfl, by decide, uw_X4, List.mem_of_getElem? (i := 318) (by decide +kernel), rfl, tyX4_ok, nmX4, rfl, Or.inr ⟨rfl, rfl, rfl⟩⟩
theorem kp_X4_init__18_7 : sh_fp mX4_init_ 18 7 1 .int := ⟨RX7, TX7, 7, "SillHouse$Sill", tyX7, rfl, by decide, uw_X7, List.mem_of_getElem? (i := 318) (by decide +kernel), rfl, tyX7_ok, nmX7, rfl, Or.inr ⟨rfl, rfl, rfl⟩⟩
theorem kp_X4_init__18_8 : sh_fp mX4_init_ 18 8 1 .int := ⟨RX8, TX8, 7, "SillHouse$Sill", tyX8, rfl, by decide, uw_X8, List.mem_of_getElem? (i := 318) (by decide +kernel), rfl, tyX8_ok, nmX8, rfl, Or.inr ⟨rfl, rfl, rfl⟩⟩
theorem kp_X4_init__21_4 : sh_fp mX4_init_ 21 4 2 .int := ⟨RX4, TX4, 7, "SillHouse$Sill", tyX4, rfl, by decide, uw_X4, List.mem_of_getElem? (i := 320) (by decide +kernel), rfl, tyX4_ok, nmX4, rfl, Or.inr ⟨rfl, rfl, rfl⟩⟩
theorem kp_X4_init__21_7 : sh_fp mX4_init_ 21 7 2 .int := ⟨RX7, TX7, 7, "SillHouse$Sill", tyX7, rfl, by decide, uw_X7, List.mem_of_getElem? (i := 320) (by decide +kernel), rfl, tyX7_ok, nmX7, rfl, Or.inr ⟨rfl, rfl, rfl⟩⟩
theorem kp_X4_init__21_8 : sh_fp mX4_init_ 21 8 2 .int := ⟨RX8, TX8, 7, "SillHouse$Sill", tyX8, rfl, by decide, uw_X8, List.mem_of_getElem? (i := 320) (by decide +kernel), rfl, tyX8_ok, nmX8, rfl, Or.inr ⟨rfl, rfl, rfl⟩⟩
theorem kl_X4_24 : Cond.methodLink RX4 24 yJ9_max_7cf53 ∈ lw_tbl := List.mem_of_getElem? (i := 313) (by decide +kernel)
theorem kp_X4_init__30_4 : sh_fp mX4_init_ 30 4 3 .int := ⟨RX4, TX4, 7, "SillHouse$Sill", tyX4, rfl, by decide, uw_X4, List.mem_of_getElem? (i := 321) (by decide +kernel), rfl, tyX4_ok, nmX4, rfl, Or.inr ⟨rfl, rfl, rfl⟩⟩
theorem kp_X4_init__30_7 : sh_fp mX4_init_ 30 7 3 .int := ⟨RX7, TX7, 7, "SillHouse$Sill", tyX7, rfl, by decide, uw_X7, List.mem_of_getElem? (i := 321) (by decide +kernel), rfl, tyX7_ok, nmX7, rfl, Or.inr ⟨rfl, rfl, rfl⟩⟩
theorem kp_X4_init__30_8 : sh_fp mX4_init_ 30 8 3 .int := ⟨RX8, TX8, 7, "SillHouse$Sill", tyX8, rfl, by decide, uw_X8, List.mem_of_getElem? (i := 321) (by decide +kernel), rfl, tyX8_ok, nmX8, rfl, Or.inr ⟨rfl, rfl, rfl⟩⟩
theorem kp_X4_init__33_4 : sh_fp mX4_init_ 33 4 4 .int := ⟨RX4, TX4, 7, "SillHouse$Sill", tyX4, rfl, by decide, uw_X4, List.mem_of_getElem? (i := 322) (by decide +kernel), rfl, tyX4_ok, nmX4, rfl, Or.inr ⟨rfl, rfl, rfl⟩⟩
theorem kp_X4_init__33_7 : sh_fp mX4_init_ 33 7 4 .int := ⟨RX7, TX7, 7, "SillHouse$Sill", tyX7, rfl, by decide, uw_X7, List.mem_of_getElem? (i := 322) (by decide +kernel), rfl, tyX7_ok, nmX7, rfl, Or.inr ⟨rfl, rfl, rfl⟩⟩
theorem kp_X4_init__33_8 : sh_fp mX4_init_ 33 8 4 .int := ⟨RX8, TX8, 7, "SillHouse$Sill", tyX8, rfl, by decide, uw_X8, List.mem_of_getElem? (i := 322) (by decide +kernel), rfl, tyX8_ok, nmX8, rfl, Or.inr ⟨rfl, rfl, rfl⟩⟩
theorem kp_X4_init__36_4 : sh_fp mX4_init_ 36 4 5 .int := ⟨RX4, TX4, 7, "SillHouse$Sill", tyX4, rfl, by decide, uw_X4, List.mem_of_getElem? (i := 323) (by decide +kernel), rfl, tyX4_ok, nmX4, rfl, Or.inr ⟨rfl, rfl, rfl⟩⟩
theorem kp_X4_init__36_7 : sh_fp mX4_init_ 36 7 5 .int := ⟨RX7, TX7, 7, "SillHouse$Sill", tyX7, rfl, by decide, uw_X7, List.mem_of_getElem? (i := 323) (by decide +kernel), rfl, tyX7_ok, nmX7, rfl, Or.inr ⟨rfl, rfl, rfl⟩⟩
theorem kp_X4_init__36_8 : sh_fp mX4_init_ 36 8 5 .int := ⟨RX8, TX8, 7, "SillHouse$Sill", tyX8, rfl, by decide, uw_X8, List.mem_of_getElem? (i := 323) (by decide +kernel), rfl, tyX8_ok, nmX8, rfl, Or.inr ⟨rfl, rfl, rfl⟩⟩
theorem kp_X4_init__39_4 : sh_fp mX4_init_ 39 4 6 .int := ⟨RX4, TX4, 7, "SillHouse$Sill", tyX4, rfl, by decide, uw_X4, List.mem_of_getElem? (i := 324) (by decide +kernel), rfl, tyX4_ok, nmX4, rfl, Or.inr ⟨rfl, rfl, rfl⟩⟩
theorem kp_X4_init__39_7 : sh_fp mX4_init_ 39 7 6 .int := ⟨RX7, TX7, 7, "SillHouse$Sill", tyX7, rfl, by decide, uw_X7, List.mem_of_getElem? (i := 324) (by decide +kernel), rfl, tyX7_ok, nmX7, rfl, Or.inr ⟨rfl, rfl, rfl⟩⟩
theorem kp_X4_init__39_8 : sh_fp mX4_init_ 39 8 6 .int := ⟨RX8, TX8, 7, "SillHouse$Sill", tyX8, rfl, by decide, uw_X8, List.mem_of_getElem? (i := 324) (by decide +kernel), rfl, tyX8_ok, nmX8, rfl, Or.inr ⟨rfl, rfl, rfl⟩⟩
theorem kf_X4_14_4 : sh_fl RX4 14 4 0 := ⟨RX4, TX4, 7, "SillHouse$Sill", rfl, by decide, uw_X4, List.mem_of_getElem? (i := 316) (by decide +kernel), rfl⟩
theorem kf_X4_14_7 : sh_fl RX4 14 7 0 := ⟨RX7, TX7, 7, "SillHouse$Sill", rfl, by decide, uw_X7, List.mem_of_getElem? (i := 316) (by decide +kernel), rfl⟩
theorem kf_X4_14_8 : sh_fl RX4 14 8 0 := ⟨RX8, TX8, 7, "SillHouse$Sill", rfl, by decide, uw_X8, List.mem_of_getElem? (i := 316) (by decide +kernel), rfl⟩
theorem kf_X4_18_4 : sh_fl RX4 18 4 1 := ⟨RX4, TX4, 7, "SillHouse$Sill", rfl, by decide, uw_X4, List.mem_of_getElem? (i := 318) (by decide +kernel), rfl⟩
theorem kf_X4_18_7 : sh_fl RX4 18 7 1 := ⟨RX7, TX7, 7, "SillHouse$Sill", rfl, by decide, uw_X7, List.mem_of_getElem? (i := 318) (by decide +kernel), rfl⟩
theorem kf_X4_18_8 : sh_fl RX4 18 8 1 := ⟨RX8, TX8, 7, "SillHouse$Sill", rfl, by decide, uw_X8, List.mem_of_getElem? (i := 318) (by decide +kernel), rfl⟩
theorem kf_X4_30_4 : sh_fl RX4 30 4 3 := ⟨RX4, TX4, 7, "SillHouse$Sill", rfl, by decide, uw_X4, List.mem_of_getElem? (i := 321) (by decide +kernel), rfl⟩
theorem kf_X4_30_7 : sh_fl RX4 30 7 3 := ⟨RX7, TX7, 7, "SillHouse$Sill", rfl, by decide, uw_X7, List.mem_of_getElem? (i := 321) (by decide +kernel), rfl⟩
theorem kf_X4_30_8 : sh_fl RX4 30 8 3 := ⟨RX8, TX8, 7, "SillHouse$Sill", rfl, by decide, uw_X8, List.mem_of_getElem? (i := 321) (by decide +kernel), rfl⟩
theorem kf_X4_33_4 : sh_fl RX4 33 4 4 := ⟨RX4, TX4, 7, "SillHouse$Sill", rfl, by decide, uw_X4, List.mem_of_getElem? (i := 322) (by decide +kernel), rfl⟩
theorem kf_X4_33_7 : sh_fl RX4 33 7 4 := ⟨RX7, TX7, 7, "SillHouse$Sill", rfl, by decide, uw_X7, List.mem_of_getElem? (i := 322) (by decide +kernel), rfl⟩
theorem kf_X4_33_8 : sh_fl RX4 33 8 4 := ⟨RX8, TX8, 7, "SillHouse$Sill", rfl, by decide, uw_X8, List.mem_of_getElem? (i := 322) (by decide +kernel), rfl⟩
theorem kf_X4_36_4 : sh_fl RX4 36 4 5 := ⟨RX4, TX4, 7, "SillHouse$Sill", rfl, by decide, uw_X4, List.mem_of_getElem? (i := 323) (by decide +kernel), rfl⟩
theorem kf_X4_36_7 : sh_fl RX4 36 7 5 := ⟨RX7, TX7, 7, "SillHouse$Sill", rfl, by decide, uw_X7, List.mem_of_getElem? (i := 323) (by decide +kernel), rfl⟩
theorem kf_X4_36_8 : sh_fl RX4 36 8 5 := ⟨RX8, TX8, 7, "SillHouse$Sill", rfl, by decide, uw_X8, List.mem_of_getElem? (i := 323) (by decide +kernel), rfl⟩
theorem kf_X4_39_4 : sh_fl RX4 39 4 6 := ⟨RX4, TX4, 7, "SillHouse$Sill", rfl, by decide, uw_X4, List.mem_of_getElem? (i := 324) (by decide +kernel), rfl⟩
theorem kf_X4_39_7 : sh_fl RX4 39 7 6 := ⟨RX7, TX7, 7, "SillHouse$Sill", rfl, by decide, uw_X7, List.mem_of_getElem? (i := 324) (by decide +kernel), rfl⟩
theorem kf_X4_39_8 : sh_fl RX4 39 8 6 := ⟨RX8, TX8, 7, "SillHouse$Sill", rfl, by decide, uw_X8, List.mem_of_getElem? (i := 324) (by decide +kernel), rfl⟩
theorem kl_X4_42 : Cond.methodLink RX4 42 yX4_kind ∈ lw_tbl := List.mem_of_getElem? (i := 390) (by decide +kernel)
theorem kq_X4_X4_kind : Cond.sameMethod RX4 RX4 "kind" "()I" ∈ lw_tbl := List.mem_of_getElem? (i := 393) (by decide +kernel)
theorem kx_X7_X7_kind_X4 : Cond.selects RX7 yX4_kind yX7_kind ∈ lw_tbl := List.mem_of_getElem? (i := 394) (by decide +kernel)
theorem kx_X8_X8_kind_X4 : Cond.selects RX8 yX4_kind yX8_kind ∈ lw_tbl := List.mem_of_getElem? (i := 397) (by decide +kernel)
theorem kf_X4_21_4 : sh_fl RX4 21 4 2 := ⟨RX4, TX4, 7, "SillHouse$Sill", rfl, by decide, uw_X4, List.mem_of_getElem? (i := 320) (by decide +kernel), rfl⟩
theorem kf_X4_21_7 : sh_fl RX4 21 7 2 := ⟨RX7, TX7, 7, "SillHouse$Sill", rfl, by decide, uw_X7, List.mem_of_getElem? (i := 320) (by decide +kernel), rfl⟩
theorem kf_X4_21_8 : sh_fl RX4 21 8 2 := ⟨RX8, TX8, 7, "SillHouse$Sill", rfl, by decide, uw_X8, List.mem_of_getElem? (i := 320) (by decide +kernel), rfl⟩
theorem kl_X4_46 : Cond.methodLink RX4 46 yX6_note ∈ lw_tbl := List.mem_of_getElem? (i := 682) (by decide +kernel)
theorem kl_X4_52 : Cond.methodLink RX4 52 yX4_sillsTelling ∈ lw_tbl := List.mem_of_getElem? (i := 684) (by decide +kernel)
theorem kq_X4_X4_sillsTelling : Cond.sameMethod RX4 RX4 "sillsTelling" "(LSillHouse$Trace;)I" ∈ lw_tbl := List.mem_of_getElem? (i := 1121) (by decide +kernel)
theorem kx_X7_X4_sillsTelling_X4 : Cond.selects RX7 yX4_sillsTelling yX4_sillsTelling ∈ lw_tbl := List.mem_of_getElem? (i := 1123) (by decide +kernel)
theorem kx_X8_X4_sillsTelling_X4 : Cond.selects RX8 yX4_sillsTelling yX4_sillsTelling ∈ lw_tbl := List.mem_of_getElem? (i := 1124) (by decide +kernel)
theorem kl_X5_3 : Cond.methodLink RX5 3 objectInit ∈ lw_tbl := List.mem_of_getElem? (i := 245) (by decide +kernel)
theorem kp_X5_init_9_5 : sh_fp mX5_init 9 5 0 (.array .int) := ⟨RX5, TX5, 3, "SillHouse$Text", tyX5, rfl, by decide, uw_X5, List.mem_of_getElem? (i := 246) (by decide +kernel), rfl, tyX5_ok, nmX5, rfl, Or.inr ⟨rfl, rfl, rfl⟩⟩
theorem kp_X5_init_15_5 : sh_fp mX5_init 15 5 1 .int := ⟨RX5, TX5, 3, "SillHouse$Text", tyX5, rfl, by decide, uw_X5, List.mem_of_getElem? (i := 247) (by decide +kernel), rfl, tyX5_ok, nmX5, rfl, Or.inr ⟨rfl, rfl, rfl⟩⟩
theorem kp_X5_init_19_5 : sh_fp mX5_init 19 5 2 .int := ⟨RX5, TX5, 3, "SillHouse$Text", tyX5, rfl, by decide, uw_X5, List.mem_of_getElem? (i := 248) (by decide +kernel), rfl, tyX5_ok, nmX5, rfl, Or.inr ⟨rfl, rfl, rfl⟩⟩
theorem kf_X5_19_5 : sh_fl RX5 19 5 2 := ⟨RX5, TX5, 3, "SillHouse$Text", rfl, by decide, uw_X5, List.mem_of_getElem? (i := 248) (by decide +kernel), rfl⟩
theorem kl_X5_22 : Cond.methodLink RX5 22 yX5_goesOn ∈ lw_tbl := List.mem_of_getElem? (i := 260) (by decide +kernel)
theorem kl_X5_26 : Cond.methodLink RX5 26 yX5_isNought ∈ lw_tbl := List.mem_of_getElem? (i := 284) (by decide +kernel)
theorem kl_X5_29 : Cond.methodLink RX5 29 yX5_digit ∈ lw_tbl := List.mem_of_getElem? (i := 272) (by decide +kernel)
theorem kl_X5_33 : Cond.methodLink RX5 33 yX5_code ∈ lw_tbl := List.mem_of_getElem? (i := 264) (by decide +kernel)
theorem kn_X5_door_36 : sh_nw mX5_door 36 4 7 [.int 0, .int 0, .int 0, .int 0, .int 0, .int 0, .int 0] := by
  refine ⟨RX4, TX4, tyX4, rfl, List.mem_of_getElem? (i := 304) (by decide +kernel), List.mem_of_getElem? (i := 305) (by decide +kernel), List.mem_of_getElem? (i := 62) (by decide +kernel), uw_X4, tyX4_ok, fun G j hj => ?_⟩
  match j, hj with
  | 0, _ => exact rfl
  | 1, _ => exact rfl
  | 2, _ => exact rfl
  | 3, _ => exact rfl
  | 4, _ => exact rfl
  | 5, _ => exact rfl
  | 6, _ => exact rfl
  | n + 7, h => exact absurd h (by omega)
theorem kl_X5_38 : Cond.methodLink RX5 38 yX4_init ∈ lw_tbl := List.mem_of_getElem? (i := 306) (by decide +kernel)
theorem kn_X5_door_41 : sh_nw mX5_door 41 7 7 [.int 0, .int 0, .int 0, .int 0, .int 0, .int 0, .int 0] := by
  refine ⟨RX7, TX7, tyX7, rfl, List.mem_of_getElem? (i := 340) (by decide +kernel), List.mem_of_getElem? (i := 341) (by decide +kernel), List.mem_of_getElem? (i := 63) (by decide +kernel), uw_X7, tyX7_ok, fun G j hj => ?_⟩
  match j, hj with
  | 0, _ => exact rfl
  | 1, _ => exact rfl
  | 2, _ => exact rfl
  | 3, _ => exact rfl
  | 4, _ => exact rfl
  | 5, _ => exact rfl
  | 6, _ => exact rfl
  | n + 7, h => exact absurd h (by omega)
theorem kl_X5_43 : Cond.methodLink RX5 43 yX7_init ∈ lw_tbl := List.mem_of_getElem? (i := 342) (by decide +kernel)
theorem kn_X5_door_44 : sh_nw mX5_door 44 8 7 [.int 0, .int 0, .int 0, .int 0, .int 0, .int 0, .int 0] := by
  refine ⟨RX8, TX8, tyX8, rfl, List.mem_of_getElem? (i := 357) (by decide +kernel), List.mem_of_getElem? (i := 358) (by decide +kernel), List.mem_of_getElem? (i := 64) (by decide +kernel), uw_X8, tyX8_ok, fun G j hj => ?_⟩
  match j, hj with
  | 0, _ => exact rfl
  | 1, _ => exact rfl
  | 2, _ => exact rfl
  | 3, _ => exact rfl
  | 4, _ => exact rfl
  | 5, _ => exact rfl
  | 6, _ => exact rfl
  | n + 7, h => exact absurd h (by omega)
theorem kl_X5_46 : Cond.methodLink RX5 46 yX8_init ∈ lw_tbl := List.mem_of_getElem? (i := 359) (by decide +kernel)
theorem kf_X5_15_5 : sh_fl RX5 15 5 1 := ⟨RX5, TX5, 3, "SillHouse$Text", rfl, by decide, uw_X5, List.mem_of_getElem? (i := 247) (by decide +kernel), rfl⟩
theorem kf_X5_9_5 : sh_fl RX5 9 5 0 := ⟨RX5, TX5, 3, "SillHouse$Text", rfl, by decide, uw_X5, List.mem_of_getElem? (i := 246) (by decide +kernel), rfl⟩
theorem kl_X5_47 : Cond.methodLink RX5 47 yX5_rooms ∈ lw_tbl := List.mem_of_getElem? (i := 276) (by decide +kernel)
theorem kl_X5_51 : Cond.methodLink RX5 51 yX5_isRoom ∈ lw_tbl := List.mem_of_getElem? (i := 268) (by decide +kernel)
theorem kl_X5_54 : Cond.methodLink RX5 54 yX5_isDigit ∈ lw_tbl := List.mem_of_getElem? (i := 280) (by decide +kernel)
theorem kl_X6_1 : Cond.methodLink RX6 1 objectInit ∈ lw_tbl := List.mem_of_getElem? (i := 172) (by decide +kernel)
theorem kf_X6_7_6 : sh_fl RX6 7 6 0 := ⟨RX6, TX6, 1, "SillHouse$Trace", rfl, by decide, uw_X6, List.mem_of_getElem? (i := 173) (by decide +kernel), rfl⟩
theorem kp_X6_note_7_6 : sh_fp mX6_note 7 6 0 .int := ⟨RX6, TX6, 1, "SillHouse$Trace", tyX6, rfl, by decide, uw_X6, List.mem_of_getElem? (i := 173) (by decide +kernel), rfl, tyX6_ok, nmX6, rfl, Or.inl rfl⟩
theorem kl_X7_5 : Cond.methodLink RX7 5 yX7_init_ ∈ lw_tbl := List.mem_of_getElem? (i := 345) (by decide +kernel)
theorem kl_X7_11 : Cond.methodLink RX7 11 yX4_init_ ∈ lw_tbl := List.mem_of_getElem? (i := 348) (by decide +kernel)
theorem kl_X7_14 : Cond.methodLink RX7 14 yX6_note ∈ lw_tbl := List.mem_of_getElem? (i := 666) (by decide +kernel)
theorem kl_X7_20 : Cond.methodLink RX7 20 yX4_telling ∈ lw_tbl := List.mem_of_getElem? (i := 670) (by decide +kernel)
theorem kq_X4_X4_telling : Cond.sameMethod RX4 RX4 "telling" "(LSillHouse$Trace;)I" ∈ lw_tbl := List.mem_of_getElem? (i := 662) (by decide +kernel)
theorem kx_X7_X7_telling_X4 : Cond.selects RX7 yX4_telling yX7_telling ∈ lw_tbl := List.mem_of_getElem? (i := 663) (by decide +kernel)
theorem kx_X8_X8_telling_X4 : Cond.selects RX8 yX4_telling yX8_telling ∈ lw_tbl := List.mem_of_getElem? (i := 671) (by decide +kernel)
theorem kl_X8_5 : Cond.methodLink RX8 5 yX7_init_ ∈ lw_tbl := List.mem_of_getElem? (i := 362) (by decide +kernel)
theorem kl_X8_11 : Cond.methodLink RX8 11 yX6_note ∈ lw_tbl := List.mem_of_getElem? (i := 674) (by decide +kernel)
theorem kl_X8_17 : Cond.methodLink RX8 17 yX7_telling ∈ lw_tbl := List.mem_of_getElem? (i := 675) (by decide +kernel)
theorem kq_X7_X7_telling : Cond.sameMethod RX7 RX7 "telling" "(LSillHouse$Trace;)I" ∈ lw_tbl := List.mem_of_getElem? (i := 1120) (by decide +kernel)
theorem kl_X8_21 : Cond.methodLink RX8 21 ⟨"SillHouse$Worn", "sillsTelling", "(LSillHouse$Trace;)I"⟩ ∈ lw_tbl := List.mem_of_getElem? (i := 676) (by decide +kernel)
theorem kq_X8_X4_sillsTelling : Cond.sameMethod RX8 RX4 "sillsTelling" "(LSillHouse$Trace;)I" ∈ lw_tbl := List.mem_of_getElem? (i := 677) (by decide +kernel)
theorem kx_X8_X4_sillsTelling_X8 : Cond.selects RX8 ⟨"SillHouse$Worn", "sillsTelling", "(LSillHouse$Trace;)I"⟩ yX4_sillsTelling ∈ lw_tbl := List.mem_of_getElem? (i := 679) (by decide +kernel)
theorem kl_X9_3 : Cond.methodLink RX9 3 objectInit ∈ lw_tbl := List.mem_of_getElem? (i := 72) (by decide +kernel)
theorem ka_X9_11 : Cond.classLink RX9 11 RX3 ∈ lw_tbl := List.mem_of_getElem? (i := 75) (by decide +kernel)
theorem kp_X9_init_13_9 : sh_fp mX9_init 13 9 0 (.array (.object "SillHouse$Sheet")) := ⟨RX9, TX9, 6, "SillHouse", tyX9, rfl, by decide, uw_X9, List.mem_of_getElem? (i := 195) (by decide +kernel), rfl, tyX9_ok, nmX9, rfl, Or.inr ⟨rfl, rfl, rfl⟩⟩
theorem kn_X9_init_17 : sh_nw mX9_init 17 1 3 [.int 0, .int 0, .null] := by
  refine ⟨RX1, TX1, tyX1, rfl, List.mem_of_getElem? (i := 77) (by decide +kernel), List.mem_of_getElem? (i := 78) (by decide +kernel), List.mem_of_getElem? (i := 54) (by decide +kernel), uw_X1, tyX1_ok, fun G j hj => ?_⟩
  match j, hj with
  | 0, _ => exact rfl
  | 1, _ => exact rfl
  | 2, _ => exact rfl
  | n + 3, h => exact absurd h (by omega)
theorem kp_X9_init_20_9 : sh_fp mX9_init 20 9 1 (.object "SillHouse$Plan") := ⟨RX9, TX9, 6, "SillHouse", tyX9, rfl, by decide, uw_X9, List.mem_of_getElem? (i := 196) (by decide +kernel), rfl, tyX9_ok, nmX9, rfl, Or.inr ⟨rfl, rfl, rfl⟩⟩
theorem kn_X9_init_24 : sh_nw mX9_init 24 0 6 [.int 0, .int 0, .null, .null, .null, .null] := by
  refine ⟨RX0, TX0, tyX0, rfl, List.mem_of_getElem? (i := 100) (by decide +kernel), List.mem_of_getElem? (i := 101) (by decide +kernel), List.mem_of_getElem? (i := 55) (by decide +kernel), uw_X0, tyX0_ok, fun G j hj => ?_⟩
  match j, hj with
  | 0, _ => exact rfl
  | 1, _ => exact rfl
  | 2, _ => exact rfl
  | 3, _ => exact rfl
  | 4, _ => exact rfl
  | 5, _ => exact rfl
  | n + 6, h => exact absurd h (by omega)
theorem kp_X9_init_27_9 : sh_fp mX9_init 27 9 2 (.object "SillHouse$Folk") := ⟨RX9, TX9, 6, "SillHouse", tyX9, rfl, by decide, uw_X9, List.mem_of_getElem? (i := 197) (by decide +kernel), rfl, tyX9_ok, nmX9, rfl, Or.inr ⟨rfl, rfl, rfl⟩⟩
theorem kn_X9_init_31 : sh_nw mX9_init 31 2 9 [.null, .null, .null, .null, .int 0, .int 0, .int 0, .int 0, .int 0] := by
  refine ⟨RX2, TX2, tyX2, rfl, List.mem_of_getElem? (i := 132) (by decide +kernel), List.mem_of_getElem? (i := 133) (by decide +kernel), List.mem_of_getElem? (i := 56) (by decide +kernel), uw_X2, tyX2_ok, fun G j hj => ?_⟩
  match j, hj with
  | 0, _ => exact rfl
  | 1, _ => exact rfl
  | 2, _ => exact rfl
  | 3, _ => exact rfl
  | 4, _ => exact rfl
  | 5, _ => exact rfl
  | 6, _ => exact rfl
  | 7, _ => exact rfl
  | 8, _ => exact rfl
  | n + 9, h => exact absurd h (by omega)
theorem kp_X9_init_34_9 : sh_fp mX9_init 34 9 3 (.object "SillHouse$Search") := ⟨RX9, TX9, 6, "SillHouse", tyX9, rfl, by decide, uw_X9, List.mem_of_getElem? (i := 198) (by decide +kernel), rfl, tyX9_ok, nmX9, rfl, Or.inr ⟨rfl, rfl, rfl⟩⟩
theorem kn_X9_init_38 : sh_nw mX9_init 38 6 1 [.int 0] := by
  refine ⟨RX6, TX6, tyX6, rfl, List.mem_of_getElem? (i := 167) (by decide +kernel), List.mem_of_getElem? (i := 168) (by decide +kernel), List.mem_of_getElem? (i := 57) (by decide +kernel), uw_X6, tyX6_ok, fun G j hj => ?_⟩
  match j, hj with
  | 0, _ => exact rfl
  | n + 1, h => exact absurd h (by omega)
theorem kp_X9_init_41_9 : sh_fp mX9_init 41 9 4 (.object "SillHouse$Trace") := ⟨RX9, TX9, 6, "SillHouse", tyX9, rfl, by decide, uw_X9, List.mem_of_getElem? (i := 199) (by decide +kernel), rfl, tyX9_ok, nmX9, rfl, Or.inr ⟨rfl, rfl, rfl⟩⟩
theorem kf_X9_13_9 : sh_fl RX9 13 9 0 := ⟨RX9, TX9, 6, "SillHouse", rfl, by decide, uw_X9, List.mem_of_getElem? (i := 195) (by decide +kernel), rfl⟩
theorem kn_X9_init_11 : sh_nw mX9_init 11 3 3 [.null, .int 0, .int 0] := by
  refine ⟨RX3, TX3, tyX3, rfl, List.mem_of_getElem? (i := 75) (by decide +kernel), List.mem_of_getElem? (i := 178) (by decide +kernel), List.mem_of_getElem? (i := 58) (by decide +kernel), uw_X3, tyX3_ok, fun G j hj => ?_⟩
  match j, hj with
  | 0, _ => exact rfl
  | 1, _ => exact rfl
  | 2, _ => exact rfl
  | n + 3, h => exact absurd h (by omega)
theorem kl_X9_46 : Cond.methodLink RX9 46 yX9_cellsRefused ∈ lw_tbl := List.mem_of_getElem? (i := 218) (by decide +kernel)
theorem kn_X9_house_50 : sh_nw mX9_house 50 5 3 [.null, .int 0, .int 0] := by
  refine ⟨RX5, TX5, tyX5, rfl, List.mem_of_getElem? (i := 240) (by decide +kernel), List.mem_of_getElem? (i := 241) (by decide +kernel), List.mem_of_getElem? (i := 60) (by decide +kernel), uw_X5, tyX5_ok, fun G j hj => ?_⟩
  match j, hj with
  | 0, _ => exact rfl
  | 1, _ => exact rfl
  | 2, _ => exact rfl
  | n + 3, h => exact absurd h (by omega)
theorem kf_X9_52_3 : sh_fl RX9 52 3 0 := ⟨RX3, TX3, 3, "SillHouse$Sheet", rfl, by decide, uw_X3, List.mem_of_getElem? (i := 184) (by decide +kernel), rfl⟩
theorem kl_X9_56 : Cond.methodLink RX9 56 yX5_init ∈ lw_tbl := List.mem_of_getElem? (i := 242) (by decide +kernel)
theorem kl_X9_59 : Cond.methodLink RX9 59 yX5_firstFault ∈ lw_tbl := List.mem_of_getElem? (i := 256) (by decide +kernel)
theorem kf_X9_20_9 : sh_fl RX9 20 9 1 := ⟨RX9, TX9, 6, "SillHouse", rfl, by decide, uw_X9, List.mem_of_getElem? (i := 196) (by decide +kernel), rfl⟩
theorem kl_X9_63 : Cond.methodLink RX9 63 yX1_build ∈ lw_tbl := List.mem_of_getElem? (i := 288) (by decide +kernel)
theorem kf_X9_27_9 : sh_fl RX9 27 9 2 := ⟨RX9, TX9, 6, "SillHouse", rfl, by decide, uw_X9, List.mem_of_getElem? (i := 197) (by decide +kernel), rfl⟩
theorem kl_X9_67 : Cond.methodLink RX9 67 yX0_leave ∈ lw_tbl := List.mem_of_getElem? (i := 371) (by decide +kernel)
theorem kf_X9_70_1 : sh_fl RX9 70 1 1 := ⟨RX1, TX1, 3, "SillHouse$Plan", rfl, by decide, uw_X1, List.mem_of_getElem? (i := 88) (by decide +kernel), rfl⟩
theorem kl_X9_74 : Cond.methodLink RX9 74 yX1_hasDoor ∈ lw_tbl := List.mem_of_getElem? (i := 379) (by decide +kernel)
theorem kf_X9_78_1 : sh_fl RX9 78 1 2 := ⟨RX1, TX1, 3, "SillHouse$Plan", rfl, by decide, uw_X1, List.mem_of_getElem? (i := 91) (by decide +kernel), rfl⟩
theorem kl_X9_82 : Cond.methodLink RX9 82 yX4_told ∈ lw_tbl := List.mem_of_getElem? (i := 383) (by decide +kernel)
theorem kq_X4_X4_told : Cond.sameMethod RX4 RX4 "told" "(I)I" ∈ lw_tbl := List.mem_of_getElem? (i := 386) (by decide +kernel)
theorem kx_X7_X4_told_X4 : Cond.selects RX7 yX4_told yX4_told ∈ lw_tbl := List.mem_of_getElem? (i := 387) (by decide +kernel)
theorem kx_X8_X4_told_X4 : Cond.selects RX8 yX4_told yX4_told ∈ lw_tbl := List.mem_of_getElem? (i := 388) (by decide +kernel)
theorem kl_X9_88 : Cond.methodLink RX9 88 yX1_hasRoom ∈ lw_tbl := List.mem_of_getElem? (i := 405) (by decide +kernel)
theorem kl_X9_91 : Cond.methodLink RX9 91 yX9_isPersonsWeight ∈ lw_tbl := List.mem_of_getElem? (i := 409) (by decide +kernel)
theorem kf_X9_94_0 : sh_fl RX9 94 0 0 := ⟨RX0, TX0, 6, "SillHouse$Folk", rfl, by decide, uw_X0, List.mem_of_getElem? (i := 107) (by decide +kernel), rfl⟩
theorem kl_X9_97 : Cond.methodLink RX9 97 yX0_addPerson ∈ lw_tbl := List.mem_of_getElem? (i := 412) (by decide +kernel)
theorem kf_X9_101_0 : sh_fl RX9 101 0 1 := ⟨RX0, TX0, 6, "SillHouse$Folk", rfl, by decide, uw_X0, List.mem_of_getElem? (i := 109) (by decide +kernel), rfl⟩
theorem kl_X9_104 : Cond.methodLink RX9 104 yX0_addStone ∈ lw_tbl := List.mem_of_getElem? (i := 420) (by decide +kernel)
theorem kl_X9_107 : Cond.methodLink RX9 107 yX0_hasPerson ∈ lw_tbl := List.mem_of_getElem? (i := 428) (by decide +kernel)
theorem kf_X9_110_0 : sh_fl RX9 110 0 2 := ⟨RX0, TX0, 6, "SillHouse$Folk", rfl, by decide, uw_X0, List.mem_of_getElem? (i := 111) (by decide +kernel), rfl⟩
theorem kf_X9_113_0 : sh_fl RX9 113 0 3 := ⟨RX0, TX0, 6, "SillHouse$Folk", rfl, by decide, uw_X0, List.mem_of_getElem? (i := 113) (by decide +kernel), rfl⟩
theorem kl_X9_116 : Cond.methodLink RX9 116 yX0_carriedBy ∈ lw_tbl := List.mem_of_getElem? (i := 432) (by decide +kernel)
theorem kl_X9_119 : Cond.methodLink RX9 119 yX0_weightWithStones ∈ lw_tbl := List.mem_of_getElem? (i := 439) (by decide +kernel)
theorem kl_X9_122 : Cond.methodLink RX9 122 yX0_hasStone ∈ lw_tbl := List.mem_of_getElem? (i := 447) (by decide +kernel)
theorem kf_X9_125_0 : sh_fl RX9 125 0 4 := ⟨RX0, TX0, 6, "SillHouse$Folk", rfl, by decide, uw_X0, List.mem_of_getElem? (i := 115) (by decide +kernel), rfl⟩
theorem kf_X9_128_0 : sh_fl RX9 128 0 5 := ⟨RX0, TX0, 6, "SillHouse$Folk", rfl, by decide, uw_X0, List.mem_of_getElem? (i := 117) (by decide +kernel), rfl⟩
theorem kl_X9_131 : Cond.methodLink RX9 131 yX0_howManyCarriedBy ∈ lw_tbl := List.mem_of_getElem? (i := 455) (by decide +kernel)
theorem kl_X9_134 : Cond.methodLink RX9 134 yX0_placeWith ∈ lw_tbl := List.mem_of_getElem? (i := 466) (by decide +kernel)
theorem kl_X9_137 : Cond.methodLink RX9 137 yX0_isParty ∈ lw_tbl := List.mem_of_getElem? (i := 475) (by decide +kernel)
theorem kl_X9_140 : Cond.methodLink RX9 140 yX0_roomOfParty ∈ lw_tbl := List.mem_of_getElem? (i := 479) (by decide +kernel)
theorem kl_X9_143 : Cond.methodLink RX9 143 yX4_isOf ∈ lw_tbl := List.mem_of_getElem? (i := 483) (by decide +kernel)
theorem kq_X4_X4_isOf : Cond.sameMethod RX4 RX4 "isOf" "(I)Z" ∈ lw_tbl := List.mem_of_getElem? (i := 486) (by decide +kernel)
theorem kx_X7_X4_isOf_X4 : Cond.selects RX7 yX4_isOf yX4_isOf ∈ lw_tbl := List.mem_of_getElem? (i := 487) (by decide +kernel)
theorem kx_X8_X4_isOf_X4 : Cond.selects RX8 yX4_isOf yX4_isOf ∈ lw_tbl := List.mem_of_getElem? (i := 488) (by decide +kernel)
theorem kl_X9_146 : Cond.methodLink RX9 146 yX0_weightOfParty ∈ lw_tbl := List.mem_of_getElem? (i := 490) (by decide +kernel)
theorem kl_X9_149 : Cond.methodLink RX9 149 yX4_beyond ∈ lw_tbl := List.mem_of_getElem? (i := 495) (by decide +kernel)
theorem kl_X9_152 : Cond.methodLink RX9 152 yX9_opens ∈ lw_tbl := List.mem_of_getElem? (i := 506) (by decide +kernel)
theorem kl_X9_155 : Cond.methodLink RX9 155 yX0_moveParty ∈ lw_tbl := List.mem_of_getElem? (i := 507) (by decide +kernel)
theorem kf_X9_34_9 : sh_fl RX9 34 9 3 := ⟨RX9, TX9, 6, "SillHouse", rfl, by decide, uw_X9, List.mem_of_getElem? (i := 198) (by decide +kernel), rfl⟩
theorem kl_X9_159 : Cond.methodLink RX9 159 yX2_begin ∈ lw_tbl := List.mem_of_getElem? (i := 519) (by decide +kernel)
theorem kl_X9_162 : Cond.methodLink RX9 162 yX2_setStone ∈ lw_tbl := List.mem_of_getElem? (i := 523) (by decide +kernel)
theorem kl_X9_166 : Cond.methodLink RX9 166 yX2_finds ∈ lw_tbl := List.mem_of_getElem? (i := 530) (by decide +kernel)
theorem kl_X9_170 : Cond.methodLink RX9 170 yX2_howManySteps ∈ lw_tbl := List.mem_of_getElem? (i := 550) (by decide +kernel)
theorem kl_X9_173 : Cond.methodLink RX9 173 yX2_stepAt ∈ lw_tbl := List.mem_of_getElem? (i := 554) (by decide +kernel)
theorem kl_X9_176 : Cond.methodLink RX9 176 yX1_reachOf ∈ lw_tbl := List.mem_of_getElem? (i := 563) (by decide +kernel)
theorem kl_X9_179 : Cond.methodLink RX9 179 yX1_reaches ∈ lw_tbl := List.mem_of_getElem? (i := 575) (by decide +kernel)
theorem kl_X9_183 : Cond.methodLink RX9 183 yX9_comesWith ∈ lw_tbl := List.mem_of_getElem? (i := 584) (by decide +kernel)
theorem kl_X9_187 : Cond.methodLink RX9 187 yX9_ofLaidRow ∈ lw_tbl := List.mem_of_getElem? (i := 588) (by decide +kernel)
theorem kl_X9_191 : Cond.methodLink RX9 191 yX9_comesChanged ∈ lw_tbl := List.mem_of_getElem? (i := 595) (by decide +kernel)
theorem kl_X9_194 : Cond.methodLink RX9 194 yX9_doorsRefused ∈ lw_tbl := List.mem_of_getElem? (i := 603) (by decide +kernel)
theorem kl_X9_197 : Cond.methodLink RX9 197 yX9_passesAll ∈ lw_tbl := List.mem_of_getElem? (i := 607) (by decide +kernel)
theorem kp_X9_byStrangers_201_9 : sh_fp mX9_byStrangers 201 9 5 .int := ⟨RX9, TX9, 6, "SillHouse", tyX9, rfl, by decide, uw_X9, List.mem_of_getElem? (i := 200) (by decide +kernel), rfl, tyX9_ok, nmX9, rfl, Or.inl rfl⟩
theorem kp_X9_sheet_201_9 : sh_fp mX9_sheet 201 9 5 .int := ⟨RX9, TX9, 6, "SillHouse", tyX9, rfl, by decide, uw_X9, List.mem_of_getElem? (i := 200) (by decide +kernel), rfl, tyX9_ok, nmX9, rfl, Or.inl rfl⟩
theorem kl_X9_204 : Cond.methodLink RX9 204 yX9_isSheet ∈ lw_tbl := List.mem_of_getElem? (i := 222) (by decide +kernel)
theorem kl_X9_207 : Cond.methodLink RX9 207 yX9_isLane ∈ lw_tbl := List.mem_of_getElem? (i := 225) (by decide +kernel)
theorem kl_X9_210 : Cond.methodLink RX9 210 yX9_faulted ∈ lw_tbl := List.mem_of_getElem? (i := 232) (by decide +kernel)
theorem kl_X9_213 : Cond.methodLink RX9 213 yX3_renew ∈ lw_tbl := List.mem_of_getElem? (i := 623) (by decide +kernel)
theorem kl_X9_216 : Cond.methodLink RX9 216 yX3_hasNothing ∈ lw_tbl := List.mem_of_getElem? (i := 228) (by decide +kernel)
theorem kl_X9_220 : Cond.methodLink RX9 220 yX3_empty ∈ lw_tbl := List.mem_of_getElem? (i := 631) (by decide +kernel)
theorem kp_X9_put_201_9 : sh_fp mX9_put 201 9 5 .int := ⟨RX9, TX9, 6, "SillHouse", tyX9, rfl, by decide, uw_X9, List.mem_of_getElem? (i := 200) (by decide +kernel), rfl, tyX9_ok, nmX9, rfl, Or.inl rfl⟩
theorem kl_X9_223 : Cond.methodLink RX9 223 yX3_has ∈ lw_tbl := List.mem_of_getElem? (i := 236) (by decide +kernel)
theorem kl_X9_227 : Cond.methodLink RX9 227 yX3_cut ∈ lw_tbl := List.mem_of_getElem? (i := 639) (by decide +kernel)
theorem kc_X9_230 : Cond.constantLong RX9 230 (-9223372036854775808) ∈ lw_tbl := List.mem_of_getElem? (i := 647) (by decide +kernel)
theorem kp_X9_copy_201_9 : sh_fp mX9_copy 201 9 5 .int := ⟨RX9, TX9, 6, "SillHouse", tyX9, rfl, by decide, uw_X9, List.mem_of_getElem? (i := 200) (by decide +kernel), rfl, tyX9_ok, nmX9, rfl, Or.inl rfl⟩
theorem kf_X9_232_3 : sh_fl RX9 232 3 1 := ⟨RX3, TX3, 3, "SillHouse$Sheet", rfl, by decide, uw_X3, List.mem_of_getElem? (i := 186) (by decide +kernel), rfl⟩
theorem kl_X9_235 : Cond.methodLink RX9 235 arraycopyName ∈ lw_tbl := List.mem_of_getElem? (i := 652) (by decide +kernel)
theorem kf_X9_41_9 : sh_fl RX9 41 9 4 := ⟨RX9, TX9, 6, "SillHouse", rfl, by decide, uw_X9, List.mem_of_getElem? (i := 199) (by decide +kernel), rfl⟩
theorem kl_X9_241 : Cond.methodLink RX9 241 yX4_telling ∈ lw_tbl := List.mem_of_getElem? (i := 659) (by decide +kernel)
theorem kl_X9_245 : Cond.methodLink RX9 245 yX4_rung ∈ lw_tbl := List.mem_of_getElem? (i := 689) (by decide +kernel)
theorem kq_X4_X4_rung : Cond.sameMethod RX4 RX4 "rung" "(LSillHouse$Trace;I)I" ∈ lw_tbl := List.mem_of_getElem? (i := 692) (by decide +kernel)
theorem kx_X7_X4_rung_X4 : Cond.selects RX7 yX4_rung yX4_rung ∈ lw_tbl := List.mem_of_getElem? (i := 693) (by decide +kernel)
theorem kx_X8_X8_rung_X4 : Cond.selects RX8 yX4_rung yX8_rung ∈ lw_tbl := List.mem_of_getElem? (i := 694) (by decide +kernel)
theorem kp_X9_as_201_9 : sh_fp mX9_as 201 9 5 .int := ⟨RX9, TX9, 6, "SillHouse", tyX9, rfl, by decide, uw_X9, List.mem_of_getElem? (i := 200) (by decide +kernel), rfl, tyX9_ok, nmX9, rfl, Or.inl rfl⟩
theorem kl_X9_249 : Cond.methodLink RX9 249 yX4_kind ∈ lw_tbl := List.mem_of_getElem? (i := 702) (by decide +kernel)
theorem kf_X9_252_6 : sh_fl RX9 252 6 0 := ⟨RX6, TX6, 1, "SillHouse$Trace", rfl, by decide, uw_X6, List.mem_of_getElem? (i := 174) (by decide +kernel), rfl⟩
theorem kf_X9_201_9 : sh_fl RX9 201 9 5 := ⟨RX9, TX9, 6, "SillHouse", rfl, by decide, uw_X9, List.mem_of_getElem? (i := 200) (by decide +kernel), rfl⟩
theorem kf_X9_255_1 : sh_fl RX9 255 1 0 := ⟨RX1, TX1, 3, "SillHouse$Plan", rfl, by decide, uw_X1, List.mem_of_getElem? (i := 86) (by decide +kernel), rfl⟩
theorem kp_X9_faulted_201_9 : sh_fp mX9_faulted 201 9 5 .int := ⟨RX9, TX9, 6, "SillHouse", tyX9, rfl, by decide, uw_X9, List.mem_of_getElem? (i := 200) (by decide +kernel), rfl, tyX9_ok, nmX9, rfl, Or.inl rfl⟩
theorem kp_X9_cellsRefused_201_9 : sh_fp mX9_cellsRefused 201 9 5 .int := ⟨RX9, TX9, 6, "SillHouse", tyX9, rfl, by decide, uw_X9, List.mem_of_getElem? (i := 200) (by decide +kernel), rfl, tyX9_ok, nmX9, rfl, Or.inl rfl⟩
theorem kl_X10_1 : Cond.methodLink RX10 1 objectInit ∈ lw_tbl := List.mem_of_getElem? (i := 720) (by decide +kernel)
theorem kp_X10_init_7_10 : sh_fp mX10_init 7 10 3 (.array .int) := ⟨RX10, TX10, 35, "SillHouseModel", tyX10, rfl, by decide, uw_X10, List.mem_of_getElem? (i := 724) (by decide +kernel), rfl, tyX10_ok, nmX10, rfl, Or.inr ⟨rfl, rfl, rfl⟩⟩
theorem kp_X10_init_13_10 : sh_fp mX10_init 13 10 4 (.array .int) := ⟨RX10, TX10, 35, "SillHouseModel", tyX10, rfl, by decide, uw_X10, List.mem_of_getElem? (i := 725) (by decide +kernel), rfl, tyX10_ok, nmX10, rfl, Or.inr ⟨rfl, rfl, rfl⟩⟩
theorem kp_X10_init_16_10 : sh_fp mX10_init 16 10 5 (.array .int) := ⟨RX10, TX10, 35, "SillHouseModel", tyX10, rfl, by decide, uw_X10, List.mem_of_getElem? (i := 726) (by decide +kernel), rfl, tyX10_ok, nmX10, rfl, Or.inr ⟨rfl, rfl, rfl⟩⟩
theorem kp_X10_init_19_10 : sh_fp mX10_init 19 10 9 (.array .int) := ⟨RX10, TX10, 35, "SillHouseModel", tyX10, rfl, by decide, uw_X10, List.mem_of_getElem? (i := 730) (by decide +kernel), rfl, tyX10_ok, nmX10, rfl, Or.inr ⟨rfl, rfl, rfl⟩⟩
theorem kp_X10_init_22_10 : sh_fp mX10_init 22 10 10 (.array .int) := ⟨RX10, TX10, 35, "SillHouseModel", tyX10, rfl, by decide, uw_X10, List.mem_of_getElem? (i := 731) (by decide +kernel), rfl, tyX10_ok, nmX10, rfl, Or.inr ⟨rfl, rfl, rfl⟩⟩
theorem kp_X10_init_25_10 : sh_fp mX10_init 25 10 11 (.array .int) := ⟨RX10, TX10, 35, "SillHouseModel", tyX10, rfl, by decide, uw_X10, List.mem_of_getElem? (i := 732) (by decide +kernel), rfl, tyX10_ok, nmX10, rfl, Or.inr ⟨rfl, rfl, rfl⟩⟩
theorem kp_X10_init_28_10 : sh_fp mX10_init 28 10 13 (.array .int) := ⟨RX10, TX10, 35, "SillHouseModel", tyX10, rfl, by decide, uw_X10, List.mem_of_getElem? (i := 734) (by decide +kernel), rfl, tyX10_ok, nmX10, rfl, Or.inr ⟨rfl, rfl, rfl⟩⟩
theorem kp_X10_init_31_10 : sh_fp mX10_init 31 10 14 (.array .int) := ⟨RX10, TX10, 35, "SillHouseModel", tyX10, rfl, by decide, uw_X10, List.mem_of_getElem? (i := 735) (by decide +kernel), rfl, tyX10_ok, nmX10, rfl, Or.inr ⟨rfl, rfl, rfl⟩⟩
theorem kp_X10_init_34_10 : sh_fp mX10_init 34 10 16 (.array .int) := ⟨RX10, TX10, 35, "SillHouseModel", tyX10, rfl, by decide, uw_X10, List.mem_of_getElem? (i := 737) (by decide +kernel), rfl, tyX10_ok, nmX10, rfl, Or.inr ⟨rfl, rfl, rfl⟩⟩
theorem kp_X10_init_37_10 : sh_fp mX10_init 37 10 17 (.array .int) := ⟨RX10, TX10, 35, "SillHouseModel", tyX10, rfl, by decide, uw_X10, List.mem_of_getElem? (i := 738) (by decide +kernel), rfl, tyX10_ok, nmX10, rfl, Or.inr ⟨rfl, rfl, rfl⟩⟩
theorem kp_X10_init_40_10 : sh_fp mX10_init 40 10 21 (.array .int) := ⟨RX10, TX10, 35, "SillHouseModel", tyX10, rfl, by decide, uw_X10, List.mem_of_getElem? (i := 742) (by decide +kernel), rfl, tyX10_ok, nmX10, rfl, Or.inr ⟨rfl, rfl, rfl⟩⟩
theorem kp_X10_init_43_10 : sh_fp mX10_init 43 10 22 (.array .int) := ⟨RX10, TX10, 35, "SillHouseModel", tyX10, rfl, by decide, uw_X10, List.mem_of_getElem? (i := 743) (by decide +kernel), rfl, tyX10_ok, nmX10, rfl, Or.inr ⟨rfl, rfl, rfl⟩⟩
theorem kp_X10_init_46_10 : sh_fp mX10_init 46 10 23 (.array .boolean) := ⟨RX10, TX10, 35, "SillHouseModel", tyX10, rfl, by decide, uw_X10, List.mem_of_getElem? (i := 744) (by decide +kernel), rfl, tyX10_ok, nmX10, rfl, Or.inr ⟨rfl, rfl, rfl⟩⟩
theorem kp_X10_init_50_10 : sh_fp mX10_init 50 10 24 (.array .int) := ⟨RX10, TX10, 35, "SillHouseModel", tyX10, rfl, by decide, uw_X10, List.mem_of_getElem? (i := 745) (by decide +kernel), rfl, tyX10_ok, nmX10, rfl, Or.inr ⟨rfl, rfl, rfl⟩⟩
theorem kp_X10_init_53_10 : sh_fp mX10_init 53 10 25 (.array .int) := ⟨RX10, TX10, 35, "SillHouseModel", tyX10, rfl, by decide, uw_X10, List.mem_of_getElem? (i := 746) (by decide +kernel), rfl, tyX10_ok, nmX10, rfl, Or.inr ⟨rfl, rfl, rfl⟩⟩
theorem kp_X10_init_56_10 : sh_fp mX10_init 56 10 26 (.array .int) := ⟨RX10, TX10, 35, "SillHouseModel", tyX10, rfl, by decide, uw_X10, List.mem_of_getElem? (i := 747) (by decide +kernel), rfl, tyX10_ok, nmX10, rfl, Or.inr ⟨rfl, rfl, rfl⟩⟩
theorem kp_X10_init_59_10 : sh_fp mX10_init 59 10 27 (.array .boolean) := ⟨RX10, TX10, 35, "SillHouseModel", tyX10, rfl, by decide, uw_X10, List.mem_of_getElem? (i := 748) (by decide +kernel), rfl, tyX10_ok, nmX10, rfl, Or.inr ⟨rfl, rfl, rfl⟩⟩
theorem kp_X10_init_62_10 : sh_fp mX10_init 62 10 29 (.array .int) := ⟨RX10, TX10, 35, "SillHouseModel", tyX10, rfl, by decide, uw_X10, List.mem_of_getElem? (i := 750) (by decide +kernel), rfl, tyX10_ok, nmX10, rfl, Or.inr ⟨rfl, rfl, rfl⟩⟩
theorem kp_X10_init_65_10 : sh_fp mX10_init 65 10 30 (.array .int) := ⟨RX10, TX10, 35, "SillHouseModel", tyX10, rfl, by decide, uw_X10, List.mem_of_getElem? (i := 751) (by decide +kernel), rfl, tyX10_ok, nmX10, rfl, Or.inr ⟨rfl, rfl, rfl⟩⟩
theorem kp_X10_init_68_10 : sh_fp mX10_init 68 10 31 (.array .int) := ⟨RX10, TX10, 35, "SillHouseModel", tyX10, rfl, by decide, uw_X10, List.mem_of_getElem? (i := 752) (by decide +kernel), rfl, tyX10_ok, nmX10, rfl, Or.inr ⟨rfl, rfl, rfl⟩⟩
theorem kp_X10_init_71_10 : sh_fp mX10_init 71 10 32 (.array .int) := ⟨RX10, TX10, 35, "SillHouseModel", tyX10, rfl, by decide, uw_X10, List.mem_of_getElem? (i := 753) (by decide +kernel), rfl, tyX10_ok, nmX10, rfl, Or.inr ⟨rfl, rfl, rfl⟩⟩
theorem kp_X10_init_74_10 : sh_fp mX10_init 74 10 33 (.array .int) := ⟨RX10, TX10, 35, "SillHouseModel", tyX10, rfl, by decide, uw_X10, List.mem_of_getElem? (i := 754) (by decide +kernel), rfl, tyX10_ok, nmX10, rfl, Or.inr ⟨rfl, rfl, rfl⟩⟩
theorem kf_X10_65_10 : sh_fl RX10 65 10 30 := ⟨RX10, TX10, 35, "SillHouseModel", rfl, by decide, uw_X10, List.mem_of_getElem? (i := 751) (by decide +kernel), rfl⟩
theorem kc_X10_77 : Cond.constantLong RX10 77 (-9223372036854775808) ∈ lw_tbl := List.mem_of_getElem? (i := 1083) (by decide +kernel)
theorem kp_X10_refused_79_10 : sh_fp mX10_refused 79 10 0 .int := ⟨RX10, TX10, 35, "SillHouseModel", tyX10, rfl, by decide, uw_X10, List.mem_of_getElem? (i := 721) (by decide +kernel), rfl, tyX10_ok, nmX10, rfl, Or.inl rfl⟩
theorem kp_X10_failed_79_10 : sh_fp mX10_failed 79 10 0 .int := ⟨RX10, TX10, 35, "SillHouseModel", tyX10, rfl, by decide, uw_X10, List.mem_of_getElem? (i := 721) (by decide +kernel), rfl, tyX10_ok, nmX10, rfl, Or.inl rfl⟩
theorem kp_X10_failedLong_79_10 : sh_fp mX10_failedLong 79 10 0 .int := ⟨RX10, TX10, 35, "SillHouseModel", tyX10, rfl, by decide, uw_X10, List.mem_of_getElem? (i := 721) (by decide +kernel), rfl, tyX10_ok, nmX10, rfl, Or.inl rfl⟩
theorem kl_X10_83 : Cond.methodLink RX10 83 yX10_lost ∈ lw_tbl := List.mem_of_getElem? (i := 1080) (by decide +kernel)
theorem kl_X10_87 : Cond.methodLink RX10 87 yX10_noSheet ∈ lw_tbl := List.mem_of_getElem? (i := 836) (by decide +kernel)
theorem kl_X10_91 : Cond.methodLink RX10 91 yX10_refused ∈ lw_tbl := List.mem_of_getElem? (i := 843) (by decide +kernel)
theorem kc_X10_95 : Cond.constantLong RX10 95 (2) ∈ lw_tbl := List.mem_of_getElem? (i := 847) (by decide +kernel)
theorem kl_X10_97 : Cond.methodLink RX10 97 yX10_in ∈ lw_tbl := List.mem_of_getElem? (i := 840) (by decide +kernel)
theorem kf_X10_68_10 : sh_fl RX10 68 10 31 := ⟨RX10, TX10, 35, "SillHouseModel", rfl, by decide, uw_X10, List.mem_of_getElem? (i := 752) (by decide +kernel), rfl⟩
theorem kl_X10_101 : Cond.methodLink RX10 101 yX10_failed ∈ lw_tbl := List.mem_of_getElem? (i := 848) (by decide +kernel)
theorem kl_X10_104 : Cond.methodLink RX10 104 yX10_isBeyond ∈ lw_tbl := List.mem_of_getElem? (i := 852) (by decide +kernel)
theorem kf_X10_108_10 : sh_fl RX10 108 10 1 := ⟨RX10, TX10, 35, "SillHouseModel", rfl, by decide, uw_X10, List.mem_of_getElem? (i := 722) (by decide +kernel), rfl⟩
theorem kf_X10_111_10 : sh_fl RX10 111 10 2 := ⟨RX10, TX10, 35, "SillHouseModel", rfl, by decide, uw_X10, List.mem_of_getElem? (i := 723) (by decide +kernel), rfl⟩
theorem kf_X10_114_10 : sh_fl RX10 114 10 6 := ⟨RX10, TX10, 35, "SillHouseModel", rfl, by decide, uw_X10, List.mem_of_getElem? (i := 727) (by decide +kernel), rfl⟩
theorem kf_X10_71_10 : sh_fl RX10 71 10 32 := ⟨RX10, TX10, 35, "SillHouseModel", rfl, by decide, uw_X10, List.mem_of_getElem? (i := 753) (by decide +kernel), rfl⟩
theorem kl_X10_117 : Cond.methodLink RX10 117 yX10_codeAt ∈ lw_tbl := List.mem_of_getElem? (i := 859) (by decide +kernel)
theorem kp_X10_figure_114_10 : sh_fp mX10_figure 114 10 6 .int := ⟨RX10, TX10, 35, "SillHouseModel", tyX10, rfl, by decide, uw_X10, List.mem_of_getElem? (i := 727) (by decide +kernel), rfl, tyX10_ok, nmX10, rfl, Or.inl rfl⟩
theorem kl_X10_121 : Cond.methodLink RX10 121 yX10_figure ∈ lw_tbl := List.mem_of_getElem? (i := 863) (by decide +kernel)
theorem kp_X10_readsWeight_114_10 : sh_fp mX10_readsWeight 114 10 6 .int := ⟨RX10, TX10, 35, "SillHouseModel", tyX10, rfl, by decide, uw_X10, List.mem_of_getElem? (i := 727) (by decide +kernel), rfl, tyX10_ok, nmX10, rfl, Or.inl rfl⟩
theorem kf_X10_125_10 : sh_fl RX10 125 10 8 := ⟨RX10, TX10, 35, "SillHouseModel", rfl, by decide, uw_X10, List.mem_of_getElem? (i := 729) (by decide +kernel), rfl⟩
theorem kp_X10_readsDoor_114_10 : sh_fp mX10_readsDoor 114 10 6 .int := ⟨RX10, TX10, 35, "SillHouseModel", tyX10, rfl, by decide, uw_X10, List.mem_of_getElem? (i := 727) (by decide +kernel), rfl, tyX10_ok, nmX10, rfl, Or.inl rfl⟩
theorem kf_X10_128_10 : sh_fl RX10 128 10 7 := ⟨RX10, TX10, 35, "SillHouseModel", rfl, by decide, uw_X10, List.mem_of_getElem? (i := 728) (by decide +kernel), rfl⟩
theorem kl_X10_131 : Cond.methodLink RX10 131 yX10_readsWeight ∈ lw_tbl := List.mem_of_getElem? (i := 871) (by decide +kernel)
theorem kf_X10_19_10 : sh_fl RX10 19 10 9 := ⟨RX10, TX10, 35, "SillHouseModel", rfl, by decide, uw_X10, List.mem_of_getElem? (i := 730) (by decide +kernel), rfl⟩
theorem kf_X10_22_10 : sh_fl RX10 22 10 10 := ⟨RX10, TX10, 35, "SillHouseModel", rfl, by decide, uw_X10, List.mem_of_getElem? (i := 731) (by decide +kernel), rfl⟩
theorem kf_X10_25_10 : sh_fl RX10 25 10 11 := ⟨RX10, TX10, 35, "SillHouseModel", rfl, by decide, uw_X10, List.mem_of_getElem? (i := 732) (by decide +kernel), rfl⟩
theorem kp_X10_readsDoor_125_10 : sh_fp mX10_readsDoor 125 10 8 .int := ⟨RX10, TX10, 35, "SillHouseModel", tyX10, rfl, by decide, uw_X10, List.mem_of_getElem? (i := 729) (by decide +kernel), rfl, tyX10_ok, nmX10, rfl, Or.inl rfl⟩
theorem kp_X10_readsHouse_114_10 : sh_fp mX10_readsHouse 114 10 6 .int := ⟨RX10, TX10, 35, "SillHouseModel", tyX10, rfl, by decide, uw_X10, List.mem_of_getElem? (i := 727) (by decide +kernel), rfl, tyX10_ok, nmX10, rfl, Or.inl rfl⟩
theorem kp_X10_readsHouse_125_10 : sh_fp mX10_readsHouse 125 10 8 .int := ⟨RX10, TX10, 35, "SillHouseModel", tyX10, rfl, by decide, uw_X10, List.mem_of_getElem? (i := 729) (by decide +kernel), rfl, tyX10_ok, nmX10, rfl, Or.inl rfl⟩
theorem kp_X10_readsHouse_128_10 : sh_fp mX10_readsHouse 128 10 7 .int := ⟨RX10, TX10, 35, "SillHouseModel", tyX10, rfl, by decide, uw_X10, List.mem_of_getElem? (i := 728) (by decide +kernel), rfl, tyX10_ok, nmX10, rfl, Or.inl rfl⟩
theorem kl_X10_134 : Cond.methodLink RX10 134 yX10_readsDoor ∈ lw_tbl := List.mem_of_getElem? (i := 867) (by decide +kernel)
theorem kl_X10_138 : Cond.methodLink RX10 138 yX10_barred ∈ lw_tbl := List.mem_of_getElem? (i := 832) (by decide +kernel)
theorem kl_X10_142 : Cond.methodLink RX10 142 yX10_readsHouse ∈ lw_tbl := List.mem_of_getElem? (i := 855) (by decide +kernel)
theorem kp_X10_house_108_10 : sh_fp mX10_house 108 10 1 .int := ⟨RX10, TX10, 35, "SillHouseModel", tyX10, rfl, by decide, uw_X10, List.mem_of_getElem? (i := 722) (by decide +kernel), rfl, tyX10_ok, nmX10, rfl, Or.inl rfl⟩
theorem kp_X10_house_111_10 : sh_fp mX10_house 111 10 2 .int := ⟨RX10, TX10, 35, "SillHouseModel", tyX10, rfl, by decide, uw_X10, List.mem_of_getElem? (i := 723) (by decide +kernel), rfl, tyX10_ok, nmX10, rfl, Or.inl rfl⟩
theorem kf_X10_7_10 : sh_fl RX10 7 10 3 := ⟨RX10, TX10, 35, "SillHouseModel", rfl, by decide, uw_X10, List.mem_of_getElem? (i := 724) (by decide +kernel), rfl⟩
theorem kf_X10_13_10 : sh_fl RX10 13 10 4 := ⟨RX10, TX10, 35, "SillHouseModel", rfl, by decide, uw_X10, List.mem_of_getElem? (i := 725) (by decide +kernel), rfl⟩
theorem kf_X10_16_10 : sh_fl RX10 16 10 5 := ⟨RX10, TX10, 35, "SillHouseModel", rfl, by decide, uw_X10, List.mem_of_getElem? (i := 726) (by decide +kernel), rfl⟩
theorem kp_X10_house_145_10 : sh_fp mX10_house 145 10 12 .int := ⟨RX10, TX10, 35, "SillHouseModel", tyX10, rfl, by decide, uw_X10, List.mem_of_getElem? (i := 733) (by decide +kernel), rfl, tyX10_ok, nmX10, rfl, Or.inl rfl⟩
theorem kp_X10_house_148_10 : sh_fp mX10_house 148 10 15 .int := ⟨RX10, TX10, 35, "SillHouseModel", tyX10, rfl, by decide, uw_X10, List.mem_of_getElem? (i := 736) (by decide +kernel), rfl, tyX10_ok, nmX10, rfl, Or.inl rfl⟩
theorem kl_X10_151 : Cond.methodLink RX10 151 yX10_asks ∈ lw_tbl := List.mem_of_getElem? (i := 883) (by decide +kernel)
theorem kl_X10_154 : Cond.methodLink RX10 154 yX10_slackOf ∈ lw_tbl := List.mem_of_getElem? (i := 887) (by decide +kernel)
theorem kl_X10_157 : Cond.methodLink RX10 157 yX10_sideIn ∈ lw_tbl := List.mem_of_getElem? (i := 953) (by decide +kernel)
theorem kl_X10_160 : Cond.methodLink RX10 160 yX10_isOpen ∈ lw_tbl := List.mem_of_getElem? (i := 965) (by decide +kernel)
theorem kl_X10_164 : Cond.methodLink RX10 164 yX10_noDoor ∈ lw_tbl := List.mem_of_getElem? (i := 879) (by decide +kernel)
theorem kf_X10_145_10 : sh_fl RX10 145 10 12 := ⟨RX10, TX10, 35, "SillHouseModel", rfl, by decide, uw_X10, List.mem_of_getElem? (i := 733) (by decide +kernel), rfl⟩
theorem kf_X10_148_10 : sh_fl RX10 148 10 15 := ⟨RX10, TX10, 35, "SillHouseModel", rfl, by decide, uw_X10, List.mem_of_getElem? (i := 736) (by decide +kernel), rfl⟩
theorem kl_X10_167 : Cond.methodLink RX10 167 yX10_noRoom ∈ lw_tbl := List.mem_of_getElem? (i := 895) (by decide +kernel)
theorem kc_X10_170 : Cond.constantLong RX10 170 (10) ∈ lw_tbl := List.mem_of_getElem? (i := 899) (by decide +kernel)
theorem kc_X10_172 : Cond.constantLong RX10 172 (99) ∈ lw_tbl := List.mem_of_getElem? (i := 900) (by decide +kernel)
theorem kf_X10_28_10 : sh_fl RX10 28 10 13 := ⟨RX10, TX10, 35, "SillHouseModel", rfl, by decide, uw_X10, List.mem_of_getElem? (i := 734) (by decide +kernel), rfl⟩
theorem kf_X10_31_10 : sh_fl RX10 31 10 14 := ⟨RX10, TX10, 35, "SillHouseModel", rfl, by decide, uw_X10, List.mem_of_getElem? (i := 735) (by decide +kernel), rfl⟩
theorem kp_X10_person_145_10 : sh_fp mX10_person 145 10 12 .int := ⟨RX10, TX10, 35, "SillHouseModel", tyX10, rfl, by decide, uw_X10, List.mem_of_getElem? (i := 733) (by decide +kernel), rfl, tyX10_ok, nmX10, rfl, Or.inl rfl⟩
theorem kc_X10_174 : Cond.constantLong RX10 174 (20) ∈ lw_tbl := List.mem_of_getElem? (i := 905) (by decide +kernel)
theorem kf_X10_34_10 : sh_fl RX10 34 10 16 := ⟨RX10, TX10, 35, "SillHouseModel", rfl, by decide, uw_X10, List.mem_of_getElem? (i := 737) (by decide +kernel), rfl⟩
theorem kf_X10_37_10 : sh_fl RX10 37 10 17 := ⟨RX10, TX10, 35, "SillHouseModel", rfl, by decide, uw_X10, List.mem_of_getElem? (i := 738) (by decide +kernel), rfl⟩
theorem kp_X10_stone_148_10 : sh_fp mX10_stone 148 10 15 .int := ⟨RX10, TX10, 35, "SillHouseModel", tyX10, rfl, by decide, uw_X10, List.mem_of_getElem? (i := 736) (by decide +kernel), rfl, tyX10_ok, nmX10, rfl, Or.inl rfl⟩
theorem kl_X10_176 : Cond.methodLink RX10 176 yX10_noPerson ∈ lw_tbl := List.mem_of_getElem? (i := 910) (by decide +kernel)
theorem kl_X10_179 : Cond.methodLink RX10 179 yX10_carriedBy ∈ lw_tbl := List.mem_of_getElem? (i := 914) (by decide +kernel)
theorem kl_X10_182 : Cond.methodLink RX10 182 yX10_withStones ∈ lw_tbl := List.mem_of_getElem? (i := 918) (by decide +kernel)
theorem kl_X10_185 : Cond.methodLink RX10 185 yX10_noStone ∈ lw_tbl := List.mem_of_getElem? (i := 926) (by decide +kernel)
theorem kl_X10_188 : Cond.methodLink RX10 188 yX10_bits ∈ lw_tbl := List.mem_of_getElem? (i := 934) (by decide +kernel)
theorem kl_X10_191 : Cond.methodLink RX10 191 yX10_roomOf ∈ lw_tbl := List.mem_of_getElem? (i := 949) (by decide +kernel)
theorem kl_X10_194 : Cond.methodLink RX10 194 yX10_partyBarred ∈ lw_tbl := List.mem_of_getElem? (i := 945) (by decide +kernel)
theorem kl_X10_197 : Cond.methodLink RX10 197 yX10_weightOfAll ∈ lw_tbl := List.mem_of_getElem? (i := 957) (by decide +kernel)
theorem kl_X10_200 : Cond.methodLink RX10 200 yX10_throughTo ∈ lw_tbl := List.mem_of_getElem? (i := 961) (by decide +kernel)
theorem kf_X10_204_10 : sh_fl RX10 204 10 20 := ⟨RX10, TX10, 35, "SillHouseModel", rfl, by decide, uw_X10, List.mem_of_getElem? (i := 741) (by decide +kernel), rfl⟩
theorem kf_X10_46_10 : sh_fl RX10 46 10 23 := ⟨RX10, TX10, 35, "SillHouseModel", rfl, by decide, uw_X10, List.mem_of_getElem? (i := 744) (by decide +kernel), rfl⟩
theorem kf_X10_40_10 : sh_fl RX10 40 10 21 := ⟨RX10, TX10, 35, "SillHouseModel", rfl, by decide, uw_X10, List.mem_of_getElem? (i := 742) (by decide +kernel), rfl⟩
theorem kf_X10_207_10 : sh_fl RX10 207 10 19 := ⟨RX10, TX10, 35, "SillHouseModel", rfl, by decide, uw_X10, List.mem_of_getElem? (i := 740) (by decide +kernel), rfl⟩
theorem kp_X10_takeState_207_10 : sh_fp mX10_takeState 207 10 19 .int := ⟨RX10, TX10, 35, "SillHouseModel", tyX10, rfl, by decide, uw_X10, List.mem_of_getElem? (i := 740) (by decide +kernel), rfl, tyX10_ok, nmX10, rfl, Or.inl rfl⟩
theorem kl_X10_210 : Cond.methodLink RX10 210 yX10_stateNow ∈ lw_tbl := List.mem_of_getElem? (i := 989) (by decide +kernel)
theorem kf_X10_59_10 : sh_fl RX10 59 10 27 := ⟨RX10, TX10, 35, "SillHouseModel", rfl, by decide, uw_X10, List.mem_of_getElem? (i := 748) (by decide +kernel), rfl⟩
theorem kf_X10_50_10 : sh_fl RX10 50 10 24 := ⟨RX10, TX10, 35, "SillHouseModel", rfl, by decide, uw_X10, List.mem_of_getElem? (i := 745) (by decide +kernel), rfl⟩
theorem kf_X10_214_10 : sh_fl RX10 214 10 28 := ⟨RX10, TX10, 35, "SillHouseModel", rfl, by decide, uw_X10, List.mem_of_getElem? (i := 749) (by decide +kernel), rfl⟩
theorem kf_X10_53_10 : sh_fl RX10 53 10 25 := ⟨RX10, TX10, 35, "SillHouseModel", rfl, by decide, uw_X10, List.mem_of_getElem? (i := 746) (by decide +kernel), rfl⟩
theorem kf_X10_56_10 : sh_fl RX10 56 10 26 := ⟨RX10, TX10, 35, "SillHouseModel", rfl, by decide, uw_X10, List.mem_of_getElem? (i := 747) (by decide +kernel), rfl⟩
theorem kp_X10_add_214_10 : sh_fp mX10_add 214 10 28 .int := ⟨RX10, TX10, 35, "SillHouseModel", tyX10, rfl, by decide, uw_X10, List.mem_of_getElem? (i := 749) (by decide +kernel), rfl, tyX10_ok, nmX10, rfl, Or.inl rfl⟩
theorem kf_X10_217_10 : sh_fl RX10 217 10 18 := ⟨RX10, TX10, 35, "SillHouseModel", rfl, by decide, uw_X10, List.mem_of_getElem? (i := 739) (by decide +kernel), rfl⟩
theorem kf_X10_43_10 : sh_fl RX10 43 10 22 := ⟨RX10, TX10, 35, "SillHouseModel", rfl, by decide, uw_X10, List.mem_of_getElem? (i := 743) (by decide +kernel), rfl⟩
theorem kl_X10_220 : Cond.methodLink RX10 220 yX10_takeState ∈ lw_tbl := List.mem_of_getElem? (i := 997) (by decide +kernel)
theorem kl_X10_224 : Cond.methodLink RX10 224 yX10_carriedNow ∈ lw_tbl := List.mem_of_getElem? (i := 1001) (by decide +kernel)
theorem kl_X10_227 : Cond.methodLink RX10 227 yX10_add ∈ lw_tbl := List.mem_of_getElem? (i := 985) (by decide +kernel)
theorem kl_X10_231 : Cond.methodLink RX10 231 yX10_weightNow ∈ lw_tbl := List.mem_of_getElem? (i := 1005) (by decide +kernel)
theorem kp_X10_spread_207_10 : sh_fp mX10_spread 207 10 19 .int := ⟨RX10, TX10, 35, "SillHouseModel", tyX10, rfl, by decide, uw_X10, List.mem_of_getElem? (i := 740) (by decide +kernel), rfl, tyX10_ok, nmX10, rfl, Or.inl rfl⟩
theorem kp_X10_goTill_214_10 : sh_fp mX10_goTill 214 10 28 .int := ⟨RX10, TX10, 35, "SillHouseModel", tyX10, rfl, by decide, uw_X10, List.mem_of_getElem? (i := 749) (by decide +kernel), rfl, tyX10_ok, nmX10, rfl, Or.inl rfl⟩
theorem kl_X10_234 : Cond.methodLink RX10 234 yX10_spread ∈ lw_tbl := List.mem_of_getElem? (i := 993) (by decide +kernel)
theorem kp_X10_fewest_217_10 : sh_fp mX10_fewest 217 10 18 .int := ⟨RX10, TX10, 35, "SillHouseModel", tyX10, rfl, by decide, uw_X10, List.mem_of_getElem? (i := 739) (by decide +kernel), rfl, tyX10_ok, nmX10, rfl, Or.inl rfl⟩
theorem kp_X10_fewest_207_10 : sh_fp mX10_fewest 207 10 19 .int := ⟨RX10, TX10, 35, "SillHouseModel", tyX10, rfl, by decide, uw_X10, List.mem_of_getElem? (i := 740) (by decide +kernel), rfl, tyX10_ok, nmX10, rfl, Or.inl rfl⟩
theorem kp_X10_fewest_204_10 : sh_fp mX10_fewest 204 10 20 .int := ⟨RX10, TX10, 35, "SillHouseModel", tyX10, rfl, by decide, uw_X10, List.mem_of_getElem? (i := 741) (by decide +kernel), rfl, tyX10_ok, nmX10, rfl, Or.inl rfl⟩
theorem kl_X10_237 : Cond.methodLink RX10 237 yX10_goTill ∈ lw_tbl := List.mem_of_getElem? (i := 981) (by decide +kernel)
theorem kf_X10_62_10 : sh_fl RX10 62 10 29 := ⟨RX10, TX10, 35, "SillHouseModel", rfl, by decide, uw_X10, List.mem_of_getElem? (i := 750) (by decide +kernel), rfl⟩
theorem kc_X10_240 : Cond.constantLong RX10 240 (999) ∈ lw_tbl := List.mem_of_getElem? (i := 1013) (by decide +kernel)
theorem kl_X10_242 : Cond.methodLink RX10 242 yX10_reachOf ∈ lw_tbl := List.mem_of_getElem? (i := 1014) (by decide +kernel)
theorem kl_X10_245 : Cond.methodLink RX10 245 yX10_comesTo ∈ lw_tbl := List.mem_of_getElem? (i := 1022) (by decide +kernel)
theorem kp_X10_goesWith_217_10 : sh_fp mX10_goesWith 217 10 18 .int := ⟨RX10, TX10, 35, "SillHouseModel", tyX10, rfl, by decide, uw_X10, List.mem_of_getElem? (i := 739) (by decide +kernel), rfl, tyX10_ok, nmX10, rfl, Or.inl rfl⟩
theorem kp_X10_goesWith_207_10 : sh_fp mX10_goesWith 207 10 19 .int := ⟨RX10, TX10, 35, "SillHouseModel", tyX10, rfl, by decide, uw_X10, List.mem_of_getElem? (i := 740) (by decide +kernel), rfl, tyX10_ok, nmX10, rfl, Or.inl rfl⟩
theorem kp_X10_goesWith_204_10 : sh_fp mX10_goesWith 204 10 20 .int := ⟨RX10, TX10, 35, "SillHouseModel", tyX10, rfl, by decide, uw_X10, List.mem_of_getElem? (i := 741) (by decide +kernel), rfl, tyX10_ok, nmX10, rfl, Or.inl rfl⟩
theorem kc_X10_248 : Cond.constantLong RX10 248 (-1) ∈ lw_tbl := List.mem_of_getElem? (i := 1030) (by decide +kernel)
theorem kl_X10_250 : Cond.methodLink RX10 250 yX10_goesWith ∈ lw_tbl := List.mem_of_getElem? (i := 1031) (by decide +kernel)
theorem kl_X10_254 : Cond.methodLink RX10 254 yX10_areDoors ∈ lw_tbl := List.mem_of_getElem? (i := 1043) (by decide +kernel)
theorem kl_X10_257 : Cond.methodLink RX10 257 yX10_passesAll ∈ lw_tbl := List.mem_of_getElem? (i := 1047) (by decide +kernel)
theorem kc_X10_261 : Cond.constantLong RX10 261 (9) ∈ lw_tbl := List.mem_of_getElem? (i := 1059) (by decide +kernel)
theorem kc_X10_263 : Cond.constantLong RX10 263 (3) ∈ lw_tbl := List.mem_of_getElem? (i := 839) (by decide +kernel)
theorem kl_X10_265 : Cond.methodLink RX10 265 yX10_noCell ∈ lw_tbl := List.mem_of_getElem? (i := 1072) (by decide +kernel)
theorem kp_X10_cell_79_10 : sh_fp mX10_cell 79 10 0 .int := ⟨RX10, TX10, 35, "SillHouseModel", tyX10, rfl, by decide, uw_X10, List.mem_of_getElem? (i := 721) (by decide +kernel), rfl, tyX10_ok, nmX10, rfl, Or.inl rfl⟩
theorem kl_X10_268 : Cond.methodLink RX10 268 yX10_failedLong ∈ lw_tbl := List.mem_of_getElem? (i := 1084) (by decide +kernel)
theorem kf_X10_74_10 : sh_fl RX10 74 10 33 := ⟨RX10, TX10, 35, "SillHouseModel", rfl, by decide, uw_X10, List.mem_of_getElem? (i := 754) (by decide +kernel), rfl⟩
theorem kf_X10_272_10 : sh_fl RX10 272 10 34 := ⟨RX10, TX10, 35, "SillHouseModel", rfl, by decide, uw_X10, List.mem_of_getElem? (i := 755) (by decide +kernel), rfl⟩
theorem kp_X10_traced_272_10 : sh_fp mX10_traced 272 10 34 .int := ⟨RX10, TX10, 35, "SillHouseModel", tyX10, rfl, by decide, uw_X10, List.mem_of_getElem? (i := 755) (by decide +kernel), rfl, tyX10_ok, nmX10, rfl, Or.inl rfl⟩
theorem kl_X10_275 : Cond.methodLink RX10 275 yX10_traced ∈ lw_tbl := List.mem_of_getElem? (i := 1096) (by decide +kernel)
theorem kf_X10_79_10 : sh_fl RX10 79 10 0 := ⟨RX10, TX10, 35, "SillHouseModel", rfl, by decide, uw_X10, List.mem_of_getElem? (i := 721) (by decide +kernel), rfl⟩
theorem kc_J6_265 : Cond.constant RJ6 265 (1431655765) ∈ lw_tbl := List.mem_of_getElem? (i := 463) (by decide +kernel)
theorem kc_J6_266 : Cond.constant RJ6 266 (858993459) ∈ lw_tbl := List.mem_of_getElem? (i := 464) (by decide +kernel)
theorem kc_J6_267 : Cond.constant RJ6 267 (252645135) ∈ lw_tbl := List.mem_of_getElem? (i := 465) (by decide +kernel)
theorem kn_L_law_7 : sh_nw mL_law 7 9 6 [.null, .null, .null, .null, .null, .int 0] := by
  refine ⟨RX9, TX9, tyX9, rfl, List.mem_of_getElem? (i := 67) (by decide +kernel), List.mem_of_getElem? (i := 68) (by decide +kernel), List.mem_of_getElem? (i := 53) (by decide +kernel), uw_X9, tyX9_ok, fun G j hj => ?_⟩
  match j, hj with
  | 0, _ => exact rfl
  | 1, _ => exact rfl
  | 2, _ => exact rfl
  | 3, _ => exact rfl
  | 4, _ => exact rfl
  | 5, _ => exact rfl
  | n + 6, h => exact absurd h (by omega)
theorem kl_L_9 : Cond.methodLink RL 9 yX9_init ∈ lw_tbl := List.mem_of_getElem? (i := 69) (by decide +kernel)
theorem kn_L_law_10 : sh_nw mL_law 10 10 35 [.int 0, .int 0, .int 0, .null, .null, .null, .int 0, .int 0, .int 0, .null, .null, .null, .int 0, .null, .null, .int 0, .null, .null, .int 0, .int 0, .int 0, .null, .null, .null, .null, .null, .null, .null, .int 0, .null, .null, .null, .null, .null, .int 0] := by
  refine ⟨RX10, TX10, tyX10, rfl, List.mem_of_getElem? (i := 715) (by decide +kernel), List.mem_of_getElem? (i := 716) (by decide +kernel), List.mem_of_getElem? (i := 59) (by decide +kernel), uw_X10, tyX10_ok, fun G j hj => ?_⟩
  match j, hj with
  | 0, _ => exact rfl
  | 1, _ => exact rfl
  | 2, _ => exact rfl
  | 3, _ => exact rfl
  | 4, _ => exact rfl
  | 5, _ => exact rfl
  | 6, _ => exact rfl
  | 7, _ => exact rfl
  | 8, _ => exact rfl
  | 9, _ => exact rfl
  | 10, _ => exact rfl
  | 11, _ => exact rfl
  | 12, _ => exact rfl
  | 13, _ => exact rfl
  | 14, _ => exact rfl
  | 15, _ => exact rfl
  | 16, _ => exact rfl
  | 17, _ => exact rfl
  | 18, _ => exact rfl
  | 19, _ => exact rfl
  | 20, _ => exact rfl
  | 21, _ => exact rfl
  | 22, _ => exact rfl
  | 23, _ => exact rfl
  | 24, _ => exact rfl
  | 25, _ => exact rfl
  | 26, _ => exact rfl
  | 27, _ => exact rfl
  | 28, _ => exact rfl
  | 29, _ => exact rfl
  | 30, _ => exact rfl
  | 31, _ => exact rfl
  | 32, _ => exact rfl
  | 33, _ => exact rfl
  | 34, _ => exact rfl
  | n + 35, h => exact absurd h (by omega)
theorem kl_L_12 : Cond.methodLink RL 12 yX10_init ∈ lw_tbl := List.mem_of_getElem? (i := 717) (by decide +kernel)
theorem kl_L_13 : Cond.methodLink RL 13 yX9_house ∈ lw_tbl := List.mem_of_getElem? (i := 214) (by decide +kernel)
theorem kl_L_17 : Cond.methodLink RL 17 yX10_house ∈ lw_tbl := List.mem_of_getElem? (i := 828) (by decide +kernel)
theorem kl_L_18 : Cond.methodLink RL 18 yX9_ofDoor ∈ lw_tbl := List.mem_of_getElem? (i := 375) (by decide +kernel)
theorem kl_L_22 : Cond.methodLink RL 22 yX10_ofDoor ∈ lw_tbl := List.mem_of_getElem? (i := 875) (by decide +kernel)
theorem kl_L_23 : Cond.methodLink RL 23 yX9_person ∈ lw_tbl := List.mem_of_getElem? (i := 401) (by decide +kernel)
theorem kl_L_26 : Cond.methodLink RL 26 yX10_person ∈ lw_tbl := List.mem_of_getElem? (i := 891) (by decide +kernel)
theorem kl_L_27 : Cond.methodLink RL 27 yX9_stone ∈ lw_tbl := List.mem_of_getElem? (i := 416) (by decide +kernel)
theorem kl_L_30 : Cond.methodLink RL 30 yX10_stone ∈ lw_tbl := List.mem_of_getElem? (i := 901) (by decide +kernel)
theorem kl_L_31 : Cond.methodLink RL 31 yX9_ofPerson ∈ lw_tbl := List.mem_of_getElem? (i := 424) (by decide +kernel)
theorem kl_L_34 : Cond.methodLink RL 34 yX10_ofPerson ∈ lw_tbl := List.mem_of_getElem? (i := 906) (by decide +kernel)
theorem kl_L_35 : Cond.methodLink RL 35 yX9_ofStone ∈ lw_tbl := List.mem_of_getElem? (i := 443) (by decide +kernel)
theorem kl_L_38 : Cond.methodLink RL 38 yX10_ofStone ∈ lw_tbl := List.mem_of_getElem? (i := 922) (by decide +kernel)
theorem kl_L_39 : Cond.methodLink RL 39 yX9_take ∈ lw_tbl := List.mem_of_getElem? (i := 451) (by decide +kernel)
theorem kl_L_42 : Cond.methodLink RL 42 yX10_take ∈ lw_tbl := List.mem_of_getElem? (i := 930) (by decide +kernel)
theorem kl_L_43 : Cond.methodLink RL 43 yX9_lay ∈ lw_tbl := List.mem_of_getElem? (i := 467) (by decide +kernel)
theorem kl_L_46 : Cond.methodLink RL 46 yX10_lay ∈ lw_tbl := List.mem_of_getElem? (i := 937) (by decide +kernel)
theorem kl_L_47 : Cond.methodLink RL 47 yX9_opens ∈ lw_tbl := List.mem_of_getElem? (i := 471) (by decide +kernel)
theorem kl_L_50 : Cond.methodLink RL 50 yX10_opens ∈ lw_tbl := List.mem_of_getElem? (i := 941) (by decide +kernel)
theorem kl_L_51 : Cond.methodLink RL 51 yX9_pass ∈ lw_tbl := List.mem_of_getElem? (i := 502) (by decide +kernel)
theorem kl_L_54 : Cond.methodLink RL 54 yX10_pass ∈ lw_tbl := List.mem_of_getElem? (i := 969) (by decide +kernel)
theorem kl_L_55 : Cond.methodLink RL 55 yX9_weigh ∈ lw_tbl := List.mem_of_getElem? (i := 511) (by decide +kernel)
theorem kl_L_58 : Cond.methodLink RL 58 yX10_weigh ∈ lw_tbl := List.mem_of_getElem? (i := 973) (by decide +kernel)
theorem kl_L_59 : Cond.methodLink RL 59 yX9_fewest ∈ lw_tbl := List.mem_of_getElem? (i := 515) (by decide +kernel)
theorem kl_L_63 : Cond.methodLink RL 63 yX10_fewest ∈ lw_tbl := List.mem_of_getElem? (i := 977) (by decide +kernel)
theorem kl_L_64 : Cond.methodLink RL 64 yX9_reach ∈ lw_tbl := List.mem_of_getElem? (i := 559) (by decide +kernel)
theorem kl_L_67 : Cond.methodLink RL 67 yX10_reach ∈ lw_tbl := List.mem_of_getElem? (i := 1009) (by decide +kernel)
theorem kl_L_68 : Cond.methodLink RL 68 yX9_strangers ∈ lw_tbl := List.mem_of_getElem? (i := 571) (by decide +kernel)
theorem kl_L_71 : Cond.methodLink RL 71 yX10_strangers ∈ lw_tbl := List.mem_of_getElem? (i := 1018) (by decide +kernel)
theorem kl_L_72 : Cond.methodLink RL 72 yX9_laid ∈ lw_tbl := List.mem_of_getElem? (i := 580) (by decide +kernel)
theorem kl_L_75 : Cond.methodLink RL 75 yX10_laid ∈ lw_tbl := List.mem_of_getElem? (i := 1026) (by decide +kernel)
theorem kl_L_76 : Cond.methodLink RL 76 yX9_guest ∈ lw_tbl := List.mem_of_getElem? (i := 591) (by decide +kernel)
theorem kl_L_79 : Cond.methodLink RL 79 yX10_guest ∈ lw_tbl := List.mem_of_getElem? (i := 1035) (by decide +kernel)
theorem kl_L_80 : Cond.methodLink RL 80 yX9_heard ∈ lw_tbl := List.mem_of_getElem? (i := 599) (by decide +kernel)
theorem kl_L_83 : Cond.methodLink RL 83 yX10_heard ∈ lw_tbl := List.mem_of_getElem? (i := 1039) (by decide +kernel)
theorem kl_L_84 : Cond.methodLink RL 84 yX9_byStrangers ∈ lw_tbl := List.mem_of_getElem? (i := 611) (by decide +kernel)
theorem kl_L_88 : Cond.methodLink RL 88 yX10_byStrangers ∈ lw_tbl := List.mem_of_getElem? (i := 1051) (by decide +kernel)
theorem kl_L_89 : Cond.methodLink RL 89 yX9_grows ∈ lw_tbl := List.mem_of_getElem? (i := 615) (by decide +kernel)
theorem kl_L_92 : Cond.methodLink RL 92 yX10_grows ∈ lw_tbl := List.mem_of_getElem? (i := 1055) (by decide +kernel)
theorem kl_L_93 : Cond.methodLink RL 93 yX9_sheet ∈ lw_tbl := List.mem_of_getElem? (i := 619) (by decide +kernel)
theorem kl_L_96 : Cond.methodLink RL 96 yX10_sheet ∈ lw_tbl := List.mem_of_getElem? (i := 1060) (by decide +kernel)
theorem kl_L_97 : Cond.methodLink RL 97 yX9_lose ∈ lw_tbl := List.mem_of_getElem? (i := 627) (by decide +kernel)
theorem kl_L_101 : Cond.methodLink RL 101 yX10_lose ∈ lw_tbl := List.mem_of_getElem? (i := 1064) (by decide +kernel)
theorem kl_L_102 : Cond.methodLink RL 102 yX9_put ∈ lw_tbl := List.mem_of_getElem? (i := 635) (by decide +kernel)
theorem kl_L_105 : Cond.methodLink RL 105 yX10_put ∈ lw_tbl := List.mem_of_getElem? (i := 1068) (by decide +kernel)
theorem kl_L_106 : Cond.methodLink RL 106 yX9_cell ∈ lw_tbl := List.mem_of_getElem? (i := 643) (by decide +kernel)
theorem kl_L_110 : Cond.methodLink RL 110 yX10_cell ∈ lw_tbl := List.mem_of_getElem? (i := 1076) (by decide +kernel)
theorem kl_L_111 : Cond.methodLink RL 111 yX9_copy ∈ lw_tbl := List.mem_of_getElem? (i := 648) (by decide +kernel)
theorem kl_L_114 : Cond.methodLink RL 114 yX10_copy ∈ lw_tbl := List.mem_of_getElem? (i := 1088) (by decide +kernel)
theorem kl_L_115 : Cond.methodLink RL 115 yX9_tell ∈ lw_tbl := List.mem_of_getElem? (i := 655) (by decide +kernel)
theorem kl_L_118 : Cond.methodLink RL 118 yX10_tell ∈ lw_tbl := List.mem_of_getElem? (i := 1092) (by decide +kernel)
theorem kl_L_119 : Cond.methodLink RL 119 yX9_ring ∈ lw_tbl := List.mem_of_getElem? (i := 685) (by decide +kernel)
theorem kl_L_122 : Cond.methodLink RL 122 yX10_ring ∈ lw_tbl := List.mem_of_getElem? (i := 1100) (by decide +kernel)
theorem kl_L_123 : Cond.methodLink RL 123 yX9_as ∈ lw_tbl := List.mem_of_getElem? (i := 698) (by decide +kernel)
theorem kl_L_126 : Cond.methodLink RL 126 yX10_as ∈ lw_tbl := List.mem_of_getElem? (i := 1104) (by decide +kernel)
theorem kl_L_127 : Cond.methodLink RL 127 yX9_trace ∈ lw_tbl := List.mem_of_getElem? (i := 703) (by decide +kernel)
theorem kl_L_131 : Cond.methodLink RL 131 yX10_trace ∈ lw_tbl := List.mem_of_getElem? (i := 1108) (by decide +kernel)
theorem kl_L_132 : Cond.methodLink RL 132 yX9_fault ∈ lw_tbl := List.mem_of_getElem? (i := 707) (by decide +kernel)
theorem kl_L_135 : Cond.methodLink RL 135 yX10_fault ∈ lw_tbl := List.mem_of_getElem? (i := 1112) (by decide +kernel)
theorem kl_L_136 : Cond.methodLink RL 136 yX9_many ∈ lw_tbl := List.mem_of_getElem? (i := 711) (by decide +kernel)
theorem kl_L_139 : Cond.methodLink RL 139 yX10_many ∈ lw_tbl := List.mem_of_getElem? (i := 1116) (by decide +kernel)
theorem ko_1 : Cond.instanceMethod objectInit ∈ lw_tbl := List.mem_of_getElem? (i := 73) (by decide +kernel)
theorem ko_2 : Cond.code objectInit ⟨#[0xb1]⟩ 1 none ∈ lw_tbl := List.mem_of_getElem? (i := 74) (by decide +kernel)
theorem kr_int : Cond.arrayClass .int ∈ lw_tbl := List.mem_of_getElem? (i := 131) (by decide +kernel)
theorem kr_long : Cond.arrayClass .long ∈ lw_tbl := List.mem_of_getElem? (i := 166) (by decide +kernel)
theorem kz_X7 : Cond.superclass RX7 RX4 ∈ lw_tbl := List.mem_of_getElem? (i := 356) (by decide +kernel)
theorem kz_X8 : Cond.superclass RX8 RX7 ∈ lw_tbl := List.mem_of_getElem? (i := 370) (by decide +kernel)
theorem kr_boolean : Cond.arrayClass .boolean ∈ lw_tbl := List.mem_of_getElem? (i := 827) (by decide +kernel)
theorem kb_1 : Cond.native arraycopyName ∈ lw_tbl := List.mem_of_getElem? (i := 654) (by decide +kernel)
theorem kb_2 : Cond.static arraycopyName ∈ lw_tbl := List.mem_of_getElem? (i := 653) (by decide +kernel)
theorem kb_3 : Cond.initialized "java/lang/System" ∈ lw_tbl := List.mem_of_getElem? (i := 66) (by decide +kernel)
theorem km_max_1 : Cond.static Lib.Math.max.name ∈ lw_tbl := List.mem_of_getElem? (i := 314) (by decide +kernel)
theorem km_max_2 : Cond.code Lib.Math.max.name Lib.Math.max.code 2 (some .int) ∈ lw_tbl := List.mem_of_getElem? (i := 315) (by decide +kernel)
theorem km_min_1 : Cond.static Lib.Math.min.name ∈ lw_tbl := List.mem_of_getElem? (i := 298) (by decide +kernel)
theorem km_min_2 : Cond.code Lib.Math.min.name Lib.Math.min.code 2 (some .int) ∈ lw_tbl := List.mem_of_getElem? (i := 299) (by decide +kernel)
theorem km_i : Cond.initialized "java/lang/Math" ∈ lw_tbl := List.mem_of_getElem? (i := 61) (by decide +kernel)
