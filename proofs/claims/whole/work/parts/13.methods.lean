abbrev mX0_init : sh_M := (RX0, yX0_init, cX0_init, 1, none, 1, 20)
abbrev mX0_placeWith : sh_M := (RX0, yX0_placeWith, cX0_placeWith, 1, (some .int), 0, 0)
abbrev mX0_leave : sh_M := (RX0, yX0_leave, cX0_leave, 1, none, 0, 0)
abbrev mX0_hasPerson : sh_M := (RX0, yX0_hasPerson, cX0_hasPerson, 2, (some .boolean), 0, 0)
abbrev mX0_hasStone : sh_M := (RX0, yX0_hasStone, cX0_hasStone, 2, (some .boolean), 0, 0)
abbrev mX0_addPerson : sh_M := (RX0, yX0_addPerson, cX0_addPerson, 3, (some .int), 0, 0)
abbrev mX0_addStone : sh_M := (RX0, yX0_addStone, cX0_addStone, 3, (some .int), 0, 0)
abbrev mX0_carriedBy : sh_M := (RX0, yX0_carriedBy, cX0_carriedBy, 4, (some .int), 1, 20)
abbrev mX0_howManyCarriedBy : sh_M := (RX0, yX0_howManyCarriedBy, cX0_howManyCarriedBy, 2, (some .int), 2, 43)
abbrev mX0_weightWithStones : sh_M := (RX0, yX0_weightWithStones, cX0_weightWithStones, 4, (some .int), 1, 20)
abbrev mX0_isParty : sh_M := (RX0, yX0_isParty, cX0_isParty, 2, (some .boolean), 0, 0)
abbrev mX0_roomOfParty : sh_M := (RX0, yX0_roomOfParty, cX0_roomOfParty, 4, (some .int), 0, 0)
abbrev mX0_weightOfParty : sh_M := (RX0, yX0_weightOfParty, cX0_weightOfParty, 4, (some .int), 2, 43)
abbrev mX0_moveParty : sh_M := (RX0, yX0_moveParty, cX0_moveParty, 4, none, 0, 0)
abbrev mX1_init : sh_M := (RX1, yX1_init, cX1_init, 1, none, 1, 20)
abbrev mX1_build : sh_M := (RX1, yX1_build, cX1_build, 3, none, 5, 118)
abbrev mX1_hasRoom : sh_M := (RX1, yX1_hasRoom, cX1_hasRoom, 2, (some .boolean), 0, 0)
abbrev mX1_hasDoor : sh_M := (RX1, yX1_hasDoor, cX1_hasDoor, 2, (some .boolean), 0, 0)
abbrev mX1_reachOf : sh_M := (RX1, yX1_reachOf, cX1_reachOf, 7, (some .int), 2, 46)
abbrev mX1_reaches : sh_M := (RX1, yX1_reaches, cX1_reaches, 4, (some .boolean), 3, 72)
abbrev mX1_through : sh_M := (RX1, yX1_through, cX1_through, 5, (some .int), 1, 22)
abbrev mX2_init : sh_M := (RX2, yX2_init, cX2_init, 1, none, 1, 20)
abbrev mX2_begin : sh_M := (RX2, yX2_begin, cX2_begin, 4, none, 0, 0)
abbrev mX2_setStone : sh_M := (RX2, yX2_setStone, cX2_setStone, 4, none, 1, 23)
abbrev mX2_finds : sh_M := (RX2, yX2_finds, cX2_finds, 4, (some .boolean), 2, 53)
abbrev mX2_howManySteps : sh_M := (RX2, yX2_howManySteps, cX2_howManySteps, 3, (some .int), 0, 0)
abbrev mX2_stepAt : sh_M := (RX2, yX2_stepAt, cX2_stepAt, 5, (some .int), 1, 22)
abbrev mX2_leaveBySteps : sh_M := (RX2, yX2_leaveBySteps, cX2_leaveBySteps, 9, none, 1, 25)
abbrev mX2_meet : sh_M := (RX2, yX2_meet, cX2_meet, 6, none, 0, 0)
abbrev mX2_forgetSeen : sh_M := (RX2, yX2_forgetSeen, cX2_forgetSeen, 2, none, 0, 0)
abbrev mX2_place : sh_M := (RX2, yX2_place, cX2_place, 2, (some .int), 0, 0)
abbrev mX2_withPlace : sh_M := (RX2, yX2_withPlace, cX2_withPlace, 4, (some .int), 0, 0)
abbrev mX3_init : sh_M := (RX3, yX3_init, cX3_init, 1, none, 1, 20)
abbrev mX3_hasNothing : sh_M := (RX3, yX3_hasNothing, cX3_hasNothing, 1, (some .boolean), 0, 0)
abbrev mX3_empty : sh_M := (RX3, yX3_empty, cX3_empty, 1, none, 0, 0)
abbrev mX3_renew : sh_M := (RX3, yX3_renew, cX3_renew, 4, none, 0, 0)
abbrev mX3_has : sh_M := (RX3, yX3_has, cX3_has, 3, (some .boolean), 0, 0)
abbrev mX3_cut : sh_M := (RX3, yX3_cut, cX3_cut, 2, (some .int), 0, 0)
abbrev mX4_init : sh_M := (RX4, yX4_init, cX4_init, 4, none, 2, 46)
abbrev mX4_init_ : sh_M := (RX4, yX4_init_, cX4_init_, 6, none, 1, 21)
abbrev mX4_kind : sh_M := (RX4, yX4_kind, cX4_kind, 1, (some .int), 0, 0)
abbrev mX4_isOf : sh_M := (RX4, yX4_isOf, cX4_isOf, 2, (some .boolean), 0, 0)
abbrev mX4_beyond : sh_M := (RX4, yX4_beyond, cX4_beyond, 3, (some .int), 0, 0)
abbrev mX4_told : sh_M := (RX4, yX4_told, cX4_told, 2, (some .int), 1, 20)
abbrev mX4_sillsTelling : sh_M := (RX4, yX4_sillsTelling, cX4_sillsTelling, 2, (some .int), 1, 21)
abbrev mX4_telling : sh_M := (RX4, yX4_telling, cX4_telling, 2, (some .int), 2, 42)
abbrev mX4_rung : sh_M := (RX4, yX4_rung, cX4_rung, 3, (some .int), 1, 21)
abbrev mX5_init : sh_M := (RX5, yX5_init, cX5_init, 4, none, 1, 20)
abbrev mX5_firstFault : sh_M := (RX5, yX5_firstFault, cX5_firstFault, 2, (some .int), 5, 105)
abbrev mX5_rooms : sh_M := (RX5, yX5_rooms, cX5_rooms, 1, (some .int), 2, 43)
abbrev mX5_doorCount : sh_M := (RX5, yX5_doorCount, cX5_doorCount, 1, (some .int), 0, 0)
abbrev mX5_door : sh_M := (RX5, yX5_door, cX5_door, 6, (some (.object "SillHouse$Sill")), 4, 93)
abbrev mX5_code : sh_M := (RX5, yX5_code, cX5_code, 3, (some .int), 0, 0)
abbrev mX5_digit : sh_M := (RX5, yX5_digit, cX5_digit, 2, (some .int), 1, 22)
abbrev mX5_isDigit : sh_M := (RX5, yX5_isDigit, cX5_isDigit, 2, (some .boolean), 1, 22)
abbrev mX5_isRoom : sh_M := (RX5, yX5_isRoom, cX5_isRoom, 2, (some .boolean), 3, 63)
abbrev mX5_goesOn : sh_M := (RX5, yX5_goesOn, cX5_goesOn, 2, (some .boolean), 4, 84)
abbrev mX5_isNought : sh_M := (RX5, yX5_isNought, cX5_isNought, 2, (some .boolean), 1, 22)
abbrev mX6_init : sh_M := (RX6, yX6_init, cX6_init, 1, none, 1, 20)
abbrev mX6_note : sh_M := (RX6, yX6_note, cX6_note, 2, none, 0, 0)
abbrev mX7_init : sh_M := (RX7, yX7_init, cX7_init, 4, none, 3, 70)
abbrev mX7_init_ : sh_M := (RX7, yX7_init_, cX7_init_, 5, none, 2, 46)
abbrev mX7_kind : sh_M := (RX7, yX7_kind, cX7_kind, 1, (some .int), 0, 0)
abbrev mX7_telling : sh_M := (RX7, yX7_telling, cX7_telling, 2, (some .int), 3, 63)
abbrev mX8_init : sh_M := (RX8, yX8_init, cX8_init, 4, none, 3, 70)
abbrev mX8_kind : sh_M := (RX8, yX8_kind, cX8_kind, 1, (some .int), 0, 0)
abbrev mX8_telling : sh_M := (RX8, yX8_telling, cX8_telling, 3, (some .int), 4, 84)
abbrev mX8_rung : sh_M := (RX8, yX8_rung, cX8_rung, 3, (some .int), 1, 21)
abbrev mX9_init : sh_M := (RX9, yX9_init, cX9_init, 2, none, 2, 40)
abbrev mX9_house : sh_M := (RX9, yX9_house, cX9_house, 8, (some .int), 6, 140)
abbrev mX9_ofDoor : sh_M := (RX9, yX9_ofDoor, cX9_ofDoor, 3, (some .int), 2, 41)
abbrev mX9_person : sh_M := (RX9, yX9_person, cX9_person, 3, (some .int), 1, 22)
abbrev mX9_stone : sh_M := (RX9, yX9_stone, cX9_stone, 3, (some .int), 1, 22)
abbrev mX9_ofPerson : sh_M := (RX9, yX9_ofPerson, cX9_ofPerson, 3, (some .int), 2, 43)
abbrev mX9_ofStone : sh_M := (RX9, yX9_ofStone, cX9_ofStone, 3, (some .int), 1, 21)
abbrev mX9_take : sh_M := (RX9, yX9_take, cX9_take, 3, (some .int), 3, 64)
abbrev mX9_lay : sh_M := (RX9, yX9_lay, cX9_lay, 3, (some .int), 3, 64)
abbrev mX9_opens : sh_M := (RX9, yX9_opens, cX9_opens, 4, (some .int), 3, 66)
abbrev mX9_pass : sh_M := (RX9, yX9_pass, cX9_pass, 5, (some .int), 4, 89)
abbrev mX9_weigh : sh_M := (RX9, yX9_weigh, cX9_weigh, 4, (some .int), 1, 21)
abbrev mX9_fewest : sh_M := (RX9, yX9_fewest, cX9_fewest, 5, (some .int), 3, 76)
abbrev mX9_reach : sh_M := (RX9, yX9_reach, cX9_reach, 3, (some .int), 3, 72)
abbrev mX9_strangers : sh_M := (RX9, yX9_strangers, cX9_strangers, 6, (some .int), 4, 95)
abbrev mX9_laid : sh_M := (RX9, yX9_laid, cX9_laid, 6, (some .int), 4, 100)
abbrev mX9_guest : sh_M := (RX9, yX9_guest, cX9_guest, 4, (some .int), 5, 119)
abbrev mX9_heard : sh_M := (RX9, yX9_heard, cX9_heard, 8, (some .int), 3, 72)
abbrev mX9_byStrangers : sh_M := (RX9, yX9_byStrangers, cX9_byStrangers, 9, (some .int), 3, 72)
abbrev mX9_grows : sh_M := (RX9, yX9_grows, cX9_grows, 5, (some .int), 4, 95)
abbrev mX9_sheet : sh_M := (RX9, yX9_sheet, cX9_sheet, 4, (some .int), 1, 23)
abbrev mX9_lose : sh_M := (RX9, yX9_lose, cX9_lose, 3, (some .int), 1, 20)
abbrev mX9_put : sh_M := (RX9, yX9_put, cX9_put, 4, (some .int), 1, 22)
abbrev mX9_cell : sh_M := (RX9, yX9_cell, cX9_cell, 4, (some .long), 2, 46)
abbrev mX9_copy : sh_M := (RX9, yX9_copy, cX9_copy, 8, (some .int), 1, 59)
abbrev mX9_tell : sh_M := (RX9, yX9_tell, cX9_tell, 2, (some .int), 5, 106)
abbrev mX9_ring : sh_M := (RX9, yX9_ring, cX9_ring, 2, (some .int), 2, 43)
abbrev mX9_as : sh_M := (RX9, yX9_as, cX9_as, 3, (some .int), 1, 21)
abbrev mX9_trace : sh_M := (RX9, yX9_trace, cX9_trace, 1, (some .int), 0, 0)
abbrev mX9_fault : sh_M := (RX9, yX9_fault, cX9_fault, 1, (some .int), 0, 0)
abbrev mX9_many : sh_M := (RX9, yX9_many, cX9_many, 2, (some .int), 0, 0)
abbrev mX9_isSheet : sh_M := (RX9, yX9_isSheet, cX9_isSheet, 1, (some .boolean), 0, 0)
abbrev mX9_isLane : sh_M := (RX9, yX9_isLane, cX9_isLane, 1, (some .boolean), 0, 0)
abbrev mX9_isPersonsWeight : sh_M := (RX9, yX9_isPersonsWeight, cX9_isPersonsWeight, 1, (some .boolean), 0, 0)
abbrev mX9_faulted : sh_M := (RX9, yX9_faulted, cX9_faulted, 2, (some .int), 0, 0)
abbrev mX9_cellsRefused : sh_M := (RX9, yX9_cellsRefused, cX9_cellsRefused, 5, (some .int), 1, 22)
abbrev mX9_doorsRefused : sh_M := (RX9, yX9_doorsRefused, cX9_doorsRefused, 7, (some .int), 2, 46)
abbrev mX9_passesAll : sh_M := (RX9, yX9_passesAll, cX9_passesAll, 8, (some .boolean), 1, 22)
abbrev mX9_comesChanged : sh_M := (RX9, yX9_comesChanged, cX9_comesChanged, 5, (some .boolean), 4, 95)
abbrev mX9_comesWith : sh_M := (RX9, yX9_comesWith, cX9_comesWith, 5, (some .boolean), 3, 76)
abbrev mX9_ofLaidRow : sh_M := (RX9, yX9_ofLaidRow, cX9_ofLaidRow, 4, (some .int), 0, 0)
abbrev mX10_init : sh_M := (RX10, yX10_init, cX10_init, 2, none, 1, 20)
abbrev mX10_in : sh_M := (RX10, yX10_in, cX10_in, 6, (some .boolean), 0, 0)
abbrev mX10_lost : sh_M := (RX10, yX10_lost, cX10_lost, 0, (some .long), 0, 0)
abbrev mX10_refused : sh_M := (RX10, yX10_refused, cX10_refused, 2, (some .int), 0, 0)
abbrev mX10_failed : sh_M := (RX10, yX10_failed, cX10_failed, 2, (some .int), 0, 0)
abbrev mX10_failedLong : sh_M := (RX10, yX10_failedLong, cX10_failedLong, 2, (some .long), 1, 19)
abbrev mX10_barred : sh_M := (RX10, yX10_barred, cX10_barred, 6, (some .int), 2, 45)
abbrev mX10_noRoom : sh_M := (RX10, yX10_noRoom, cX10_noRoom, 2, (some .boolean), 1, 25)
abbrev mX10_noDoor : sh_M := (RX10, yX10_noDoor, cX10_noDoor, 2, (some .boolean), 1, 25)
abbrev mX10_codeAt : sh_M := (RX10, yX10_codeAt, cX10_codeAt, 3, (some .int), 0, 0)
abbrev mX10_figure : sh_M := (RX10, yX10_figure, cX10_figure, 7, (some .int), 1, 25)
abbrev mX10_readsWeight : sh_M := (RX10, yX10_readsWeight, cX10_readsWeight, 6, (some .int), 2, 51)
abbrev mX10_readsDoor : sh_M := (RX10, yX10_readsDoor, cX10_readsDoor, 7, (some .boolean), 3, 76)
abbrev mX10_readsHouse : sh_M := (RX10, yX10_readsHouse, cX10_readsHouse, 4, (some .boolean), 4, 102)
abbrev mX10_house : sh_M := (RX10, yX10_house, cX10_house, 7, (some .int), 5, 125)
abbrev mX10_slackOf : sh_M := (RX10, yX10_slackOf, cX10_slackOf, 2, (some .int), 0, 0)
abbrev mX10_asks : sh_M := (RX10, yX10_asks, cX10_asks, 3, (some .int), 0, 0)
abbrev mX10_isOpen : sh_M := (RX10, yX10_isOpen, cX10_isOpen, 4, (some .boolean), 1, 25)
abbrev mX10_sideIn : sh_M := (RX10, yX10_sideIn, cX10_sideIn, 3, (some .int), 0, 0)
abbrev mX10_throughTo : sh_M := (RX10, yX10_throughTo, cX10_throughTo, 5, (some .int), 2, 48)
abbrev mX10_ofDoor : sh_M := (RX10, yX10_ofDoor, cX10_ofDoor, 4, (some .int), 2, 46)
abbrev mX10_noPerson : sh_M := (RX10, yX10_noPerson, cX10_noPerson, 2, (some .boolean), 1, 25)
abbrev mX10_noStone : sh_M := (RX10, yX10_noStone, cX10_noStone, 2, (some .boolean), 1, 25)
abbrev mX10_person : sh_M := (RX10, yX10_person, cX10_person, 3, (some .int), 2, 46)
abbrev mX10_stone : sh_M := (RX10, yX10_stone, cX10_stone, 3, (some .int), 2, 46)
abbrev mX10_carriedBy : sh_M := (RX10, yX10_carriedBy, cX10_carriedBy, 4, (some .int), 0, 0)
abbrev mX10_bits : sh_M := (RX10, yX10_bits, cX10_bits, 3, (some .int), 0, 0)
abbrev mX10_withStones : sh_M := (RX10, yX10_withStones, cX10_withStones, 4, (some .int), 0, 0)
abbrev mX10_ofPerson : sh_M := (RX10, yX10_ofPerson, cX10_ofPerson, 3, (some .int), 2, 46)
abbrev mX10_ofStone : sh_M := (RX10, yX10_ofStone, cX10_ofStone, 3, (some .int), 2, 46)
abbrev mX10_take : sh_M := (RX10, yX10_take, cX10_take, 3, (some .int), 2, 46)
abbrev mX10_lay : sh_M := (RX10, yX10_lay, cX10_lay, 3, (some .int), 2, 46)
abbrev mX10_roomOf : sh_M := (RX10, yX10_roomOf, cX10_roomOf, 5, (some .int), 0, 0)
abbrev mX10_weightOfAll : sh_M := (RX10, yX10_weightOfAll, cX10_weightOfAll, 4, (some .int), 1, 23)
abbrev mX10_partyBarred : sh_M := (RX10, yX10_partyBarred, cX10_partyBarred, 4, (some .int), 2, 46)
abbrev mX10_opens : sh_M := (RX10, yX10_opens, cX10_opens, 4, (some .int), 3, 72)
abbrev mX10_pass : sh_M := (RX10, yX10_pass, cX10_pass, 6, (some .int), 3, 72)
abbrev mX10_weigh : sh_M := (RX10, yX10_weigh, cX10_weigh, 4, (some .int), 2, 46)
abbrev mX10_stateNow : sh_M := (RX10, yX10_stateNow, cX10_stateNow, 3, (some .int), 0, 0)
abbrev mX10_takeState : sh_M := (RX10, yX10_takeState, cX10_takeState, 4, none, 0, 0)
abbrev mX10_add : sh_M := (RX10, yX10_add, cX10_add, 4, none, 1, 22)
abbrev mX10_carriedNow : sh_M := (RX10, yX10_carriedNow, cX10_carriedNow, 3, (some .int), 0, 0)
abbrev mX10_weightNow : sh_M := (RX10, yX10_weightNow, cX10_weightNow, 3, (some .int), 0, 0)
abbrev mX10_spread : sh_M := (RX10, yX10_spread, cX10_spread, 5, none, 3, 72)
abbrev mX10_goTill : sh_M := (RX10, yX10_goTill, cX10_goTill, 3, (some .int), 4, 96)
abbrev mX10_fewest : sh_M := (RX10, yX10_fewest, cX10_fewest, 6, (some .int), 5, 118)
abbrev mX10_reachOf : sh_M := (RX10, yX10_reachOf, cX10_reachOf, 8, (some .int), 2, 48)
abbrev mX10_reach : sh_M := (RX10, yX10_reach, cX10_reach, 3, (some .int), 3, 75)
abbrev mX10_comesTo : sh_M := (RX10, yX10_comesTo, cX10_comesTo, 4, (some .boolean), 3, 75)
abbrev mX10_strangers : sh_M := (RX10, yX10_strangers, cX10_strangers, 6, (some .int), 4, 98)
abbrev mX10_goesWith : sh_M := (RX10, yX10_goesWith, cX10_goesWith, 7, (some .boolean), 5, 118)
abbrev mX10_laid : sh_M := (RX10, yX10_laid, cX10_laid, 6, (some .int), 6, 144)
abbrev mX10_guest : sh_M := (RX10, yX10_guest, cX10_guest, 4, (some .int), 4, 98)
abbrev mX10_passesAll : sh_M := (RX10, yX10_passesAll, cX10_passesAll, 7, (some .boolean), 3, 72)
abbrev mX10_areDoors : sh_M := (RX10, yX10_areDoors, cX10_areDoors, 5, (some .boolean), 2, 46)
abbrev mX10_heard : sh_M := (RX10, yX10_heard, cX10_heard, 9, (some .int), 4, 98)
abbrev mX10_byStrangers : sh_M := (RX10, yX10_byStrangers, cX10_byStrangers, 10, (some .int), 4, 98)
abbrev mX10_grows : sh_M := (RX10, yX10_grows, cX10_grows, 5, (some .int), 4, 98)
abbrev mX10_noSheet : sh_M := (RX10, yX10_noSheet, cX10_noSheet, 1, (some .boolean), 1, 25)
abbrev mX10_sheet : sh_M := (RX10, yX10_sheet, cX10_sheet, 5, (some .int), 2, 45)
abbrev mX10_lose : sh_M := (RX10, yX10_lose, cX10_lose, 3, (some .int), 2, 45)
abbrev mX10_noCell : sh_M := (RX10, yX10_noCell, cX10_noCell, 3, (some .int), 1, 25)
abbrev mX10_put : sh_M := (RX10, yX10_put, cX10_put, 4, (some .int), 2, 47)
abbrev mX10_cell : sh_M := (RX10, yX10_cell, cX10_cell, 4, (some .long), 2, 47)
abbrev mX10_isBeyond : sh_M := (RX10, yX10_isBeyond, cX10_isBeyond, 4, (some .boolean), 0, 0)
abbrev mX10_copy : sh_M := (RX10, yX10_copy, cX10_copy, 7, (some .int), 2, 45)
abbrev mX10_traced : sh_M := (RX10, yX10_traced, cX10_traced, 2, none, 0, 0)
abbrev mX10_tell : sh_M := (RX10, yX10_tell, cX10_tell, 4, (some .int), 2, 46)
abbrev mX10_ring : sh_M := (RX10, yX10_ring, cX10_ring, 2, (some .int), 2, 46)
abbrev mX10_as : sh_M := (RX10, yX10_as, cX10_as, 3, (some .int), 2, 46)
abbrev mX10_trace : sh_M := (RX10, yX10_trace, cX10_trace, 1, (some .int), 0, 0)
abbrev mX10_fault : sh_M := (RX10, yX10_fault, cX10_fault, 1, (some .int), 0, 0)
abbrev mX10_many : sh_M := (RX10, yX10_many, cX10_many, 2, (some .int), 0, 0)
abbrev mJ6_bitCount_0f7a4 : sh_M := (RJ6, yJ6_bitCount_0f7a4, cJ6_bitCount_0f7a4, 1, (some .int), 0, 0)
abbrev mJ9_max_7cf53 : sh_M := (RJ9, yJ9_max_7cf53, cJ9_max_7cf53, 2, (some .int), 0, 0)
abbrev mJ9_min_7cf53 : sh_M := (RJ9, yJ9_min_7cf53, cJ9_min_7cf53, 2, (some .int), 0, 0)
abbrev mL_law : sh_M := (RL, yL_law, cL_law, 4, (some .boolean), 7, 169)
theorem uw_X0 : ∀ w ∈ u_ws RX0 TX0 6, w ∈ lw_g := by
  intro w hw
  obtain ⟨k, hk, rfl⟩ := List.mem_map.mp hw
  have hk := List.mem_range.mp hk
  match k, hk with
  | 0, _ => exact lw_g_of (w := u_lay RX0 TX0 0) (List.mem_of_getElem? (i := 118) (by decide +kernel)) rfl
  | 1, _ => exact lw_g_of (w := u_lay RX0 TX0 1) (List.mem_of_getElem? (i := 120) (by decide +kernel)) rfl
  | 2, _ => exact lw_g_of (w := u_lay RX0 TX0 2) (List.mem_of_getElem? (i := 122) (by decide +kernel)) rfl
  | 3, _ => exact lw_g_of (w := u_lay RX0 TX0 3) (List.mem_of_getElem? (i := 124) (by decide +kernel)) rfl
  | 4, _ => exact lw_g_of (w := u_lay RX0 TX0 4) (List.mem_of_getElem? (i := 126) (by decide +kernel)) rfl
  | 5, _ => exact lw_g_of (w := u_lay RX0 TX0 5) (List.mem_of_getElem? (i := 128) (by decide +kernel)) rfl
  | n + 6, h => exact absurd h (by omega)
theorem uw_X1 : ∀ w ∈ u_ws RX1 TX1 3, w ∈ lw_g := by
  intro w hw
  obtain ⟨k, hk, rfl⟩ := List.mem_map.mp hw
  have hk := List.mem_range.mp hk
  match k, hk with
  | 0, _ => exact lw_g_of (w := u_lay RX1 TX1 0) (List.mem_of_getElem? (i := 93) (by decide +kernel)) rfl
  | 1, _ => exact lw_g_of (w := u_lay RX1 TX1 1) (List.mem_of_getElem? (i := 95) (by decide +kernel)) rfl
  | 2, _ => exact lw_g_of (w := u_lay RX1 TX1 2) (List.mem_of_getElem? (i := 97) (by decide +kernel)) rfl
  | n + 3, h => exact absurd h (by omega)
theorem uw_X2 : ∀ w ∈ u_ws RX2 TX2 9, w ∈ lw_g := by
  intro w hw
  obtain ⟨k, hk, rfl⟩ := List.mem_map.mp hw
  have hk := List.mem_range.mp hk
  match k, hk with
  | 0, _ => exact lw_g_of (w := u_lay RX2 TX2 0) (List.mem_of_getElem? (i := 147) (by decide +kernel)) rfl
  | 1, _ => exact lw_g_of (w := u_lay RX2 TX2 1) (List.mem_of_getElem? (i := 149) (by decide +kernel)) rfl
  | 2, _ => exact lw_g_of (w := u_lay RX2 TX2 2) (List.mem_of_getElem? (i := 151) (by decide +kernel)) rfl
  | 3, _ => exact lw_g_of (w := u_lay RX2 TX2 3) (List.mem_of_getElem? (i := 153) (by decide +kernel)) rfl
  | 4, _ => exact lw_g_of (w := u_lay RX2 TX2 4) (List.mem_of_getElem? (i := 155) (by decide +kernel)) rfl
  | 5, _ => exact lw_g_of (w := u_lay RX2 TX2 5) (List.mem_of_getElem? (i := 157) (by decide +kernel)) rfl
  | 6, _ => exact lw_g_of (w := u_lay RX2 TX2 6) (List.mem_of_getElem? (i := 159) (by decide +kernel)) rfl
  | 7, _ => exact lw_g_of (w := u_lay RX2 TX2 7) (List.mem_of_getElem? (i := 161) (by decide +kernel)) rfl
  | 8, _ => exact lw_g_of (w := u_lay RX2 TX2 8) (List.mem_of_getElem? (i := 163) (by decide +kernel)) rfl
  | n + 9, h => exact absurd h (by omega)
theorem uw_X3 : ∀ w ∈ u_ws RX3 TX3 3, w ∈ lw_g := by
  intro w hw
  obtain ⟨k, hk, rfl⟩ := List.mem_map.mp hw
  have hk := List.mem_range.mp hk
  match k, hk with
  | 0, _ => exact lw_g_of (w := u_lay RX3 TX3 0) (List.mem_of_getElem? (i := 188) (by decide +kernel)) rfl
  | 1, _ => exact lw_g_of (w := u_lay RX3 TX3 1) (List.mem_of_getElem? (i := 190) (by decide +kernel)) rfl
  | 2, _ => exact lw_g_of (w := u_lay RX3 TX3 2) (List.mem_of_getElem? (i := 192) (by decide +kernel)) rfl
  | n + 3, h => exact absurd h (by omega)
theorem uw_X4 : ∀ w ∈ u_ws RX4 TX4 7, w ∈ lw_g := by
  intro w hw
  obtain ⟨k, hk, rfl⟩ := List.mem_map.mp hw
  have hk := List.mem_range.mp hk
  match k, hk with
  | 0, _ => exact lw_g_of (w := u_lay RX4 TX4 0) (List.mem_of_getElem? (i := 325) (by decide +kernel)) rfl
  | 1, _ => exact lw_g_of (w := u_lay RX4 TX4 1) (List.mem_of_getElem? (i := 327) (by decide +kernel)) rfl
  | 2, _ => exact lw_g_of (w := u_lay RX4 TX4 2) (List.mem_of_getElem? (i := 329) (by decide +kernel)) rfl
  | 3, _ => exact lw_g_of (w := u_lay RX4 TX4 3) (List.mem_of_getElem? (i := 331) (by decide +kernel)) rfl
  | 4, _ => exact lw_g_of (w := u_lay RX4 TX4 4) (List.mem_of_getElem? (i := 333) (by decide +kernel)) rfl
  | 5, _ => exact lw_g_of (w := u_lay RX4 TX4 5) (List.mem_of_getElem? (i := 335) (by decide +kernel)) rfl
  | 6, _ => exact lw_g_of (w := u_lay RX4 TX4 6) (List.mem_of_getElem? (i := 337) (by decide +kernel)) rfl
  | n + 7, h => exact absurd h (by omega)
theorem uw_X5 : ∀ w ∈ u_ws RX5 TX5 3, w ∈ lw_g := by
  intro w hw
  obtain ⟨k, hk, rfl⟩ := List.mem_map.mp hw
  have hk := List.mem_range.mp hk
  match k, hk with
  | 0, _ => exact lw_g_of (w := u_lay RX5 TX5 0) (List.mem_of_getElem? (i := 249) (by decide +kernel)) rfl
  | 1, _ => exact lw_g_of (w := u_lay RX5 TX5 1) (List.mem_of_getElem? (i := 251) (by decide +kernel)) rfl
  | 2, _ => exact lw_g_of (w := u_lay RX5 TX5 2) (List.mem_of_getElem? (i := 253) (by decide +kernel)) rfl
  | n + 3, h => exact absurd h (by omega)
theorem uw_X6 : ∀ w ∈ u_ws RX6 TX6 1, w ∈ lw_g := by
  intro w hw
  obtain ⟨k, hk, rfl⟩ := List.mem_map.mp hw
  have hk := List.mem_range.mp hk
  match k, hk with
  | 0, _ => exact lw_g_of (w := u_lay RX6 TX6 0) (List.mem_of_getElem? (i := 175) (by decide +kernel)) rfl
  | n + 1, h => exact absurd h (by omega)
theorem uw_X7 : ∀ w ∈ u_ws RX7 TX7 7, w ∈ lw_g := by
  intro w hw
  obtain ⟨k, hk, rfl⟩ := List.mem_map.mp hw
  have hk := List.mem_range.mp hk
  match k, hk with
  | 0, _ => exact lw_g_of (w := u_lay RX7 TX7 0) (List.mem_of_getElem? (i := 349) (by decide +kernel)) rfl
  | 1, _ => exact lw_g_of (w := u_lay RX7 TX7 1) (List.mem_of_getElem? (i := 350) (by decide +kernel)) rfl
  | 2, _ => exact lw_g_of (w := u_lay RX7 TX7 2) (List.mem_of_getElem? (i := 351) (by decide +kernel)) rfl
  | 3, _ => exact lw_g_of (w := u_lay RX7 TX7 3) (List.mem_of_getElem? (i := 352) (by decide +kernel)) rfl
  | 4, _ => exact lw_g_of (w := u_lay RX7 TX7 4) (List.mem_of_getElem? (i := 353) (by decide +kernel)) rfl
  | 5, _ => exact lw_g_of (w := u_lay RX7 TX7 5) (List.mem_of_getElem? (i := 354) (by decide +kernel)) rfl
  | 6, _ => exact lw_g_of (w := u_lay RX7 TX7 6) (List.mem_of_getElem? (i := 355) (by decide +kernel)) rfl
  | n + 7, h => exact absurd h (by omega)
theorem uw_X8 : ∀ w ∈ u_ws RX8 TX8 7, w ∈ lw_g := by
  intro w hw
  obtain ⟨k, hk, rfl⟩ := List.mem_map.mp hw
  have hk := List.mem_range.mp hk
  match k, hk with
  | 0, _ => exact lw_g_of (w := u_lay RX8 TX8 0) (List.mem_of_getElem? (i := 363) (by decide +kernel)) rfl
  | 1, _ => exact lw_g_of (w := u_lay RX8 TX8 1) (List.mem_of_getElem? (i := 364) (by decide +kernel)) rfl
  | 2, _ => exact lw_g_of (w := u_lay RX8 TX8 2) (List.mem_of_getElem? (i := 365) (by decide +kernel)) rfl
  | 3, _ => exact lw_g_of (w := u_lay RX8 TX8 3) (List.mem_of_getElem? (i := 366) (by decide +kernel)) rfl
  | 4, _ => exact lw_g_of (w := u_lay RX8 TX8 4) (List.mem_of_getElem? (i := 367) (by decide +kernel)) rfl
  | 5, _ => exact lw_g_of (w := u_lay RX8 TX8 5) (List.mem_of_getElem? (i := 368) (by decide +kernel)) rfl
  | 6, _ => exact lw_g_of (w := u_lay RX8 TX8 6) (List.mem_of_getElem? (i := 369) (by decide +kernel)) rfl
  | n + 7, h => exact absurd h (by omega)
theorem uw_X9 : ∀ w ∈ u_ws RX9 TX9 6, w ∈ lw_g := by
  intro w hw
  obtain ⟨k, hk, rfl⟩ := List.mem_map.mp hw
  have hk := List.mem_range.mp hk
  match k, hk with
  | 0, _ => exact lw_g_of (w := u_lay RX9 TX9 0) (List.mem_of_getElem? (i := 201) (by decide +kernel)) rfl
  | 1, _ => exact lw_g_of (w := u_lay RX9 TX9 1) (List.mem_of_getElem? (i := 203) (by decide +kernel)) rfl
  | 2, _ => exact lw_g_of (w := u_lay RX9 TX9 2) (List.mem_of_getElem? (i := 205) (by decide +kernel)) rfl
  | 3, _ => exact lw_g_of (w := u_lay RX9 TX9 3) (List.mem_of_getElem? (i := 207) (by decide +kernel)) rfl
  | 4, _ => exact lw_g_of (w := u_lay RX9 TX9 4) (List.mem_of_getElem? (i := 209) (by decide +kernel)) rfl
  | 5, _ => exact lw_g_of (w := u_lay RX9 TX9 5) (List.mem_of_getElem? (i := 211) (by decide +kernel)) rfl
  | n + 6, h => exact absurd h (by omega)
theorem uw_X10 : ∀ w ∈ u_ws RX10 TX10 35, w ∈ lw_g := by
  intro w hw
  obtain ⟨k, hk, rfl⟩ := List.mem_map.mp hw
  have hk := List.mem_range.mp hk
  match k, hk with
  | 0, _ => exact lw_g_of (w := u_lay RX10 TX10 0) (List.mem_of_getElem? (i := 756) (by decide +kernel)) rfl
  | 1, _ => exact lw_g_of (w := u_lay RX10 TX10 1) (List.mem_of_getElem? (i := 758) (by decide +kernel)) rfl
  | 2, _ => exact lw_g_of (w := u_lay RX10 TX10 2) (List.mem_of_getElem? (i := 760) (by decide +kernel)) rfl
  | 3, _ => exact lw_g_of (w := u_lay RX10 TX10 3) (List.mem_of_getElem? (i := 762) (by decide +kernel)) rfl
  | 4, _ => exact lw_g_of (w := u_lay RX10 TX10 4) (List.mem_of_getElem? (i := 764) (by decide +kernel)) rfl
  | 5, _ => exact lw_g_of (w := u_lay RX10 TX10 5) (List.mem_of_getElem? (i := 766) (by decide +kernel)) rfl
  | 6, _ => exact lw_g_of (w := u_lay RX10 TX10 6) (List.mem_of_getElem? (i := 768) (by decide +kernel)) rfl
  | 7, _ => exact lw_g_of (w := u_lay RX10 TX10 7) (List.mem_of_getElem? (i := 770) (by decide +kernel)) rfl
  | 8, _ => exact lw_g_of (w := u_lay RX10 TX10 8) (List.mem_of_getElem? (i := 772) (by decide +kernel)) rfl
  | 9, _ => exact lw_g_of (w := u_lay RX10 TX10 9) (List.mem_of_getElem? (i := 774) (by decide +kernel)) rfl
  | 10, _ => exact lw_g_of (w := u_lay RX10 TX10 10) (List.mem_of_getElem? (i := 776) (by decide +kernel)) rfl
  | 11, _ => exact lw_g_of (w := u_lay RX10 TX10 11) (List.mem_of_getElem? (i := 778) (by decide +kernel)) rfl
  | 12, _ => exact lw_g_of (w := u_lay RX10 TX10 12) (List.mem_of_getElem? (i := 780) (by decide +kernel)) rfl
  | 13, _ => exact lw_g_of (w := u_lay RX10 TX10 13) (List.mem_of_getElem? (i := 782) (by decide +kernel)) rfl
  | 14, _ => exact lw_g_of (w := u_lay RX10 TX10 14) (List.mem_of_getElem? (i := 784) (by decide +kernel)) rfl
  | 15, _ => exact lw_g_of (w := u_lay RX10 TX10 15) (List.mem_of_getElem? (i := 786) (by decide +kernel)) rfl
  | 16, _ => exact lw_g_of (w := u_lay RX10 TX10 16) (List.mem_of_getElem? (i := 788) (by decide +kernel)) rfl
  | 17, _ => exact lw_g_of (w := u_lay RX10 TX10 17) (List.mem_of_getElem? (i := 790) (by decide +kernel)) rfl
  | 18, _ => exact lw_g_of (w := u_lay RX10 TX10 18) (List.mem_of_getElem? (i := 792) (by decide +kernel)) rfl
  | 19, _ => exact lw_g_of (w := u_lay RX10 TX10 19) (List.mem_of_getElem? (i := 794) (by decide +kernel)) rfl
  | 20, _ => exact lw_g_of (w := u_lay RX10 TX10 20) (List.mem_of_getElem? (i := 796) (by decide +kernel)) rfl
  | 21, _ => exact lw_g_of (w := u_lay RX10 TX10 21) (List.mem_of_getElem? (i := 798) (by decide +kernel)) rfl
  | 22, _ => exact lw_g_of (w := u_lay RX10 TX10 22) (List.mem_of_getElem? (i := 800) (by decide +kernel)) rfl
  | 23, _ => exact lw_g_of (w := u_lay RX10 TX10 23) (List.mem_of_getElem? (i := 802) (by decide +kernel)) rfl
  | 24, _ => exact lw_g_of (w := u_lay RX10 TX10 24) (List.mem_of_getElem? (i := 804) (by decide +kernel)) rfl
  | 25, _ => exact lw_g_of (w := u_lay RX10 TX10 25) (List.mem_of_getElem? (i := 806) (by decide +kernel)) rfl
  | 26, _ => exact lw_g_of (w := u_lay RX10 TX10 26) (List.mem_of_getElem? (i := 808) (by decide +kernel)) rfl
  | 27, _ => exact lw_g_of (w := u_lay RX10 TX10 27) (List.mem_of_getElem? (i := 810) (by decide +kernel)) rfl
  | 28, _ => exact lw_g_of (w := u_lay RX10 TX10 28) (List.mem_of_getElem? (i := 812) (by decide +kernel)) rfl
  | 29, _ => exact lw_g_of (w := u_lay RX10 TX10 29) (List.mem_of_getElem? (i := 814) (by decide +kernel)) rfl
  | 30, _ => exact lw_g_of (w := u_lay RX10 TX10 30) (List.mem_of_getElem? (i := 816) (by decide +kernel)) rfl
  | 31, _ => exact lw_g_of (w := u_lay RX10 TX10 31) (List.mem_of_getElem? (i := 818) (by decide +kernel)) rfl
  | 32, _ => exact lw_g_of (w := u_lay RX10 TX10 32) (List.mem_of_getElem? (i := 820) (by decide +kernel)) rfl
  | 33, _ => exact lw_g_of (w := u_lay RX10 TX10 33) (List.mem_of_getElem? (i := 822) (by decide +kernel)) rfl
  | 34, _ => exact lw_g_of (w := u_lay RX10 TX10 34) (List.mem_of_getElem? (i := 824) (by decide +kernel)) rfl
  | n + 35, h => exact absurd h (by omega)
