theorem dX0_init_0 : decode cX0_init 0 = .ok (.aload_n 0, 1) := by decide +kernel
theorem dX0_init_1 : decode cX0_init 1 = .ok (.invokespecial 3, 3) := by decide +kernel
theorem dX0_init_4 : decode cX0_init 4 = .ok (.aload_n 0, 1) := by decide +kernel
theorem dX0_init_5 : decode cX0_init 5 = .ok (.iconst 4, 1) := by decide +kernel
theorem dX0_init_6 : decode cX0_init 6 = .ok (.newarray .int, 2) := by decide +kernel
theorem dX0_init_8 : decode cX0_init 8 = .ok (.putfield 9, 3) := by decide +kernel
theorem dX0_init_11 : decode cX0_init 11 = .ok (.aload_n 0, 1) := by decide +kernel
theorem dX0_init_12 : decode cX0_init 12 = .ok (.iconst 4, 1) := by decide +kernel
theorem dX0_init_13 : decode cX0_init 13 = .ok (.newarray .int, 2) := by decide +kernel
theorem dX0_init_15 : decode cX0_init 15 = .ok (.putfield 15, 3) := by decide +kernel
theorem dX0_init_18 : decode cX0_init 18 = .ok (.aload_n 0, 1) := by decide +kernel
theorem dX0_init_19 : decode cX0_init 19 = .ok (.iconst 4, 1) := by decide +kernel
theorem dX0_init_20 : decode cX0_init 20 = .ok (.newarray .int, 2) := by decide +kernel
theorem dX0_init_22 : decode cX0_init 22 = .ok (.putfield 18, 3) := by decide +kernel
theorem dX0_init_25 : decode cX0_init 25 = .ok (.aload_n 0, 1) := by decide +kernel
theorem dX0_init_26 : decode cX0_init 26 = .ok (.iconst 4, 1) := by decide +kernel
theorem dX0_init_27 : decode cX0_init 27 = .ok (.newarray .int, 2) := by decide +kernel
theorem dX0_init_29 : decode cX0_init 29 = .ok (.putfield 21, 3) := by decide +kernel
theorem dX0_init_32 : decode cX0_init 32 = .ok (.return_, 1) := by decide +kernel
theorem dX0_placeWith_0 : decode cX0_placeWith 0 = .ok (.bipush (-20), 2) := by decide +kernel
theorem dX0_placeWith_2 : decode cX0_placeWith 2 = .ok (.iload_n 0, 1) := by decide +kernel
theorem dX0_placeWith_3 : decode cX0_placeWith 3 = .ok (.isub, 1) := by decide +kernel
theorem dX0_placeWith_4 : decode cX0_placeWith 4 = .ok (.ireturn, 1) := by decide +kernel
theorem dX0_leave_0 : decode cX0_leave 0 = .ok (.aload_n 0, 1) := by decide +kernel
theorem dX0_leave_1 : decode cX0_leave 1 = .ok (.iconst 0, 1) := by decide +kernel
theorem dX0_leave_2 : decode cX0_leave 2 = .ok (.putfield 24, 3) := by decide +kernel
theorem dX0_leave_5 : decode cX0_leave 5 = .ok (.aload_n 0, 1) := by decide +kernel
theorem dX0_leave_6 : decode cX0_leave 6 = .ok (.iconst 0, 1) := by decide +kernel
theorem dX0_leave_7 : decode cX0_leave 7 = .ok (.putfield 28, 3) := by decide +kernel
theorem dX0_leave_10 : decode cX0_leave 10 = .ok (.return_, 1) := by decide +kernel
theorem dX0_hasPerson_0 : decode cX0_hasPerson 0 = .ok (.iload_n 1, 1) := by decide +kernel
theorem dX0_hasPerson_1 : decode cX0_hasPerson 1 = .ok (.ifCond .lt 15, 3) := by decide +kernel
theorem dX0_hasPerson_4 : decode cX0_hasPerson 4 = .ok (.iload_n 1, 1) := by decide +kernel
theorem dX0_hasPerson_5 : decode cX0_hasPerson 5 = .ok (.aload_n 0, 1) := by decide +kernel
theorem dX0_hasPerson_6 : decode cX0_hasPerson 6 = .ok (.getfield 24, 3) := by decide +kernel
theorem dX0_hasPerson_9 : decode cX0_hasPerson 9 = .ok (.if_icmp .ge 7, 3) := by decide +kernel
theorem dX0_hasPerson_12 : decode cX0_hasPerson 12 = .ok (.iconst 1, 1) := by decide +kernel
theorem dX0_hasPerson_13 : decode cX0_hasPerson 13 = .ok (.goto 4, 3) := by decide +kernel
theorem dX0_hasPerson_16 : decode cX0_hasPerson 16 = .ok (.iconst 0, 1) := by decide +kernel
theorem dX0_hasPerson_17 : decode cX0_hasPerson 17 = .ok (.ireturn, 1) := by decide +kernel
theorem dX0_hasStone_0 : decode cX0_hasStone 0 = .ok (.iload_n 1, 1) := by decide +kernel
theorem dX0_hasStone_1 : decode cX0_hasStone 1 = .ok (.ifCond .lt 15, 3) := by decide +kernel
theorem dX0_hasStone_4 : decode cX0_hasStone 4 = .ok (.iload_n 1, 1) := by decide +kernel
theorem dX0_hasStone_5 : decode cX0_hasStone 5 = .ok (.aload_n 0, 1) := by decide +kernel
theorem dX0_hasStone_6 : decode cX0_hasStone 6 = .ok (.getfield 28, 3) := by decide +kernel
theorem dX0_hasStone_9 : decode cX0_hasStone 9 = .ok (.if_icmp .ge 7, 3) := by decide +kernel
theorem dX0_hasStone_12 : decode cX0_hasStone 12 = .ok (.iconst 1, 1) := by decide +kernel
theorem dX0_hasStone_13 : decode cX0_hasStone 13 = .ok (.goto 4, 3) := by decide +kernel
theorem dX0_hasStone_16 : decode cX0_hasStone 16 = .ok (.iconst 0, 1) := by decide +kernel
theorem dX0_hasStone_17 : decode cX0_hasStone 17 = .ok (.ireturn, 1) := by decide +kernel
theorem dX0_addPerson_0 : decode cX0_addPerson 0 = .ok (.aload_n 0, 1) := by decide +kernel
theorem dX0_addPerson_1 : decode cX0_addPerson 1 = .ok (.getfield 9, 3) := by decide +kernel
theorem dX0_addPerson_4 : decode cX0_addPerson 4 = .ok (.aload_n 0, 1) := by decide +kernel
theorem dX0_addPerson_5 : decode cX0_addPerson 5 = .ok (.getfield 24, 3) := by decide +kernel
theorem dX0_addPerson_8 : decode cX0_addPerson 8 = .ok (.iload_n 1, 1) := by decide +kernel
theorem dX0_addPerson_9 : decode cX0_addPerson 9 = .ok (.iastore, 1) := by decide +kernel
theorem dX0_addPerson_10 : decode cX0_addPerson 10 = .ok (.aload_n 0, 1) := by decide +kernel
theorem dX0_addPerson_11 : decode cX0_addPerson 11 = .ok (.getfield 15, 3) := by decide +kernel
theorem dX0_addPerson_14 : decode cX0_addPerson 14 = .ok (.aload_n 0, 1) := by decide +kernel
theorem dX0_addPerson_15 : decode cX0_addPerson 15 = .ok (.getfield 24, 3) := by decide +kernel
theorem dX0_addPerson_18 : decode cX0_addPerson 18 = .ok (.iload_n 2, 1) := by decide +kernel
theorem dX0_addPerson_19 : decode cX0_addPerson 19 = .ok (.iastore, 1) := by decide +kernel
theorem dX0_addPerson_20 : decode cX0_addPerson 20 = .ok (.aload_n 0, 1) := by decide +kernel
theorem dX0_addPerson_21 : decode cX0_addPerson 21 = .ok (.dup, 1) := by decide +kernel
theorem dX0_addPerson_22 : decode cX0_addPerson 22 = .ok (.getfield 24, 3) := by decide +kernel
theorem dX0_addPerson_25 : decode cX0_addPerson 25 = .ok (.dup_x1, 1) := by decide +kernel
theorem dX0_addPerson_26 : decode cX0_addPerson 26 = .ok (.iconst 1, 1) := by decide +kernel
theorem dX0_addPerson_27 : decode cX0_addPerson 27 = .ok (.iadd, 1) := by decide +kernel
theorem dX0_addPerson_28 : decode cX0_addPerson 28 = .ok (.putfield 24, 3) := by decide +kernel
theorem dX0_addPerson_31 : decode cX0_addPerson 31 = .ok (.ireturn, 1) := by decide +kernel
theorem dX0_addStone_0 : decode cX0_addStone 0 = .ok (.aload_n 0, 1) := by decide +kernel
theorem dX0_addStone_1 : decode cX0_addStone 1 = .ok (.getfield 18, 3) := by decide +kernel
theorem dX0_addStone_4 : decode cX0_addStone 4 = .ok (.aload_n 0, 1) := by decide +kernel
theorem dX0_addStone_5 : decode cX0_addStone 5 = .ok (.getfield 28, 3) := by decide +kernel
theorem dX0_addStone_8 : decode cX0_addStone 8 = .ok (.iload_n 1, 1) := by decide +kernel
theorem dX0_addStone_9 : decode cX0_addStone 9 = .ok (.iastore, 1) := by decide +kernel
theorem dX0_addStone_10 : decode cX0_addStone 10 = .ok (.aload_n 0, 1) := by decide +kernel
theorem dX0_addStone_11 : decode cX0_addStone 11 = .ok (.getfield 21, 3) := by decide +kernel
theorem dX0_addStone_14 : decode cX0_addStone 14 = .ok (.aload_n 0, 1) := by decide +kernel
theorem dX0_addStone_15 : decode cX0_addStone 15 = .ok (.getfield 28, 3) := by decide +kernel
theorem dX0_addStone_18 : decode cX0_addStone 18 = .ok (.iload_n 2, 1) := by decide +kernel
theorem dX0_addStone_19 : decode cX0_addStone 19 = .ok (.iastore, 1) := by decide +kernel
theorem dX0_addStone_20 : decode cX0_addStone 20 = .ok (.aload_n 0, 1) := by decide +kernel
theorem dX0_addStone_21 : decode cX0_addStone 21 = .ok (.dup, 1) := by decide +kernel
theorem dX0_addStone_22 : decode cX0_addStone 22 = .ok (.getfield 28, 3) := by decide +kernel
theorem dX0_addStone_25 : decode cX0_addStone 25 = .ok (.dup_x1, 1) := by decide +kernel
theorem dX0_addStone_26 : decode cX0_addStone 26 = .ok (.iconst 1, 1) := by decide +kernel
theorem dX0_addStone_27 : decode cX0_addStone 27 = .ok (.iadd, 1) := by decide +kernel
theorem dX0_addStone_28 : decode cX0_addStone 28 = .ok (.putfield 28, 3) := by decide +kernel
theorem dX0_addStone_31 : decode cX0_addStone 31 = .ok (.ireturn, 1) := by decide +kernel
theorem dX0_carriedBy_0 : decode cX0_carriedBy 0 = .ok (.iconst 0, 1) := by decide +kernel
theorem dX0_carriedBy_1 : decode cX0_carriedBy 1 = .ok (.istore_n 2, 1) := by decide +kernel
theorem dX0_carriedBy_2 : decode cX0_carriedBy 2 = .ok (.iconst 0, 1) := by decide +kernel
theorem dX0_carriedBy_3 : decode cX0_carriedBy 3 = .ok (.istore_n 3, 1) := by decide +kernel
theorem dX0_carriedBy_4 : decode cX0_carriedBy 4 = .ok (.iload_n 3, 1) := by decide +kernel
theorem dX0_carriedBy_5 : decode cX0_carriedBy 5 = .ok (.aload_n 0, 1) := by decide +kernel
theorem dX0_carriedBy_6 : decode cX0_carriedBy 6 = .ok (.getfield 28, 3) := by decide +kernel
theorem dX0_carriedBy_9 : decode cX0_carriedBy 9 = .ok (.if_icmp .ge 28, 3) := by decide +kernel
theorem dX0_carriedBy_12 : decode cX0_carriedBy 12 = .ok (.aload_n 0, 1) := by decide +kernel
theorem dX0_carriedBy_13 : decode cX0_carriedBy 13 = .ok (.getfield 21, 3) := by decide +kernel
theorem dX0_carriedBy_16 : decode cX0_carriedBy 16 = .ok (.iload_n 3, 1) := by decide +kernel
theorem dX0_carriedBy_17 : decode cX0_carriedBy 17 = .ok (.iaload, 1) := by decide +kernel
theorem dX0_carriedBy_18 : decode cX0_carriedBy 18 = .ok (.iload_n 1, 1) := by decide +kernel
theorem dX0_carriedBy_19 : decode cX0_carriedBy 19 = .ok (.invokestatic 31, 3) := by decide +kernel
theorem dX0_carriedBy_22 : decode cX0_carriedBy 22 = .ok (.if_icmp .ne 9, 3) := by decide +kernel
theorem dX0_carriedBy_25 : decode cX0_carriedBy 25 = .ok (.iload_n 2, 1) := by decide +kernel
theorem dX0_carriedBy_26 : decode cX0_carriedBy 26 = .ok (.iconst 1, 1) := by decide +kernel
theorem dX0_carriedBy_27 : decode cX0_carriedBy 27 = .ok (.iload_n 3, 1) := by decide +kernel
theorem dX0_carriedBy_28 : decode cX0_carriedBy 28 = .ok (.ishl, 1) := by decide +kernel
theorem dX0_carriedBy_29 : decode cX0_carriedBy 29 = .ok (.ior, 1) := by decide +kernel
theorem dX0_carriedBy_30 : decode cX0_carriedBy 30 = .ok (.istore_n 2, 1) := by decide +kernel
theorem dX0_carriedBy_31 : decode cX0_carriedBy 31 = .ok (.iinc 3 1, 3) := by decide +kernel
theorem dX0_carriedBy_34 : decode cX0_carriedBy 34 = .ok (.goto (-30), 3) := by decide +kernel
theorem dX0_carriedBy_37 : decode cX0_carriedBy 37 = .ok (.iload_n 2, 1) := by decide +kernel
theorem dX0_carriedBy_38 : decode cX0_carriedBy 38 = .ok (.ireturn, 1) := by decide +kernel
theorem dX0_howManyCarriedBy_0 : decode cX0_howManyCarriedBy 0 = .ok (.aload_n 0, 1) := by decide +kernel
theorem dX0_howManyCarriedBy_1 : decode cX0_howManyCarriedBy 1 = .ok (.iload_n 1, 1) := by decide +kernel
theorem dX0_howManyCarriedBy_2 : decode cX0_howManyCarriedBy 2 = .ok (.invokevirtual 35, 3) := by decide +kernel
theorem dX0_howManyCarriedBy_5 : decode cX0_howManyCarriedBy 5 = .ok (.invokestatic 38, 3) := by decide +kernel
theorem dX0_howManyCarriedBy_8 : decode cX0_howManyCarriedBy 8 = .ok (.ireturn, 1) := by decide +kernel
theorem dX0_weightWithStones_0 : decode cX0_weightWithStones 0 = .ok (.aload_n 0, 1) := by decide +kernel
theorem dX0_weightWithStones_1 : decode cX0_weightWithStones 1 = .ok (.getfield 9, 3) := by decide +kernel
theorem dX0_weightWithStones_4 : decode cX0_weightWithStones 4 = .ok (.iload_n 1, 1) := by decide +kernel
theorem dX0_weightWithStones_5 : decode cX0_weightWithStones 5 = .ok (.iaload, 1) := by decide +kernel
theorem dX0_weightWithStones_6 : decode cX0_weightWithStones 6 = .ok (.istore_n 2, 1) := by decide +kernel
theorem dX0_weightWithStones_7 : decode cX0_weightWithStones 7 = .ok (.iconst 0, 1) := by decide +kernel
theorem dX0_weightWithStones_8 : decode cX0_weightWithStones 8 = .ok (.istore_n 3, 1) := by decide +kernel
theorem dX0_weightWithStones_9 : decode cX0_weightWithStones 9 = .ok (.iload_n 3, 1) := by decide +kernel
theorem dX0_weightWithStones_10 : decode cX0_weightWithStones 10 = .ok (.aload_n 0, 1) := by decide +kernel
theorem dX0_weightWithStones_11 : decode cX0_weightWithStones 11 = .ok (.getfield 28, 3) := by decide +kernel
theorem dX0_weightWithStones_14 : decode cX0_weightWithStones 14 = .ok (.if_icmp .ge 31, 3) := by decide +kernel
theorem dX0_weightWithStones_17 : decode cX0_weightWithStones 17 = .ok (.aload_n 0, 1) := by decide +kernel
theorem dX0_weightWithStones_18 : decode cX0_weightWithStones 18 = .ok (.getfield 21, 3) := by decide +kernel
theorem dX0_weightWithStones_21 : decode cX0_weightWithStones 21 = .ok (.iload_n 3, 1) := by decide +kernel
theorem dX0_weightWithStones_22 : decode cX0_weightWithStones 22 = .ok (.iaload, 1) := by decide +kernel
theorem dX0_weightWithStones_23 : decode cX0_weightWithStones 23 = .ok (.iload_n 1, 1) := by decide +kernel
theorem dX0_weightWithStones_24 : decode cX0_weightWithStones 24 = .ok (.invokestatic 31, 3) := by decide +kernel
theorem dX0_weightWithStones_27 : decode cX0_weightWithStones 27 = .ok (.if_icmp .ne 12, 3) := by decide +kernel
theorem dX0_weightWithStones_30 : decode cX0_weightWithStones 30 = .ok (.iload_n 2, 1) := by decide +kernel
theorem dX0_weightWithStones_31 : decode cX0_weightWithStones 31 = .ok (.aload_n 0, 1) := by decide +kernel
theorem dX0_weightWithStones_32 : decode cX0_weightWithStones 32 = .ok (.getfield 18, 3) := by decide +kernel
theorem dX0_weightWithStones_35 : decode cX0_weightWithStones 35 = .ok (.iload_n 3, 1) := by decide +kernel
theorem dX0_weightWithStones_36 : decode cX0_weightWithStones 36 = .ok (.iaload, 1) := by decide +kernel
theorem dX0_weightWithStones_37 : decode cX0_weightWithStones 37 = .ok (.iadd, 1) := by decide +kernel
theorem dX0_weightWithStones_38 : decode cX0_weightWithStones 38 = .ok (.istore_n 2, 1) := by decide +kernel
theorem dX0_weightWithStones_39 : decode cX0_weightWithStones 39 = .ok (.iinc 3 1, 3) := by decide +kernel
theorem dX0_weightWithStones_42 : decode cX0_weightWithStones 42 = .ok (.goto (-33), 3) := by decide +kernel
theorem dX0_weightWithStones_45 : decode cX0_weightWithStones 45 = .ok (.iload_n 2, 1) := by decide +kernel
theorem dX0_weightWithStones_46 : decode cX0_weightWithStones 46 = .ok (.ireturn, 1) := by decide +kernel
theorem dX0_isParty_0 : decode cX0_isParty 0 = .ok (.iload_n 1, 1) := by decide +kernel
theorem dX0_isParty_1 : decode cX0_isParty 1 = .ok (.ifCond .eq 16, 3) := by decide +kernel
theorem dX0_isParty_4 : decode cX0_isParty 4 = .ok (.iload_n 1, 1) := by decide +kernel
theorem dX0_isParty_5 : decode cX0_isParty 5 = .ok (.aload_n 0, 1) := by decide +kernel
theorem dX0_isParty_6 : decode cX0_isParty 6 = .ok (.getfield 24, 3) := by decide +kernel
theorem dX0_isParty_9 : decode cX0_isParty 9 = .ok (.iushr, 1) := by decide +kernel
theorem dX0_isParty_10 : decode cX0_isParty 10 = .ok (.ifCond .ne 7, 3) := by decide +kernel
theorem dX0_isParty_13 : decode cX0_isParty 13 = .ok (.iconst 1, 1) := by decide +kernel
theorem dX0_isParty_14 : decode cX0_isParty 14 = .ok (.goto 4, 3) := by decide +kernel
theorem dX0_isParty_17 : decode cX0_isParty 17 = .ok (.iconst 0, 1) := by decide +kernel
theorem dX0_isParty_18 : decode cX0_isParty 18 = .ok (.ireturn, 1) := by decide +kernel
theorem dX0_roomOfParty_0 : decode cX0_roomOfParty 0 = .ok (.iconst (-1), 1) := by decide +kernel
theorem dX0_roomOfParty_1 : decode cX0_roomOfParty 1 = .ok (.istore_n 2, 1) := by decide +kernel
theorem dX0_roomOfParty_2 : decode cX0_roomOfParty 2 = .ok (.iconst 0, 1) := by decide +kernel
theorem dX0_roomOfParty_3 : decode cX0_roomOfParty 3 = .ok (.istore_n 3, 1) := by decide +kernel
theorem dX0_roomOfParty_4 : decode cX0_roomOfParty 4 = .ok (.iload_n 3, 1) := by decide +kernel
theorem dX0_roomOfParty_5 : decode cX0_roomOfParty 5 = .ok (.aload_n 0, 1) := by decide +kernel
theorem dX0_roomOfParty_6 : decode cX0_roomOfParty 6 = .ok (.getfield 24, 3) := by decide +kernel
theorem dX0_roomOfParty_9 : decode cX0_roomOfParty 9 = .ok (.if_icmp .ge 41, 3) := by decide +kernel
theorem dX0_roomOfParty_12 : decode cX0_roomOfParty 12 = .ok (.iload_n 1, 1) := by decide +kernel
theorem dX0_roomOfParty_13 : decode cX0_roomOfParty 13 = .ok (.iconst 1, 1) := by decide +kernel
theorem dX0_roomOfParty_14 : decode cX0_roomOfParty 14 = .ok (.iload_n 3, 1) := by decide +kernel
theorem dX0_roomOfParty_15 : decode cX0_roomOfParty 15 = .ok (.ishl, 1) := by decide +kernel
theorem dX0_roomOfParty_16 : decode cX0_roomOfParty 16 = .ok (.iand, 1) := by decide +kernel
theorem dX0_roomOfParty_17 : decode cX0_roomOfParty 17 = .ok (.ifCond .eq 27, 3) := by decide +kernel
theorem dX0_roomOfParty_20 : decode cX0_roomOfParty 20 = .ok (.iload_n 2, 1) := by decide +kernel
theorem dX0_roomOfParty_21 : decode cX0_roomOfParty 21 = .ok (.iconst (-1), 1) := by decide +kernel
theorem dX0_roomOfParty_22 : decode cX0_roomOfParty 22 = .ok (.if_icmp .eq 15, 3) := by decide +kernel
theorem dX0_roomOfParty_25 : decode cX0_roomOfParty 25 = .ok (.iload_n 2, 1) := by decide +kernel
theorem dX0_roomOfParty_26 : decode cX0_roomOfParty 26 = .ok (.aload_n 0, 1) := by decide +kernel
theorem dX0_roomOfParty_27 : decode cX0_roomOfParty 27 = .ok (.getfield 15, 3) := by decide +kernel
theorem dX0_roomOfParty_30 : decode cX0_roomOfParty 30 = .ok (.iload_n 3, 1) := by decide +kernel
theorem dX0_roomOfParty_31 : decode cX0_roomOfParty 31 = .ok (.iaload, 1) := by decide +kernel
theorem dX0_roomOfParty_32 : decode cX0_roomOfParty 32 = .ok (.if_icmp .eq 5, 3) := by decide +kernel
theorem dX0_roomOfParty_35 : decode cX0_roomOfParty 35 = .ok (.iconst (-1), 1) := by decide +kernel
theorem dX0_roomOfParty_36 : decode cX0_roomOfParty 36 = .ok (.ireturn, 1) := by decide +kernel
theorem dX0_roomOfParty_37 : decode cX0_roomOfParty 37 = .ok (.aload_n 0, 1) := by decide +kernel
theorem dX0_roomOfParty_38 : decode cX0_roomOfParty 38 = .ok (.getfield 15, 3) := by decide +kernel
theorem dX0_roomOfParty_41 : decode cX0_roomOfParty 41 = .ok (.iload_n 3, 1) := by decide +kernel
theorem dX0_roomOfParty_42 : decode cX0_roomOfParty 42 = .ok (.iaload, 1) := by decide +kernel
theorem dX0_roomOfParty_43 : decode cX0_roomOfParty 43 = .ok (.istore_n 2, 1) := by decide +kernel
theorem dX0_roomOfParty_44 : decode cX0_roomOfParty 44 = .ok (.iinc 3 1, 3) := by decide +kernel
theorem dX0_roomOfParty_47 : decode cX0_roomOfParty 47 = .ok (.goto (-43), 3) := by decide +kernel
theorem dX0_roomOfParty_50 : decode cX0_roomOfParty 50 = .ok (.iload_n 2, 1) := by decide +kernel
theorem dX0_roomOfParty_51 : decode cX0_roomOfParty 51 = .ok (.ireturn, 1) := by decide +kernel
theorem dX0_weightOfParty_0 : decode cX0_weightOfParty 0 = .ok (.iconst 0, 1) := by decide +kernel
theorem dX0_weightOfParty_1 : decode cX0_weightOfParty 1 = .ok (.istore_n 2, 1) := by decide +kernel
theorem dX0_weightOfParty_2 : decode cX0_weightOfParty 2 = .ok (.iconst 0, 1) := by decide +kernel
theorem dX0_weightOfParty_3 : decode cX0_weightOfParty 3 = .ok (.istore_n 3, 1) := by decide +kernel
theorem dX0_weightOfParty_4 : decode cX0_weightOfParty 4 = .ok (.iload_n 3, 1) := by decide +kernel
theorem dX0_weightOfParty_5 : decode cX0_weightOfParty 5 = .ok (.aload_n 0, 1) := by decide +kernel
theorem dX0_weightOfParty_6 : decode cX0_weightOfParty 6 = .ok (.getfield 24, 3) := by decide +kernel
theorem dX0_weightOfParty_9 : decode cX0_weightOfParty 9 = .ok (.if_icmp .ge 25, 3) := by decide +kernel
theorem dX0_weightOfParty_12 : decode cX0_weightOfParty 12 = .ok (.iload_n 1, 1) := by decide +kernel
theorem dX0_weightOfParty_13 : decode cX0_weightOfParty 13 = .ok (.iconst 1, 1) := by decide +kernel
theorem dX0_weightOfParty_14 : decode cX0_weightOfParty 14 = .ok (.iload_n 3, 1) := by decide +kernel
theorem dX0_weightOfParty_15 : decode cX0_weightOfParty 15 = .ok (.ishl, 1) := by decide +kernel
theorem dX0_weightOfParty_16 : decode cX0_weightOfParty 16 = .ok (.iand, 1) := by decide +kernel
theorem dX0_weightOfParty_17 : decode cX0_weightOfParty 17 = .ok (.ifCond .eq 11, 3) := by decide +kernel
theorem dX0_weightOfParty_20 : decode cX0_weightOfParty 20 = .ok (.iload_n 2, 1) := by decide +kernel
theorem dX0_weightOfParty_21 : decode cX0_weightOfParty 21 = .ok (.aload_n 0, 1) := by decide +kernel
theorem dX0_weightOfParty_22 : decode cX0_weightOfParty 22 = .ok (.iload_n 3, 1) := by decide +kernel
theorem dX0_weightOfParty_23 : decode cX0_weightOfParty 23 = .ok (.invokevirtual 43, 3) := by decide +kernel
theorem dX0_weightOfParty_26 : decode cX0_weightOfParty 26 = .ok (.iadd, 1) := by decide +kernel
theorem dX0_weightOfParty_27 : decode cX0_weightOfParty 27 = .ok (.istore_n 2, 1) := by decide +kernel
theorem dX0_weightOfParty_28 : decode cX0_weightOfParty 28 = .ok (.iinc 3 1, 3) := by decide +kernel
theorem dX0_weightOfParty_31 : decode cX0_weightOfParty 31 = .ok (.goto (-27), 3) := by decide +kernel
theorem dX0_weightOfParty_34 : decode cX0_weightOfParty 34 = .ok (.iload_n 2, 1) := by decide +kernel
theorem dX0_weightOfParty_35 : decode cX0_weightOfParty 35 = .ok (.ireturn, 1) := by decide +kernel
theorem dX0_moveParty_0 : decode cX0_moveParty 0 = .ok (.iconst 0, 1) := by decide +kernel
theorem dX0_moveParty_1 : decode cX0_moveParty 1 = .ok (.istore_n 3, 1) := by decide +kernel
theorem dX0_moveParty_2 : decode cX0_moveParty 2 = .ok (.iload_n 3, 1) := by decide +kernel
theorem dX0_moveParty_3 : decode cX0_moveParty 3 = .ok (.aload_n 0, 1) := by decide +kernel
theorem dX0_moveParty_4 : decode cX0_moveParty 4 = .ok (.getfield 24, 3) := by decide +kernel
theorem dX0_moveParty_7 : decode cX0_moveParty 7 = .ok (.if_icmp .ge 24, 3) := by decide +kernel
theorem dX0_moveParty_10 : decode cX0_moveParty 10 = .ok (.iload_n 1, 1) := by decide +kernel
theorem dX0_moveParty_11 : decode cX0_moveParty 11 = .ok (.iconst 1, 1) := by decide +kernel
theorem dX0_moveParty_12 : decode cX0_moveParty 12 = .ok (.iload_n 3, 1) := by decide +kernel
theorem dX0_moveParty_13 : decode cX0_moveParty 13 = .ok (.ishl, 1) := by decide +kernel
theorem dX0_moveParty_14 : decode cX0_moveParty 14 = .ok (.iand, 1) := by decide +kernel
theorem dX0_moveParty_15 : decode cX0_moveParty 15 = .ok (.ifCond .eq 10, 3) := by decide +kernel
theorem dX0_moveParty_18 : decode cX0_moveParty 18 = .ok (.aload_n 0, 1) := by decide +kernel
theorem dX0_moveParty_19 : decode cX0_moveParty 19 = .ok (.getfield 15, 3) := by decide +kernel
theorem dX0_moveParty_22 : decode cX0_moveParty 22 = .ok (.iload_n 3, 1) := by decide +kernel
theorem dX0_moveParty_23 : decode cX0_moveParty 23 = .ok (.iload_n 2, 1) := by decide +kernel
theorem dX0_moveParty_24 : decode cX0_moveParty 24 = .ok (.iastore, 1) := by decide +kernel
theorem dX0_moveParty_25 : decode cX0_moveParty 25 = .ok (.iinc 3 1, 3) := by decide +kernel
theorem dX0_moveParty_28 : decode cX0_moveParty 28 = .ok (.goto (-26), 3) := by decide +kernel
theorem dX0_moveParty_31 : decode cX0_moveParty 31 = .ok (.return_, 1) := by decide +kernel
theorem dX1_init_0 : decode cX1_init 0 = .ok (.aload_n 0, 1) := by decide +kernel
theorem dX1_init_1 : decode cX1_init 1 = .ok (.invokespecial 3, 3) := by decide +kernel
theorem dX1_init_4 : decode cX1_init 4 = .ok (.aload_n 0, 1) := by decide +kernel
theorem dX1_init_5 : decode cX1_init 5 = .ok (.bipush 8, 2) := by decide +kernel
theorem dX1_init_7 : decode cX1_init 7 = .ok (.anewarray 9, 3) := by decide +kernel
theorem dX1_init_10 : decode cX1_init 10 = .ok (.putfield 11, 3) := by decide +kernel
theorem dX1_init_13 : decode cX1_init 13 = .ok (.return_, 1) := by decide +kernel
theorem dX1_build_0 : decode cX1_build 0 = .ok (.aload_n 0, 1) := by decide +kernel
theorem dX1_build_1 : decode cX1_build 1 = .ok (.aload_n 1, 1) := by decide +kernel
theorem dX1_build_2 : decode cX1_build 2 = .ok (.invokevirtual 17, 3) := by decide +kernel
theorem dX1_build_5 : decode cX1_build 5 = .ok (.putfield 23, 3) := by decide +kernel
theorem dX1_build_8 : decode cX1_build 8 = .ok (.aload_n 0, 1) := by decide +kernel
theorem dX1_build_9 : decode cX1_build 9 = .ok (.aload_n 1, 1) := by decide +kernel
theorem dX1_build_10 : decode cX1_build 10 = .ok (.invokevirtual 26, 3) := by decide +kernel
theorem dX1_build_13 : decode cX1_build 13 = .ok (.bipush 8, 2) := by decide +kernel
theorem dX1_build_15 : decode cX1_build 15 = .ok (.invokestatic 29, 3) := by decide +kernel
theorem dX1_build_18 : decode cX1_build 18 = .ok (.putfield 35, 3) := by decide +kernel
theorem dX1_build_21 : decode cX1_build 21 = .ok (.iconst 0, 1) := by decide +kernel
theorem dX1_build_22 : decode cX1_build 22 = .ok (.istore_n 2, 1) := by decide +kernel
theorem dX1_build_23 : decode cX1_build 23 = .ok (.iload_n 2, 1) := by decide +kernel
theorem dX1_build_24 : decode cX1_build 24 = .ok (.aload_n 0, 1) := by decide +kernel
theorem dX1_build_25 : decode cX1_build 25 = .ok (.getfield 35, 3) := by decide +kernel
theorem dX1_build_28 : decode cX1_build 28 = .ok (.if_icmp .ge 20, 3) := by decide +kernel
theorem dX1_build_31 : decode cX1_build 31 = .ok (.aload_n 0, 1) := by decide +kernel
theorem dX1_build_32 : decode cX1_build 32 = .ok (.getfield 11, 3) := by decide +kernel
theorem dX1_build_35 : decode cX1_build 35 = .ok (.iload_n 2, 1) := by decide +kernel
theorem dX1_build_36 : decode cX1_build 36 = .ok (.aload_n 1, 1) := by decide +kernel
theorem dX1_build_37 : decode cX1_build 37 = .ok (.iload_n 2, 1) := by decide +kernel
theorem dX1_build_38 : decode cX1_build 38 = .ok (.invokevirtual 37, 3) := by decide +kernel
theorem dX1_build_41 : decode cX1_build 41 = .ok (.aastore, 1) := by decide +kernel
theorem dX1_build_42 : decode cX1_build 42 = .ok (.iinc 2 1, 3) := by decide +kernel
theorem dX1_build_45 : decode cX1_build 45 = .ok (.goto (-22), 3) := by decide +kernel
theorem dX1_build_48 : decode cX1_build 48 = .ok (.return_, 1) := by decide +kernel
theorem dX1_hasRoom_0 : decode cX1_hasRoom 0 = .ok (.iload_n 1, 1) := by decide +kernel
theorem dX1_hasRoom_1 : decode cX1_hasRoom 1 = .ok (.ifCond .lt 15, 3) := by decide +kernel
theorem dX1_hasRoom_4 : decode cX1_hasRoom 4 = .ok (.iload_n 1, 1) := by decide +kernel
theorem dX1_hasRoom_5 : decode cX1_hasRoom 5 = .ok (.aload_n 0, 1) := by decide +kernel
theorem dX1_hasRoom_6 : decode cX1_hasRoom 6 = .ok (.getfield 23, 3) := by decide +kernel
theorem dX1_hasRoom_9 : decode cX1_hasRoom 9 = .ok (.if_icmp .ge 7, 3) := by decide +kernel
theorem dX1_hasRoom_12 : decode cX1_hasRoom 12 = .ok (.iconst 1, 1) := by decide +kernel
theorem dX1_hasRoom_13 : decode cX1_hasRoom 13 = .ok (.goto 4, 3) := by decide +kernel
theorem dX1_hasRoom_16 : decode cX1_hasRoom 16 = .ok (.iconst 0, 1) := by decide +kernel
theorem dX1_hasRoom_17 : decode cX1_hasRoom 17 = .ok (.ireturn, 1) := by decide +kernel
theorem dX1_hasDoor_0 : decode cX1_hasDoor 0 = .ok (.iload_n 1, 1) := by decide +kernel
theorem dX1_hasDoor_1 : decode cX1_hasDoor 1 = .ok (.ifCond .lt 15, 3) := by decide +kernel
theorem dX1_hasDoor_4 : decode cX1_hasDoor 4 = .ok (.iload_n 1, 1) := by decide +kernel
theorem dX1_hasDoor_5 : decode cX1_hasDoor 5 = .ok (.aload_n 0, 1) := by decide +kernel
theorem dX1_hasDoor_6 : decode cX1_hasDoor 6 = .ok (.getfield 35, 3) := by decide +kernel
theorem dX1_hasDoor_9 : decode cX1_hasDoor 9 = .ok (.if_icmp .ge 7, 3) := by decide +kernel
theorem dX1_hasDoor_12 : decode cX1_hasDoor 12 = .ok (.iconst 1, 1) := by decide +kernel
theorem dX1_hasDoor_13 : decode cX1_hasDoor 13 = .ok (.goto 4, 3) := by decide +kernel
theorem dX1_hasDoor_16 : decode cX1_hasDoor 16 = .ok (.iconst 0, 1) := by decide +kernel
theorem dX1_hasDoor_17 : decode cX1_hasDoor 17 = .ok (.ireturn, 1) := by decide +kernel
theorem dX1_reachOf_0 : decode cX1_reachOf 0 = .ok (.iconst 1, 1) := by decide +kernel
theorem dX1_reachOf_1 : decode cX1_reachOf 1 = .ok (.iload_n 2, 1) := by decide +kernel
theorem dX1_reachOf_2 : decode cX1_reachOf 2 = .ok (.ishl, 1) := by decide +kernel
theorem dX1_reachOf_3 : decode cX1_reachOf 3 = .ok (.istore_n 3, 1) := by decide +kernel
theorem dX1_reachOf_4 : decode cX1_reachOf 4 = .ok (.iconst 0, 1) := by decide +kernel
theorem dX1_reachOf_5 : decode cX1_reachOf 5 = .ok (.istore 4, 2) := by decide +kernel
theorem dX1_reachOf_7 : decode cX1_reachOf 7 = .ok (.iload 4, 2) := by decide +kernel
theorem dX1_reachOf_9 : decode cX1_reachOf 9 = .ok (.aload_n 0, 1) := by decide +kernel
theorem dX1_reachOf_10 : decode cX1_reachOf 10 = .ok (.getfield 23, 3) := by decide +kernel
theorem dX1_reachOf_13 : decode cX1_reachOf 13 = .ok (.if_icmp .ge 88, 3) := by decide +kernel
theorem dX1_reachOf_16 : decode cX1_reachOf 16 = .ok (.iload_n 3, 1) := by decide +kernel
theorem dX1_reachOf_17 : decode cX1_reachOf 17 = .ok (.istore 5, 2) := by decide +kernel
theorem dX1_reachOf_19 : decode cX1_reachOf 19 = .ok (.iconst 0, 1) := by decide +kernel
theorem dX1_reachOf_20 : decode cX1_reachOf 20 = .ok (.istore 6, 2) := by decide +kernel
theorem dX1_reachOf_22 : decode cX1_reachOf 22 = .ok (.iload 6, 2) := by decide +kernel
theorem dX1_reachOf_24 : decode cX1_reachOf 24 = .ok (.aload_n 0, 1) := by decide +kernel
theorem dX1_reachOf_25 : decode cX1_reachOf 25 = .ok (.getfield 35, 3) := by decide +kernel
theorem dX1_reachOf_28 : decode cX1_reachOf 28 = .ok (.if_icmp .ge 59, 3) := by decide +kernel
theorem dX1_reachOf_31 : decode cX1_reachOf 31 = .ok (.iload_n 3, 1) := by decide +kernel
theorem dX1_reachOf_32 : decode cX1_reachOf 32 = .ok (.aload_n 0, 1) := by decide +kernel
theorem dX1_reachOf_33 : decode cX1_reachOf 33 = .ok (.getfield 11, 3) := by decide +kernel
theorem dX1_reachOf_36 : decode cX1_reachOf 36 = .ok (.iload 6, 2) := by decide +kernel
theorem dX1_reachOf_38 : decode cX1_reachOf 38 = .ok (.aaload, 1) := by decide +kernel
theorem dX1_reachOf_39 : decode cX1_reachOf 39 = .ok (.aload_n 0, 1) := by decide +kernel
theorem dX1_reachOf_40 : decode cX1_reachOf 40 = .ok (.getfield 11, 3) := by decide +kernel
theorem dX1_reachOf_43 : decode cX1_reachOf 43 = .ok (.iload 6, 2) := by decide +kernel
theorem dX1_reachOf_45 : decode cX1_reachOf 45 = .ok (.aaload, 1) := by decide +kernel
theorem dX1_reachOf_46 : decode cX1_reachOf 46 = .ok (.getfield 41, 3) := by decide +kernel
theorem dX1_reachOf_49 : decode cX1_reachOf 49 = .ok (.iload_n 1, 1) := by decide +kernel
theorem dX1_reachOf_50 : decode cX1_reachOf 50 = .ok (.iload_n 3, 1) := by decide +kernel
theorem dX1_reachOf_51 : decode cX1_reachOf 51 = .ok (.invokestatic 44, 3) := by decide +kernel
theorem dX1_reachOf_54 : decode cX1_reachOf 54 = .ok (.ior, 1) := by decide +kernel
theorem dX1_reachOf_55 : decode cX1_reachOf 55 = .ok (.istore_n 3, 1) := by decide +kernel
theorem dX1_reachOf_56 : decode cX1_reachOf 56 = .ok (.iload_n 3, 1) := by decide +kernel
theorem dX1_reachOf_57 : decode cX1_reachOf 57 = .ok (.aload_n 0, 1) := by decide +kernel
theorem dX1_reachOf_58 : decode cX1_reachOf 58 = .ok (.getfield 11, 3) := by decide +kernel
theorem dX1_reachOf_61 : decode cX1_reachOf 61 = .ok (.iload 6, 2) := by decide +kernel
theorem dX1_reachOf_63 : decode cX1_reachOf 63 = .ok (.aaload, 1) := by decide +kernel
theorem dX1_reachOf_64 : decode cX1_reachOf 64 = .ok (.aload_n 0, 1) := by decide +kernel
theorem dX1_reachOf_65 : decode cX1_reachOf 65 = .ok (.getfield 11, 3) := by decide +kernel
theorem dX1_reachOf_68 : decode cX1_reachOf 68 = .ok (.iload 6, 2) := by decide +kernel
theorem dX1_reachOf_70 : decode cX1_reachOf 70 = .ok (.aaload, 1) := by decide +kernel
theorem dX1_reachOf_71 : decode cX1_reachOf 71 = .ok (.getfield 48, 3) := by decide +kernel
theorem dX1_reachOf_74 : decode cX1_reachOf 74 = .ok (.iload_n 1, 1) := by decide +kernel
theorem dX1_reachOf_75 : decode cX1_reachOf 75 = .ok (.iload_n 3, 1) := by decide +kernel
theorem dX1_reachOf_76 : decode cX1_reachOf 76 = .ok (.invokestatic 44, 3) := by decide +kernel
theorem dX1_reachOf_79 : decode cX1_reachOf 79 = .ok (.ior, 1) := by decide +kernel
theorem dX1_reachOf_80 : decode cX1_reachOf 80 = .ok (.istore_n 3, 1) := by decide +kernel
theorem dX1_reachOf_81 : decode cX1_reachOf 81 = .ok (.iinc 6 1, 3) := by decide +kernel
theorem dX1_reachOf_84 : decode cX1_reachOf 84 = .ok (.goto (-62), 3) := by decide +kernel
theorem dX1_reachOf_87 : decode cX1_reachOf 87 = .ok (.iload_n 3, 1) := by decide +kernel
theorem dX1_reachOf_88 : decode cX1_reachOf 88 = .ok (.iload 5, 2) := by decide +kernel
theorem dX1_reachOf_90 : decode cX1_reachOf 90 = .ok (.if_icmp .ne 5, 3) := by decide +kernel
theorem dX1_reachOf_93 : decode cX1_reachOf 93 = .ok (.iload_n 3, 1) := by decide +kernel
theorem dX1_reachOf_94 : decode cX1_reachOf 94 = .ok (.ireturn, 1) := by decide +kernel
theorem dX1_reachOf_95 : decode cX1_reachOf 95 = .ok (.iinc 4 1, 3) := by decide +kernel
theorem dX1_reachOf_98 : decode cX1_reachOf 98 = .ok (.goto (-91), 3) := by decide +kernel
theorem dX1_reachOf_101 : decode cX1_reachOf 101 = .ok (.iload_n 3, 1) := by decide +kernel
theorem dX1_reachOf_102 : decode cX1_reachOf 102 = .ok (.ireturn, 1) := by decide +kernel
theorem dX1_reaches_0 : decode cX1_reaches 0 = .ok (.aload_n 0, 1) := by decide +kernel
theorem dX1_reaches_1 : decode cX1_reaches 1 = .ok (.iload_n 1, 1) := by decide +kernel
theorem dX1_reaches_2 : decode cX1_reaches 2 = .ok (.iload_n 2, 1) := by decide +kernel
theorem dX1_reaches_3 : decode cX1_reaches 3 = .ok (.invokevirtual 51, 3) := by decide +kernel
theorem dX1_reaches_6 : decode cX1_reaches 6 = .ok (.iconst 1, 1) := by decide +kernel
theorem dX1_reaches_7 : decode cX1_reaches 7 = .ok (.iload_n 3, 1) := by decide +kernel
theorem dX1_reaches_8 : decode cX1_reaches 8 = .ok (.ishl, 1) := by decide +kernel
theorem dX1_reaches_9 : decode cX1_reaches 9 = .ok (.iand, 1) := by decide +kernel
theorem dX1_reaches_10 : decode cX1_reaches 10 = .ok (.ifCond .eq 7, 3) := by decide +kernel
theorem dX1_reaches_13 : decode cX1_reaches 13 = .ok (.iconst 1, 1) := by decide +kernel
theorem dX1_reaches_14 : decode cX1_reaches 14 = .ok (.goto 4, 3) := by decide +kernel
theorem dX1_reaches_17 : decode cX1_reaches 17 = .ok (.iconst 0, 1) := by decide +kernel
theorem dX1_reaches_18 : decode cX1_reaches 18 = .ok (.ireturn, 1) := by decide +kernel
theorem dX1_through_0 : decode cX1_through 0 = .ok (.aload_n 0, 1) := by decide +kernel
theorem dX1_through_1 : decode cX1_through 1 = .ok (.iload_n 1, 1) := by decide +kernel
theorem dX1_through_2 : decode cX1_through 2 = .ok (.iload_n 2, 1) := by decide +kernel
theorem dX1_through_3 : decode cX1_through 3 = .ok (.invokevirtual 54, 3) := by decide +kernel
theorem dX1_through_6 : decode cX1_through 6 = .ok (.istore 4, 2) := by decide +kernel
theorem dX1_through_8 : decode cX1_through 8 = .ok (.iload_n 3, 1) := by decide +kernel
theorem dX1_through_9 : decode cX1_through 9 = .ok (.iconst 1, 1) := by decide +kernel
theorem dX1_through_10 : decode cX1_through 10 = .ok (.iload_n 1, 1) := by decide +kernel
theorem dX1_through_11 : decode cX1_through 11 = .ok (.ishl, 1) := by decide +kernel
theorem dX1_through_12 : decode cX1_through 12 = .ok (.iand, 1) := by decide +kernel
theorem dX1_through_13 : decode cX1_through 13 = .ok (.ifCond .eq 9, 3) := by decide +kernel
theorem dX1_through_16 : decode cX1_through 16 = .ok (.iload 4, 2) := by decide +kernel
theorem dX1_through_18 : decode cX1_through 18 = .ok (.iconst (-1), 1) := by decide +kernel
theorem dX1_through_19 : decode cX1_through 19 = .ok (.if_icmp .ne 7, 3) := by decide +kernel
theorem dX1_through_22 : decode cX1_through 22 = .ok (.iconst 0, 1) := by decide +kernel
theorem dX1_through_23 : decode cX1_through 23 = .ok (.goto 7, 3) := by decide +kernel
theorem dX1_through_26 : decode cX1_through 26 = .ok (.iconst 1, 1) := by decide +kernel
theorem dX1_through_27 : decode cX1_through 27 = .ok (.iload 4, 2) := by decide +kernel
theorem dX1_through_29 : decode cX1_through 29 = .ok (.ishl, 1) := by decide +kernel
theorem dX1_through_30 : decode cX1_through 30 = .ok (.ireturn, 1) := by decide +kernel
theorem dX2_init_0 : decode cX2_init 0 = .ok (.aload_n 0, 1) := by decide +kernel
theorem dX2_init_1 : decode cX2_init 1 = .ok (.invokespecial 5, 3) := by decide +kernel
theorem dX2_init_4 : decode cX2_init 4 = .ok (.aload_n 0, 1) := by decide +kernel
theorem dX2_init_5 : decode cX2_init 5 = .ok (.sipush 14406, 3) := by decide +kernel
theorem dX2_init_8 : decode cX2_init 8 = .ok (.newarray .int, 2) := by decide +kernel
theorem dX2_init_10 : decode cX2_init 10 = .ok (.putfield 11, 3) := by decide +kernel
theorem dX2_init_13 : decode cX2_init 13 = .ok (.aload_n 0, 1) := by decide +kernel
theorem dX2_init_14 : decode cX2_init 14 = .ok (.sipush 14406, 3) := by decide +kernel
theorem dX2_init_17 : decode cX2_init 17 = .ok (.newarray .int, 2) := by decide +kernel
theorem dX2_init_19 : decode cX2_init 19 = .ok (.putfield 15, 3) := by decide +kernel
theorem dX2_init_22 : decode cX2_init 22 = .ok (.aload_n 0, 1) := by decide +kernel
theorem dX2_init_23 : decode cX2_init 23 = .ok (.sipush 384, 3) := by decide +kernel
theorem dX2_init_26 : decode cX2_init 26 = .ok (.newarray .long, 2) := by decide +kernel
theorem dX2_init_28 : decode cX2_init 28 = .ok (.putfield 18, 3) := by decide +kernel
theorem dX2_init_31 : decode cX2_init 31 = .ok (.aload_n 0, 1) := by decide +kernel
theorem dX2_init_32 : decode cX2_init 32 = .ok (.iconst 4, 1) := by decide +kernel
theorem dX2_init_33 : decode cX2_init 33 = .ok (.newarray .int, 2) := by decide +kernel
theorem dX2_init_35 : decode cX2_init 35 = .ok (.putfield 22, 3) := by decide +kernel
theorem dX2_init_38 : decode cX2_init 38 = .ok (.return_, 1) := by decide +kernel
theorem dX2_begin_0 : decode cX2_begin 0 = .ok (.aload_n 0, 1) := by decide +kernel
theorem dX2_begin_1 : decode cX2_begin 1 = .ok (.iload_n 1, 1) := by decide +kernel
theorem dX2_begin_2 : decode cX2_begin 2 = .ok (.putfield 25, 3) := by decide +kernel
theorem dX2_begin_5 : decode cX2_begin 5 = .ok (.aload_n 0, 1) := by decide +kernel
theorem dX2_begin_6 : decode cX2_begin 6 = .ok (.iload_n 2, 1) := by decide +kernel
theorem dX2_begin_7 : decode cX2_begin 7 = .ok (.bipush 12, 2) := by decide +kernel
theorem dX2_begin_9 : decode cX2_begin 9 = .ok (.ishl, 1) := by decide +kernel
theorem dX2_begin_10 : decode cX2_begin 10 = .ok (.putfield 29, 3) := by decide +kernel
theorem dX2_begin_13 : decode cX2_begin 13 = .ok (.iconst 0, 1) := by decide +kernel
theorem dX2_begin_14 : decode cX2_begin 14 = .ok (.istore_n 3, 1) := by decide +kernel
theorem dX2_begin_15 : decode cX2_begin 15 = .ok (.iload_n 3, 1) := by decide +kernel
theorem dX2_begin_16 : decode cX2_begin 16 = .ok (.iconst 4, 1) := by decide +kernel
theorem dX2_begin_17 : decode cX2_begin 17 = .ok (.if_icmp .ge 31, 3) := by decide +kernel
theorem dX2_begin_20 : decode cX2_begin 20 = .ok (.aload_n 0, 1) := by decide +kernel
theorem dX2_begin_21 : decode cX2_begin 21 = .ok (.dup, 1) := by decide +kernel
theorem dX2_begin_22 : decode cX2_begin 22 = .ok (.getfield 29, 3) := by decide +kernel
theorem dX2_begin_25 : decode cX2_begin 25 = .ok (.bipush 7, 2) := by decide +kernel
theorem dX2_begin_27 : decode cX2_begin 27 = .ok (.iconst 3, 1) := by decide +kernel
theorem dX2_begin_28 : decode cX2_begin 28 = .ok (.iload_n 3, 1) := by decide +kernel
theorem dX2_begin_29 : decode cX2_begin 29 = .ok (.imul, 1) := by decide +kernel
theorem dX2_begin_30 : decode cX2_begin 30 = .ok (.ishl, 1) := by decide +kernel
theorem dX2_begin_31 : decode cX2_begin 31 = .ok (.ior, 1) := by decide +kernel
theorem dX2_begin_32 : decode cX2_begin 32 = .ok (.putfield 29, 3) := by decide +kernel
theorem dX2_begin_35 : decode cX2_begin 35 = .ok (.aload_n 0, 1) := by decide +kernel
theorem dX2_begin_36 : decode cX2_begin 36 = .ok (.getfield 22, 3) := by decide +kernel
theorem dX2_begin_39 : decode cX2_begin 39 = .ok (.iload_n 3, 1) := by decide +kernel
theorem dX2_begin_40 : decode cX2_begin 40 = .ok (.iconst 0, 1) := by decide +kernel
theorem dX2_begin_41 : decode cX2_begin 41 = .ok (.iastore, 1) := by decide +kernel
theorem dX2_begin_42 : decode cX2_begin 42 = .ok (.iinc 3 1, 3) := by decide +kernel
theorem dX2_begin_45 : decode cX2_begin 45 = .ok (.goto (-30), 3) := by decide +kernel
theorem dX2_begin_48 : decode cX2_begin 48 = .ok (.return_, 1) := by decide +kernel
theorem dX2_setStone_0 : decode cX2_setStone 0 = .ok (.aload_n 0, 1) := by decide +kernel
theorem dX2_setStone_1 : decode cX2_setStone 1 = .ok (.getfield 22, 3) := by decide +kernel
theorem dX2_setStone_4 : decode cX2_setStone 4 = .ok (.iload_n 1, 1) := by decide +kernel
theorem dX2_setStone_5 : decode cX2_setStone 5 = .ok (.iload_n 2, 1) := by decide +kernel
theorem dX2_setStone_6 : decode cX2_setStone 6 = .ok (.iastore, 1) := by decide +kernel
theorem dX2_setStone_7 : decode cX2_setStone 7 = .ok (.aload_n 0, 1) := by decide +kernel
theorem dX2_setStone_8 : decode cX2_setStone 8 = .ok (.aload_n 0, 1) := by decide +kernel
theorem dX2_setStone_9 : decode cX2_setStone 9 = .ok (.getfield 29, 3) := by decide +kernel
theorem dX2_setStone_12 : decode cX2_setStone 12 = .ok (.iload_n 1, 1) := by decide +kernel
theorem dX2_setStone_13 : decode cX2_setStone 13 = .ok (.iload_n 3, 1) := by decide +kernel
theorem dX2_setStone_14 : decode cX2_setStone 14 = .ok (.invokestatic 32, 3) := by decide +kernel
theorem dX2_setStone_17 : decode cX2_setStone 17 = .ok (.putfield 29, 3) := by decide +kernel
theorem dX2_setStone_20 : decode cX2_setStone 20 = .ok (.return_, 1) := by decide +kernel
theorem dX2_finds_0 : decode cX2_finds 0 = .ok (.aload_n 0, 1) := by decide +kernel
theorem dX2_finds_1 : decode cX2_finds 1 = .ok (.iload_n 2, 1) := by decide +kernel
theorem dX2_finds_2 : decode cX2_finds 2 = .ok (.putfield 36, 3) := by decide +kernel
theorem dX2_finds_5 : decode cX2_finds 5 = .ok (.aload_n 0, 1) := by decide +kernel
theorem dX2_finds_6 : decode cX2_finds 6 = .ok (.iconst (-1), 1) := by decide +kernel
theorem dX2_finds_7 : decode cX2_finds 7 = .ok (.putfield 39, 3) := by decide +kernel
theorem dX2_finds_10 : decode cX2_finds 10 = .ok (.aload_n 0, 1) := by decide +kernel
theorem dX2_finds_11 : decode cX2_finds 11 = .ok (.iconst 0, 1) := by decide +kernel
theorem dX2_finds_12 : decode cX2_finds 12 = .ok (.putfield 42, 3) := by decide +kernel
theorem dX2_finds_15 : decode cX2_finds 15 = .ok (.aload_n 0, 1) := by decide +kernel
theorem dX2_finds_16 : decode cX2_finds 16 = .ok (.aload_n 0, 1) := by decide +kernel
theorem dX2_finds_17 : decode cX2_finds 17 = .ok (.getfield 29, 3) := by decide +kernel
theorem dX2_finds_20 : decode cX2_finds 20 = .ok (.iconst 0, 1) := by decide +kernel
theorem dX2_finds_21 : decode cX2_finds 21 = .ok (.iconst 0, 1) := by decide +kernel
theorem dX2_finds_22 : decode cX2_finds 22 = .ok (.invokevirtual 45, 3) := by decide +kernel
theorem dX2_finds_25 : decode cX2_finds 25 = .ok (.iconst 0, 1) := by decide +kernel
theorem dX2_finds_26 : decode cX2_finds 26 = .ok (.istore_n 3, 1) := by decide +kernel
theorem dX2_finds_27 : decode cX2_finds 27 = .ok (.iload_n 3, 1) := by decide +kernel
theorem dX2_finds_28 : decode cX2_finds 28 = .ok (.sipush 14406, 3) := by decide +kernel
theorem dX2_finds_31 : decode cX2_finds 31 = .ok (.if_icmp .ge 31, 3) := by decide +kernel
theorem dX2_finds_34 : decode cX2_finds 34 = .ok (.iload_n 3, 1) := by decide +kernel
theorem dX2_finds_35 : decode cX2_finds 35 = .ok (.aload_n 0, 1) := by decide +kernel
theorem dX2_finds_36 : decode cX2_finds 36 = .ok (.getfield 42, 3) := by decide +kernel
theorem dX2_finds_39 : decode cX2_finds 39 = .ok (.if_icmp .ge 23, 3) := by decide +kernel
theorem dX2_finds_42 : decode cX2_finds 42 = .ok (.aload_n 0, 1) := by decide +kernel
theorem dX2_finds_43 : decode cX2_finds 43 = .ok (.getfield 39, 3) := by decide +kernel
theorem dX2_finds_46 : decode cX2_finds 46 = .ok (.iconst (-1), 1) := by decide +kernel
theorem dX2_finds_47 : decode cX2_finds 47 = .ok (.if_icmp .ne 15, 3) := by decide +kernel
theorem dX2_finds_50 : decode cX2_finds 50 = .ok (.aload_n 0, 1) := by decide +kernel
theorem dX2_finds_51 : decode cX2_finds 51 = .ok (.aload_n 1, 1) := by decide +kernel
theorem dX2_finds_52 : decode cX2_finds 52 = .ok (.iload_n 3, 1) := by decide +kernel
theorem dX2_finds_53 : decode cX2_finds 53 = .ok (.invokevirtual 49, 3) := by decide +kernel
theorem dX2_finds_56 : decode cX2_finds 56 = .ok (.iinc 3 1, 3) := by decide +kernel
theorem dX2_finds_59 : decode cX2_finds 59 = .ok (.goto (-32), 3) := by decide +kernel
theorem dX2_finds_62 : decode cX2_finds 62 = .ok (.aload_n 0, 1) := by decide +kernel
theorem dX2_finds_63 : decode cX2_finds 63 = .ok (.invokevirtual 53, 3) := by decide +kernel
theorem dX2_finds_66 : decode cX2_finds 66 = .ok (.aload_n 0, 1) := by decide +kernel
theorem dX2_finds_67 : decode cX2_finds 67 = .ok (.getfield 39, 3) := by decide +kernel
theorem dX2_finds_70 : decode cX2_finds 70 = .ok (.iconst (-1), 1) := by decide +kernel
theorem dX2_finds_71 : decode cX2_finds 71 = .ok (.if_icmp .eq 7, 3) := by decide +kernel
theorem dX2_finds_74 : decode cX2_finds 74 = .ok (.iconst 1, 1) := by decide +kernel
theorem dX2_finds_75 : decode cX2_finds 75 = .ok (.goto 4, 3) := by decide +kernel
theorem dX2_finds_78 : decode cX2_finds 78 = .ok (.iconst 0, 1) := by decide +kernel
theorem dX2_finds_79 : decode cX2_finds 79 = .ok (.ireturn, 1) := by decide +kernel
theorem dX2_howManySteps_0 : decode cX2_howManySteps 0 = .ok (.iconst 0, 1) := by decide +kernel
theorem dX2_howManySteps_1 : decode cX2_howManySteps 1 = .ok (.istore_n 1, 1) := by decide +kernel
theorem dX2_howManySteps_2 : decode cX2_howManySteps 2 = .ok (.aload_n 0, 1) := by decide +kernel
theorem dX2_howManySteps_3 : decode cX2_howManySteps 3 = .ok (.getfield 39, 3) := by decide +kernel
theorem dX2_howManySteps_6 : decode cX2_howManySteps 6 = .ok (.istore_n 2, 1) := by decide +kernel
theorem dX2_howManySteps_7 : decode cX2_howManySteps 7 = .ok (.iload_n 2, 1) := by decide +kernel
theorem dX2_howManySteps_8 : decode cX2_howManySteps 8 = .ok (.ifCond .le 25, 3) := by decide +kernel
theorem dX2_howManySteps_11 : decode cX2_howManySteps 11 = .ok (.iload_n 1, 1) := by decide +kernel
theorem dX2_howManySteps_12 : decode cX2_howManySteps 12 = .ok (.sipush 14406, 3) := by decide +kernel
theorem dX2_howManySteps_15 : decode cX2_howManySteps 15 = .ok (.if_icmp .ge 18, 3) := by decide +kernel
theorem dX2_howManySteps_18 : decode cX2_howManySteps 18 = .ok (.iinc 1 1, 3) := by decide +kernel
theorem dX2_howManySteps_21 : decode cX2_howManySteps 21 = .ok (.aload_n 0, 1) := by decide +kernel
theorem dX2_howManySteps_22 : decode cX2_howManySteps 22 = .ok (.getfield 15, 3) := by decide +kernel
theorem dX2_howManySteps_25 : decode cX2_howManySteps 25 = .ok (.iload_n 2, 1) := by decide +kernel
theorem dX2_howManySteps_26 : decode cX2_howManySteps 26 = .ok (.iaload, 1) := by decide +kernel
theorem dX2_howManySteps_27 : decode cX2_howManySteps 27 = .ok (.iconst 5, 1) := by decide +kernel
theorem dX2_howManySteps_28 : decode cX2_howManySteps 28 = .ok (.ishr, 1) := by decide +kernel
theorem dX2_howManySteps_29 : decode cX2_howManySteps 29 = .ok (.istore_n 2, 1) := by decide +kernel
theorem dX2_howManySteps_30 : decode cX2_howManySteps 30 = .ok (.goto (-23), 3) := by decide +kernel
theorem dX2_howManySteps_33 : decode cX2_howManySteps 33 = .ok (.iload_n 1, 1) := by decide +kernel
theorem dX2_howManySteps_34 : decode cX2_howManySteps 34 = .ok (.ireturn, 1) := by decide +kernel
theorem dX2_stepAt_0 : decode cX2_stepAt 0 = .ok (.aload_n 0, 1) := by decide +kernel
theorem dX2_stepAt_1 : decode cX2_stepAt 1 = .ok (.invokevirtual 56, 3) := by decide +kernel
theorem dX2_stepAt_4 : decode cX2_stepAt 4 = .ok (.istore_n 2, 1) := by decide +kernel
theorem dX2_stepAt_5 : decode cX2_stepAt 5 = .ok (.iload_n 1, 1) := by decide +kernel
theorem dX2_stepAt_6 : decode cX2_stepAt 6 = .ok (.ifCond .lt 8, 3) := by decide +kernel
theorem dX2_stepAt_9 : decode cX2_stepAt 9 = .ok (.iload_n 1, 1) := by decide +kernel
theorem dX2_stepAt_10 : decode cX2_stepAt 10 = .ok (.iload_n 2, 1) := by decide +kernel
theorem dX2_stepAt_11 : decode cX2_stepAt 11 = .ok (.if_icmp .lt 6, 3) := by decide +kernel
theorem dX2_stepAt_14 : decode cX2_stepAt 14 = .ok (.bipush (-9), 2) := by decide +kernel
theorem dX2_stepAt_16 : decode cX2_stepAt 16 = .ok (.ireturn, 1) := by decide +kernel
theorem dX2_stepAt_17 : decode cX2_stepAt 17 = .ok (.aload_n 0, 1) := by decide +kernel
theorem dX2_stepAt_18 : decode cX2_stepAt 18 = .ok (.getfield 39, 3) := by decide +kernel
theorem dX2_stepAt_21 : decode cX2_stepAt 21 = .ok (.istore_n 3, 1) := by decide +kernel
theorem dX2_stepAt_22 : decode cX2_stepAt 22 = .ok (.iload_n 2, 1) := by decide +kernel
theorem dX2_stepAt_23 : decode cX2_stepAt 23 = .ok (.iconst 1, 1) := by decide +kernel
theorem dX2_stepAt_24 : decode cX2_stepAt 24 = .ok (.isub, 1) := by decide +kernel
theorem dX2_stepAt_25 : decode cX2_stepAt 25 = .ok (.istore 4, 2) := by decide +kernel
theorem dX2_stepAt_27 : decode cX2_stepAt 27 = .ok (.iload 4, 2) := by decide +kernel
theorem dX2_stepAt_29 : decode cX2_stepAt 29 = .ok (.iload_n 1, 1) := by decide +kernel
theorem dX2_stepAt_30 : decode cX2_stepAt 30 = .ok (.if_icmp .le 18, 3) := by decide +kernel
theorem dX2_stepAt_33 : decode cX2_stepAt 33 = .ok (.aload_n 0, 1) := by decide +kernel
theorem dX2_stepAt_34 : decode cX2_stepAt 34 = .ok (.getfield 15, 3) := by decide +kernel
theorem dX2_stepAt_37 : decode cX2_stepAt 37 = .ok (.iload_n 3, 1) := by decide +kernel
theorem dX2_stepAt_38 : decode cX2_stepAt 38 = .ok (.iaload, 1) := by decide +kernel
theorem dX2_stepAt_39 : decode cX2_stepAt 39 = .ok (.iconst 5, 1) := by decide +kernel
theorem dX2_stepAt_40 : decode cX2_stepAt 40 = .ok (.ishr, 1) := by decide +kernel
theorem dX2_stepAt_41 : decode cX2_stepAt 41 = .ok (.istore_n 3, 1) := by decide +kernel
theorem dX2_stepAt_42 : decode cX2_stepAt 42 = .ok (.iinc 4 (-1), 3) := by decide +kernel
theorem dX2_stepAt_45 : decode cX2_stepAt 45 = .ok (.goto (-18), 3) := by decide +kernel
theorem dX2_stepAt_48 : decode cX2_stepAt 48 = .ok (.aload_n 0, 1) := by decide +kernel
theorem dX2_stepAt_49 : decode cX2_stepAt 49 = .ok (.getfield 15, 3) := by decide +kernel
theorem dX2_stepAt_52 : decode cX2_stepAt 52 = .ok (.iload_n 3, 1) := by decide +kernel
theorem dX2_stepAt_53 : decode cX2_stepAt 53 = .ok (.iaload, 1) := by decide +kernel
theorem dX2_stepAt_54 : decode cX2_stepAt 54 = .ok (.bipush 31, 2) := by decide +kernel
theorem dX2_stepAt_56 : decode cX2_stepAt 56 = .ok (.iand, 1) := by decide +kernel
theorem dX2_stepAt_57 : decode cX2_stepAt 57 = .ok (.ireturn, 1) := by decide +kernel
theorem dX2_leaveBySteps_0 : decode cX2_leaveBySteps 0 = .ok (.aload_n 0, 1) := by decide +kernel
theorem dX2_leaveBySteps_1 : decode cX2_leaveBySteps 1 = .ok (.getfield 11, 3) := by decide +kernel
theorem dX2_leaveBySteps_4 : decode cX2_leaveBySteps 4 = .ok (.iload_n 2, 1) := by decide +kernel
theorem dX2_leaveBySteps_5 : decode cX2_leaveBySteps 5 = .ok (.iaload, 1) := by decide +kernel
theorem dX2_leaveBySteps_6 : decode cX2_leaveBySteps 6 = .ok (.istore_n 3, 1) := by decide +kernel
theorem dX2_leaveBySteps_7 : decode cX2_leaveBySteps 7 = .ok (.iload_n 3, 1) := by decide +kernel
theorem dX2_leaveBySteps_8 : decode cX2_leaveBySteps 8 = .ok (.bipush 12, 2) := by decide +kernel
theorem dX2_leaveBySteps_10 : decode cX2_leaveBySteps 10 = .ok (.ishr, 1) := by decide +kernel
theorem dX2_leaveBySteps_11 : decode cX2_leaveBySteps 11 = .ok (.istore 4, 2) := by decide +kernel
theorem dX2_leaveBySteps_13 : decode cX2_leaveBySteps 13 = .ok (.aload_n 0, 1) := by decide +kernel
theorem dX2_leaveBySteps_14 : decode cX2_leaveBySteps 14 = .ok (.getfield 25, 3) := by decide +kernel
theorem dX2_leaveBySteps_17 : decode cX2_leaveBySteps 17 = .ok (.istore 5, 2) := by decide +kernel
theorem dX2_leaveBySteps_19 : decode cX2_leaveBySteps 19 = .ok (.iconst 0, 1) := by decide +kernel
theorem dX2_leaveBySteps_20 : decode cX2_leaveBySteps 20 = .ok (.istore 6, 2) := by decide +kernel
theorem dX2_leaveBySteps_22 : decode cX2_leaveBySteps 22 = .ok (.iconst 0, 1) := by decide +kernel
theorem dX2_leaveBySteps_23 : decode cX2_leaveBySteps 23 = .ok (.istore 7, 2) := by decide +kernel
theorem dX2_leaveBySteps_25 : decode cX2_leaveBySteps 25 = .ok (.iload 7, 2) := by decide +kernel
theorem dX2_leaveBySteps_27 : decode cX2_leaveBySteps 27 = .ok (.iconst 4, 1) := by decide +kernel
theorem dX2_leaveBySteps_28 : decode cX2_leaveBySteps 28 = .ok (.if_icmp .ge 35, 3) := by decide +kernel
theorem dX2_leaveBySteps_31 : decode cX2_leaveBySteps 31 = .ok (.iload_n 3, 1) := by decide +kernel
theorem dX2_leaveBySteps_32 : decode cX2_leaveBySteps 32 = .ok (.iload 7, 2) := by decide +kernel
theorem dX2_leaveBySteps_34 : decode cX2_leaveBySteps 34 = .ok (.invokestatic 60, 3) := by decide +kernel
theorem dX2_leaveBySteps_37 : decode cX2_leaveBySteps 37 = .ok (.bipush 6, 2) := by decide +kernel
theorem dX2_leaveBySteps_39 : decode cX2_leaveBySteps 39 = .ok (.if_icmp .ne 18, 3) := by decide +kernel
theorem dX2_leaveBySteps_42 : decode cX2_leaveBySteps 42 = .ok (.iload 5, 2) := by decide +kernel
theorem dX2_leaveBySteps_44 : decode cX2_leaveBySteps 44 = .ok (.aload_n 0, 1) := by decide +kernel
theorem dX2_leaveBySteps_45 : decode cX2_leaveBySteps 45 = .ok (.getfield 22, 3) := by decide +kernel
theorem dX2_leaveBySteps_48 : decode cX2_leaveBySteps 48 = .ok (.iload 7, 2) := by decide +kernel
theorem dX2_leaveBySteps_50 : decode cX2_leaveBySteps 50 = .ok (.iaload, 1) := by decide +kernel
theorem dX2_leaveBySteps_51 : decode cX2_leaveBySteps 51 = .ok (.iadd, 1) := by decide +kernel
theorem dX2_leaveBySteps_52 : decode cX2_leaveBySteps 52 = .ok (.istore 5, 2) := by decide +kernel
theorem dX2_leaveBySteps_54 : decode cX2_leaveBySteps 54 = .ok (.iinc 6 1, 3) := by decide +kernel
theorem dX2_leaveBySteps_57 : decode cX2_leaveBySteps 57 = .ok (.iinc 7 1, 3) := by decide +kernel
theorem dX2_leaveBySteps_60 : decode cX2_leaveBySteps 60 = .ok (.goto (-35), 3) := by decide +kernel
theorem dX2_leaveBySteps_63 : decode cX2_leaveBySteps 63 = .ok (.iconst 0, 1) := by decide +kernel
theorem dX2_leaveBySteps_64 : decode cX2_leaveBySteps 64 = .ok (.istore 7, 2) := by decide +kernel
theorem dX2_leaveBySteps_66 : decode cX2_leaveBySteps 66 = .ok (.iload 7, 2) := by decide +kernel
theorem dX2_leaveBySteps_68 : decode cX2_leaveBySteps 68 = .ok (.iconst 4, 1) := by decide +kernel
theorem dX2_leaveBySteps_69 : decode cX2_leaveBySteps 69 = .ok (.if_icmp .ge 41, 3) := by decide +kernel
theorem dX2_leaveBySteps_72 : decode cX2_leaveBySteps 72 = .ok (.iload 6, 2) := by decide +kernel
theorem dX2_leaveBySteps_74 : decode cX2_leaveBySteps 74 = .ok (.iconst 2, 1) := by decide +kernel
theorem dX2_leaveBySteps_75 : decode cX2_leaveBySteps 75 = .ok (.if_icmp .ge 35, 3) := by decide +kernel
theorem dX2_leaveBySteps_78 : decode cX2_leaveBySteps 78 = .ok (.iload_n 3, 1) := by decide +kernel
theorem dX2_leaveBySteps_79 : decode cX2_leaveBySteps 79 = .ok (.iload 7, 2) := by decide +kernel
theorem dX2_leaveBySteps_81 : decode cX2_leaveBySteps 81 = .ok (.invokestatic 60, 3) := by decide +kernel
theorem dX2_leaveBySteps_84 : decode cX2_leaveBySteps 84 = .ok (.iload 4, 2) := by decide +kernel
theorem dX2_leaveBySteps_86 : decode cX2_leaveBySteps 86 = .ok (.if_icmp .ne 18, 3) := by decide +kernel
theorem dX2_leaveBySteps_89 : decode cX2_leaveBySteps 89 = .ok (.aload_n 0, 1) := by decide +kernel
theorem dX2_leaveBySteps_90 : decode cX2_leaveBySteps 90 = .ok (.iload_n 3, 1) := by decide +kernel
theorem dX2_leaveBySteps_91 : decode cX2_leaveBySteps 91 = .ok (.iload 7, 2) := by decide +kernel
theorem dX2_leaveBySteps_93 : decode cX2_leaveBySteps 93 = .ok (.bipush 6, 2) := by decide +kernel
theorem dX2_leaveBySteps_95 : decode cX2_leaveBySteps 95 = .ok (.invokestatic 32, 3) := by decide +kernel
theorem dX2_leaveBySteps_98 : decode cX2_leaveBySteps 98 = .ok (.iload_n 2, 1) := by decide +kernel
theorem dX2_leaveBySteps_99 : decode cX2_leaveBySteps 99 = .ok (.iload 7, 2) := by decide +kernel
theorem dX2_leaveBySteps_101 : decode cX2_leaveBySteps 101 = .ok (.invokevirtual 45, 3) := by decide +kernel
theorem dX2_leaveBySteps_104 : decode cX2_leaveBySteps 104 = .ok (.iinc 7 1, 3) := by decide +kernel
theorem dX2_leaveBySteps_107 : decode cX2_leaveBySteps 107 = .ok (.goto (-41), 3) := by decide +kernel
theorem dX2_leaveBySteps_110 : decode cX2_leaveBySteps 110 = .ok (.iconst 0, 1) := by decide +kernel
theorem dX2_leaveBySteps_111 : decode cX2_leaveBySteps 111 = .ok (.istore 7, 2) := by decide +kernel
theorem dX2_leaveBySteps_113 : decode cX2_leaveBySteps 113 = .ok (.iload 7, 2) := by decide +kernel
theorem dX2_leaveBySteps_115 : decode cX2_leaveBySteps 115 = .ok (.iconst 4, 1) := by decide +kernel
theorem dX2_leaveBySteps_116 : decode cX2_leaveBySteps 116 = .ok (.if_icmp .ge 43, 3) := by decide +kernel
theorem dX2_leaveBySteps_119 : decode cX2_leaveBySteps 119 = .ok (.iload 6, 2) := by decide +kernel
theorem dX2_leaveBySteps_121 : decode cX2_leaveBySteps 121 = .ok (.ifCond .le 38, 3) := by decide +kernel
theorem dX2_leaveBySteps_124 : decode cX2_leaveBySteps 124 = .ok (.iload_n 3, 1) := by decide +kernel
theorem dX2_leaveBySteps_125 : decode cX2_leaveBySteps 125 = .ok (.iload 7, 2) := by decide +kernel
theorem dX2_leaveBySteps_127 : decode cX2_leaveBySteps 127 = .ok (.invokestatic 60, 3) := by decide +kernel
theorem dX2_leaveBySteps_130 : decode cX2_leaveBySteps 130 = .ok (.bipush 6, 2) := by decide +kernel
theorem dX2_leaveBySteps_132 : decode cX2_leaveBySteps 132 = .ok (.if_icmp .ne 21, 3) := by decide +kernel
theorem dX2_leaveBySteps_135 : decode cX2_leaveBySteps 135 = .ok (.aload_n 0, 1) := by decide +kernel
theorem dX2_leaveBySteps_136 : decode cX2_leaveBySteps 136 = .ok (.iload_n 3, 1) := by decide +kernel
theorem dX2_leaveBySteps_137 : decode cX2_leaveBySteps 137 = .ok (.iload 7, 2) := by decide +kernel
theorem dX2_leaveBySteps_139 : decode cX2_leaveBySteps 139 = .ok (.iload 4, 2) := by decide +kernel
theorem dX2_leaveBySteps_141 : decode cX2_leaveBySteps 141 = .ok (.invokestatic 32, 3) := by decide +kernel
theorem dX2_leaveBySteps_144 : decode cX2_leaveBySteps 144 = .ok (.iload_n 2, 1) := by decide +kernel
theorem dX2_leaveBySteps_145 : decode cX2_leaveBySteps 145 = .ok (.bipush 10, 2) := by decide +kernel
theorem dX2_leaveBySteps_147 : decode cX2_leaveBySteps 147 = .ok (.iload 7, 2) := by decide +kernel
theorem dX2_leaveBySteps_149 : decode cX2_leaveBySteps 149 = .ok (.iadd, 1) := by decide +kernel
theorem dX2_leaveBySteps_150 : decode cX2_leaveBySteps 150 = .ok (.invokevirtual 45, 3) := by decide +kernel
theorem dX2_leaveBySteps_153 : decode cX2_leaveBySteps 153 = .ok (.iinc 7 1, 3) := by decide +kernel
theorem dX2_leaveBySteps_156 : decode cX2_leaveBySteps 156 = .ok (.goto (-43), 3) := by decide +kernel
theorem dX2_leaveBySteps_159 : decode cX2_leaveBySteps 159 = .ok (.iconst 0, 1) := by decide +kernel
theorem dX2_leaveBySteps_160 : decode cX2_leaveBySteps 160 = .ok (.istore 7, 2) := by decide +kernel
theorem dX2_leaveBySteps_162 : decode cX2_leaveBySteps 162 = .ok (.iload 7, 2) := by decide +kernel
theorem dX2_leaveBySteps_164 : decode cX2_leaveBySteps 164 = .ok (.aload_n 1, 1) := by decide +kernel
theorem dX2_leaveBySteps_165 : decode cX2_leaveBySteps 165 = .ok (.getfield 64, 3) := by decide +kernel
theorem dX2_leaveBySteps_168 : decode cX2_leaveBySteps 168 = .ok (.if_icmp .ge 51, 3) := by decide +kernel
theorem dX2_leaveBySteps_171 : decode cX2_leaveBySteps 171 = .ok (.aload_n 1, 1) := by decide +kernel
theorem dX2_leaveBySteps_172 : decode cX2_leaveBySteps 172 = .ok (.getfield 69, 3) := by decide +kernel
theorem dX2_leaveBySteps_175 : decode cX2_leaveBySteps 175 = .ok (.iload 7, 2) := by decide +kernel
theorem dX2_leaveBySteps_177 : decode cX2_leaveBySteps 177 = .ok (.aaload, 1) := by decide +kernel
theorem dX2_leaveBySteps_178 : decode cX2_leaveBySteps 178 = .ok (.iload 4, 2) := by decide +kernel
theorem dX2_leaveBySteps_180 : decode cX2_leaveBySteps 180 = .ok (.iload 5, 2) := by decide +kernel
theorem dX2_leaveBySteps_182 : decode cX2_leaveBySteps 182 = .ok (.invokevirtual 73, 3) := by decide +kernel
theorem dX2_leaveBySteps_185 : decode cX2_leaveBySteps 185 = .ok (.istore 8, 2) := by decide +kernel
theorem dX2_leaveBySteps_187 : decode cX2_leaveBySteps 187 = .ok (.iload 8, 2) := by decide +kernel
theorem dX2_leaveBySteps_189 : decode cX2_leaveBySteps 189 = .ok (.iconst (-1), 1) := by decide +kernel
theorem dX2_leaveBySteps_190 : decode cX2_leaveBySteps 190 = .ok (.if_icmp .eq 23, 3) := by decide +kernel
theorem dX2_leaveBySteps_193 : decode cX2_leaveBySteps 193 = .ok (.aload_n 0, 1) := by decide +kernel
theorem dX2_leaveBySteps_194 : decode cX2_leaveBySteps 194 = .ok (.iload_n 3, 1) := by decide +kernel
theorem dX2_leaveBySteps_195 : decode cX2_leaveBySteps 195 = .ok (.iload 8, 2) := by decide +kernel
theorem dX2_leaveBySteps_197 : decode cX2_leaveBySteps 197 = .ok (.iload 4, 2) := by decide +kernel
theorem dX2_leaveBySteps_199 : decode cX2_leaveBySteps 199 = .ok (.isub, 1) := by decide +kernel
theorem dX2_leaveBySteps_200 : decode cX2_leaveBySteps 200 = .ok (.bipush 12, 2) := by decide +kernel
theorem dX2_leaveBySteps_202 : decode cX2_leaveBySteps 202 = .ok (.ishl, 1) := by decide +kernel
theorem dX2_leaveBySteps_203 : decode cX2_leaveBySteps 203 = .ok (.iadd, 1) := by decide +kernel
theorem dX2_leaveBySteps_204 : decode cX2_leaveBySteps 204 = .ok (.iload_n 2, 1) := by decide +kernel
theorem dX2_leaveBySteps_205 : decode cX2_leaveBySteps 205 = .ok (.bipush 20, 2) := by decide +kernel
theorem dX2_leaveBySteps_207 : decode cX2_leaveBySteps 207 = .ok (.iload 7, 2) := by decide +kernel
theorem dX2_leaveBySteps_209 : decode cX2_leaveBySteps 209 = .ok (.iadd, 1) := by decide +kernel
theorem dX2_leaveBySteps_210 : decode cX2_leaveBySteps 210 = .ok (.invokevirtual 45, 3) := by decide +kernel
theorem dX2_leaveBySteps_213 : decode cX2_leaveBySteps 213 = .ok (.iinc 7 1, 3) := by decide +kernel
theorem dX2_leaveBySteps_216 : decode cX2_leaveBySteps 216 = .ok (.goto (-54), 3) := by decide +kernel
theorem dX2_leaveBySteps_219 : decode cX2_leaveBySteps 219 = .ok (.return_, 1) := by decide +kernel
theorem dX2_meet_0 : decode cX2_meet 0 = .ok (.lconst 1, 1) := by decide +kernel
theorem dX2_meet_1 : decode cX2_meet 1 = .ok (.iload_n 1, 1) := by decide +kernel
theorem dX2_meet_2 : decode cX2_meet 2 = .ok (.bipush 64, 2) := by decide +kernel
theorem dX2_meet_4 : decode cX2_meet 4 = .ok (.irem, 1) := by decide +kernel
theorem dX2_meet_5 : decode cX2_meet 5 = .ok (.lshl, 1) := by decide +kernel
theorem dX2_meet_6 : decode cX2_meet 6 = .ok (.lstore 4, 2) := by decide +kernel
theorem dX2_meet_8 : decode cX2_meet 8 = .ok (.aload_n 0, 1) := by decide +kernel
theorem dX2_meet_9 : decode cX2_meet 9 = .ok (.getfield 18, 3) := by decide +kernel
theorem dX2_meet_12 : decode cX2_meet 12 = .ok (.iload_n 1, 1) := by decide +kernel
theorem dX2_meet_13 : decode cX2_meet 13 = .ok (.bipush 64, 2) := by decide +kernel
theorem dX2_meet_15 : decode cX2_meet 15 = .ok (.idiv, 1) := by decide +kernel
theorem dX2_meet_16 : decode cX2_meet 16 = .ok (.laload, 1) := by decide +kernel
theorem dX2_meet_17 : decode cX2_meet 17 = .ok (.lload 4, 2) := by decide +kernel
theorem dX2_meet_19 : decode cX2_meet 19 = .ok (.land, 1) := by decide +kernel
theorem dX2_meet_20 : decode cX2_meet 20 = .ok (.lconst 0, 1) := by decide +kernel
theorem dX2_meet_21 : decode cX2_meet 21 = .ok (.lcmp, 1) := by decide +kernel
theorem dX2_meet_22 : decode cX2_meet 22 = .ok (.ifCond .ne 13, 3) := by decide +kernel
theorem dX2_meet_25 : decode cX2_meet 25 = .ok (.aload_n 0, 1) := by decide +kernel
theorem dX2_meet_26 : decode cX2_meet 26 = .ok (.getfield 42, 3) := by decide +kernel
theorem dX2_meet_29 : decode cX2_meet 29 = .ok (.sipush 14406, 3) := by decide +kernel
theorem dX2_meet_32 : decode cX2_meet 32 = .ok (.if_icmp .lt 4, 3) := by decide +kernel
theorem dX2_meet_35 : decode cX2_meet 35 = .ok (.return_, 1) := by decide +kernel
theorem dX2_meet_36 : decode cX2_meet 36 = .ok (.aload_n 0, 1) := by decide +kernel
theorem dX2_meet_37 : decode cX2_meet 37 = .ok (.getfield 18, 3) := by decide +kernel
theorem dX2_meet_40 : decode cX2_meet 40 = .ok (.iload_n 1, 1) := by decide +kernel
theorem dX2_meet_41 : decode cX2_meet 41 = .ok (.bipush 64, 2) := by decide +kernel
theorem dX2_meet_43 : decode cX2_meet 43 = .ok (.idiv, 1) := by decide +kernel
theorem dX2_meet_44 : decode cX2_meet 44 = .ok (.dup2, 1) := by decide +kernel
theorem dX2_meet_45 : decode cX2_meet 45 = .ok (.laload, 1) := by decide +kernel
theorem dX2_meet_46 : decode cX2_meet 46 = .ok (.lload 4, 2) := by decide +kernel
theorem dX2_meet_48 : decode cX2_meet 48 = .ok (.lor, 1) := by decide +kernel
theorem dX2_meet_49 : decode cX2_meet 49 = .ok (.lastore, 1) := by decide +kernel
theorem dX2_meet_50 : decode cX2_meet 50 = .ok (.aload_n 0, 1) := by decide +kernel
theorem dX2_meet_51 : decode cX2_meet 51 = .ok (.getfield 11, 3) := by decide +kernel
theorem dX2_meet_54 : decode cX2_meet 54 = .ok (.aload_n 0, 1) := by decide +kernel
theorem dX2_meet_55 : decode cX2_meet 55 = .ok (.getfield 42, 3) := by decide +kernel
theorem dX2_meet_58 : decode cX2_meet 58 = .ok (.iload_n 1, 1) := by decide +kernel
theorem dX2_meet_59 : decode cX2_meet 59 = .ok (.iastore, 1) := by decide +kernel
theorem dX2_meet_60 : decode cX2_meet 60 = .ok (.aload_n 0, 1) := by decide +kernel
theorem dX2_meet_61 : decode cX2_meet 61 = .ok (.getfield 15, 3) := by decide +kernel
theorem dX2_meet_64 : decode cX2_meet 64 = .ok (.aload_n 0, 1) := by decide +kernel
theorem dX2_meet_65 : decode cX2_meet 65 = .ok (.getfield 42, 3) := by decide +kernel
theorem dX2_meet_68 : decode cX2_meet 68 = .ok (.iload_n 2, 1) := by decide +kernel
theorem dX2_meet_69 : decode cX2_meet 69 = .ok (.iconst 5, 1) := by decide +kernel
theorem dX2_meet_70 : decode cX2_meet 70 = .ok (.ishl, 1) := by decide +kernel
theorem dX2_meet_71 : decode cX2_meet 71 = .ok (.iload_n 3, 1) := by decide +kernel
theorem dX2_meet_72 : decode cX2_meet 72 = .ok (.ior, 1) := by decide +kernel
theorem dX2_meet_73 : decode cX2_meet 73 = .ok (.iastore, 1) := by decide +kernel
theorem dX2_meet_74 : decode cX2_meet 74 = .ok (.aload_n 0, 1) := by decide +kernel
theorem dX2_meet_75 : decode cX2_meet 75 = .ok (.getfield 39, 3) := by decide +kernel
theorem dX2_meet_78 : decode cX2_meet 78 = .ok (.iconst (-1), 1) := by decide +kernel
theorem dX2_meet_79 : decode cX2_meet 79 = .ok (.if_icmp .ne 22, 3) := by decide +kernel
theorem dX2_meet_82 : decode cX2_meet 82 = .ok (.iload_n 1, 1) := by decide +kernel
theorem dX2_meet_83 : decode cX2_meet 83 = .ok (.bipush 12, 2) := by decide +kernel
theorem dX2_meet_85 : decode cX2_meet 85 = .ok (.ishr, 1) := by decide +kernel
theorem dX2_meet_86 : decode cX2_meet 86 = .ok (.aload_n 0, 1) := by decide +kernel
theorem dX2_meet_87 : decode cX2_meet 87 = .ok (.getfield 36, 3) := by decide +kernel
theorem dX2_meet_90 : decode cX2_meet 90 = .ok (.if_icmp .ne 11, 3) := by decide +kernel
theorem dX2_meet_93 : decode cX2_meet 93 = .ok (.aload_n 0, 1) := by decide +kernel
theorem dX2_meet_94 : decode cX2_meet 94 = .ok (.aload_n 0, 1) := by decide +kernel
theorem dX2_meet_95 : decode cX2_meet 95 = .ok (.getfield 42, 3) := by decide +kernel
theorem dX2_meet_98 : decode cX2_meet 98 = .ok (.putfield 39, 3) := by decide +kernel
theorem dX2_meet_101 : decode cX2_meet 101 = .ok (.aload_n 0, 1) := by decide +kernel
theorem dX2_meet_102 : decode cX2_meet 102 = .ok (.dup, 1) := by decide +kernel
theorem dX2_meet_103 : decode cX2_meet 103 = .ok (.getfield 42, 3) := by decide +kernel
theorem dX2_meet_106 : decode cX2_meet 106 = .ok (.iconst 1, 1) := by decide +kernel
theorem dX2_meet_107 : decode cX2_meet 107 = .ok (.iadd, 1) := by decide +kernel
theorem dX2_meet_108 : decode cX2_meet 108 = .ok (.putfield 42, 3) := by decide +kernel
theorem dX2_meet_111 : decode cX2_meet 111 = .ok (.return_, 1) := by decide +kernel
theorem dX2_forgetSeen_0 : decode cX2_forgetSeen 0 = .ok (.iconst 0, 1) := by decide +kernel
theorem dX2_forgetSeen_1 : decode cX2_forgetSeen 1 = .ok (.istore_n 1, 1) := by decide +kernel
theorem dX2_forgetSeen_2 : decode cX2_forgetSeen 2 = .ok (.iload_n 1, 1) := by decide +kernel
theorem dX2_forgetSeen_3 : decode cX2_forgetSeen 3 = .ok (.aload_n 0, 1) := by decide +kernel
theorem dX2_forgetSeen_4 : decode cX2_forgetSeen 4 = .ok (.getfield 42, 3) := by decide +kernel
theorem dX2_forgetSeen_7 : decode cX2_forgetSeen 7 = .ok (.if_icmp .ge 24, 3) := by decide +kernel
theorem dX2_forgetSeen_10 : decode cX2_forgetSeen 10 = .ok (.aload_n 0, 1) := by decide +kernel
theorem dX2_forgetSeen_11 : decode cX2_forgetSeen 11 = .ok (.getfield 18, 3) := by decide +kernel
theorem dX2_forgetSeen_14 : decode cX2_forgetSeen 14 = .ok (.aload_n 0, 1) := by decide +kernel
theorem dX2_forgetSeen_15 : decode cX2_forgetSeen 15 = .ok (.getfield 11, 3) := by decide +kernel
theorem dX2_forgetSeen_18 : decode cX2_forgetSeen 18 = .ok (.iload_n 1, 1) := by decide +kernel
theorem dX2_forgetSeen_19 : decode cX2_forgetSeen 19 = .ok (.iaload, 1) := by decide +kernel
theorem dX2_forgetSeen_20 : decode cX2_forgetSeen 20 = .ok (.bipush 64, 2) := by decide +kernel
theorem dX2_forgetSeen_22 : decode cX2_forgetSeen 22 = .ok (.idiv, 1) := by decide +kernel
theorem dX2_forgetSeen_23 : decode cX2_forgetSeen 23 = .ok (.lconst 0, 1) := by decide +kernel
theorem dX2_forgetSeen_24 : decode cX2_forgetSeen 24 = .ok (.lastore, 1) := by decide +kernel
theorem dX2_forgetSeen_25 : decode cX2_forgetSeen 25 = .ok (.iinc 1 1, 3) := by decide +kernel
theorem dX2_forgetSeen_28 : decode cX2_forgetSeen 28 = .ok (.goto (-26), 3) := by decide +kernel
theorem dX2_forgetSeen_31 : decode cX2_forgetSeen 31 = .ok (.return_, 1) := by decide +kernel
theorem dX2_place_0 : decode cX2_place 0 = .ok (.iload_n 0, 1) := by decide +kernel
theorem dX2_place_1 : decode cX2_place 1 = .ok (.iconst 3, 1) := by decide +kernel
theorem dX2_place_2 : decode cX2_place 2 = .ok (.iload_n 1, 1) := by decide +kernel
theorem dX2_place_3 : decode cX2_place 3 = .ok (.imul, 1) := by decide +kernel
theorem dX2_place_4 : decode cX2_place 4 = .ok (.ishr, 1) := by decide +kernel
theorem dX2_place_5 : decode cX2_place 5 = .ok (.bipush 7, 2) := by decide +kernel
theorem dX2_place_7 : decode cX2_place 7 = .ok (.iand, 1) := by decide +kernel
theorem dX2_place_8 : decode cX2_place 8 = .ok (.ireturn, 1) := by decide +kernel
theorem dX2_withPlace_0 : decode cX2_withPlace 0 = .ok (.iconst 3, 1) := by decide +kernel
theorem dX2_withPlace_1 : decode cX2_withPlace 1 = .ok (.iload_n 1, 1) := by decide +kernel
theorem dX2_withPlace_2 : decode cX2_withPlace 2 = .ok (.imul, 1) := by decide +kernel
theorem dX2_withPlace_3 : decode cX2_withPlace 3 = .ok (.istore_n 3, 1) := by decide +kernel
theorem dX2_withPlace_4 : decode cX2_withPlace 4 = .ok (.iload_n 0, 1) := by decide +kernel
theorem dX2_withPlace_5 : decode cX2_withPlace 5 = .ok (.bipush 7, 2) := by decide +kernel
theorem dX2_withPlace_7 : decode cX2_withPlace 7 = .ok (.iload_n 3, 1) := by decide +kernel
theorem dX2_withPlace_8 : decode cX2_withPlace 8 = .ok (.ishl, 1) := by decide +kernel
theorem dX2_withPlace_9 : decode cX2_withPlace 9 = .ok (.iconst (-1), 1) := by decide +kernel
theorem dX2_withPlace_10 : decode cX2_withPlace 10 = .ok (.ixor, 1) := by decide +kernel
theorem dX2_withPlace_11 : decode cX2_withPlace 11 = .ok (.iand, 1) := by decide +kernel
theorem dX2_withPlace_12 : decode cX2_withPlace 12 = .ok (.iload_n 2, 1) := by decide +kernel
theorem dX2_withPlace_13 : decode cX2_withPlace 13 = .ok (.iload_n 3, 1) := by decide +kernel
theorem dX2_withPlace_14 : decode cX2_withPlace 14 = .ok (.ishl, 1) := by decide +kernel
theorem dX2_withPlace_15 : decode cX2_withPlace 15 = .ok (.ior, 1) := by decide +kernel
theorem dX2_withPlace_16 : decode cX2_withPlace 16 = .ok (.ireturn, 1) := by decide +kernel
theorem dX3_init_0 : decode cX3_init 0 = .ok (.aload_n 0, 1) := by decide +kernel
theorem dX3_init_1 : decode cX3_init 1 = .ok (.invokespecial 3, 3) := by decide +kernel
theorem dX3_init_4 : decode cX3_init 4 = .ok (.aload_n 0, 1) := by decide +kernel
theorem dX3_init_5 : decode cX3_init 5 = .ok (.bipush 60, 2) := by decide +kernel
theorem dX3_init_7 : decode cX3_init 7 = .ok (.newarray .int, 2) := by decide +kernel
theorem dX3_init_9 : decode cX3_init 9 = .ok (.putfield 9, 3) := by decide +kernel
theorem dX3_init_12 : decode cX3_init 12 = .ok (.aload_n 0, 1) := by decide +kernel
theorem dX3_init_13 : decode cX3_init 13 = .ok (.iconst (-1), 1) := by decide +kernel
theorem dX3_init_14 : decode cX3_init 14 = .ok (.putfield 15, 3) := by decide +kernel
theorem dX3_init_17 : decode cX3_init 17 = .ok (.return_, 1) := by decide +kernel
theorem dX3_hasNothing_0 : decode cX3_hasNothing 0 = .ok (.aload_n 0, 1) := by decide +kernel
theorem dX3_hasNothing_1 : decode cX3_hasNothing 1 = .ok (.getfield 15, 3) := by decide +kernel
theorem dX3_hasNothing_4 : decode cX3_hasNothing 4 = .ok (.iconst (-1), 1) := by decide +kernel
theorem dX3_hasNothing_5 : decode cX3_hasNothing 5 = .ok (.if_icmp .ne 7, 3) := by decide +kernel
theorem dX3_hasNothing_8 : decode cX3_hasNothing 8 = .ok (.iconst 1, 1) := by decide +kernel
theorem dX3_hasNothing_9 : decode cX3_hasNothing 9 = .ok (.goto 4, 3) := by decide +kernel
theorem dX3_hasNothing_12 : decode cX3_hasNothing 12 = .ok (.iconst 0, 1) := by decide +kernel
theorem dX3_hasNothing_13 : decode cX3_hasNothing 13 = .ok (.ireturn, 1) := by decide +kernel
theorem dX3_empty_0 : decode cX3_empty 0 = .ok (.aload_n 0, 1) := by decide +kernel
theorem dX3_empty_1 : decode cX3_empty 1 = .ok (.iconst (-1), 1) := by decide +kernel
theorem dX3_empty_2 : decode cX3_empty 2 = .ok (.putfield 15, 3) := by decide +kernel
theorem dX3_empty_5 : decode cX3_empty 5 = .ok (.aload_n 0, 1) := by decide +kernel
theorem dX3_empty_6 : decode cX3_empty 6 = .ok (.iconst 0, 1) := by decide +kernel
theorem dX3_empty_7 : decode cX3_empty 7 = .ok (.putfield 19, 3) := by decide +kernel
theorem dX3_empty_10 : decode cX3_empty 10 = .ok (.return_, 1) := by decide +kernel
theorem dX3_renew_0 : decode cX3_renew 0 = .ok (.aload_n 0, 1) := by decide +kernel
theorem dX3_renew_1 : decode cX3_renew 1 = .ok (.iload_n 1, 1) := by decide +kernel
theorem dX3_renew_2 : decode cX3_renew 2 = .ok (.putfield 15, 3) := by decide +kernel
theorem dX3_renew_5 : decode cX3_renew 5 = .ok (.aload_n 0, 1) := by decide +kernel
theorem dX3_renew_6 : decode cX3_renew 6 = .ok (.iload_n 2, 1) := by decide +kernel
theorem dX3_renew_7 : decode cX3_renew 7 = .ok (.putfield 19, 3) := by decide +kernel
theorem dX3_renew_10 : decode cX3_renew 10 = .ok (.iconst 0, 1) := by decide +kernel
theorem dX3_renew_11 : decode cX3_renew 11 = .ok (.istore_n 3, 1) := by decide +kernel
theorem dX3_renew_12 : decode cX3_renew 12 = .ok (.iload_n 3, 1) := by decide +kernel
theorem dX3_renew_13 : decode cX3_renew 13 = .ok (.bipush 60, 2) := by decide +kernel
theorem dX3_renew_15 : decode cX3_renew 15 = .ok (.if_icmp .ge 16, 3) := by decide +kernel
theorem dX3_renew_18 : decode cX3_renew 18 = .ok (.aload_n 0, 1) := by decide +kernel
theorem dX3_renew_19 : decode cX3_renew 19 = .ok (.getfield 9, 3) := by decide +kernel
theorem dX3_renew_22 : decode cX3_renew 22 = .ok (.iload_n 3, 1) := by decide +kernel
theorem dX3_renew_23 : decode cX3_renew 23 = .ok (.iconst 0, 1) := by decide +kernel
theorem dX3_renew_24 : decode cX3_renew 24 = .ok (.iastore, 1) := by decide +kernel
theorem dX3_renew_25 : decode cX3_renew 25 = .ok (.iinc 3 1, 3) := by decide +kernel
theorem dX3_renew_28 : decode cX3_renew 28 = .ok (.goto (-16), 3) := by decide +kernel
theorem dX3_renew_31 : decode cX3_renew 31 = .ok (.return_, 1) := by decide +kernel
theorem dX3_has_0 : decode cX3_has 0 = .ok (.iload_n 1, 1) := by decide +kernel
theorem dX3_has_1 : decode cX3_has 1 = .ok (.ifCond .lt 29, 3) := by decide +kernel
theorem dX3_has_4 : decode cX3_has 4 = .ok (.iload_n 2, 1) := by decide +kernel
theorem dX3_has_5 : decode cX3_has 5 = .ok (.ifCond .lt 25, 3) := by decide +kernel
theorem dX3_has_8 : decode cX3_has 8 = .ok (.iload_n 1, 1) := by decide +kernel
theorem dX3_has_9 : decode cX3_has 9 = .ok (.aload_n 0, 1) := by decide +kernel
theorem dX3_has_10 : decode cX3_has 10 = .ok (.getfield 19, 3) := by decide +kernel
theorem dX3_has_13 : decode cX3_has 13 = .ok (.if_icmp .gt 17, 3) := by decide +kernel
theorem dX3_has_16 : decode cX3_has 16 = .ok (.iload_n 2, 1) := by decide +kernel
theorem dX3_has_17 : decode cX3_has 17 = .ok (.aload_n 0, 1) := by decide +kernel
theorem dX3_has_18 : decode cX3_has 18 = .ok (.getfield 19, 3) := by decide +kernel
theorem dX3_has_21 : decode cX3_has 21 = .ok (.iload_n 1, 1) := by decide +kernel
theorem dX3_has_22 : decode cX3_has 22 = .ok (.isub, 1) := by decide +kernel
theorem dX3_has_23 : decode cX3_has 23 = .ok (.if_icmp .gt 7, 3) := by decide +kernel
theorem dX3_has_26 : decode cX3_has 26 = .ok (.iconst 1, 1) := by decide +kernel
theorem dX3_has_27 : decode cX3_has 27 = .ok (.goto 4, 3) := by decide +kernel
theorem dX3_has_30 : decode cX3_has 30 = .ok (.iconst 0, 1) := by decide +kernel
theorem dX3_has_31 : decode cX3_has 31 = .ok (.ireturn, 1) := by decide +kernel
theorem dX3_cut_0 : decode cX3_cut 0 = .ok (.aload_n 0, 1) := by decide +kernel
theorem dX3_cut_1 : decode cX3_cut 1 = .ok (.getfield 15, 3) := by decide +kernel
theorem dX3_cut_4 : decode cX3_cut 4 = .ok (.ifCond .ne 6, 3) := by decide +kernel
theorem dX3_cut_7 : decode cX3_cut 7 = .ok (.iload_n 1, 1) := by decide +kernel
theorem dX3_cut_8 : decode cX3_cut 8 = .ok (.i2b, 1) := by decide +kernel
theorem dX3_cut_9 : decode cX3_cut 9 = .ok (.ireturn, 1) := by decide +kernel
theorem dX3_cut_10 : decode cX3_cut 10 = .ok (.aload_n 0, 1) := by decide +kernel
theorem dX3_cut_11 : decode cX3_cut 11 = .ok (.getfield 15, 3) := by decide +kernel
theorem dX3_cut_14 : decode cX3_cut 14 = .ok (.iconst 1, 1) := by decide +kernel
theorem dX3_cut_15 : decode cX3_cut 15 = .ok (.if_icmp .ne 8, 3) := by decide +kernel
theorem dX3_cut_18 : decode cX3_cut 18 = .ok (.iload_n 1, 1) := by decide +kernel
theorem dX3_cut_19 : decode cX3_cut 19 = .ok (.i2s, 1) := by decide +kernel
theorem dX3_cut_20 : decode cX3_cut 20 = .ok (.goto 4, 3) := by decide +kernel
theorem dX3_cut_23 : decode cX3_cut 23 = .ok (.iload_n 1, 1) := by decide +kernel
theorem dX3_cut_24 : decode cX3_cut 24 = .ok (.ireturn, 1) := by decide +kernel
theorem dX4_init_0 : decode cX4_init 0 = .ok (.aload_n 0, 1) := by decide +kernel
theorem dX4_init_1 : decode cX4_init 1 = .ok (.iload_n 1, 1) := by decide +kernel
theorem dX4_init_2 : decode cX4_init 2 = .ok (.iload_n 2, 1) := by decide +kernel
theorem dX4_init_3 : decode cX4_init 3 = .ok (.iload_n 3, 1) := by decide +kernel
theorem dX4_init_4 : decode cX4_init 4 = .ok (.iload_n 3, 1) := by decide +kernel
theorem dX4_init_5 : decode cX4_init 5 = .ok (.iconst 2, 1) := by decide +kernel
theorem dX4_init_6 : decode cX4_init 6 = .ok (.invokespecial 5, 3) := by decide +kernel
theorem dX4_init_9 : decode cX4_init 9 = .ok (.return_, 1) := by decide +kernel
theorem dX4_init__0 : decode cX4_init_ 0 = .ok (.aload_n 0, 1) := by decide +kernel
theorem dX4_init__1 : decode cX4_init_ 1 = .ok (.invokespecial 9, 3) := by decide +kernel
theorem dX4_init__4 : decode cX4_init_ 4 = .ok (.aload_n 0, 1) := by decide +kernel
theorem dX4_init__5 : decode cX4_init_ 5 = .ok (.iload_n 1, 1) := by decide +kernel
theorem dX4_init__6 : decode cX4_init_ 6 = .ok (.putfield 14, 3) := by decide +kernel
theorem dX4_init__9 : decode cX4_init_ 9 = .ok (.aload_n 0, 1) := by decide +kernel
theorem dX4_init__10 : decode cX4_init_ 10 = .ok (.iload_n 2, 1) := by decide +kernel
theorem dX4_init__11 : decode cX4_init_ 11 = .ok (.putfield 18, 3) := by decide +kernel
theorem dX4_init__14 : decode cX4_init_ 14 = .ok (.aload_n 0, 1) := by decide +kernel
theorem dX4_init__15 : decode cX4_init_ 15 = .ok (.iload_n 3, 1) := by decide +kernel
theorem dX4_init__16 : decode cX4_init_ 16 = .ok (.putfield 21, 3) := by decide +kernel
theorem dX4_init__19 : decode cX4_init_ 19 = .ok (.aload_n 0, 1) := by decide +kernel
theorem dX4_init__20 : decode cX4_init_ 20 = .ok (.iconst 0, 1) := by decide +kernel
theorem dX4_init__21 : decode cX4_init_ 21 = .ok (.iload_n 3, 1) := by decide +kernel
theorem dX4_init__22 : decode cX4_init_ 22 = .ok (.iload 5, 2) := by decide +kernel
theorem dX4_init__24 : decode cX4_init_ 24 = .ok (.isub, 1) := by decide +kernel
theorem dX4_init__25 : decode cX4_init_ 25 = .ok (.invokestatic 24, 3) := by decide +kernel
theorem dX4_init__28 : decode cX4_init_ 28 = .ok (.putfield 30, 3) := by decide +kernel
theorem dX4_init__31 : decode cX4_init_ 31 = .ok (.aload_n 0, 1) := by decide +kernel
theorem dX4_init__32 : decode cX4_init_ 32 = .ok (.iload_n 3, 1) := by decide +kernel
theorem dX4_init__33 : decode cX4_init_ 33 = .ok (.iload 5, 2) := by decide +kernel
theorem dX4_init__35 : decode cX4_init_ 35 = .ok (.iadd, 1) := by decide +kernel
theorem dX4_init__36 : decode cX4_init_ 36 = .ok (.putfield 33, 3) := by decide +kernel
theorem dX4_init__39 : decode cX4_init_ 39 = .ok (.aload_n 0, 1) := by decide +kernel
theorem dX4_init__40 : decode cX4_init_ 40 = .ok (.iconst 0, 1) := by decide +kernel
theorem dX4_init__41 : decode cX4_init_ 41 = .ok (.iload 4, 2) := by decide +kernel
theorem dX4_init__43 : decode cX4_init_ 43 = .ok (.iload 5, 2) := by decide +kernel
theorem dX4_init__45 : decode cX4_init_ 45 = .ok (.isub, 1) := by decide +kernel
theorem dX4_init__46 : decode cX4_init_ 46 = .ok (.invokestatic 24, 3) := by decide +kernel
theorem dX4_init__49 : decode cX4_init_ 49 = .ok (.putfield 36, 3) := by decide +kernel
theorem dX4_init__52 : decode cX4_init_ 52 = .ok (.aload_n 0, 1) := by decide +kernel
theorem dX4_init__53 : decode cX4_init_ 53 = .ok (.iload 4, 2) := by decide +kernel
theorem dX4_init__55 : decode cX4_init_ 55 = .ok (.iload 5, 2) := by decide +kernel
theorem dX4_init__57 : decode cX4_init_ 57 = .ok (.iadd, 1) := by decide +kernel
theorem dX4_init__58 : decode cX4_init_ 58 = .ok (.putfield 39, 3) := by decide +kernel
theorem dX4_init__61 : decode cX4_init_ 61 = .ok (.return_, 1) := by decide +kernel
theorem dX4_kind_0 : decode cX4_kind 0 = .ok (.iconst 0, 1) := by decide +kernel
theorem dX4_kind_1 : decode cX4_kind 1 = .ok (.ireturn, 1) := by decide +kernel
theorem dX4_isOf_0 : decode cX4_isOf 0 = .ok (.iload_n 1, 1) := by decide +kernel
theorem dX4_isOf_1 : decode cX4_isOf 1 = .ok (.aload_n 0, 1) := by decide +kernel
theorem dX4_isOf_2 : decode cX4_isOf 2 = .ok (.getfield 14, 3) := by decide +kernel
theorem dX4_isOf_5 : decode cX4_isOf 5 = .ok (.if_icmp .eq 11, 3) := by decide +kernel
theorem dX4_isOf_8 : decode cX4_isOf 8 = .ok (.iload_n 1, 1) := by decide +kernel
theorem dX4_isOf_9 : decode cX4_isOf 9 = .ok (.aload_n 0, 1) := by decide +kernel
theorem dX4_isOf_10 : decode cX4_isOf 10 = .ok (.getfield 18, 3) := by decide +kernel
theorem dX4_isOf_13 : decode cX4_isOf 13 = .ok (.if_icmp .ne 7, 3) := by decide +kernel
theorem dX4_isOf_16 : decode cX4_isOf 16 = .ok (.iconst 1, 1) := by decide +kernel
theorem dX4_isOf_17 : decode cX4_isOf 17 = .ok (.goto 4, 3) := by decide +kernel
theorem dX4_isOf_20 : decode cX4_isOf 20 = .ok (.iconst 0, 1) := by decide +kernel
theorem dX4_isOf_21 : decode cX4_isOf 21 = .ok (.ireturn, 1) := by decide +kernel
theorem dX4_beyond_0 : decode cX4_beyond 0 = .ok (.iload_n 1, 1) := by decide +kernel
theorem dX4_beyond_1 : decode cX4_beyond 1 = .ok (.aload_n 0, 1) := by decide +kernel
theorem dX4_beyond_2 : decode cX4_beyond 2 = .ok (.getfield 14, 3) := by decide +kernel
theorem dX4_beyond_5 : decode cX4_beyond 5 = .ok (.if_icmp .ne 28, 3) := by decide +kernel
theorem dX4_beyond_8 : decode cX4_beyond 8 = .ok (.iload_n 2, 1) := by decide +kernel
theorem dX4_beyond_9 : decode cX4_beyond 9 = .ok (.aload_n 0, 1) := by decide +kernel
theorem dX4_beyond_10 : decode cX4_beyond 10 = .ok (.getfield 30, 3) := by decide +kernel
theorem dX4_beyond_13 : decode cX4_beyond 13 = .ok (.if_icmp .lt 18, 3) := by decide +kernel
theorem dX4_beyond_16 : decode cX4_beyond 16 = .ok (.iload_n 2, 1) := by decide +kernel
theorem dX4_beyond_17 : decode cX4_beyond 17 = .ok (.aload_n 0, 1) := by decide +kernel
theorem dX4_beyond_18 : decode cX4_beyond 18 = .ok (.getfield 33, 3) := by decide +kernel
theorem dX4_beyond_21 : decode cX4_beyond 21 = .ok (.if_icmp .gt 10, 3) := by decide +kernel
theorem dX4_beyond_24 : decode cX4_beyond 24 = .ok (.aload_n 0, 1) := by decide +kernel
theorem dX4_beyond_25 : decode cX4_beyond 25 = .ok (.getfield 18, 3) := by decide +kernel
theorem dX4_beyond_28 : decode cX4_beyond 28 = .ok (.goto 4, 3) := by decide +kernel
theorem dX4_beyond_31 : decode cX4_beyond 31 = .ok (.iconst (-1), 1) := by decide +kernel
theorem dX4_beyond_32 : decode cX4_beyond 32 = .ok (.ireturn, 1) := by decide +kernel
theorem dX4_beyond_33 : decode cX4_beyond 33 = .ok (.iload_n 1, 1) := by decide +kernel
theorem dX4_beyond_34 : decode cX4_beyond 34 = .ok (.aload_n 0, 1) := by decide +kernel
theorem dX4_beyond_35 : decode cX4_beyond 35 = .ok (.getfield 18, 3) := by decide +kernel
theorem dX4_beyond_38 : decode cX4_beyond 38 = .ok (.if_icmp .ne 28, 3) := by decide +kernel
theorem dX4_beyond_41 : decode cX4_beyond 41 = .ok (.iload_n 2, 1) := by decide +kernel
theorem dX4_beyond_42 : decode cX4_beyond 42 = .ok (.aload_n 0, 1) := by decide +kernel
theorem dX4_beyond_43 : decode cX4_beyond 43 = .ok (.getfield 36, 3) := by decide +kernel
theorem dX4_beyond_46 : decode cX4_beyond 46 = .ok (.if_icmp .lt 18, 3) := by decide +kernel
theorem dX4_beyond_49 : decode cX4_beyond 49 = .ok (.iload_n 2, 1) := by decide +kernel
theorem dX4_beyond_50 : decode cX4_beyond 50 = .ok (.aload_n 0, 1) := by decide +kernel
theorem dX4_beyond_51 : decode cX4_beyond 51 = .ok (.getfield 39, 3) := by decide +kernel
theorem dX4_beyond_54 : decode cX4_beyond 54 = .ok (.if_icmp .gt 10, 3) := by decide +kernel
theorem dX4_beyond_57 : decode cX4_beyond 57 = .ok (.aload_n 0, 1) := by decide +kernel
theorem dX4_beyond_58 : decode cX4_beyond 58 = .ok (.getfield 14, 3) := by decide +kernel
theorem dX4_beyond_61 : decode cX4_beyond 61 = .ok (.goto 4, 3) := by decide +kernel
theorem dX4_beyond_64 : decode cX4_beyond 64 = .ok (.iconst (-1), 1) := by decide +kernel
theorem dX4_beyond_65 : decode cX4_beyond 65 = .ok (.ireturn, 1) := by decide +kernel
theorem dX4_beyond_66 : decode cX4_beyond 66 = .ok (.iconst (-1), 1) := by decide +kernel
theorem dX4_beyond_67 : decode cX4_beyond 67 = .ok (.ireturn, 1) := by decide +kernel
theorem dX4_told_0 : decode cX4_told 0 = .ok (.iload_n 1, 1) := by decide +kernel
theorem dX4_told_1 : decode cX4_told 1 = .ok (.tableswitch 78 0 6 #[43, 48, 53, 58, 63, 68, 73], 43) := by decide +kernel
theorem dX4_told_44 : decode cX4_told 44 = .ok (.aload_n 0, 1) := by decide +kernel
theorem dX4_told_45 : decode cX4_told 45 = .ok (.invokevirtual 42, 3) := by decide +kernel
theorem dX4_told_48 : decode cX4_told 48 = .ok (.ireturn, 1) := by decide +kernel
theorem dX4_told_49 : decode cX4_told 49 = .ok (.aload_n 0, 1) := by decide +kernel
theorem dX4_told_50 : decode cX4_told 50 = .ok (.getfield 14, 3) := by decide +kernel
theorem dX4_told_53 : decode cX4_told 53 = .ok (.ireturn, 1) := by decide +kernel
theorem dX4_told_54 : decode cX4_told 54 = .ok (.aload_n 0, 1) := by decide +kernel
theorem dX4_told_55 : decode cX4_told 55 = .ok (.getfield 18, 3) := by decide +kernel
theorem dX4_told_58 : decode cX4_told 58 = .ok (.ireturn, 1) := by decide +kernel
theorem dX4_told_59 : decode cX4_told 59 = .ok (.aload_n 0, 1) := by decide +kernel
theorem dX4_told_60 : decode cX4_told 60 = .ok (.getfield 21, 3) := by decide +kernel
theorem dX4_told_63 : decode cX4_told 63 = .ok (.ireturn, 1) := by decide +kernel
theorem dX4_told_64 : decode cX4_told 64 = .ok (.aload_n 0, 1) := by decide +kernel
theorem dX4_told_65 : decode cX4_told 65 = .ok (.getfield 30, 3) := by decide +kernel
theorem dX4_told_68 : decode cX4_told 68 = .ok (.ireturn, 1) := by decide +kernel
theorem dX4_told_69 : decode cX4_told 69 = .ok (.aload_n 0, 1) := by decide +kernel
theorem dX4_told_70 : decode cX4_told 70 = .ok (.getfield 33, 3) := by decide +kernel
theorem dX4_told_73 : decode cX4_told 73 = .ok (.ireturn, 1) := by decide +kernel
theorem dX4_told_74 : decode cX4_told 74 = .ok (.aload_n 0, 1) := by decide +kernel
theorem dX4_told_75 : decode cX4_told 75 = .ok (.getfield 36, 3) := by decide +kernel
theorem dX4_told_78 : decode cX4_told 78 = .ok (.ireturn, 1) := by decide +kernel
theorem dX4_told_79 : decode cX4_told 79 = .ok (.aload_n 0, 1) := by decide +kernel
theorem dX4_told_80 : decode cX4_told 80 = .ok (.getfield 39, 3) := by decide +kernel
theorem dX4_told_83 : decode cX4_told 83 = .ok (.ireturn, 1) := by decide +kernel
theorem dX4_sillsTelling_0 : decode cX4_sillsTelling 0 = .ok (.aload_n 1, 1) := by decide +kernel
theorem dX4_sillsTelling_1 : decode cX4_sillsTelling 1 = .ok (.iconst 1, 1) := by decide +kernel
theorem dX4_sillsTelling_2 : decode cX4_sillsTelling 2 = .ok (.invokevirtual 46, 3) := by decide +kernel
theorem dX4_sillsTelling_5 : decode cX4_sillsTelling 5 = .ok (.aload_n 0, 1) := by decide +kernel
theorem dX4_sillsTelling_6 : decode cX4_sillsTelling 6 = .ok (.getfield 21, 3) := by decide +kernel
theorem dX4_sillsTelling_9 : decode cX4_sillsTelling 9 = .ok (.ireturn, 1) := by decide +kernel
theorem dX4_telling_0 : decode cX4_telling 0 = .ok (.aload_n 0, 1) := by decide +kernel
theorem dX4_telling_1 : decode cX4_telling 1 = .ok (.aload_n 1, 1) := by decide +kernel
theorem dX4_telling_2 : decode cX4_telling 2 = .ok (.invokevirtual 52, 3) := by decide +kernel
theorem dX4_telling_5 : decode cX4_telling 5 = .ok (.ireturn, 1) := by decide +kernel
theorem dX4_rung_0 : decode cX4_rung 0 = .ok (.aload_n 1, 1) := by decide +kernel
theorem dX4_rung_1 : decode cX4_rung 1 = .ok (.iconst 4, 1) := by decide +kernel
theorem dX4_rung_2 : decode cX4_rung 2 = .ok (.invokevirtual 46, 3) := by decide +kernel
theorem dX4_rung_5 : decode cX4_rung 5 = .ok (.iload_n 2, 1) := by decide +kernel
theorem dX4_rung_6 : decode cX4_rung 6 = .ok (.ireturn, 1) := by decide +kernel
theorem dX5_init_0 : decode cX5_init 0 = .ok (.aload_n 0, 1) := by decide +kernel
theorem dX5_init_1 : decode cX5_init 1 = .ok (.invokespecial 3, 3) := by decide +kernel
theorem dX5_init_4 : decode cX5_init 4 = .ok (.aload_n 0, 1) := by decide +kernel
theorem dX5_init_5 : decode cX5_init 5 = .ok (.aload_n 1, 1) := by decide +kernel
theorem dX5_init_6 : decode cX5_init 6 = .ok (.putfield 9, 3) := by decide +kernel
theorem dX5_init_9 : decode cX5_init 9 = .ok (.aload_n 0, 1) := by decide +kernel
theorem dX5_init_10 : decode cX5_init 10 = .ok (.iload_n 2, 1) := by decide +kernel
theorem dX5_init_11 : decode cX5_init 11 = .ok (.putfield 15, 3) := by decide +kernel
theorem dX5_init_14 : decode cX5_init 14 = .ok (.aload_n 0, 1) := by decide +kernel
theorem dX5_init_15 : decode cX5_init 15 = .ok (.iload_n 3, 1) := by decide +kernel
theorem dX5_init_16 : decode cX5_init 16 = .ok (.putfield 19, 3) := by decide +kernel
theorem dX5_init_19 : decode cX5_init 19 = .ok (.return_, 1) := by decide +kernel
theorem dX5_firstFault_0 : decode cX5_firstFault 0 = .ok (.iconst 0, 1) := by decide +kernel
theorem dX5_firstFault_1 : decode cX5_firstFault 1 = .ok (.istore_n 1, 1) := by decide +kernel
theorem dX5_firstFault_2 : decode cX5_firstFault 2 = .ok (.iload_n 1, 1) := by decide +kernel
theorem dX5_firstFault_3 : decode cX5_firstFault 3 = .ok (.aload_n 0, 1) := by decide +kernel
theorem dX5_firstFault_4 : decode cX5_firstFault 4 = .ok (.getfield 19, 3) := by decide +kernel
theorem dX5_firstFault_7 : decode cX5_firstFault 7 = .ok (.if_icmp .ge 33, 3) := by decide +kernel
theorem dX5_firstFault_10 : decode cX5_firstFault 10 = .ok (.aload_n 0, 1) := by decide +kernel
theorem dX5_firstFault_11 : decode cX5_firstFault 11 = .ok (.iload_n 1, 1) := by decide +kernel
theorem dX5_firstFault_12 : decode cX5_firstFault 12 = .ok (.invokevirtual 22, 3) := by decide +kernel
theorem dX5_firstFault_15 : decode cX5_firstFault 15 = .ok (.ifCond .ne 19, 3) := by decide +kernel
theorem dX5_firstFault_18 : decode cX5_firstFault 18 = .ok (.aload_n 0, 1) := by decide +kernel
theorem dX5_firstFault_19 : decode cX5_firstFault 19 = .ok (.iload_n 1, 1) := by decide +kernel
theorem dX5_firstFault_20 : decode cX5_firstFault 20 = .ok (.invokevirtual 26, 3) := by decide +kernel
theorem dX5_firstFault_23 : decode cX5_firstFault 23 = .ok (.ifCond .eq 9, 3) := by decide +kernel
theorem dX5_firstFault_26 : decode cX5_firstFault 26 = .ok (.iload_n 1, 1) := by decide +kernel
theorem dX5_firstFault_27 : decode cX5_firstFault 27 = .ok (.iconst 1, 1) := by decide +kernel
theorem dX5_firstFault_28 : decode cX5_firstFault 28 = .ok (.isub, 1) := by decide +kernel
theorem dX5_firstFault_29 : decode cX5_firstFault 29 = .ok (.goto 4, 3) := by decide +kernel
theorem dX5_firstFault_32 : decode cX5_firstFault 32 = .ok (.iload_n 1, 1) := by decide +kernel
theorem dX5_firstFault_33 : decode cX5_firstFault 33 = .ok (.ireturn, 1) := by decide +kernel
theorem dX5_firstFault_34 : decode cX5_firstFault 34 = .ok (.iinc 1 1, 3) := by decide +kernel
theorem dX5_firstFault_37 : decode cX5_firstFault 37 = .ok (.goto (-35), 3) := by decide +kernel
theorem dX5_firstFault_40 : decode cX5_firstFault 40 = .ok (.aload_n 0, 1) := by decide +kernel
theorem dX5_firstFault_41 : decode cX5_firstFault 41 = .ok (.getfield 19, 3) := by decide +kernel
theorem dX5_firstFault_44 : decode cX5_firstFault 44 = .ok (.iconst 2, 1) := by decide +kernel
theorem dX5_firstFault_45 : decode cX5_firstFault 45 = .ok (.if_icmp .le 19, 3) := by decide +kernel
theorem dX5_firstFault_48 : decode cX5_firstFault 48 = .ok (.aload_n 0, 1) := by decide +kernel
theorem dX5_firstFault_49 : decode cX5_firstFault 49 = .ok (.getfield 19, 3) := by decide +kernel
theorem dX5_firstFault_52 : decode cX5_firstFault 52 = .ok (.iconst 2, 1) := by decide +kernel
theorem dX5_firstFault_53 : decode cX5_firstFault 53 = .ok (.isub, 1) := by decide +kernel
theorem dX5_firstFault_54 : decode cX5_firstFault 54 = .ok (.bipush 6, 2) := by decide +kernel
theorem dX5_firstFault_56 : decode cX5_firstFault 56 = .ok (.irem, 1) := by decide +kernel
theorem dX5_firstFault_57 : decode cX5_firstFault 57 = .ok (.ifCond .ne 7, 3) := by decide +kernel
theorem dX5_firstFault_60 : decode cX5_firstFault 60 = .ok (.iconst (-1), 1) := by decide +kernel
theorem dX5_firstFault_61 : decode cX5_firstFault 61 = .ok (.goto 7, 3) := by decide +kernel
theorem dX5_firstFault_64 : decode cX5_firstFault 64 = .ok (.aload_n 0, 1) := by decide +kernel
theorem dX5_firstFault_65 : decode cX5_firstFault 65 = .ok (.getfield 19, 3) := by decide +kernel
theorem dX5_firstFault_68 : decode cX5_firstFault 68 = .ok (.ireturn, 1) := by decide +kernel
theorem dX5_rooms_0 : decode cX5_rooms 0 = .ok (.aload_n 0, 1) := by decide +kernel
theorem dX5_rooms_1 : decode cX5_rooms 1 = .ok (.iconst 1, 1) := by decide +kernel
theorem dX5_rooms_2 : decode cX5_rooms 2 = .ok (.invokevirtual 29, 3) := by decide +kernel
theorem dX5_rooms_5 : decode cX5_rooms 5 = .ok (.ireturn, 1) := by decide +kernel
theorem dX5_doorCount_0 : decode cX5_doorCount 0 = .ok (.aload_n 0, 1) := by decide +kernel
theorem dX5_doorCount_1 : decode cX5_doorCount 1 = .ok (.getfield 19, 3) := by decide +kernel
theorem dX5_doorCount_4 : decode cX5_doorCount 4 = .ok (.iconst 2, 1) := by decide +kernel
theorem dX5_doorCount_5 : decode cX5_doorCount 5 = .ok (.isub, 1) := by decide +kernel
theorem dX5_doorCount_6 : decode cX5_doorCount 6 = .ok (.bipush 6, 2) := by decide +kernel
theorem dX5_doorCount_8 : decode cX5_doorCount 8 = .ok (.idiv, 1) := by decide +kernel
theorem dX5_doorCount_9 : decode cX5_doorCount 9 = .ok (.ireturn, 1) := by decide +kernel
theorem dX5_door_0 : decode cX5_door 0 = .ok (.iconst 2, 1) := by decide +kernel
theorem dX5_door_1 : decode cX5_door 1 = .ok (.bipush 6, 2) := by decide +kernel
theorem dX5_door_3 : decode cX5_door 3 = .ok (.iload_n 1, 1) := by decide +kernel
theorem dX5_door_4 : decode cX5_door 4 = .ok (.imul, 1) := by decide +kernel
theorem dX5_door_5 : decode cX5_door 5 = .ok (.iadd, 1) := by decide +kernel
theorem dX5_door_6 : decode cX5_door 6 = .ok (.istore_n 2, 1) := by decide +kernel
theorem dX5_door_7 : decode cX5_door 7 = .ok (.aload_n 0, 1) := by decide +kernel
theorem dX5_door_8 : decode cX5_door 8 = .ok (.iload_n 2, 1) := by decide +kernel
theorem dX5_door_9 : decode cX5_door 9 = .ok (.iconst 2, 1) := by decide +kernel
theorem dX5_door_10 : decode cX5_door 10 = .ok (.iadd, 1) := by decide +kernel
theorem dX5_door_11 : decode cX5_door 11 = .ok (.invokevirtual 29, 3) := by decide +kernel
theorem dX5_door_14 : decode cX5_door 14 = .ok (.istore_n 3, 1) := by decide +kernel
theorem dX5_door_15 : decode cX5_door 15 = .ok (.aload_n 0, 1) := by decide +kernel
theorem dX5_door_16 : decode cX5_door 16 = .ok (.iload_n 2, 1) := by decide +kernel
theorem dX5_door_17 : decode cX5_door 17 = .ok (.iconst 3, 1) := by decide +kernel
theorem dX5_door_18 : decode cX5_door 18 = .ok (.iadd, 1) := by decide +kernel
theorem dX5_door_19 : decode cX5_door 19 = .ok (.invokevirtual 29, 3) := by decide +kernel
theorem dX5_door_22 : decode cX5_door 22 = .ok (.istore 4, 2) := by decide +kernel
theorem dX5_door_24 : decode cX5_door 24 = .ok (.bipush 10, 2) := by decide +kernel
theorem dX5_door_26 : decode cX5_door 26 = .ok (.aload_n 0, 1) := by decide +kernel
theorem dX5_door_27 : decode cX5_door 27 = .ok (.iload_n 2, 1) := by decide +kernel
theorem dX5_door_28 : decode cX5_door 28 = .ok (.iconst 4, 1) := by decide +kernel
theorem dX5_door_29 : decode cX5_door 29 = .ok (.iadd, 1) := by decide +kernel
theorem dX5_door_30 : decode cX5_door 30 = .ok (.invokevirtual 29, 3) := by decide +kernel
theorem dX5_door_33 : decode cX5_door 33 = .ok (.imul, 1) := by decide +kernel
theorem dX5_door_34 : decode cX5_door 34 = .ok (.aload_n 0, 1) := by decide +kernel
theorem dX5_door_35 : decode cX5_door 35 = .ok (.iload_n 2, 1) := by decide +kernel
theorem dX5_door_36 : decode cX5_door 36 = .ok (.iconst 5, 1) := by decide +kernel
theorem dX5_door_37 : decode cX5_door 37 = .ok (.iadd, 1) := by decide +kernel
theorem dX5_door_38 : decode cX5_door 38 = .ok (.invokevirtual 29, 3) := by decide +kernel
theorem dX5_door_41 : decode cX5_door 41 = .ok (.iadd, 1) := by decide +kernel
theorem dX5_door_42 : decode cX5_door 42 = .ok (.istore 5, 2) := by decide +kernel
theorem dX5_door_44 : decode cX5_door 44 = .ok (.aload_n 0, 1) := by decide +kernel
theorem dX5_door_45 : decode cX5_door 45 = .ok (.iload_n 2, 1) := by decide +kernel
theorem dX5_door_46 : decode cX5_door 46 = .ok (.iconst 1, 1) := by decide +kernel
theorem dX5_door_47 : decode cX5_door 47 = .ok (.iadd, 1) := by decide +kernel
theorem dX5_door_48 : decode cX5_door 48 = .ok (.invokevirtual 33, 3) := by decide +kernel
theorem dX5_door_51 : decode cX5_door 51 = .ok (.lookupswitch 51 #[(115, 25), (116, 38)], 25) := by decide +kernel
theorem dX5_door_76 : decode cX5_door 76 = .ok (.new 36, 3) := by decide +kernel
theorem dX5_door_79 : decode cX5_door 79 = .ok (.dup, 1) := by decide +kernel
theorem dX5_door_80 : decode cX5_door 80 = .ok (.iload_n 3, 1) := by decide +kernel
theorem dX5_door_81 : decode cX5_door 81 = .ok (.iload 4, 2) := by decide +kernel
theorem dX5_door_83 : decode cX5_door 83 = .ok (.iload 5, 2) := by decide +kernel
theorem dX5_door_85 : decode cX5_door 85 = .ok (.invokespecial 38, 3) := by decide +kernel
theorem dX5_door_88 : decode cX5_door 88 = .ok (.areturn, 1) := by decide +kernel
theorem dX5_door_89 : decode cX5_door 89 = .ok (.new 41, 3) := by decide +kernel
theorem dX5_door_92 : decode cX5_door 92 = .ok (.dup, 1) := by decide +kernel
theorem dX5_door_93 : decode cX5_door 93 = .ok (.iload_n 3, 1) := by decide +kernel
theorem dX5_door_94 : decode cX5_door 94 = .ok (.iload 4, 2) := by decide +kernel
theorem dX5_door_96 : decode cX5_door 96 = .ok (.iload 5, 2) := by decide +kernel
theorem dX5_door_98 : decode cX5_door 98 = .ok (.invokespecial 43, 3) := by decide +kernel
theorem dX5_door_101 : decode cX5_door 101 = .ok (.areturn, 1) := by decide +kernel
theorem dX5_door_102 : decode cX5_door 102 = .ok (.new 44, 3) := by decide +kernel
theorem dX5_door_105 : decode cX5_door 105 = .ok (.dup, 1) := by decide +kernel
theorem dX5_door_106 : decode cX5_door 106 = .ok (.iload_n 3, 1) := by decide +kernel
theorem dX5_door_107 : decode cX5_door 107 = .ok (.iload 4, 2) := by decide +kernel
theorem dX5_door_109 : decode cX5_door 109 = .ok (.iload 5, 2) := by decide +kernel
theorem dX5_door_111 : decode cX5_door 111 = .ok (.invokespecial 46, 3) := by decide +kernel
theorem dX5_door_114 : decode cX5_door 114 = .ok (.areturn, 1) := by decide +kernel
theorem dX5_code_0 : decode cX5_code 0 = .ok (.aload_n 0, 1) := by decide +kernel
theorem dX5_code_1 : decode cX5_code 1 = .ok (.getfield 15, 3) := by decide +kernel
theorem dX5_code_4 : decode cX5_code 4 = .ok (.iload_n 1, 1) := by decide +kernel
theorem dX5_code_5 : decode cX5_code 5 = .ok (.iadd, 1) := by decide +kernel
theorem dX5_code_6 : decode cX5_code 6 = .ok (.istore_n 2, 1) := by decide +kernel
theorem dX5_code_7 : decode cX5_code 7 = .ok (.iload_n 2, 1) := by decide +kernel
theorem dX5_code_8 : decode cX5_code 8 = .ok (.ifCond .lt 21, 3) := by decide +kernel
theorem dX5_code_11 : decode cX5_code 11 = .ok (.iload_n 2, 1) := by decide +kernel
theorem dX5_code_12 : decode cX5_code 12 = .ok (.aload_n 0, 1) := by decide +kernel
theorem dX5_code_13 : decode cX5_code 13 = .ok (.getfield 9, 3) := by decide +kernel
theorem dX5_code_16 : decode cX5_code 16 = .ok (.arraylength, 1) := by decide +kernel
theorem dX5_code_17 : decode cX5_code 17 = .ok (.if_icmp .ge 12, 3) := by decide +kernel
theorem dX5_code_20 : decode cX5_code 20 = .ok (.aload_n 0, 1) := by decide +kernel
theorem dX5_code_21 : decode cX5_code 21 = .ok (.getfield 9, 3) := by decide +kernel
theorem dX5_code_24 : decode cX5_code 24 = .ok (.iload_n 2, 1) := by decide +kernel
theorem dX5_code_25 : decode cX5_code 25 = .ok (.iaload, 1) := by decide +kernel
theorem dX5_code_26 : decode cX5_code 26 = .ok (.goto 4, 3) := by decide +kernel
theorem dX5_code_29 : decode cX5_code 29 = .ok (.iconst 0, 1) := by decide +kernel
theorem dX5_code_30 : decode cX5_code 30 = .ok (.ireturn, 1) := by decide +kernel
theorem dX5_digit_0 : decode cX5_digit 0 = .ok (.aload_n 0, 1) := by decide +kernel
theorem dX5_digit_1 : decode cX5_digit 1 = .ok (.iload_n 1, 1) := by decide +kernel
theorem dX5_digit_2 : decode cX5_digit 2 = .ok (.invokevirtual 33, 3) := by decide +kernel
theorem dX5_digit_5 : decode cX5_digit 5 = .ok (.bipush 48, 2) := by decide +kernel
theorem dX5_digit_7 : decode cX5_digit 7 = .ok (.isub, 1) := by decide +kernel
theorem dX5_digit_8 : decode cX5_digit 8 = .ok (.ireturn, 1) := by decide +kernel
theorem dX5_isDigit_0 : decode cX5_isDigit 0 = .ok (.aload_n 0, 1) := by decide +kernel
theorem dX5_isDigit_1 : decode cX5_isDigit 1 = .ok (.iload_n 1, 1) := by decide +kernel
theorem dX5_isDigit_2 : decode cX5_isDigit 2 = .ok (.invokevirtual 33, 3) := by decide +kernel
theorem dX5_isDigit_5 : decode cX5_isDigit 5 = .ok (.bipush 48, 2) := by decide +kernel
theorem dX5_isDigit_7 : decode cX5_isDigit 7 = .ok (.if_icmp .lt 17, 3) := by decide +kernel
theorem dX5_isDigit_10 : decode cX5_isDigit 10 = .ok (.aload_n 0, 1) := by decide +kernel
theorem dX5_isDigit_11 : decode cX5_isDigit 11 = .ok (.iload_n 1, 1) := by decide +kernel
theorem dX5_isDigit_12 : decode cX5_isDigit 12 = .ok (.invokevirtual 33, 3) := by decide +kernel
theorem dX5_isDigit_15 : decode cX5_isDigit 15 = .ok (.bipush 57, 2) := by decide +kernel
theorem dX5_isDigit_17 : decode cX5_isDigit 17 = .ok (.if_icmp .gt 7, 3) := by decide +kernel
theorem dX5_isDigit_20 : decode cX5_isDigit 20 = .ok (.iconst 1, 1) := by decide +kernel
theorem dX5_isDigit_21 : decode cX5_isDigit 21 = .ok (.goto 4, 3) := by decide +kernel
theorem dX5_isDigit_24 : decode cX5_isDigit 24 = .ok (.iconst 0, 1) := by decide +kernel
theorem dX5_isDigit_25 : decode cX5_isDigit 25 = .ok (.ireturn, 1) := by decide +kernel
theorem dX5_isRoom_0 : decode cX5_isRoom 0 = .ok (.aload_n 0, 1) := by decide +kernel
theorem dX5_isRoom_1 : decode cX5_isRoom 1 = .ok (.iload_n 1, 1) := by decide +kernel
theorem dX5_isRoom_2 : decode cX5_isRoom 2 = .ok (.invokevirtual 33, 3) := by decide +kernel
theorem dX5_isRoom_5 : decode cX5_isRoom 5 = .ok (.bipush 48, 2) := by decide +kernel
theorem dX5_isRoom_7 : decode cX5_isRoom 7 = .ok (.if_icmp .lt 19, 3) := by decide +kernel
theorem dX5_isRoom_10 : decode cX5_isRoom 10 = .ok (.aload_n 0, 1) := by decide +kernel
theorem dX5_isRoom_11 : decode cX5_isRoom 11 = .ok (.iload_n 1, 1) := by decide +kernel
theorem dX5_isRoom_12 : decode cX5_isRoom 12 = .ok (.invokevirtual 29, 3) := by decide +kernel
theorem dX5_isRoom_15 : decode cX5_isRoom 15 = .ok (.aload_n 0, 1) := by decide +kernel
theorem dX5_isRoom_16 : decode cX5_isRoom 16 = .ok (.invokevirtual 47, 3) := by decide +kernel
theorem dX5_isRoom_19 : decode cX5_isRoom 19 = .ok (.if_icmp .ge 7, 3) := by decide +kernel
theorem dX5_isRoom_22 : decode cX5_isRoom 22 = .ok (.iconst 1, 1) := by decide +kernel
theorem dX5_isRoom_23 : decode cX5_isRoom 23 = .ok (.goto 4, 3) := by decide +kernel
theorem dX5_isRoom_26 : decode cX5_isRoom 26 = .ok (.iconst 0, 1) := by decide +kernel
theorem dX5_isRoom_27 : decode cX5_isRoom 27 = .ok (.ireturn, 1) := by decide +kernel
theorem dX5_goesOn_0 : decode cX5_goesOn 0 = .ok (.iload_n 1, 1) := by decide +kernel
theorem dX5_goesOn_1 : decode cX5_goesOn 1 = .ok (.ifCond .ne 19, 3) := by decide +kernel
theorem dX5_goesOn_4 : decode cX5_goesOn 4 = .ok (.aload_n 0, 1) := by decide +kernel
theorem dX5_goesOn_5 : decode cX5_goesOn 5 = .ok (.iload_n 1, 1) := by decide +kernel
theorem dX5_goesOn_6 : decode cX5_goesOn 6 = .ok (.invokevirtual 33, 3) := by decide +kernel
theorem dX5_goesOn_9 : decode cX5_goesOn 9 = .ok (.bipush 104, 2) := by decide +kernel
theorem dX5_goesOn_11 : decode cX5_goesOn 11 = .ok (.if_icmp .ne 7, 3) := by decide +kernel
theorem dX5_goesOn_14 : decode cX5_goesOn 14 = .ok (.iconst 1, 1) := by decide +kernel
theorem dX5_goesOn_15 : decode cX5_goesOn 15 = .ok (.goto 4, 3) := by decide +kernel
theorem dX5_goesOn_18 : decode cX5_goesOn 18 = .ok (.iconst 0, 1) := by decide +kernel
theorem dX5_goesOn_19 : decode cX5_goesOn 19 = .ok (.ireturn, 1) := by decide +kernel
theorem dX5_goesOn_20 : decode cX5_goesOn 20 = .ok (.iload_n 1, 1) := by decide +kernel
theorem dX5_goesOn_21 : decode cX5_goesOn 21 = .ok (.iconst 1, 1) := by decide +kernel
theorem dX5_goesOn_22 : decode cX5_goesOn 22 = .ok (.if_icmp .ne 29, 3) := by decide +kernel
theorem dX5_goesOn_25 : decode cX5_goesOn 25 = .ok (.aload_n 0, 1) := by decide +kernel
theorem dX5_goesOn_26 : decode cX5_goesOn 26 = .ok (.iload_n 1, 1) := by decide +kernel
theorem dX5_goesOn_27 : decode cX5_goesOn 27 = .ok (.invokevirtual 33, 3) := by decide +kernel
theorem dX5_goesOn_30 : decode cX5_goesOn 30 = .ok (.bipush 50, 2) := by decide +kernel
theorem dX5_goesOn_32 : decode cX5_goesOn 32 = .ok (.if_icmp .lt 17, 3) := by decide +kernel
theorem dX5_goesOn_35 : decode cX5_goesOn 35 = .ok (.aload_n 0, 1) := by decide +kernel
theorem dX5_goesOn_36 : decode cX5_goesOn 36 = .ok (.iload_n 1, 1) := by decide +kernel
theorem dX5_goesOn_37 : decode cX5_goesOn 37 = .ok (.invokevirtual 33, 3) := by decide +kernel
theorem dX5_goesOn_40 : decode cX5_goesOn 40 = .ok (.bipush 54, 2) := by decide +kernel
theorem dX5_goesOn_42 : decode cX5_goesOn 42 = .ok (.if_icmp .gt 7, 3) := by decide +kernel
theorem dX5_goesOn_45 : decode cX5_goesOn 45 = .ok (.iconst 1, 1) := by decide +kernel
theorem dX5_goesOn_46 : decode cX5_goesOn 46 = .ok (.goto 4, 3) := by decide +kernel
theorem dX5_goesOn_49 : decode cX5_goesOn 49 = .ok (.iconst 0, 1) := by decide +kernel
theorem dX5_goesOn_50 : decode cX5_goesOn 50 = .ok (.ireturn, 1) := by decide +kernel
theorem dX5_goesOn_51 : decode cX5_goesOn 51 = .ok (.iload_n 1, 1) := by decide +kernel
theorem dX5_goesOn_52 : decode cX5_goesOn 52 = .ok (.iconst 2, 1) := by decide +kernel
theorem dX5_goesOn_53 : decode cX5_goesOn 53 = .ok (.isub, 1) := by decide +kernel
theorem dX5_goesOn_54 : decode cX5_goesOn 54 = .ok (.bipush 6, 2) := by decide +kernel
theorem dX5_goesOn_56 : decode cX5_goesOn 56 = .ok (.irem, 1) := by decide +kernel
theorem dX5_goesOn_57 : decode cX5_goesOn 57 = .ok (.tableswitch 139 0 4 #[35, 62, 98, 104, 133], 35) := by decide +kernel
theorem dX5_goesOn_92 : decode cX5_goesOn 92 = .ok (.aload_n 0, 1) := by decide +kernel
theorem dX5_goesOn_93 : decode cX5_goesOn 93 = .ok (.iload_n 1, 1) := by decide +kernel
theorem dX5_goesOn_94 : decode cX5_goesOn 94 = .ok (.invokevirtual 33, 3) := by decide +kernel
theorem dX5_goesOn_97 : decode cX5_goesOn 97 = .ok (.bipush 59, 2) := by decide +kernel
theorem dX5_goesOn_99 : decode cX5_goesOn 99 = .ok (.if_icmp .ne 18, 3) := by decide +kernel
theorem dX5_goesOn_102 : decode cX5_goesOn 102 = .ok (.iload_n 1, 1) := by decide +kernel
theorem dX5_goesOn_103 : decode cX5_goesOn 103 = .ok (.iconst 2, 1) := by decide +kernel
theorem dX5_goesOn_104 : decode cX5_goesOn 104 = .ok (.isub, 1) := by decide +kernel
theorem dX5_goesOn_105 : decode cX5_goesOn 105 = .ok (.bipush 6, 2) := by decide +kernel
theorem dX5_goesOn_107 : decode cX5_goesOn 107 = .ok (.idiv, 1) := by decide +kernel
theorem dX5_goesOn_108 : decode cX5_goesOn 108 = .ok (.bipush 8, 2) := by decide +kernel
theorem dX5_goesOn_110 : decode cX5_goesOn 110 = .ok (.if_icmp .ge 7, 3) := by decide +kernel
theorem dX5_goesOn_113 : decode cX5_goesOn 113 = .ok (.iconst 1, 1) := by decide +kernel
theorem dX5_goesOn_114 : decode cX5_goesOn 114 = .ok (.goto 4, 3) := by decide +kernel
theorem dX5_goesOn_117 : decode cX5_goesOn 117 = .ok (.iconst 0, 1) := by decide +kernel
theorem dX5_goesOn_118 : decode cX5_goesOn 118 = .ok (.ireturn, 1) := by decide +kernel
theorem dX5_goesOn_119 : decode cX5_goesOn 119 = .ok (.aload_n 0, 1) := by decide +kernel
theorem dX5_goesOn_120 : decode cX5_goesOn 120 = .ok (.iload_n 1, 1) := by decide +kernel
theorem dX5_goesOn_121 : decode cX5_goesOn 121 = .ok (.invokevirtual 33, 3) := by decide +kernel
theorem dX5_goesOn_124 : decode cX5_goesOn 124 = .ok (.bipush 115, 2) := by decide +kernel
theorem dX5_goesOn_126 : decode cX5_goesOn 126 = .ok (.if_icmp .eq 23, 3) := by decide +kernel
theorem dX5_goesOn_129 : decode cX5_goesOn 129 = .ok (.aload_n 0, 1) := by decide +kernel
theorem dX5_goesOn_130 : decode cX5_goesOn 130 = .ok (.iload_n 1, 1) := by decide +kernel
theorem dX5_goesOn_131 : decode cX5_goesOn 131 = .ok (.invokevirtual 33, 3) := by decide +kernel
theorem dX5_goesOn_134 : decode cX5_goesOn 134 = .ok (.bipush 116, 2) := by decide +kernel
theorem dX5_goesOn_136 : decode cX5_goesOn 136 = .ok (.if_icmp .eq 13, 3) := by decide +kernel
theorem dX5_goesOn_139 : decode cX5_goesOn 139 = .ok (.aload_n 0, 1) := by decide +kernel
theorem dX5_goesOn_140 : decode cX5_goesOn 140 = .ok (.iload_n 1, 1) := by decide +kernel
theorem dX5_goesOn_141 : decode cX5_goesOn 141 = .ok (.invokevirtual 33, 3) := by decide +kernel
theorem dX5_goesOn_144 : decode cX5_goesOn 144 = .ok (.bipush 119, 2) := by decide +kernel
theorem dX5_goesOn_146 : decode cX5_goesOn 146 = .ok (.if_icmp .ne 7, 3) := by decide +kernel
theorem dX5_goesOn_149 : decode cX5_goesOn 149 = .ok (.iconst 1, 1) := by decide +kernel
theorem dX5_goesOn_150 : decode cX5_goesOn 150 = .ok (.goto 4, 3) := by decide +kernel
theorem dX5_goesOn_153 : decode cX5_goesOn 153 = .ok (.iconst 0, 1) := by decide +kernel
theorem dX5_goesOn_154 : decode cX5_goesOn 154 = .ok (.ireturn, 1) := by decide +kernel
theorem dX5_goesOn_155 : decode cX5_goesOn 155 = .ok (.aload_n 0, 1) := by decide +kernel
theorem dX5_goesOn_156 : decode cX5_goesOn 156 = .ok (.iload_n 1, 1) := by decide +kernel
theorem dX5_goesOn_157 : decode cX5_goesOn 157 = .ok (.invokevirtual 51, 3) := by decide +kernel
theorem dX5_goesOn_160 : decode cX5_goesOn 160 = .ok (.ireturn, 1) := by decide +kernel
theorem dX5_goesOn_161 : decode cX5_goesOn 161 = .ok (.aload_n 0, 1) := by decide +kernel
theorem dX5_goesOn_162 : decode cX5_goesOn 162 = .ok (.iload_n 1, 1) := by decide +kernel
theorem dX5_goesOn_163 : decode cX5_goesOn 163 = .ok (.invokevirtual 51, 3) := by decide +kernel
theorem dX5_goesOn_166 : decode cX5_goesOn 166 = .ok (.ifCond .eq 22, 3) := by decide +kernel
theorem dX5_goesOn_169 : decode cX5_goesOn 169 = .ok (.aload_n 0, 1) := by decide +kernel
theorem dX5_goesOn_170 : decode cX5_goesOn 170 = .ok (.iload_n 1, 1) := by decide +kernel
theorem dX5_goesOn_171 : decode cX5_goesOn 171 = .ok (.invokevirtual 33, 3) := by decide +kernel
theorem dX5_goesOn_174 : decode cX5_goesOn 174 = .ok (.aload_n 0, 1) := by decide +kernel
theorem dX5_goesOn_175 : decode cX5_goesOn 175 = .ok (.iload_n 1, 1) := by decide +kernel
theorem dX5_goesOn_176 : decode cX5_goesOn 176 = .ok (.iconst 1, 1) := by decide +kernel
theorem dX5_goesOn_177 : decode cX5_goesOn 177 = .ok (.isub, 1) := by decide +kernel
theorem dX5_goesOn_178 : decode cX5_goesOn 178 = .ok (.invokevirtual 33, 3) := by decide +kernel
theorem dX5_goesOn_181 : decode cX5_goesOn 181 = .ok (.if_icmp .eq 7, 3) := by decide +kernel
theorem dX5_goesOn_184 : decode cX5_goesOn 184 = .ok (.iconst 1, 1) := by decide +kernel
theorem dX5_goesOn_185 : decode cX5_goesOn 185 = .ok (.goto 4, 3) := by decide +kernel
theorem dX5_goesOn_188 : decode cX5_goesOn 188 = .ok (.iconst 0, 1) := by decide +kernel
theorem dX5_goesOn_189 : decode cX5_goesOn 189 = .ok (.ireturn, 1) := by decide +kernel
theorem dX5_goesOn_190 : decode cX5_goesOn 190 = .ok (.aload_n 0, 1) := by decide +kernel
theorem dX5_goesOn_191 : decode cX5_goesOn 191 = .ok (.iload_n 1, 1) := by decide +kernel
theorem dX5_goesOn_192 : decode cX5_goesOn 192 = .ok (.invokevirtual 54, 3) := by decide +kernel
theorem dX5_goesOn_195 : decode cX5_goesOn 195 = .ok (.ireturn, 1) := by decide +kernel
theorem dX5_goesOn_196 : decode cX5_goesOn 196 = .ok (.aload_n 0, 1) := by decide +kernel
theorem dX5_goesOn_197 : decode cX5_goesOn 197 = .ok (.iload_n 1, 1) := by decide +kernel
theorem dX5_goesOn_198 : decode cX5_goesOn 198 = .ok (.invokevirtual 54, 3) := by decide +kernel
theorem dX5_goesOn_201 : decode cX5_goesOn 201 = .ok (.ifCond .eq 15, 3) := by decide +kernel
theorem dX5_goesOn_204 : decode cX5_goesOn 204 = .ok (.aload_n 0, 1) := by decide +kernel
theorem dX5_goesOn_205 : decode cX5_goesOn 205 = .ok (.iload_n 1, 1) := by decide +kernel
theorem dX5_goesOn_206 : decode cX5_goesOn 206 = .ok (.invokevirtual 26, 3) := by decide +kernel
theorem dX5_goesOn_209 : decode cX5_goesOn 209 = .ok (.ifCond .ne 7, 3) := by decide +kernel
theorem dX5_goesOn_212 : decode cX5_goesOn 212 = .ok (.iconst 1, 1) := by decide +kernel
theorem dX5_goesOn_213 : decode cX5_goesOn 213 = .ok (.goto 4, 3) := by decide +kernel
theorem dX5_goesOn_216 : decode cX5_goesOn 216 = .ok (.iconst 0, 1) := by decide +kernel
theorem dX5_goesOn_217 : decode cX5_goesOn 217 = .ok (.ireturn, 1) := by decide +kernel
theorem dX5_isNought_0 : decode cX5_isNought 0 = .ok (.iload_n 1, 1) := by decide +kernel
theorem dX5_isNought_1 : decode cX5_isNought 1 = .ok (.iconst 2, 1) := by decide +kernel
theorem dX5_isNought_2 : decode cX5_isNought 2 = .ok (.if_icmp .le 39, 3) := by decide +kernel
theorem dX5_isNought_5 : decode cX5_isNought 5 = .ok (.iload_n 1, 1) := by decide +kernel
theorem dX5_isNought_6 : decode cX5_isNought 6 = .ok (.iconst 2, 1) := by decide +kernel
theorem dX5_isNought_7 : decode cX5_isNought 7 = .ok (.isub, 1) := by decide +kernel
theorem dX5_isNought_8 : decode cX5_isNought 8 = .ok (.bipush 6, 2) := by decide +kernel
theorem dX5_isNought_10 : decode cX5_isNought 10 = .ok (.irem, 1) := by decide +kernel
theorem dX5_isNought_11 : decode cX5_isNought 11 = .ok (.iconst 5, 1) := by decide +kernel
theorem dX5_isNought_12 : decode cX5_isNought 12 = .ok (.if_icmp .ne 29, 3) := by decide +kernel
theorem dX5_isNought_15 : decode cX5_isNought 15 = .ok (.aload_n 0, 1) := by decide +kernel
theorem dX5_isNought_16 : decode cX5_isNought 16 = .ok (.iload_n 1, 1) := by decide +kernel
theorem dX5_isNought_17 : decode cX5_isNought 17 = .ok (.iconst 1, 1) := by decide +kernel
theorem dX5_isNought_18 : decode cX5_isNought 18 = .ok (.isub, 1) := by decide +kernel
theorem dX5_isNought_19 : decode cX5_isNought 19 = .ok (.invokevirtual 33, 3) := by decide +kernel
theorem dX5_isNought_22 : decode cX5_isNought 22 = .ok (.bipush 48, 2) := by decide +kernel
theorem dX5_isNought_24 : decode cX5_isNought 24 = .ok (.if_icmp .ne 17, 3) := by decide +kernel
theorem dX5_isNought_27 : decode cX5_isNought 27 = .ok (.aload_n 0, 1) := by decide +kernel
theorem dX5_isNought_28 : decode cX5_isNought 28 = .ok (.iload_n 1, 1) := by decide +kernel
theorem dX5_isNought_29 : decode cX5_isNought 29 = .ok (.invokevirtual 33, 3) := by decide +kernel
theorem dX5_isNought_32 : decode cX5_isNought 32 = .ok (.bipush 48, 2) := by decide +kernel
theorem dX5_isNought_34 : decode cX5_isNought 34 = .ok (.if_icmp .ne 7, 3) := by decide +kernel
theorem dX5_isNought_37 : decode cX5_isNought 37 = .ok (.iconst 1, 1) := by decide +kernel
theorem dX5_isNought_38 : decode cX5_isNought 38 = .ok (.goto 4, 3) := by decide +kernel
theorem dX5_isNought_41 : decode cX5_isNought 41 = .ok (.iconst 0, 1) := by decide +kernel
theorem dX5_isNought_42 : decode cX5_isNought 42 = .ok (.ireturn, 1) := by decide +kernel
theorem dX6_init_0 : decode cX6_init 0 = .ok (.aload_n 0, 1) := by decide +kernel
theorem dX6_init_1 : decode cX6_init 1 = .ok (.invokespecial 1, 3) := by decide +kernel
theorem dX6_init_4 : decode cX6_init 4 = .ok (.return_, 1) := by decide +kernel
theorem dX6_note_0 : decode cX6_note 0 = .ok (.aload_n 0, 1) := by decide +kernel
theorem dX6_note_1 : decode cX6_note 1 = .ok (.bipush 31, 2) := by decide +kernel
theorem dX6_note_3 : decode cX6_note 3 = .ok (.aload_n 0, 1) := by decide +kernel
theorem dX6_note_4 : decode cX6_note 4 = .ok (.getfield 7, 3) := by decide +kernel
theorem dX6_note_7 : decode cX6_note 7 = .ok (.imul, 1) := by decide +kernel
theorem dX6_note_8 : decode cX6_note 8 = .ok (.iload_n 1, 1) := by decide +kernel
theorem dX6_note_9 : decode cX6_note 9 = .ok (.iadd, 1) := by decide +kernel
theorem dX6_note_10 : decode cX6_note 10 = .ok (.putfield 7, 3) := by decide +kernel
theorem dX6_note_13 : decode cX6_note 13 = .ok (.return_, 1) := by decide +kernel
theorem dX7_init_0 : decode cX7_init 0 = .ok (.aload_n 0, 1) := by decide +kernel
theorem dX7_init_1 : decode cX7_init 1 = .ok (.iload_n 1, 1) := by decide +kernel
theorem dX7_init_2 : decode cX7_init 2 = .ok (.iload_n 2, 1) := by decide +kernel
theorem dX7_init_3 : decode cX7_init 3 = .ok (.iload_n 3, 1) := by decide +kernel
theorem dX7_init_4 : decode cX7_init 4 = .ok (.iconst 2, 1) := by decide +kernel
theorem dX7_init_5 : decode cX7_init 5 = .ok (.invokespecial 5, 3) := by decide +kernel
theorem dX7_init_8 : decode cX7_init 8 = .ok (.return_, 1) := by decide +kernel
theorem dX7_init__0 : decode cX7_init_ 0 = .ok (.aload_n 0, 1) := by decide +kernel
theorem dX7_init__1 : decode cX7_init_ 1 = .ok (.iload_n 1, 1) := by decide +kernel
theorem dX7_init__2 : decode cX7_init_ 2 = .ok (.iload_n 2, 1) := by decide +kernel
theorem dX7_init__3 : decode cX7_init_ 3 = .ok (.iload_n 3, 1) := by decide +kernel
theorem dX7_init__4 : decode cX7_init_ 4 = .ok (.iload_n 3, 1) := by decide +kernel
theorem dX7_init__5 : decode cX7_init_ 5 = .ok (.bipush 10, 2) := by decide +kernel
theorem dX7_init__7 : decode cX7_init_ 7 = .ok (.iadd, 1) := by decide +kernel
theorem dX7_init__8 : decode cX7_init_ 8 = .ok (.iload 4, 2) := by decide +kernel
theorem dX7_init__10 : decode cX7_init_ 10 = .ok (.invokespecial 11, 3) := by decide +kernel
theorem dX7_init__13 : decode cX7_init_ 13 = .ok (.return_, 1) := by decide +kernel
theorem dX7_kind_0 : decode cX7_kind 0 = .ok (.iconst 1, 1) := by decide +kernel
theorem dX7_kind_1 : decode cX7_kind 1 = .ok (.ireturn, 1) := by decide +kernel
theorem dX7_telling_0 : decode cX7_telling 0 = .ok (.aload_n 1, 1) := by decide +kernel
theorem dX7_telling_1 : decode cX7_telling 1 = .ok (.iconst 2, 1) := by decide +kernel
theorem dX7_telling_2 : decode cX7_telling 2 = .ok (.invokevirtual 14, 3) := by decide +kernel
theorem dX7_telling_5 : decode cX7_telling 5 = .ok (.aload_n 0, 1) := by decide +kernel
theorem dX7_telling_6 : decode cX7_telling 6 = .ok (.aload_n 1, 1) := by decide +kernel
theorem dX7_telling_7 : decode cX7_telling 7 = .ok (.invokespecial 20, 3) := by decide +kernel
theorem dX7_telling_10 : decode cX7_telling 10 = .ok (.bipush 100, 2) := by decide +kernel
theorem dX7_telling_12 : decode cX7_telling 12 = .ok (.iadd, 1) := by decide +kernel
theorem dX7_telling_13 : decode cX7_telling 13 = .ok (.ireturn, 1) := by decide +kernel
theorem dX8_init_0 : decode cX8_init 0 = .ok (.aload_n 0, 1) := by decide +kernel
theorem dX8_init_1 : decode cX8_init 1 = .ok (.iload_n 1, 1) := by decide +kernel
theorem dX8_init_2 : decode cX8_init 2 = .ok (.iload_n 2, 1) := by decide +kernel
theorem dX8_init_3 : decode cX8_init 3 = .ok (.iload_n 3, 1) := by decide +kernel
theorem dX8_init_4 : decode cX8_init 4 = .ok (.iconst 5, 1) := by decide +kernel
theorem dX8_init_5 : decode cX8_init 5 = .ok (.invokespecial 5, 3) := by decide +kernel
theorem dX8_init_8 : decode cX8_init 8 = .ok (.return_, 1) := by decide +kernel
theorem dX8_kind_0 : decode cX8_kind 0 = .ok (.iconst 2, 1) := by decide +kernel
theorem dX8_kind_1 : decode cX8_kind 1 = .ok (.ireturn, 1) := by decide +kernel
theorem dX8_telling_0 : decode cX8_telling 0 = .ok (.aload_n 1, 1) := by decide +kernel
theorem dX8_telling_1 : decode cX8_telling 1 = .ok (.iconst 3, 1) := by decide +kernel
theorem dX8_telling_2 : decode cX8_telling 2 = .ok (.invokevirtual 11, 3) := by decide +kernel
theorem dX8_telling_5 : decode cX8_telling 5 = .ok (.aload_n 0, 1) := by decide +kernel
theorem dX8_telling_6 : decode cX8_telling 6 = .ok (.aload_n 1, 1) := by decide +kernel
theorem dX8_telling_7 : decode cX8_telling 7 = .ok (.invokespecial 17, 3) := by decide +kernel
theorem dX8_telling_10 : decode cX8_telling 10 = .ok (.istore_n 2, 1) := by decide +kernel
theorem dX8_telling_11 : decode cX8_telling 11 = .ok (.iload_n 2, 1) := by decide +kernel
theorem dX8_telling_12 : decode cX8_telling 12 = .ok (.aload_n 0, 1) := by decide +kernel
theorem dX8_telling_13 : decode cX8_telling 13 = .ok (.aload_n 1, 1) := by decide +kernel
theorem dX8_telling_14 : decode cX8_telling 14 = .ok (.invokevirtual 21, 3) := by decide +kernel
theorem dX8_telling_17 : decode cX8_telling 17 = .ok (.iadd, 1) := by decide +kernel
theorem dX8_telling_18 : decode cX8_telling 18 = .ok (.ireturn, 1) := by decide +kernel
theorem dX8_rung_0 : decode cX8_rung 0 = .ok (.aload_n 1, 1) := by decide +kernel
theorem dX8_rung_1 : decode cX8_rung 1 = .ok (.iconst 5, 1) := by decide +kernel
theorem dX8_rung_2 : decode cX8_rung 2 = .ok (.invokevirtual 11, 3) := by decide +kernel
theorem dX8_rung_5 : decode cX8_rung 5 = .ok (.bipush 80, 2) := by decide +kernel
theorem dX8_rung_7 : decode cX8_rung 7 = .ok (.ireturn, 1) := by decide +kernel
theorem dX9_init_0 : decode cX9_init 0 = .ok (.aload_n 0, 1) := by decide +kernel
theorem dX9_init_1 : decode cX9_init 1 = .ok (.invokespecial 3, 3) := by decide +kernel
theorem dX9_init_4 : decode cX9_init 4 = .ok (.aload_n 0, 1) := by decide +kernel
theorem dX9_init_5 : decode cX9_init 5 = .ok (.iconst 4, 1) := by decide +kernel
theorem dX9_init_6 : decode cX9_init 6 = .ok (.anewarray 11, 3) := by decide +kernel
theorem dX9_init_9 : decode cX9_init 9 = .ok (.putfield 13, 3) := by decide +kernel
theorem dX9_init_12 : decode cX9_init 12 = .ok (.aload_n 0, 1) := by decide +kernel
theorem dX9_init_13 : decode cX9_init 13 = .ok (.new 17, 3) := by decide +kernel
theorem dX9_init_16 : decode cX9_init 16 = .ok (.dup, 1) := by decide +kernel
theorem dX9_init_17 : decode cX9_init 17 = .ok (.invokespecial 19, 3) := by decide +kernel
theorem dX9_init_20 : decode cX9_init 20 = .ok (.putfield 20, 3) := by decide +kernel
theorem dX9_init_23 : decode cX9_init 23 = .ok (.aload_n 0, 1) := by decide +kernel
theorem dX9_init_24 : decode cX9_init 24 = .ok (.new 24, 3) := by decide +kernel
theorem dX9_init_27 : decode cX9_init 27 = .ok (.dup, 1) := by decide +kernel
theorem dX9_init_28 : decode cX9_init 28 = .ok (.invokespecial 26, 3) := by decide +kernel
theorem dX9_init_31 : decode cX9_init 31 = .ok (.putfield 27, 3) := by decide +kernel
theorem dX9_init_34 : decode cX9_init 34 = .ok (.aload_n 0, 1) := by decide +kernel
theorem dX9_init_35 : decode cX9_init 35 = .ok (.new 31, 3) := by decide +kernel
theorem dX9_init_38 : decode cX9_init 38 = .ok (.dup, 1) := by decide +kernel
