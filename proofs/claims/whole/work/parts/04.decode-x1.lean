theorem dX9_init_39 : decode cX9_init 39 = .ok (.invokespecial 33, 3) := by decide +kernel
theorem dX9_init_42 : decode cX9_init 42 = .ok (.putfield 34, 3) := by decide +kernel
theorem dX9_init_45 : decode cX9_init 45 = .ok (.aload_n 0, 1) := by decide +kernel
theorem dX9_init_46 : decode cX9_init 46 = .ok (.new 38, 3) := by decide +kernel
theorem dX9_init_49 : decode cX9_init 49 = .ok (.dup, 1) := by decide +kernel
theorem dX9_init_50 : decode cX9_init 50 = .ok (.invokespecial 40, 3) := by decide +kernel
theorem dX9_init_53 : decode cX9_init 53 = .ok (.putfield 41, 3) := by decide +kernel
theorem dX9_init_56 : decode cX9_init 56 = .ok (.iconst 0, 1) := by decide +kernel
theorem dX9_init_57 : decode cX9_init 57 = .ok (.istore_n 1, 1) := by decide +kernel
theorem dX9_init_58 : decode cX9_init 58 = .ok (.iload_n 1, 1) := by decide +kernel
theorem dX9_init_59 : decode cX9_init 59 = .ok (.iconst 4, 1) := by decide +kernel
theorem dX9_init_60 : decode cX9_init 60 = .ok (.if_icmp .ge 22, 3) := by decide +kernel
theorem dX9_init_63 : decode cX9_init 63 = .ok (.aload_n 0, 1) := by decide +kernel
theorem dX9_init_64 : decode cX9_init 64 = .ok (.getfield 13, 3) := by decide +kernel
theorem dX9_init_67 : decode cX9_init 67 = .ok (.iload_n 1, 1) := by decide +kernel
theorem dX9_init_68 : decode cX9_init 68 = .ok (.new 11, 3) := by decide +kernel
theorem dX9_init_71 : decode cX9_init 71 = .ok (.dup, 1) := by decide +kernel
theorem dX9_init_72 : decode cX9_init 72 = .ok (.invokespecial 45, 3) := by decide +kernel
theorem dX9_init_75 : decode cX9_init 75 = .ok (.aastore, 1) := by decide +kernel
theorem dX9_init_76 : decode cX9_init 76 = .ok (.iinc 1 1, 3) := by decide +kernel
theorem dX9_init_79 : decode cX9_init 79 = .ok (.goto (-21), 3) := by decide +kernel
theorem dX9_init_82 : decode cX9_init 82 = .ok (.return_, 1) := by decide +kernel
theorem dX9_house_0 : decode cX9_house 0 = .ok (.aload_n 0, 1) := by decide +kernel
theorem dX9_house_1 : decode cX9_house 1 = .ok (.iload_n 1, 1) := by decide +kernel
theorem dX9_house_2 : decode cX9_house 2 = .ok (.iload_n 2, 1) := by decide +kernel
theorem dX9_house_3 : decode cX9_house 3 = .ok (.iload_n 3, 1) := by decide +kernel
theorem dX9_house_4 : decode cX9_house 4 = .ok (.iload 4, 2) := by decide +kernel
theorem dX9_house_6 : decode cX9_house 6 = .ok (.invokevirtual 46, 3) := by decide +kernel
theorem dX9_house_9 : decode cX9_house 9 = .ok (.istore 5, 2) := by decide +kernel
theorem dX9_house_11 : decode cX9_house 11 = .ok (.iload 5, 2) := by decide +kernel
theorem dX9_house_13 : decode cX9_house 13 = .ok (.ifCond .eq 6, 3) := by decide +kernel
theorem dX9_house_16 : decode cX9_house 16 = .ok (.iload 5, 2) := by decide +kernel
theorem dX9_house_18 : decode cX9_house 18 = .ok (.ireturn, 1) := by decide +kernel
theorem dX9_house_19 : decode cX9_house 19 = .ok (.new 50, 3) := by decide +kernel
theorem dX9_house_22 : decode cX9_house 22 = .ok (.dup, 1) := by decide +kernel
theorem dX9_house_23 : decode cX9_house 23 = .ok (.aload_n 0, 1) := by decide +kernel
theorem dX9_house_24 : decode cX9_house 24 = .ok (.getfield 13, 3) := by decide +kernel
theorem dX9_house_27 : decode cX9_house 27 = .ok (.iload_n 1, 1) := by decide +kernel
theorem dX9_house_28 : decode cX9_house 28 = .ok (.aaload, 1) := by decide +kernel
theorem dX9_house_29 : decode cX9_house 29 = .ok (.getfield 52, 3) := by decide +kernel
theorem dX9_house_32 : decode cX9_house 32 = .ok (.iload_n 3, 1) := by decide +kernel
theorem dX9_house_33 : decode cX9_house 33 = .ok (.iload 4, 2) := by decide +kernel
theorem dX9_house_35 : decode cX9_house 35 = .ok (.invokespecial 56, 3) := by decide +kernel
theorem dX9_house_38 : decode cX9_house 38 = .ok (.astore 6, 2) := by decide +kernel
theorem dX9_house_40 : decode cX9_house 40 = .ok (.aload 6, 2) := by decide +kernel
theorem dX9_house_42 : decode cX9_house 42 = .ok (.invokevirtual 59, 3) := by decide +kernel
theorem dX9_house_45 : decode cX9_house 45 = .ok (.istore 7, 2) := by decide +kernel
theorem dX9_house_47 : decode cX9_house 47 = .ok (.iload 7, 2) := by decide +kernel
theorem dX9_house_49 : decode cX9_house 49 = .ok (.iconst (-1), 1) := by decide +kernel
theorem dX9_house_50 : decode cX9_house 50 = .ok (.if_icmp .eq 9, 3) := by decide +kernel
theorem dX9_house_53 : decode cX9_house 53 = .ok (.bipush (-100), 2) := by decide +kernel
theorem dX9_house_55 : decode cX9_house 55 = .ok (.iload 7, 2) := by decide +kernel
theorem dX9_house_57 : decode cX9_house 57 = .ok (.isub, 1) := by decide +kernel
theorem dX9_house_58 : decode cX9_house 58 = .ok (.ireturn, 1) := by decide +kernel
theorem dX9_house_59 : decode cX9_house 59 = .ok (.aload_n 0, 1) := by decide +kernel
theorem dX9_house_60 : decode cX9_house 60 = .ok (.getfield 20, 3) := by decide +kernel
theorem dX9_house_63 : decode cX9_house 63 = .ok (.aload 6, 2) := by decide +kernel
theorem dX9_house_65 : decode cX9_house 65 = .ok (.invokevirtual 63, 3) := by decide +kernel
theorem dX9_house_68 : decode cX9_house 68 = .ok (.aload_n 0, 1) := by decide +kernel
theorem dX9_house_69 : decode cX9_house 69 = .ok (.getfield 27, 3) := by decide +kernel
theorem dX9_house_72 : decode cX9_house 72 = .ok (.invokevirtual 67, 3) := by decide +kernel
theorem dX9_house_75 : decode cX9_house 75 = .ok (.aload_n 0, 1) := by decide +kernel
theorem dX9_house_76 : decode cX9_house 76 = .ok (.getfield 20, 3) := by decide +kernel
theorem dX9_house_79 : decode cX9_house 79 = .ok (.getfield 70, 3) := by decide +kernel
theorem dX9_house_82 : decode cX9_house 82 = .ok (.ireturn, 1) := by decide +kernel
theorem dX9_ofDoor_0 : decode cX9_ofDoor 0 = .ok (.aload_n 0, 1) := by decide +kernel
theorem dX9_ofDoor_1 : decode cX9_ofDoor 1 = .ok (.getfield 20, 3) := by decide +kernel
theorem dX9_ofDoor_4 : decode cX9_ofDoor 4 = .ok (.iload_n 1, 1) := by decide +kernel
theorem dX9_ofDoor_5 : decode cX9_ofDoor 5 = .ok (.invokevirtual 74, 3) := by decide +kernel
theorem dX9_ofDoor_8 : decode cX9_ofDoor 8 = .ok (.ifCond .ne 5, 3) := by decide +kernel
theorem dX9_ofDoor_11 : decode cX9_ofDoor 11 = .ok (.iconst (-1), 1) := by decide +kernel
theorem dX9_ofDoor_12 : decode cX9_ofDoor 12 = .ok (.ireturn, 1) := by decide +kernel
theorem dX9_ofDoor_13 : decode cX9_ofDoor 13 = .ok (.iload_n 2, 1) := by decide +kernel
theorem dX9_ofDoor_14 : decode cX9_ofDoor 14 = .ok (.ifCond .lt 9, 3) := by decide +kernel
theorem dX9_ofDoor_17 : decode cX9_ofDoor 17 = .ok (.iload_n 2, 1) := by decide +kernel
theorem dX9_ofDoor_18 : decode cX9_ofDoor 18 = .ok (.bipush 7, 2) := by decide +kernel
theorem dX9_ofDoor_20 : decode cX9_ofDoor 20 = .ok (.if_icmp .le 6, 3) := by decide +kernel
theorem dX9_ofDoor_23 : decode cX9_ofDoor 23 = .ok (.bipush (-2), 2) := by decide +kernel
theorem dX9_ofDoor_25 : decode cX9_ofDoor 25 = .ok (.ireturn, 1) := by decide +kernel
theorem dX9_ofDoor_26 : decode cX9_ofDoor 26 = .ok (.aload_n 0, 1) := by decide +kernel
theorem dX9_ofDoor_27 : decode cX9_ofDoor 27 = .ok (.getfield 20, 3) := by decide +kernel
theorem dX9_ofDoor_30 : decode cX9_ofDoor 30 = .ok (.getfield 78, 3) := by decide +kernel
theorem dX9_ofDoor_33 : decode cX9_ofDoor 33 = .ok (.iload_n 1, 1) := by decide +kernel
theorem dX9_ofDoor_34 : decode cX9_ofDoor 34 = .ok (.aaload, 1) := by decide +kernel
theorem dX9_ofDoor_35 : decode cX9_ofDoor 35 = .ok (.iload_n 2, 1) := by decide +kernel
theorem dX9_ofDoor_36 : decode cX9_ofDoor 36 = .ok (.invokevirtual 82, 3) := by decide +kernel
theorem dX9_ofDoor_39 : decode cX9_ofDoor 39 = .ok (.ireturn, 1) := by decide +kernel
theorem dX9_person_0 : decode cX9_person 0 = .ok (.aload_n 0, 1) := by decide +kernel
theorem dX9_person_1 : decode cX9_person 1 = .ok (.getfield 20, 3) := by decide +kernel
theorem dX9_person_4 : decode cX9_person 4 = .ok (.iload_n 2, 1) := by decide +kernel
theorem dX9_person_5 : decode cX9_person 5 = .ok (.invokevirtual 88, 3) := by decide +kernel
theorem dX9_person_8 : decode cX9_person 8 = .ok (.ifCond .ne 5, 3) := by decide +kernel
theorem dX9_person_11 : decode cX9_person 11 = .ok (.iconst (-1), 1) := by decide +kernel
theorem dX9_person_12 : decode cX9_person 12 = .ok (.ireturn, 1) := by decide +kernel
theorem dX9_person_13 : decode cX9_person 13 = .ok (.iload_n 1, 1) := by decide +kernel
theorem dX9_person_14 : decode cX9_person 14 = .ok (.invokestatic 91, 3) := by decide +kernel
theorem dX9_person_17 : decode cX9_person 17 = .ok (.ifCond .ne 6, 3) := by decide +kernel
theorem dX9_person_20 : decode cX9_person 20 = .ok (.bipush (-2), 2) := by decide +kernel
theorem dX9_person_22 : decode cX9_person 22 = .ok (.ireturn, 1) := by decide +kernel
theorem dX9_person_23 : decode cX9_person 23 = .ok (.aload_n 0, 1) := by decide +kernel
theorem dX9_person_24 : decode cX9_person 24 = .ok (.getfield 27, 3) := by decide +kernel
theorem dX9_person_27 : decode cX9_person 27 = .ok (.getfield 94, 3) := by decide +kernel
theorem dX9_person_30 : decode cX9_person 30 = .ok (.iconst 4, 1) := by decide +kernel
theorem dX9_person_31 : decode cX9_person 31 = .ok (.if_icmp .lt 6, 3) := by decide +kernel
theorem dX9_person_34 : decode cX9_person 34 = .ok (.bipush (-4), 2) := by decide +kernel
theorem dX9_person_36 : decode cX9_person 36 = .ok (.ireturn, 1) := by decide +kernel
theorem dX9_person_37 : decode cX9_person 37 = .ok (.aload_n 0, 1) := by decide +kernel
theorem dX9_person_38 : decode cX9_person 38 = .ok (.getfield 27, 3) := by decide +kernel
theorem dX9_person_41 : decode cX9_person 41 = .ok (.iload_n 1, 1) := by decide +kernel
theorem dX9_person_42 : decode cX9_person 42 = .ok (.iload_n 2, 1) := by decide +kernel
theorem dX9_person_43 : decode cX9_person 43 = .ok (.invokevirtual 97, 3) := by decide +kernel
theorem dX9_person_46 : decode cX9_person 46 = .ok (.ireturn, 1) := by decide +kernel
theorem dX9_stone_0 : decode cX9_stone 0 = .ok (.aload_n 0, 1) := by decide +kernel
theorem dX9_stone_1 : decode cX9_stone 1 = .ok (.getfield 20, 3) := by decide +kernel
theorem dX9_stone_4 : decode cX9_stone 4 = .ok (.iload_n 2, 1) := by decide +kernel
theorem dX9_stone_5 : decode cX9_stone 5 = .ok (.invokevirtual 88, 3) := by decide +kernel
theorem dX9_stone_8 : decode cX9_stone 8 = .ok (.ifCond .ne 5, 3) := by decide +kernel
theorem dX9_stone_11 : decode cX9_stone 11 = .ok (.iconst (-1), 1) := by decide +kernel
theorem dX9_stone_12 : decode cX9_stone 12 = .ok (.ireturn, 1) := by decide +kernel
theorem dX9_stone_13 : decode cX9_stone 13 = .ok (.iload_n 1, 1) := by decide +kernel
theorem dX9_stone_14 : decode cX9_stone 14 = .ok (.iconst 1, 1) := by decide +kernel
theorem dX9_stone_15 : decode cX9_stone 15 = .ok (.if_icmp .lt 9, 3) := by decide +kernel
theorem dX9_stone_18 : decode cX9_stone 18 = .ok (.iload_n 1, 1) := by decide +kernel
theorem dX9_stone_19 : decode cX9_stone 19 = .ok (.bipush 20, 2) := by decide +kernel
theorem dX9_stone_21 : decode cX9_stone 21 = .ok (.if_icmp .le 6, 3) := by decide +kernel
theorem dX9_stone_24 : decode cX9_stone 24 = .ok (.bipush (-2), 2) := by decide +kernel
theorem dX9_stone_26 : decode cX9_stone 26 = .ok (.ireturn, 1) := by decide +kernel
theorem dX9_stone_27 : decode cX9_stone 27 = .ok (.aload_n 0, 1) := by decide +kernel
theorem dX9_stone_28 : decode cX9_stone 28 = .ok (.getfield 27, 3) := by decide +kernel
theorem dX9_stone_31 : decode cX9_stone 31 = .ok (.getfield 101, 3) := by decide +kernel
theorem dX9_stone_34 : decode cX9_stone 34 = .ok (.iconst 4, 1) := by decide +kernel
theorem dX9_stone_35 : decode cX9_stone 35 = .ok (.if_icmp .lt 6, 3) := by decide +kernel
theorem dX9_stone_38 : decode cX9_stone 38 = .ok (.bipush (-4), 2) := by decide +kernel
theorem dX9_stone_40 : decode cX9_stone 40 = .ok (.ireturn, 1) := by decide +kernel
theorem dX9_stone_41 : decode cX9_stone 41 = .ok (.aload_n 0, 1) := by decide +kernel
theorem dX9_stone_42 : decode cX9_stone 42 = .ok (.getfield 27, 3) := by decide +kernel
theorem dX9_stone_45 : decode cX9_stone 45 = .ok (.iload_n 1, 1) := by decide +kernel
theorem dX9_stone_46 : decode cX9_stone 46 = .ok (.iload_n 2, 1) := by decide +kernel
theorem dX9_stone_47 : decode cX9_stone 47 = .ok (.invokevirtual 104, 3) := by decide +kernel
theorem dX9_stone_50 : decode cX9_stone 50 = .ok (.ireturn, 1) := by decide +kernel
theorem dX9_ofPerson_0 : decode cX9_ofPerson 0 = .ok (.aload_n 0, 1) := by decide +kernel
theorem dX9_ofPerson_1 : decode cX9_ofPerson 1 = .ok (.getfield 27, 3) := by decide +kernel
theorem dX9_ofPerson_4 : decode cX9_ofPerson 4 = .ok (.iload_n 1, 1) := by decide +kernel
theorem dX9_ofPerson_5 : decode cX9_ofPerson 5 = .ok (.invokevirtual 107, 3) := by decide +kernel
theorem dX9_ofPerson_8 : decode cX9_ofPerson 8 = .ok (.ifCond .ne 5, 3) := by decide +kernel
theorem dX9_ofPerson_11 : decode cX9_ofPerson 11 = .ok (.iconst (-1), 1) := by decide +kernel
theorem dX9_ofPerson_12 : decode cX9_ofPerson 12 = .ok (.ireturn, 1) := by decide +kernel
theorem dX9_ofPerson_13 : decode cX9_ofPerson 13 = .ok (.iload_n 2, 1) := by decide +kernel
theorem dX9_ofPerson_14 : decode cX9_ofPerson 14 = .ok (.tableswitch 68 0 3 #[30, 40, 50, 59], 30) := by decide +kernel
theorem dX9_ofPerson_44 : decode cX9_ofPerson 44 = .ok (.aload_n 0, 1) := by decide +kernel
theorem dX9_ofPerson_45 : decode cX9_ofPerson 45 = .ok (.getfield 27, 3) := by decide +kernel
theorem dX9_ofPerson_48 : decode cX9_ofPerson 48 = .ok (.getfield 110, 3) := by decide +kernel
theorem dX9_ofPerson_51 : decode cX9_ofPerson 51 = .ok (.iload_n 1, 1) := by decide +kernel
theorem dX9_ofPerson_52 : decode cX9_ofPerson 52 = .ok (.iaload, 1) := by decide +kernel
theorem dX9_ofPerson_53 : decode cX9_ofPerson 53 = .ok (.ireturn, 1) := by decide +kernel
theorem dX9_ofPerson_54 : decode cX9_ofPerson 54 = .ok (.aload_n 0, 1) := by decide +kernel
theorem dX9_ofPerson_55 : decode cX9_ofPerson 55 = .ok (.getfield 27, 3) := by decide +kernel
theorem dX9_ofPerson_58 : decode cX9_ofPerson 58 = .ok (.getfield 113, 3) := by decide +kernel
theorem dX9_ofPerson_61 : decode cX9_ofPerson 61 = .ok (.iload_n 1, 1) := by decide +kernel
theorem dX9_ofPerson_62 : decode cX9_ofPerson 62 = .ok (.iaload, 1) := by decide +kernel
theorem dX9_ofPerson_63 : decode cX9_ofPerson 63 = .ok (.ireturn, 1) := by decide +kernel
theorem dX9_ofPerson_64 : decode cX9_ofPerson 64 = .ok (.aload_n 0, 1) := by decide +kernel
theorem dX9_ofPerson_65 : decode cX9_ofPerson 65 = .ok (.getfield 27, 3) := by decide +kernel
theorem dX9_ofPerson_68 : decode cX9_ofPerson 68 = .ok (.iload_n 1, 1) := by decide +kernel
theorem dX9_ofPerson_69 : decode cX9_ofPerson 69 = .ok (.invokevirtual 116, 3) := by decide +kernel
theorem dX9_ofPerson_72 : decode cX9_ofPerson 72 = .ok (.ireturn, 1) := by decide +kernel
theorem dX9_ofPerson_73 : decode cX9_ofPerson 73 = .ok (.aload_n 0, 1) := by decide +kernel
theorem dX9_ofPerson_74 : decode cX9_ofPerson 74 = .ok (.getfield 27, 3) := by decide +kernel
theorem dX9_ofPerson_77 : decode cX9_ofPerson 77 = .ok (.iload_n 1, 1) := by decide +kernel
theorem dX9_ofPerson_78 : decode cX9_ofPerson 78 = .ok (.invokevirtual 119, 3) := by decide +kernel
theorem dX9_ofPerson_81 : decode cX9_ofPerson 81 = .ok (.ireturn, 1) := by decide +kernel
theorem dX9_ofPerson_82 : decode cX9_ofPerson 82 = .ok (.bipush (-2), 2) := by decide +kernel
theorem dX9_ofPerson_84 : decode cX9_ofPerson 84 = .ok (.ireturn, 1) := by decide +kernel
theorem dX9_ofStone_0 : decode cX9_ofStone 0 = .ok (.aload_n 0, 1) := by decide +kernel
theorem dX9_ofStone_1 : decode cX9_ofStone 1 = .ok (.getfield 27, 3) := by decide +kernel
theorem dX9_ofStone_4 : decode cX9_ofStone 4 = .ok (.iload_n 1, 1) := by decide +kernel
theorem dX9_ofStone_5 : decode cX9_ofStone 5 = .ok (.invokevirtual 122, 3) := by decide +kernel
theorem dX9_ofStone_8 : decode cX9_ofStone 8 = .ok (.ifCond .ne 5, 3) := by decide +kernel
theorem dX9_ofStone_11 : decode cX9_ofStone 11 = .ok (.iconst (-1), 1) := by decide +kernel
theorem dX9_ofStone_12 : decode cX9_ofStone 12 = .ok (.ireturn, 1) := by decide +kernel
theorem dX9_ofStone_13 : decode cX9_ofStone 13 = .ok (.iload_n 2, 1) := by decide +kernel
theorem dX9_ofStone_14 : decode cX9_ofStone 14 = .ok (.ifCond .lt 8, 3) := by decide +kernel
theorem dX9_ofStone_17 : decode cX9_ofStone 17 = .ok (.iload_n 2, 1) := by decide +kernel
theorem dX9_ofStone_18 : decode cX9_ofStone 18 = .ok (.iconst 1, 1) := by decide +kernel
theorem dX9_ofStone_19 : decode cX9_ofStone 19 = .ok (.if_icmp .le 6, 3) := by decide +kernel
theorem dX9_ofStone_22 : decode cX9_ofStone 22 = .ok (.bipush (-2), 2) := by decide +kernel
theorem dX9_ofStone_24 : decode cX9_ofStone 24 = .ok (.ireturn, 1) := by decide +kernel
theorem dX9_ofStone_25 : decode cX9_ofStone 25 = .ok (.iload_n 2, 1) := by decide +kernel
theorem dX9_ofStone_26 : decode cX9_ofStone 26 = .ok (.ifCond .ne 15, 3) := by decide +kernel
theorem dX9_ofStone_29 : decode cX9_ofStone 29 = .ok (.aload_n 0, 1) := by decide +kernel
theorem dX9_ofStone_30 : decode cX9_ofStone 30 = .ok (.getfield 27, 3) := by decide +kernel
theorem dX9_ofStone_33 : decode cX9_ofStone 33 = .ok (.getfield 125, 3) := by decide +kernel
theorem dX9_ofStone_36 : decode cX9_ofStone 36 = .ok (.iload_n 1, 1) := by decide +kernel
theorem dX9_ofStone_37 : decode cX9_ofStone 37 = .ok (.iaload, 1) := by decide +kernel
theorem dX9_ofStone_38 : decode cX9_ofStone 38 = .ok (.goto 12, 3) := by decide +kernel
theorem dX9_ofStone_41 : decode cX9_ofStone 41 = .ok (.aload_n 0, 1) := by decide +kernel
theorem dX9_ofStone_42 : decode cX9_ofStone 42 = .ok (.getfield 27, 3) := by decide +kernel
theorem dX9_ofStone_45 : decode cX9_ofStone 45 = .ok (.getfield 128, 3) := by decide +kernel
theorem dX9_ofStone_48 : decode cX9_ofStone 48 = .ok (.iload_n 1, 1) := by decide +kernel
theorem dX9_ofStone_49 : decode cX9_ofStone 49 = .ok (.iaload, 1) := by decide +kernel
theorem dX9_ofStone_50 : decode cX9_ofStone 50 = .ok (.ireturn, 1) := by decide +kernel
theorem dX9_take_0 : decode cX9_take 0 = .ok (.aload_n 0, 1) := by decide +kernel
theorem dX9_take_1 : decode cX9_take 1 = .ok (.getfield 27, 3) := by decide +kernel
theorem dX9_take_4 : decode cX9_take 4 = .ok (.iload_n 1, 1) := by decide +kernel
theorem dX9_take_5 : decode cX9_take 5 = .ok (.invokevirtual 107, 3) := by decide +kernel
theorem dX9_take_8 : decode cX9_take 8 = .ok (.ifCond .eq 14, 3) := by decide +kernel
theorem dX9_take_11 : decode cX9_take 11 = .ok (.aload_n 0, 1) := by decide +kernel
theorem dX9_take_12 : decode cX9_take 12 = .ok (.getfield 27, 3) := by decide +kernel
theorem dX9_take_15 : decode cX9_take 15 = .ok (.iload_n 2, 1) := by decide +kernel
theorem dX9_take_16 : decode cX9_take 16 = .ok (.invokevirtual 122, 3) := by decide +kernel
theorem dX9_take_19 : decode cX9_take 19 = .ok (.ifCond .ne 5, 3) := by decide +kernel
theorem dX9_take_22 : decode cX9_take 22 = .ok (.iconst (-1), 1) := by decide +kernel
theorem dX9_take_23 : decode cX9_take 23 = .ok (.ireturn, 1) := by decide +kernel
theorem dX9_take_24 : decode cX9_take 24 = .ok (.aload_n 0, 1) := by decide +kernel
theorem dX9_take_25 : decode cX9_take 25 = .ok (.getfield 27, 3) := by decide +kernel
theorem dX9_take_28 : decode cX9_take 28 = .ok (.getfield 128, 3) := by decide +kernel
theorem dX9_take_31 : decode cX9_take 31 = .ok (.iload_n 2, 1) := by decide +kernel
theorem dX9_take_32 : decode cX9_take 32 = .ok (.iaload, 1) := by decide +kernel
theorem dX9_take_33 : decode cX9_take 33 = .ok (.aload_n 0, 1) := by decide +kernel
theorem dX9_take_34 : decode cX9_take 34 = .ok (.getfield 27, 3) := by decide +kernel
theorem dX9_take_37 : decode cX9_take 37 = .ok (.getfield 113, 3) := by decide +kernel
theorem dX9_take_40 : decode cX9_take 40 = .ok (.iload_n 1, 1) := by decide +kernel
theorem dX9_take_41 : decode cX9_take 41 = .ok (.iaload, 1) := by decide +kernel
theorem dX9_take_42 : decode cX9_take 42 = .ok (.if_icmp .eq 6, 3) := by decide +kernel
theorem dX9_take_45 : decode cX9_take 45 = .ok (.bipush (-3), 2) := by decide +kernel
theorem dX9_take_47 : decode cX9_take 47 = .ok (.ireturn, 1) := by decide +kernel
theorem dX9_take_48 : decode cX9_take 48 = .ok (.aload_n 0, 1) := by decide +kernel
theorem dX9_take_49 : decode cX9_take 49 = .ok (.getfield 27, 3) := by decide +kernel
theorem dX9_take_52 : decode cX9_take 52 = .ok (.iload_n 1, 1) := by decide +kernel
theorem dX9_take_53 : decode cX9_take 53 = .ok (.invokevirtual 131, 3) := by decide +kernel
theorem dX9_take_56 : decode cX9_take 56 = .ok (.iconst 2, 1) := by decide +kernel
theorem dX9_take_57 : decode cX9_take 57 = .ok (.if_icmp .lt 6, 3) := by decide +kernel
theorem dX9_take_60 : decode cX9_take 60 = .ok (.bipush (-4), 2) := by decide +kernel
theorem dX9_take_62 : decode cX9_take 62 = .ok (.ireturn, 1) := by decide +kernel
theorem dX9_take_63 : decode cX9_take 63 = .ok (.aload_n 0, 1) := by decide +kernel
theorem dX9_take_64 : decode cX9_take 64 = .ok (.getfield 27, 3) := by decide +kernel
theorem dX9_take_67 : decode cX9_take 67 = .ok (.getfield 128, 3) := by decide +kernel
theorem dX9_take_70 : decode cX9_take 70 = .ok (.iload_n 2, 1) := by decide +kernel
theorem dX9_take_71 : decode cX9_take 71 = .ok (.iload_n 1, 1) := by decide +kernel
theorem dX9_take_72 : decode cX9_take 72 = .ok (.invokestatic 134, 3) := by decide +kernel
theorem dX9_take_75 : decode cX9_take 75 = .ok (.iastore, 1) := by decide +kernel
theorem dX9_take_76 : decode cX9_take 76 = .ok (.aload_n 0, 1) := by decide +kernel
theorem dX9_take_77 : decode cX9_take 77 = .ok (.getfield 27, 3) := by decide +kernel
theorem dX9_take_80 : decode cX9_take 80 = .ok (.iload_n 1, 1) := by decide +kernel
theorem dX9_take_81 : decode cX9_take 81 = .ok (.invokevirtual 131, 3) := by decide +kernel
theorem dX9_take_84 : decode cX9_take 84 = .ok (.ireturn, 1) := by decide +kernel
theorem dX9_lay_0 : decode cX9_lay 0 = .ok (.aload_n 0, 1) := by decide +kernel
theorem dX9_lay_1 : decode cX9_lay 1 = .ok (.getfield 27, 3) := by decide +kernel
theorem dX9_lay_4 : decode cX9_lay 4 = .ok (.iload_n 1, 1) := by decide +kernel
theorem dX9_lay_5 : decode cX9_lay 5 = .ok (.invokevirtual 107, 3) := by decide +kernel
theorem dX9_lay_8 : decode cX9_lay 8 = .ok (.ifCond .eq 14, 3) := by decide +kernel
theorem dX9_lay_11 : decode cX9_lay 11 = .ok (.aload_n 0, 1) := by decide +kernel
theorem dX9_lay_12 : decode cX9_lay 12 = .ok (.getfield 27, 3) := by decide +kernel
theorem dX9_lay_15 : decode cX9_lay 15 = .ok (.iload_n 2, 1) := by decide +kernel
theorem dX9_lay_16 : decode cX9_lay 16 = .ok (.invokevirtual 122, 3) := by decide +kernel
theorem dX9_lay_19 : decode cX9_lay 19 = .ok (.ifCond .ne 5, 3) := by decide +kernel
theorem dX9_lay_22 : decode cX9_lay 22 = .ok (.iconst (-1), 1) := by decide +kernel
theorem dX9_lay_23 : decode cX9_lay 23 = .ok (.ireturn, 1) := by decide +kernel
theorem dX9_lay_24 : decode cX9_lay 24 = .ok (.aload_n 0, 1) := by decide +kernel
theorem dX9_lay_25 : decode cX9_lay 25 = .ok (.getfield 27, 3) := by decide +kernel
theorem dX9_lay_28 : decode cX9_lay 28 = .ok (.getfield 128, 3) := by decide +kernel
theorem dX9_lay_31 : decode cX9_lay 31 = .ok (.iload_n 2, 1) := by decide +kernel
theorem dX9_lay_32 : decode cX9_lay 32 = .ok (.iaload, 1) := by decide +kernel
theorem dX9_lay_33 : decode cX9_lay 33 = .ok (.iload_n 1, 1) := by decide +kernel
theorem dX9_lay_34 : decode cX9_lay 34 = .ok (.invokestatic 134, 3) := by decide +kernel
theorem dX9_lay_37 : decode cX9_lay 37 = .ok (.if_icmp .eq 6, 3) := by decide +kernel
theorem dX9_lay_40 : decode cX9_lay 40 = .ok (.bipush (-3), 2) := by decide +kernel
theorem dX9_lay_42 : decode cX9_lay 42 = .ok (.ireturn, 1) := by decide +kernel
theorem dX9_lay_43 : decode cX9_lay 43 = .ok (.aload_n 0, 1) := by decide +kernel
theorem dX9_lay_44 : decode cX9_lay 44 = .ok (.getfield 27, 3) := by decide +kernel
theorem dX9_lay_47 : decode cX9_lay 47 = .ok (.getfield 128, 3) := by decide +kernel
theorem dX9_lay_50 : decode cX9_lay 50 = .ok (.iload_n 2, 1) := by decide +kernel
theorem dX9_lay_51 : decode cX9_lay 51 = .ok (.aload_n 0, 1) := by decide +kernel
theorem dX9_lay_52 : decode cX9_lay 52 = .ok (.getfield 27, 3) := by decide +kernel
theorem dX9_lay_55 : decode cX9_lay 55 = .ok (.getfield 113, 3) := by decide +kernel
theorem dX9_lay_58 : decode cX9_lay 58 = .ok (.iload_n 1, 1) := by decide +kernel
theorem dX9_lay_59 : decode cX9_lay 59 = .ok (.iaload, 1) := by decide +kernel
theorem dX9_lay_60 : decode cX9_lay 60 = .ok (.iastore, 1) := by decide +kernel
theorem dX9_lay_61 : decode cX9_lay 61 = .ok (.aload_n 0, 1) := by decide +kernel
theorem dX9_lay_62 : decode cX9_lay 62 = .ok (.getfield 27, 3) := by decide +kernel
theorem dX9_lay_65 : decode cX9_lay 65 = .ok (.iload_n 1, 1) := by decide +kernel
theorem dX9_lay_66 : decode cX9_lay 66 = .ok (.invokevirtual 131, 3) := by decide +kernel
theorem dX9_lay_69 : decode cX9_lay 69 = .ok (.ireturn, 1) := by decide +kernel
theorem dX9_opens_0 : decode cX9_opens 0 = .ok (.aload_n 0, 1) := by decide +kernel
theorem dX9_opens_1 : decode cX9_opens 1 = .ok (.getfield 27, 3) := by decide +kernel
theorem dX9_opens_4 : decode cX9_opens 4 = .ok (.iload_n 1, 1) := by decide +kernel
theorem dX9_opens_5 : decode cX9_opens 5 = .ok (.invokevirtual 137, 3) := by decide +kernel
theorem dX9_opens_8 : decode cX9_opens 8 = .ok (.ifCond .ne 6, 3) := by decide +kernel
theorem dX9_opens_11 : decode cX9_opens 11 = .ok (.bipush (-2), 2) := by decide +kernel
theorem dX9_opens_13 : decode cX9_opens 13 = .ok (.ireturn, 1) := by decide +kernel
theorem dX9_opens_14 : decode cX9_opens 14 = .ok (.aload_n 0, 1) := by decide +kernel
theorem dX9_opens_15 : decode cX9_opens 15 = .ok (.getfield 20, 3) := by decide +kernel
theorem dX9_opens_18 : decode cX9_opens 18 = .ok (.iload_n 2, 1) := by decide +kernel
theorem dX9_opens_19 : decode cX9_opens 19 = .ok (.invokevirtual 74, 3) := by decide +kernel
theorem dX9_opens_22 : decode cX9_opens 22 = .ok (.ifCond .ne 5, 3) := by decide +kernel
theorem dX9_opens_25 : decode cX9_opens 25 = .ok (.iconst (-1), 1) := by decide +kernel
theorem dX9_opens_26 : decode cX9_opens 26 = .ok (.ireturn, 1) := by decide +kernel
theorem dX9_opens_27 : decode cX9_opens 27 = .ok (.aload_n 0, 1) := by decide +kernel
theorem dX9_opens_28 : decode cX9_opens 28 = .ok (.getfield 27, 3) := by decide +kernel
theorem dX9_opens_31 : decode cX9_opens 31 = .ok (.iload_n 1, 1) := by decide +kernel
theorem dX9_opens_32 : decode cX9_opens 32 = .ok (.invokevirtual 140, 3) := by decide +kernel
theorem dX9_opens_35 : decode cX9_opens 35 = .ok (.istore_n 3, 1) := by decide +kernel
theorem dX9_opens_36 : decode cX9_opens 36 = .ok (.aload_n 0, 1) := by decide +kernel
theorem dX9_opens_37 : decode cX9_opens 37 = .ok (.getfield 20, 3) := by decide +kernel
theorem dX9_opens_40 : decode cX9_opens 40 = .ok (.getfield 78, 3) := by decide +kernel
theorem dX9_opens_43 : decode cX9_opens 43 = .ok (.iload_n 2, 1) := by decide +kernel
theorem dX9_opens_44 : decode cX9_opens 44 = .ok (.aaload, 1) := by decide +kernel
theorem dX9_opens_45 : decode cX9_opens 45 = .ok (.iload_n 3, 1) := by decide +kernel
theorem dX9_opens_46 : decode cX9_opens 46 = .ok (.invokevirtual 143, 3) := by decide +kernel
theorem dX9_opens_49 : decode cX9_opens 49 = .ok (.ifCond .ne 6, 3) := by decide +kernel
theorem dX9_opens_52 : decode cX9_opens 52 = .ok (.bipush (-3), 2) := by decide +kernel
theorem dX9_opens_54 : decode cX9_opens 54 = .ok (.ireturn, 1) := by decide +kernel
theorem dX9_opens_55 : decode cX9_opens 55 = .ok (.aload_n 0, 1) := by decide +kernel
theorem dX9_opens_56 : decode cX9_opens 56 = .ok (.getfield 20, 3) := by decide +kernel
theorem dX9_opens_59 : decode cX9_opens 59 = .ok (.getfield 78, 3) := by decide +kernel
theorem dX9_opens_62 : decode cX9_opens 62 = .ok (.iload_n 2, 1) := by decide +kernel
theorem dX9_opens_63 : decode cX9_opens 63 = .ok (.aaload, 1) := by decide +kernel
theorem dX9_opens_64 : decode cX9_opens 64 = .ok (.iload_n 3, 1) := by decide +kernel
theorem dX9_opens_65 : decode cX9_opens 65 = .ok (.aload_n 0, 1) := by decide +kernel
theorem dX9_opens_66 : decode cX9_opens 66 = .ok (.getfield 27, 3) := by decide +kernel
theorem dX9_opens_69 : decode cX9_opens 69 = .ok (.iload_n 1, 1) := by decide +kernel
theorem dX9_opens_70 : decode cX9_opens 70 = .ok (.invokevirtual 146, 3) := by decide +kernel
theorem dX9_opens_73 : decode cX9_opens 73 = .ok (.invokevirtual 149, 3) := by decide +kernel
theorem dX9_opens_76 : decode cX9_opens 76 = .ok (.iconst (-1), 1) := by decide +kernel
theorem dX9_opens_77 : decode cX9_opens 77 = .ok (.if_icmp .ne 7, 3) := by decide +kernel
theorem dX9_opens_80 : decode cX9_opens 80 = .ok (.iconst 0, 1) := by decide +kernel
theorem dX9_opens_81 : decode cX9_opens 81 = .ok (.goto 4, 3) := by decide +kernel
theorem dX9_opens_84 : decode cX9_opens 84 = .ok (.iconst 1, 1) := by decide +kernel
theorem dX9_opens_85 : decode cX9_opens 85 = .ok (.ireturn, 1) := by decide +kernel
theorem dX9_pass_0 : decode cX9_pass 0 = .ok (.aload_n 0, 1) := by decide +kernel
theorem dX9_pass_1 : decode cX9_pass 1 = .ok (.iload_n 1, 1) := by decide +kernel
theorem dX9_pass_2 : decode cX9_pass 2 = .ok (.iload_n 2, 1) := by decide +kernel
theorem dX9_pass_3 : decode cX9_pass 3 = .ok (.invokevirtual 152, 3) := by decide +kernel
theorem dX9_pass_6 : decode cX9_pass 6 = .ok (.istore_n 3, 1) := by decide +kernel
theorem dX9_pass_7 : decode cX9_pass 7 = .ok (.iload_n 3, 1) := by decide +kernel
theorem dX9_pass_8 : decode cX9_pass 8 = .ok (.ifCond .ge 5, 3) := by decide +kernel
theorem dX9_pass_11 : decode cX9_pass 11 = .ok (.iload_n 3, 1) := by decide +kernel
theorem dX9_pass_12 : decode cX9_pass 12 = .ok (.ireturn, 1) := by decide +kernel
theorem dX9_pass_13 : decode cX9_pass 13 = .ok (.iload_n 3, 1) := by decide +kernel
theorem dX9_pass_14 : decode cX9_pass 14 = .ok (.ifCond .ne 6, 3) := by decide +kernel
theorem dX9_pass_17 : decode cX9_pass 17 = .ok (.bipush (-3), 2) := by decide +kernel
theorem dX9_pass_19 : decode cX9_pass 19 = .ok (.ireturn, 1) := by decide +kernel
theorem dX9_pass_20 : decode cX9_pass 20 = .ok (.aload_n 0, 1) := by decide +kernel
theorem dX9_pass_21 : decode cX9_pass 21 = .ok (.getfield 20, 3) := by decide +kernel
theorem dX9_pass_24 : decode cX9_pass 24 = .ok (.getfield 78, 3) := by decide +kernel
theorem dX9_pass_27 : decode cX9_pass 27 = .ok (.iload_n 2, 1) := by decide +kernel
theorem dX9_pass_28 : decode cX9_pass 28 = .ok (.aaload, 1) := by decide +kernel
theorem dX9_pass_29 : decode cX9_pass 29 = .ok (.aload_n 0, 1) := by decide +kernel
theorem dX9_pass_30 : decode cX9_pass 30 = .ok (.getfield 27, 3) := by decide +kernel
theorem dX9_pass_33 : decode cX9_pass 33 = .ok (.iload_n 1, 1) := by decide +kernel
theorem dX9_pass_34 : decode cX9_pass 34 = .ok (.invokevirtual 140, 3) := by decide +kernel
theorem dX9_pass_37 : decode cX9_pass 37 = .ok (.aload_n 0, 1) := by decide +kernel
theorem dX9_pass_38 : decode cX9_pass 38 = .ok (.getfield 27, 3) := by decide +kernel
theorem dX9_pass_41 : decode cX9_pass 41 = .ok (.iload_n 1, 1) := by decide +kernel
theorem dX9_pass_42 : decode cX9_pass 42 = .ok (.invokevirtual 146, 3) := by decide +kernel
theorem dX9_pass_45 : decode cX9_pass 45 = .ok (.invokevirtual 149, 3) := by decide +kernel
theorem dX9_pass_48 : decode cX9_pass 48 = .ok (.istore 4, 2) := by decide +kernel
theorem dX9_pass_50 : decode cX9_pass 50 = .ok (.aload_n 0, 1) := by decide +kernel
theorem dX9_pass_51 : decode cX9_pass 51 = .ok (.getfield 27, 3) := by decide +kernel
theorem dX9_pass_54 : decode cX9_pass 54 = .ok (.iload_n 1, 1) := by decide +kernel
theorem dX9_pass_55 : decode cX9_pass 55 = .ok (.iload 4, 2) := by decide +kernel
theorem dX9_pass_57 : decode cX9_pass 57 = .ok (.invokevirtual 155, 3) := by decide +kernel
theorem dX9_pass_60 : decode cX9_pass 60 = .ok (.iload 4, 2) := by decide +kernel
theorem dX9_pass_62 : decode cX9_pass 62 = .ok (.ireturn, 1) := by decide +kernel
theorem dX9_weigh_0 : decode cX9_weigh 0 = .ok (.aload_n 0, 1) := by decide +kernel
theorem dX9_weigh_1 : decode cX9_weigh 1 = .ok (.getfield 27, 3) := by decide +kernel
theorem dX9_weigh_4 : decode cX9_weigh 4 = .ok (.iload_n 1, 1) := by decide +kernel
theorem dX9_weigh_5 : decode cX9_weigh 5 = .ok (.invokevirtual 107, 3) := by decide +kernel
theorem dX9_weigh_8 : decode cX9_weigh 8 = .ok (.ifCond .ne 5, 3) := by decide +kernel
theorem dX9_weigh_11 : decode cX9_weigh 11 = .ok (.iconst (-1), 1) := by decide +kernel
theorem dX9_weigh_12 : decode cX9_weigh 12 = .ok (.ireturn, 1) := by decide +kernel
theorem dX9_weigh_13 : decode cX9_weigh 13 = .ok (.iload_n 2, 1) := by decide +kernel
theorem dX9_weigh_14 : decode cX9_weigh 14 = .ok (.invokestatic 91, 3) := by decide +kernel
theorem dX9_weigh_17 : decode cX9_weigh 17 = .ok (.ifCond .ne 6, 3) := by decide +kernel
theorem dX9_weigh_20 : decode cX9_weigh 20 = .ok (.bipush (-2), 2) := by decide +kernel
theorem dX9_weigh_22 : decode cX9_weigh 22 = .ok (.ireturn, 1) := by decide +kernel
theorem dX9_weigh_23 : decode cX9_weigh 23 = .ok (.aload_n 0, 1) := by decide +kernel
theorem dX9_weigh_24 : decode cX9_weigh 24 = .ok (.getfield 27, 3) := by decide +kernel
theorem dX9_weigh_27 : decode cX9_weigh 27 = .ok (.getfield 110, 3) := by decide +kernel
theorem dX9_weigh_30 : decode cX9_weigh 30 = .ok (.iload_n 1, 1) := by decide +kernel
theorem dX9_weigh_31 : decode cX9_weigh 31 = .ok (.iaload, 1) := by decide +kernel
theorem dX9_weigh_32 : decode cX9_weigh 32 = .ok (.istore_n 3, 1) := by decide +kernel
theorem dX9_weigh_33 : decode cX9_weigh 33 = .ok (.aload_n 0, 1) := by decide +kernel
theorem dX9_weigh_34 : decode cX9_weigh 34 = .ok (.getfield 27, 3) := by decide +kernel
theorem dX9_weigh_37 : decode cX9_weigh 37 = .ok (.getfield 110, 3) := by decide +kernel
theorem dX9_weigh_40 : decode cX9_weigh 40 = .ok (.iload_n 1, 1) := by decide +kernel
theorem dX9_weigh_41 : decode cX9_weigh 41 = .ok (.iload_n 2, 1) := by decide +kernel
theorem dX9_weigh_42 : decode cX9_weigh 42 = .ok (.iastore, 1) := by decide +kernel
theorem dX9_weigh_43 : decode cX9_weigh 43 = .ok (.iload_n 3, 1) := by decide +kernel
theorem dX9_weigh_44 : decode cX9_weigh 44 = .ok (.ireturn, 1) := by decide +kernel
theorem dX9_fewest_0 : decode cX9_fewest 0 = .ok (.aload_n 0, 1) := by decide +kernel
theorem dX9_fewest_1 : decode cX9_fewest 1 = .ok (.getfield 27, 3) := by decide +kernel
theorem dX9_fewest_4 : decode cX9_fewest 4 = .ok (.iload_n 1, 1) := by decide +kernel
theorem dX9_fewest_5 : decode cX9_fewest 5 = .ok (.invokevirtual 107, 3) := by decide +kernel
theorem dX9_fewest_8 : decode cX9_fewest 8 = .ok (.ifCond .eq 19, 3) := by decide +kernel
theorem dX9_fewest_11 : decode cX9_fewest 11 = .ok (.aload_n 0, 1) := by decide +kernel
theorem dX9_fewest_12 : decode cX9_fewest 12 = .ok (.getfield 20, 3) := by decide +kernel
theorem dX9_fewest_15 : decode cX9_fewest 15 = .ok (.iload_n 2, 1) := by decide +kernel
theorem dX9_fewest_16 : decode cX9_fewest 16 = .ok (.invokevirtual 88, 3) := by decide +kernel
theorem dX9_fewest_19 : decode cX9_fewest 19 = .ok (.ifCond .eq 8, 3) := by decide +kernel
theorem dX9_fewest_22 : decode cX9_fewest 22 = .ok (.iload_n 3, 1) := by decide +kernel
theorem dX9_fewest_23 : decode cX9_fewest 23 = .ok (.iconst (-1), 1) := by decide +kernel
theorem dX9_fewest_24 : decode cX9_fewest 24 = .ok (.if_icmp .ge 5, 3) := by decide +kernel
theorem dX9_fewest_27 : decode cX9_fewest 27 = .ok (.iconst (-1), 1) := by decide +kernel
theorem dX9_fewest_28 : decode cX9_fewest 28 = .ok (.ireturn, 1) := by decide +kernel
theorem dX9_fewest_29 : decode cX9_fewest 29 = .ok (.aload_n 0, 1) := by decide +kernel
theorem dX9_fewest_30 : decode cX9_fewest 30 = .ok (.getfield 34, 3) := by decide +kernel
theorem dX9_fewest_33 : decode cX9_fewest 33 = .ok (.aload_n 0, 1) := by decide +kernel
theorem dX9_fewest_34 : decode cX9_fewest 34 = .ok (.getfield 27, 3) := by decide +kernel
theorem dX9_fewest_37 : decode cX9_fewest 37 = .ok (.getfield 110, 3) := by decide +kernel
theorem dX9_fewest_40 : decode cX9_fewest 40 = .ok (.iload_n 1, 1) := by decide +kernel
theorem dX9_fewest_41 : decode cX9_fewest 41 = .ok (.iaload, 1) := by decide +kernel
theorem dX9_fewest_42 : decode cX9_fewest 42 = .ok (.aload_n 0, 1) := by decide +kernel
theorem dX9_fewest_43 : decode cX9_fewest 43 = .ok (.getfield 27, 3) := by decide +kernel
theorem dX9_fewest_46 : decode cX9_fewest 46 = .ok (.getfield 113, 3) := by decide +kernel
theorem dX9_fewest_49 : decode cX9_fewest 49 = .ok (.iload_n 1, 1) := by decide +kernel
theorem dX9_fewest_50 : decode cX9_fewest 50 = .ok (.iaload, 1) := by decide +kernel
theorem dX9_fewest_51 : decode cX9_fewest 51 = .ok (.invokevirtual 159, 3) := by decide +kernel
theorem dX9_fewest_54 : decode cX9_fewest 54 = .ok (.iconst 0, 1) := by decide +kernel
theorem dX9_fewest_55 : decode cX9_fewest 55 = .ok (.istore 4, 2) := by decide +kernel
theorem dX9_fewest_57 : decode cX9_fewest 57 = .ok (.iload 4, 2) := by decide +kernel
theorem dX9_fewest_59 : decode cX9_fewest 59 = .ok (.aload_n 0, 1) := by decide +kernel
theorem dX9_fewest_60 : decode cX9_fewest 60 = .ok (.getfield 27, 3) := by decide +kernel
theorem dX9_fewest_63 : decode cX9_fewest 63 = .ok (.getfield 101, 3) := by decide +kernel
theorem dX9_fewest_66 : decode cX9_fewest 66 = .ok (.if_icmp .ge 99, 3) := by decide +kernel
theorem dX9_fewest_69 : decode cX9_fewest 69 = .ok (.aload_n 0, 1) := by decide +kernel
theorem dX9_fewest_70 : decode cX9_fewest 70 = .ok (.getfield 27, 3) := by decide +kernel
theorem dX9_fewest_73 : decode cX9_fewest 73 = .ok (.getfield 128, 3) := by decide +kernel
theorem dX9_fewest_76 : decode cX9_fewest 76 = .ok (.iload 4, 2) := by decide +kernel
theorem dX9_fewest_78 : decode cX9_fewest 78 = .ok (.iaload, 1) := by decide +kernel
theorem dX9_fewest_79 : decode cX9_fewest 79 = .ok (.iload_n 1, 1) := by decide +kernel
theorem dX9_fewest_80 : decode cX9_fewest 80 = .ok (.invokestatic 134, 3) := by decide +kernel
theorem dX9_fewest_83 : decode cX9_fewest 83 = .ok (.if_icmp .ne 27, 3) := by decide +kernel
theorem dX9_fewest_86 : decode cX9_fewest 86 = .ok (.aload_n 0, 1) := by decide +kernel
theorem dX9_fewest_87 : decode cX9_fewest 87 = .ok (.getfield 34, 3) := by decide +kernel
theorem dX9_fewest_90 : decode cX9_fewest 90 = .ok (.iload 4, 2) := by decide +kernel
theorem dX9_fewest_92 : decode cX9_fewest 92 = .ok (.aload_n 0, 1) := by decide +kernel
theorem dX9_fewest_93 : decode cX9_fewest 93 = .ok (.getfield 27, 3) := by decide +kernel
theorem dX9_fewest_96 : decode cX9_fewest 96 = .ok (.getfield 125, 3) := by decide +kernel
theorem dX9_fewest_99 : decode cX9_fewest 99 = .ok (.iload 4, 2) := by decide +kernel
theorem dX9_fewest_101 : decode cX9_fewest 101 = .ok (.iaload, 1) := by decide +kernel
theorem dX9_fewest_102 : decode cX9_fewest 102 = .ok (.bipush 6, 2) := by decide +kernel
theorem dX9_fewest_104 : decode cX9_fewest 104 = .ok (.invokevirtual 162, 3) := by decide +kernel
theorem dX9_fewest_107 : decode cX9_fewest 107 = .ok (.goto 52, 3) := by decide +kernel
theorem dX9_fewest_110 : decode cX9_fewest 110 = .ok (.aload_n 0, 1) := by decide +kernel
theorem dX9_fewest_111 : decode cX9_fewest 111 = .ok (.getfield 20, 3) := by decide +kernel
theorem dX9_fewest_114 : decode cX9_fewest 114 = .ok (.aload_n 0, 1) := by decide +kernel
theorem dX9_fewest_115 : decode cX9_fewest 115 = .ok (.getfield 27, 3) := by decide +kernel
theorem dX9_fewest_118 : decode cX9_fewest 118 = .ok (.getfield 128, 3) := by decide +kernel
theorem dX9_fewest_121 : decode cX9_fewest 121 = .ok (.iload 4, 2) := by decide +kernel
theorem dX9_fewest_123 : decode cX9_fewest 123 = .ok (.iaload, 1) := by decide +kernel
theorem dX9_fewest_124 : decode cX9_fewest 124 = .ok (.invokevirtual 88, 3) := by decide +kernel
theorem dX9_fewest_127 : decode cX9_fewest 127 = .ok (.ifCond .eq 32, 3) := by decide +kernel
theorem dX9_fewest_130 : decode cX9_fewest 130 = .ok (.aload_n 0, 1) := by decide +kernel
theorem dX9_fewest_131 : decode cX9_fewest 131 = .ok (.getfield 34, 3) := by decide +kernel
theorem dX9_fewest_134 : decode cX9_fewest 134 = .ok (.iload 4, 2) := by decide +kernel
theorem dX9_fewest_136 : decode cX9_fewest 136 = .ok (.aload_n 0, 1) := by decide +kernel
theorem dX9_fewest_137 : decode cX9_fewest 137 = .ok (.getfield 27, 3) := by decide +kernel
theorem dX9_fewest_140 : decode cX9_fewest 140 = .ok (.getfield 125, 3) := by decide +kernel
theorem dX9_fewest_143 : decode cX9_fewest 143 = .ok (.iload 4, 2) := by decide +kernel
theorem dX9_fewest_145 : decode cX9_fewest 145 = .ok (.iaload, 1) := by decide +kernel
theorem dX9_fewest_146 : decode cX9_fewest 146 = .ok (.aload_n 0, 1) := by decide +kernel
theorem dX9_fewest_147 : decode cX9_fewest 147 = .ok (.getfield 27, 3) := by decide +kernel
theorem dX9_fewest_150 : decode cX9_fewest 150 = .ok (.getfield 128, 3) := by decide +kernel
theorem dX9_fewest_153 : decode cX9_fewest 153 = .ok (.iload 4, 2) := by decide +kernel
theorem dX9_fewest_155 : decode cX9_fewest 155 = .ok (.iaload, 1) := by decide +kernel
theorem dX9_fewest_156 : decode cX9_fewest 156 = .ok (.invokevirtual 162, 3) := by decide +kernel
theorem dX9_fewest_159 : decode cX9_fewest 159 = .ok (.iinc 4 1, 3) := by decide +kernel
theorem dX9_fewest_162 : decode cX9_fewest 162 = .ok (.goto (-105), 3) := by decide +kernel
theorem dX9_fewest_165 : decode cX9_fewest 165 = .ok (.aload_n 0, 1) := by decide +kernel
theorem dX9_fewest_166 : decode cX9_fewest 166 = .ok (.getfield 34, 3) := by decide +kernel
theorem dX9_fewest_169 : decode cX9_fewest 169 = .ok (.aload_n 0, 1) := by decide +kernel
theorem dX9_fewest_170 : decode cX9_fewest 170 = .ok (.getfield 20, 3) := by decide +kernel
theorem dX9_fewest_173 : decode cX9_fewest 173 = .ok (.iload_n 2, 1) := by decide +kernel
theorem dX9_fewest_174 : decode cX9_fewest 174 = .ok (.invokevirtual 166, 3) := by decide +kernel
theorem dX9_fewest_177 : decode cX9_fewest 177 = .ok (.ifCond .ne 6, 3) := by decide +kernel
theorem dX9_fewest_180 : decode cX9_fewest 180 = .ok (.bipush (-9), 2) := by decide +kernel
theorem dX9_fewest_182 : decode cX9_fewest 182 = .ok (.ireturn, 1) := by decide +kernel
theorem dX9_fewest_183 : decode cX9_fewest 183 = .ok (.iload_n 3, 1) := by decide +kernel
theorem dX9_fewest_184 : decode cX9_fewest 184 = .ok (.iconst (-1), 1) := by decide +kernel
theorem dX9_fewest_185 : decode cX9_fewest 185 = .ok (.if_icmp .ne 13, 3) := by decide +kernel
theorem dX9_fewest_188 : decode cX9_fewest 188 = .ok (.aload_n 0, 1) := by decide +kernel
theorem dX9_fewest_189 : decode cX9_fewest 189 = .ok (.getfield 34, 3) := by decide +kernel
theorem dX9_fewest_192 : decode cX9_fewest 192 = .ok (.invokevirtual 170, 3) := by decide +kernel
theorem dX9_fewest_195 : decode cX9_fewest 195 = .ok (.goto 11, 3) := by decide +kernel
theorem dX9_fewest_198 : decode cX9_fewest 198 = .ok (.aload_n 0, 1) := by decide +kernel
theorem dX9_fewest_199 : decode cX9_fewest 199 = .ok (.getfield 34, 3) := by decide +kernel
theorem dX9_fewest_202 : decode cX9_fewest 202 = .ok (.iload_n 3, 1) := by decide +kernel
theorem dX9_fewest_203 : decode cX9_fewest 203 = .ok (.invokevirtual 173, 3) := by decide +kernel
theorem dX9_fewest_206 : decode cX9_fewest 206 = .ok (.ireturn, 1) := by decide +kernel
theorem dX9_reach_0 : decode cX9_reach 0 = .ok (.aload_n 0, 1) := by decide +kernel
theorem dX9_reach_1 : decode cX9_reach 1 = .ok (.getfield 20, 3) := by decide +kernel
theorem dX9_reach_4 : decode cX9_reach 4 = .ok (.iload_n 2, 1) := by decide +kernel
theorem dX9_reach_5 : decode cX9_reach 5 = .ok (.invokevirtual 88, 3) := by decide +kernel
theorem dX9_reach_8 : decode cX9_reach 8 = .ok (.ifCond .ne 5, 3) := by decide +kernel
theorem dX9_reach_11 : decode cX9_reach 11 = .ok (.iconst (-1), 1) := by decide +kernel
theorem dX9_reach_12 : decode cX9_reach 12 = .ok (.ireturn, 1) := by decide +kernel
theorem dX9_reach_13 : decode cX9_reach 13 = .ok (.iload_n 1, 1) := by decide +kernel
theorem dX9_reach_14 : decode cX9_reach 14 = .ok (.iconst 1, 1) := by decide +kernel
theorem dX9_reach_15 : decode cX9_reach 15 = .ok (.if_icmp .lt 10, 3) := by decide +kernel
theorem dX9_reach_18 : decode cX9_reach 18 = .ok (.iload_n 1, 1) := by decide +kernel
theorem dX9_reach_19 : decode cX9_reach 19 = .ok (.sipush 999, 3) := by decide +kernel
theorem dX9_reach_22 : decode cX9_reach 22 = .ok (.if_icmp .le 6, 3) := by decide +kernel
theorem dX9_reach_25 : decode cX9_reach 25 = .ok (.bipush (-2), 2) := by decide +kernel
theorem dX9_reach_27 : decode cX9_reach 27 = .ok (.ireturn, 1) := by decide +kernel
theorem dX9_reach_28 : decode cX9_reach 28 = .ok (.aload_n 0, 1) := by decide +kernel
theorem dX9_reach_29 : decode cX9_reach 29 = .ok (.getfield 20, 3) := by decide +kernel
theorem dX9_reach_32 : decode cX9_reach 32 = .ok (.iload_n 1, 1) := by decide +kernel
theorem dX9_reach_33 : decode cX9_reach 33 = .ok (.iload_n 2, 1) := by decide +kernel
theorem dX9_reach_34 : decode cX9_reach 34 = .ok (.invokevirtual 176, 3) := by decide +kernel
theorem dX9_reach_37 : decode cX9_reach 37 = .ok (.ireturn, 1) := by decide +kernel
theorem dX9_strangers_0 : decode cX9_strangers 0 = .ok (.aload_n 0, 1) := by decide +kernel
theorem dX9_strangers_1 : decode cX9_strangers 1 = .ok (.getfield 20, 3) := by decide +kernel
theorem dX9_strangers_4 : decode cX9_strangers 4 = .ok (.iload_n 1, 1) := by decide +kernel
theorem dX9_strangers_5 : decode cX9_strangers 5 = .ok (.invokevirtual 88, 3) := by decide +kernel
theorem dX9_strangers_8 : decode cX9_strangers 8 = .ok (.ifCond .eq 19, 3) := by decide +kernel
theorem dX9_strangers_11 : decode cX9_strangers 11 = .ok (.aload_n 0, 1) := by decide +kernel
theorem dX9_strangers_12 : decode cX9_strangers 12 = .ok (.getfield 20, 3) := by decide +kernel
theorem dX9_strangers_15 : decode cX9_strangers 15 = .ok (.iload_n 2, 1) := by decide +kernel
theorem dX9_strangers_16 : decode cX9_strangers 16 = .ok (.invokevirtual 88, 3) := by decide +kernel
theorem dX9_strangers_19 : decode cX9_strangers 19 = .ok (.ifCond .eq 8, 3) := by decide +kernel
theorem dX9_strangers_22 : decode cX9_strangers 22 = .ok (.iload_n 3, 1) := by decide +kernel
theorem dX9_strangers_23 : decode cX9_strangers 23 = .ok (.iconst (-1), 1) := by decide +kernel
theorem dX9_strangers_24 : decode cX9_strangers 24 = .ok (.if_icmp .ge 5, 3) := by decide +kernel
theorem dX9_strangers_27 : decode cX9_strangers 27 = .ok (.iconst (-1), 1) := by decide +kernel
theorem dX9_strangers_28 : decode cX9_strangers 28 = .ok (.ireturn, 1) := by decide +kernel
theorem dX9_strangers_29 : decode cX9_strangers 29 = .ok (.iconst 0, 1) := by decide +kernel
theorem dX9_strangers_30 : decode cX9_strangers 30 = .ok (.istore 4, 2) := by decide +kernel
theorem dX9_strangers_32 : decode cX9_strangers 32 = .ok (.bipush 10, 2) := by decide +kernel
theorem dX9_strangers_34 : decode cX9_strangers 34 = .ok (.istore 5, 2) := by decide +kernel
theorem dX9_strangers_36 : decode cX9_strangers 36 = .ok (.iload 5, 2) := by decide +kernel
theorem dX9_strangers_38 : decode cX9_strangers 38 = .ok (.bipush 99, 2) := by decide +kernel
theorem dX9_strangers_40 : decode cX9_strangers 40 = .ok (.if_icmp .gt 35, 3) := by decide +kernel
theorem dX9_strangers_43 : decode cX9_strangers 43 = .ok (.aload_n 0, 1) := by decide +kernel
theorem dX9_strangers_44 : decode cX9_strangers 44 = .ok (.getfield 20, 3) := by decide +kernel
theorem dX9_strangers_47 : decode cX9_strangers 47 = .ok (.iload 5, 2) := by decide +kernel
theorem dX9_strangers_49 : decode cX9_strangers 49 = .ok (.iload_n 1, 1) := by decide +kernel
theorem dX9_strangers_50 : decode cX9_strangers 50 = .ok (.iload_n 2, 1) := by decide +kernel
theorem dX9_strangers_51 : decode cX9_strangers 51 = .ok (.invokevirtual 179, 3) := by decide +kernel
theorem dX9_strangers_54 : decode cX9_strangers 54 = .ok (.ifCond .eq 15, 3) := by decide +kernel
theorem dX9_strangers_57 : decode cX9_strangers 57 = .ok (.iload 4, 2) := by decide +kernel
theorem dX9_strangers_59 : decode cX9_strangers 59 = .ok (.iload_n 3, 1) := by decide +kernel
theorem dX9_strangers_60 : decode cX9_strangers 60 = .ok (.if_icmp .ne 6, 3) := by decide +kernel
theorem dX9_strangers_63 : decode cX9_strangers 63 = .ok (.iload 5, 2) := by decide +kernel
theorem dX9_strangers_65 : decode cX9_strangers 65 = .ok (.ireturn, 1) := by decide +kernel
theorem dX9_strangers_66 : decode cX9_strangers 66 = .ok (.iinc 4 1, 3) := by decide +kernel
theorem dX9_strangers_69 : decode cX9_strangers 69 = .ok (.iinc 5 1, 3) := by decide +kernel
theorem dX9_strangers_72 : decode cX9_strangers 72 = .ok (.goto (-36), 3) := by decide +kernel
theorem dX9_strangers_75 : decode cX9_strangers 75 = .ok (.iload_n 3, 1) := by decide +kernel
theorem dX9_strangers_76 : decode cX9_strangers 76 = .ok (.iconst (-1), 1) := by decide +kernel
theorem dX9_strangers_77 : decode cX9_strangers 77 = .ok (.if_icmp .ne 8, 3) := by decide +kernel
theorem dX9_strangers_80 : decode cX9_strangers 80 = .ok (.iload 4, 2) := by decide +kernel
theorem dX9_strangers_82 : decode cX9_strangers 82 = .ok (.goto 5, 3) := by decide +kernel
theorem dX9_strangers_85 : decode cX9_strangers 85 = .ok (.bipush (-9), 2) := by decide +kernel
theorem dX9_strangers_87 : decode cX9_strangers 87 = .ok (.ireturn, 1) := by decide +kernel
theorem dX9_laid_0 : decode cX9_laid 0 = .ok (.aload_n 0, 1) := by decide +kernel
theorem dX9_laid_1 : decode cX9_laid 1 = .ok (.getfield 27, 3) := by decide +kernel
theorem dX9_laid_4 : decode cX9_laid 4 = .ok (.iload_n 1, 1) := by decide +kernel
theorem dX9_laid_5 : decode cX9_laid 5 = .ok (.invokevirtual 107, 3) := by decide +kernel
theorem dX9_laid_8 : decode cX9_laid 8 = .ok (.ifCond .eq 24, 3) := by decide +kernel
theorem dX9_laid_11 : decode cX9_laid 11 = .ok (.aload_n 0, 1) := by decide +kernel
theorem dX9_laid_12 : decode cX9_laid 12 = .ok (.getfield 20, 3) := by decide +kernel
theorem dX9_laid_15 : decode cX9_laid 15 = .ok (.iload_n 2, 1) := by decide +kernel
theorem dX9_laid_16 : decode cX9_laid 16 = .ok (.invokevirtual 88, 3) := by decide +kernel
theorem dX9_laid_19 : decode cX9_laid 19 = .ok (.ifCond .eq 13, 3) := by decide +kernel
theorem dX9_laid_22 : decode cX9_laid 22 = .ok (.iload_n 3, 1) := by decide +kernel
theorem dX9_laid_23 : decode cX9_laid 23 = .ok (.iconst (-1), 1) := by decide +kernel
theorem dX9_laid_24 : decode cX9_laid 24 = .ok (.if_icmp .lt 8, 3) := by decide +kernel
theorem dX9_laid_27 : decode cX9_laid 27 = .ok (.iload_n 3, 1) := by decide +kernel
theorem dX9_laid_28 : decode cX9_laid 28 = .ok (.iconst 1, 1) := by decide +kernel
theorem dX9_laid_29 : decode cX9_laid 29 = .ok (.if_icmp .le 5, 3) := by decide +kernel
theorem dX9_laid_32 : decode cX9_laid 32 = .ok (.iconst (-1), 1) := by decide +kernel
theorem dX9_laid_33 : decode cX9_laid 33 = .ok (.ireturn, 1) := by decide +kernel
theorem dX9_laid_34 : decode cX9_laid 34 = .ok (.aload_n 0, 1) := by decide +kernel
theorem dX9_laid_35 : decode cX9_laid 35 = .ok (.getfield 27, 3) := by decide +kernel
theorem dX9_laid_38 : decode cX9_laid 38 = .ok (.iload_n 1, 1) := by decide +kernel
theorem dX9_laid_39 : decode cX9_laid 39 = .ok (.invokevirtual 116, 3) := by decide +kernel
theorem dX9_laid_42 : decode cX9_laid 42 = .ok (.ifCond .eq 6, 3) := by decide +kernel
theorem dX9_laid_45 : decode cX9_laid 45 = .ok (.bipush (-3), 2) := by decide +kernel
theorem dX9_laid_47 : decode cX9_laid 47 = .ok (.ireturn, 1) := by decide +kernel
theorem dX9_laid_48 : decode cX9_laid 48 = .ok (.iconst 0, 1) := by decide +kernel
theorem dX9_laid_49 : decode cX9_laid 49 = .ok (.istore 4, 2) := by decide +kernel
theorem dX9_laid_51 : decode cX9_laid 51 = .ok (.iload 4, 2) := by decide +kernel
theorem dX9_laid_53 : decode cX9_laid 53 = .ok (.bipush 20, 2) := by decide +kernel
theorem dX9_laid_55 : decode cX9_laid 55 = .ok (.if_icmp .gt 48, 3) := by decide +kernel
theorem dX9_laid_58 : decode cX9_laid 58 = .ok (.iload 4, 2) := by decide +kernel
theorem dX9_laid_60 : decode cX9_laid 60 = .ok (.istore 5, 2) := by decide +kernel
theorem dX9_laid_62 : decode cX9_laid 62 = .ok (.iload 5, 2) := by decide +kernel
theorem dX9_laid_64 : decode cX9_laid 64 = .ok (.bipush 20, 2) := by decide +kernel
theorem dX9_laid_66 : decode cX9_laid 66 = .ok (.if_icmp .gt 31, 3) := by decide +kernel
theorem dX9_laid_69 : decode cX9_laid 69 = .ok (.aload_n 0, 1) := by decide +kernel
theorem dX9_laid_70 : decode cX9_laid 70 = .ok (.iload_n 1, 1) := by decide +kernel
theorem dX9_laid_71 : decode cX9_laid 71 = .ok (.iload_n 2, 1) := by decide +kernel
theorem dX9_laid_72 : decode cX9_laid 72 = .ok (.iload 4, 2) := by decide +kernel
theorem dX9_laid_74 : decode cX9_laid 74 = .ok (.iload 5, 2) := by decide +kernel
theorem dX9_laid_76 : decode cX9_laid 76 = .ok (.invokevirtual 183, 3) := by decide +kernel
theorem dX9_laid_79 : decode cX9_laid 79 = .ok (.ifCond .eq 12, 3) := by decide +kernel
theorem dX9_laid_82 : decode cX9_laid 82 = .ok (.iload 4, 2) := by decide +kernel
theorem dX9_laid_84 : decode cX9_laid 84 = .ok (.iload 5, 2) := by decide +kernel
theorem dX9_laid_86 : decode cX9_laid 86 = .ok (.iload_n 3, 1) := by decide +kernel
theorem dX9_laid_87 : decode cX9_laid 87 = .ok (.invokestatic 187, 3) := by decide +kernel
theorem dX9_laid_90 : decode cX9_laid 90 = .ok (.ireturn, 1) := by decide +kernel
theorem dX9_laid_91 : decode cX9_laid 91 = .ok (.iinc 5 1, 3) := by decide +kernel
theorem dX9_laid_94 : decode cX9_laid 94 = .ok (.goto (-32), 3) := by decide +kernel
theorem dX9_laid_97 : decode cX9_laid 97 = .ok (.iinc 4 1, 3) := by decide +kernel
theorem dX9_laid_100 : decode cX9_laid 100 = .ok (.goto (-49), 3) := by decide +kernel
theorem dX9_laid_103 : decode cX9_laid 103 = .ok (.bipush (-9), 2) := by decide +kernel
theorem dX9_laid_105 : decode cX9_laid 105 = .ok (.ireturn, 1) := by decide +kernel
theorem dX9_guest_0 : decode cX9_guest 0 = .ok (.aload_n 0, 1) := by decide +kernel
theorem dX9_guest_1 : decode cX9_guest 1 = .ok (.getfield 27, 3) := by decide +kernel
theorem dX9_guest_4 : decode cX9_guest 4 = .ok (.iload_n 1, 1) := by decide +kernel
theorem dX9_guest_5 : decode cX9_guest 5 = .ok (.invokevirtual 107, 3) := by decide +kernel
theorem dX9_guest_8 : decode cX9_guest 8 = .ok (.ifCond .eq 14, 3) := by decide +kernel
theorem dX9_guest_11 : decode cX9_guest 11 = .ok (.aload_n 0, 1) := by decide +kernel
theorem dX9_guest_12 : decode cX9_guest 12 = .ok (.getfield 20, 3) := by decide +kernel
theorem dX9_guest_15 : decode cX9_guest 15 = .ok (.iload_n 2, 1) := by decide +kernel
theorem dX9_guest_16 : decode cX9_guest 16 = .ok (.invokevirtual 88, 3) := by decide +kernel
theorem dX9_guest_19 : decode cX9_guest 19 = .ok (.ifCond .ne 5, 3) := by decide +kernel
theorem dX9_guest_22 : decode cX9_guest 22 = .ok (.iconst (-1), 1) := by decide +kernel
theorem dX9_guest_23 : decode cX9_guest 23 = .ok (.ireturn, 1) := by decide +kernel
theorem dX9_guest_24 : decode cX9_guest 24 = .ok (.iconst 0, 1) := by decide +kernel
theorem dX9_guest_25 : decode cX9_guest 25 = .ok (.istore_n 3, 1) := by decide +kernel
theorem dX9_guest_26 : decode cX9_guest 26 = .ok (.iload_n 3, 1) := by decide +kernel
theorem dX9_guest_27 : decode cX9_guest 27 = .ok (.bipush 30, 2) := by decide +kernel
theorem dX9_guest_29 : decode cX9_guest 29 = .ok (.if_icmp .gt 40, 3) := by decide +kernel
theorem dX9_guest_32 : decode cX9_guest 32 = .ok (.aload_n 0, 1) := by decide +kernel
theorem dX9_guest_33 : decode cX9_guest 33 = .ok (.iload_n 1, 1) := by decide +kernel
theorem dX9_guest_34 : decode cX9_guest 34 = .ok (.iload_n 2, 1) := by decide +kernel
theorem dX9_guest_35 : decode cX9_guest 35 = .ok (.iload_n 3, 1) := by decide +kernel
theorem dX9_guest_36 : decode cX9_guest 36 = .ok (.ineg, 1) := by decide +kernel
theorem dX9_guest_37 : decode cX9_guest 37 = .ok (.invokevirtual 191, 3) := by decide +kernel
theorem dX9_guest_40 : decode cX9_guest 40 = .ok (.ifCond .eq 8, 3) := by decide +kernel
theorem dX9_guest_43 : decode cX9_guest 43 = .ok (.bipush 100, 2) := by decide +kernel
theorem dX9_guest_45 : decode cX9_guest 45 = .ok (.iload_n 3, 1) := by decide +kernel
theorem dX9_guest_46 : decode cX9_guest 46 = .ok (.isub, 1) := by decide +kernel
theorem dX9_guest_47 : decode cX9_guest 47 = .ok (.ireturn, 1) := by decide +kernel
theorem dX9_guest_48 : decode cX9_guest 48 = .ok (.aload_n 0, 1) := by decide +kernel
theorem dX9_guest_49 : decode cX9_guest 49 = .ok (.iload_n 1, 1) := by decide +kernel
theorem dX9_guest_50 : decode cX9_guest 50 = .ok (.iload_n 2, 1) := by decide +kernel
theorem dX9_guest_51 : decode cX9_guest 51 = .ok (.iload_n 3, 1) := by decide +kernel
theorem dX9_guest_52 : decode cX9_guest 52 = .ok (.invokevirtual 191, 3) := by decide +kernel
theorem dX9_guest_55 : decode cX9_guest 55 = .ok (.ifCond .eq 8, 3) := by decide +kernel
theorem dX9_guest_58 : decode cX9_guest 58 = .ok (.bipush 100, 2) := by decide +kernel
theorem dX9_guest_60 : decode cX9_guest 60 = .ok (.iload_n 3, 1) := by decide +kernel
theorem dX9_guest_61 : decode cX9_guest 61 = .ok (.iadd, 1) := by decide +kernel
theorem dX9_guest_62 : decode cX9_guest 62 = .ok (.ireturn, 1) := by decide +kernel
theorem dX9_guest_63 : decode cX9_guest 63 = .ok (.iinc 3 1, 3) := by decide +kernel
theorem dX9_guest_66 : decode cX9_guest 66 = .ok (.goto (-40), 3) := by decide +kernel
theorem dX9_guest_69 : decode cX9_guest 69 = .ok (.bipush (-9), 2) := by decide +kernel
theorem dX9_guest_71 : decode cX9_guest 71 = .ok (.ireturn, 1) := by decide +kernel
theorem dX9_heard_0 : decode cX9_heard 0 = .ok (.aload_n 0, 1) := by decide +kernel
theorem dX9_heard_1 : decode cX9_heard 1 = .ok (.iload_n 1, 1) := by decide +kernel
theorem dX9_heard_2 : decode cX9_heard 2 = .ok (.iload_n 2, 1) := by decide +kernel
theorem dX9_heard_3 : decode cX9_heard 3 = .ok (.iload_n 3, 1) := by decide +kernel
theorem dX9_heard_4 : decode cX9_heard 4 = .ok (.iload 4, 2) := by decide +kernel
theorem dX9_heard_6 : decode cX9_heard 6 = .ok (.invokevirtual 194, 3) := by decide +kernel
theorem dX9_heard_9 : decode cX9_heard 9 = .ok (.istore 5, 2) := by decide +kernel
theorem dX9_heard_11 : decode cX9_heard 11 = .ok (.iload 5, 2) := by decide +kernel
theorem dX9_heard_13 : decode cX9_heard 13 = .ok (.ifCond .eq 6, 3) := by decide +kernel
theorem dX9_heard_16 : decode cX9_heard 16 = .ok (.iload 5, 2) := by decide +kernel
theorem dX9_heard_18 : decode cX9_heard 18 = .ok (.ireturn, 1) := by decide +kernel
theorem dX9_heard_19 : decode cX9_heard 19 = .ok (.iconst 0, 1) := by decide +kernel
theorem dX9_heard_20 : decode cX9_heard 20 = .ok (.istore 6, 2) := by decide +kernel
theorem dX9_heard_22 : decode cX9_heard 22 = .ok (.iconst 0, 1) := by decide +kernel
theorem dX9_heard_23 : decode cX9_heard 23 = .ok (.istore 7, 2) := by decide +kernel
theorem dX9_heard_25 : decode cX9_heard 25 = .ok (.iload 7, 2) := by decide +kernel
theorem dX9_heard_27 : decode cX9_heard 27 = .ok (.aload_n 0, 1) := by decide +kernel
theorem dX9_heard_28 : decode cX9_heard 28 = .ok (.getfield 27, 3) := by decide +kernel
theorem dX9_heard_31 : decode cX9_heard 31 = .ok (.getfield 94, 3) := by decide +kernel
theorem dX9_heard_34 : decode cX9_heard 34 = .ok (.if_icmp .ge 56, 3) := by decide +kernel
theorem dX9_heard_37 : decode cX9_heard 37 = .ok (.aload_n 0, 1) := by decide +kernel
theorem dX9_heard_38 : decode cX9_heard 38 = .ok (.aload_n 0, 1) := by decide +kernel
theorem dX9_heard_39 : decode cX9_heard 39 = .ok (.getfield 13, 3) := by decide +kernel
theorem dX9_heard_42 : decode cX9_heard 42 = .ok (.iload_n 1, 1) := by decide +kernel
theorem dX9_heard_43 : decode cX9_heard 43 = .ok (.aaload, 1) := by decide +kernel
theorem dX9_heard_44 : decode cX9_heard 44 = .ok (.getfield 52, 3) := by decide +kernel
theorem dX9_heard_47 : decode cX9_heard 47 = .ok (.iload_n 3, 1) := by decide +kernel
theorem dX9_heard_48 : decode cX9_heard 48 = .ok (.iload 4, 2) := by decide +kernel
theorem dX9_heard_50 : decode cX9_heard 50 = .ok (.aload_n 0, 1) := by decide +kernel
theorem dX9_heard_51 : decode cX9_heard 51 = .ok (.getfield 27, 3) := by decide +kernel
theorem dX9_heard_54 : decode cX9_heard 54 = .ok (.iload 7, 2) := by decide +kernel
theorem dX9_heard_56 : decode cX9_heard 56 = .ok (.invokevirtual 119, 3) := by decide +kernel
theorem dX9_heard_59 : decode cX9_heard 59 = .ok (.aload_n 0, 1) := by decide +kernel
theorem dX9_heard_60 : decode cX9_heard 60 = .ok (.getfield 27, 3) := by decide +kernel
theorem dX9_heard_63 : decode cX9_heard 63 = .ok (.getfield 113, 3) := by decide +kernel
theorem dX9_heard_66 : decode cX9_heard 66 = .ok (.iload 7, 2) := by decide +kernel
theorem dX9_heard_68 : decode cX9_heard 68 = .ok (.iaload, 1) := by decide +kernel
theorem dX9_heard_69 : decode cX9_heard 69 = .ok (.invokevirtual 197, 3) := by decide +kernel
theorem dX9_heard_72 : decode cX9_heard 72 = .ok (.ifCond .eq 12, 3) := by decide +kernel
theorem dX9_heard_75 : decode cX9_heard 75 = .ok (.iload 6, 2) := by decide +kernel
theorem dX9_heard_77 : decode cX9_heard 77 = .ok (.iconst 1, 1) := by decide +kernel
theorem dX9_heard_78 : decode cX9_heard 78 = .ok (.iload 7, 2) := by decide +kernel
theorem dX9_heard_80 : decode cX9_heard 80 = .ok (.ishl, 1) := by decide +kernel
theorem dX9_heard_81 : decode cX9_heard 81 = .ok (.ior, 1) := by decide +kernel
theorem dX9_heard_82 : decode cX9_heard 82 = .ok (.istore 6, 2) := by decide +kernel
theorem dX9_heard_84 : decode cX9_heard 84 = .ok (.iinc 7 1, 3) := by decide +kernel
theorem dX9_heard_87 : decode cX9_heard 87 = .ok (.goto (-62), 3) := by decide +kernel
theorem dX9_heard_90 : decode cX9_heard 90 = .ok (.iload 6, 2) := by decide +kernel
theorem dX9_heard_92 : decode cX9_heard 92 = .ok (.ireturn, 1) := by decide +kernel
theorem dX9_byStrangers_0 : decode cX9_byStrangers 0 = .ok (.aload_n 0, 1) := by decide +kernel
theorem dX9_byStrangers_1 : decode cX9_byStrangers 1 = .ok (.iconst 0, 1) := by decide +kernel
theorem dX9_byStrangers_2 : decode cX9_byStrangers 2 = .ok (.putfield 201, 3) := by decide +kernel
theorem dX9_byStrangers_5 : decode cX9_byStrangers 5 = .ok (.aload_n 0, 1) := by decide +kernel
theorem dX9_byStrangers_6 : decode cX9_byStrangers 6 = .ok (.getfield 20, 3) := by decide +kernel
theorem dX9_byStrangers_9 : decode cX9_byStrangers 9 = .ok (.iload_n 1, 1) := by decide +kernel
theorem dX9_byStrangers_10 : decode cX9_byStrangers 10 = .ok (.invokevirtual 88, 3) := by decide +kernel
theorem dX9_byStrangers_13 : decode cX9_byStrangers 13 = .ok (.ifCond .ne 5, 3) := by decide +kernel
theorem dX9_byStrangers_16 : decode cX9_byStrangers 16 = .ok (.iconst (-1), 1) := by decide +kernel
theorem dX9_byStrangers_17 : decode cX9_byStrangers 17 = .ok (.ireturn, 1) := by decide +kernel
theorem dX9_byStrangers_18 : decode cX9_byStrangers 18 = .ok (.aload_n 0, 1) := by decide +kernel
theorem dX9_byStrangers_19 : decode cX9_byStrangers 19 = .ok (.iload_n 2, 1) := by decide +kernel
theorem dX9_byStrangers_20 : decode cX9_byStrangers 20 = .ok (.iload_n 3, 1) := by decide +kernel
theorem dX9_byStrangers_21 : decode cX9_byStrangers 21 = .ok (.iload 4, 2) := by decide +kernel
theorem dX9_byStrangers_23 : decode cX9_byStrangers 23 = .ok (.iload 5, 2) := by decide +kernel
theorem dX9_byStrangers_25 : decode cX9_byStrangers 25 = .ok (.invokevirtual 194, 3) := by decide +kernel
theorem dX9_byStrangers_28 : decode cX9_byStrangers 28 = .ok (.istore 6, 2) := by decide +kernel
theorem dX9_byStrangers_30 : decode cX9_byStrangers 30 = .ok (.iload 6, 2) := by decide +kernel
theorem dX9_byStrangers_32 : decode cX9_byStrangers 32 = .ok (.ifCond .eq 6, 3) := by decide +kernel
theorem dX9_byStrangers_35 : decode cX9_byStrangers 35 = .ok (.iload 6, 2) := by decide +kernel
theorem dX9_byStrangers_37 : decode cX9_byStrangers 37 = .ok (.ireturn, 1) := by decide +kernel
theorem dX9_byStrangers_38 : decode cX9_byStrangers 38 = .ok (.iconst 0, 1) := by decide +kernel
theorem dX9_byStrangers_39 : decode cX9_byStrangers 39 = .ok (.istore 7, 2) := by decide +kernel
theorem dX9_byStrangers_41 : decode cX9_byStrangers 41 = .ok (.bipush 10, 2) := by decide +kernel
theorem dX9_byStrangers_43 : decode cX9_byStrangers 43 = .ok (.istore 8, 2) := by decide +kernel
theorem dX9_byStrangers_45 : decode cX9_byStrangers 45 = .ok (.iload 8, 2) := by decide +kernel
theorem dX9_byStrangers_47 : decode cX9_byStrangers 47 = .ok (.bipush 99, 2) := by decide +kernel
theorem dX9_byStrangers_49 : decode cX9_byStrangers 49 = .ok (.if_icmp .gt 35, 3) := by decide +kernel
theorem dX9_byStrangers_52 : decode cX9_byStrangers 52 = .ok (.aload_n 0, 1) := by decide +kernel
theorem dX9_byStrangers_53 : decode cX9_byStrangers 53 = .ok (.aload_n 0, 1) := by decide +kernel
theorem dX9_byStrangers_54 : decode cX9_byStrangers 54 = .ok (.getfield 13, 3) := by decide +kernel
theorem dX9_byStrangers_57 : decode cX9_byStrangers 57 = .ok (.iload_n 2, 1) := by decide +kernel
theorem dX9_byStrangers_58 : decode cX9_byStrangers 58 = .ok (.aaload, 1) := by decide +kernel
theorem dX9_byStrangers_59 : decode cX9_byStrangers 59 = .ok (.getfield 52, 3) := by decide +kernel
theorem dX9_byStrangers_62 : decode cX9_byStrangers 62 = .ok (.iload 4, 2) := by decide +kernel
theorem dX9_byStrangers_64 : decode cX9_byStrangers 64 = .ok (.iload 5, 2) := by decide +kernel
theorem dX9_byStrangers_66 : decode cX9_byStrangers 66 = .ok (.iload 8, 2) := by decide +kernel
theorem dX9_byStrangers_68 : decode cX9_byStrangers 68 = .ok (.iload_n 1, 1) := by decide +kernel
theorem dX9_byStrangers_69 : decode cX9_byStrangers 69 = .ok (.invokevirtual 197, 3) := by decide +kernel
theorem dX9_byStrangers_72 : decode cX9_byStrangers 72 = .ok (.ifCond .eq 6, 3) := by decide +kernel
theorem dX9_byStrangers_75 : decode cX9_byStrangers 75 = .ok (.iinc 7 1, 3) := by decide +kernel
theorem dX9_byStrangers_78 : decode cX9_byStrangers 78 = .ok (.iinc 8 1, 3) := by decide +kernel
theorem dX9_byStrangers_81 : decode cX9_byStrangers 81 = .ok (.goto (-36), 3) := by decide +kernel
theorem dX9_byStrangers_84 : decode cX9_byStrangers 84 = .ok (.iload 7, 2) := by decide +kernel
theorem dX9_byStrangers_86 : decode cX9_byStrangers 86 = .ok (.ireturn, 1) := by decide +kernel
theorem dX9_grows_0 : decode cX9_grows 0 = .ok (.aload_n 0, 1) := by decide +kernel
theorem dX9_grows_1 : decode cX9_grows 1 = .ok (.getfield 27, 3) := by decide +kernel
theorem dX9_grows_4 : decode cX9_grows 4 = .ok (.iload_n 1, 1) := by decide +kernel
theorem dX9_grows_5 : decode cX9_grows 5 = .ok (.invokevirtual 107, 3) := by decide +kernel
theorem dX9_grows_8 : decode cX9_grows 8 = .ok (.ifCond .eq 14, 3) := by decide +kernel
theorem dX9_grows_11 : decode cX9_grows 11 = .ok (.aload_n 0, 1) := by decide +kernel
theorem dX9_grows_12 : decode cX9_grows 12 = .ok (.getfield 20, 3) := by decide +kernel
theorem dX9_grows_15 : decode cX9_grows 15 = .ok (.iload_n 3, 1) := by decide +kernel
theorem dX9_grows_16 : decode cX9_grows 16 = .ok (.invokevirtual 88, 3) := by decide +kernel
theorem dX9_grows_19 : decode cX9_grows 19 = .ok (.ifCond .ne 5, 3) := by decide +kernel
theorem dX9_grows_22 : decode cX9_grows 22 = .ok (.iconst (-1), 1) := by decide +kernel
theorem dX9_grows_23 : decode cX9_grows 23 = .ok (.ireturn, 1) := by decide +kernel
theorem dX9_grows_24 : decode cX9_grows 24 = .ok (.iload_n 2, 1) := by decide +kernel
theorem dX9_grows_25 : decode cX9_grows 25 = .ok (.ifCond .lt 9, 3) := by decide +kernel
theorem dX9_grows_28 : decode cX9_grows 28 = .ok (.iload_n 2, 1) := by decide +kernel
theorem dX9_grows_29 : decode cX9_grows 29 = .ok (.bipush 9, 2) := by decide +kernel
theorem dX9_grows_31 : decode cX9_grows 31 = .ok (.if_icmp .le 6, 3) := by decide +kernel
theorem dX9_grows_34 : decode cX9_grows 34 = .ok (.bipush (-2), 2) := by decide +kernel
theorem dX9_grows_36 : decode cX9_grows 36 = .ok (.ireturn, 1) := by decide +kernel
theorem dX9_grows_37 : decode cX9_grows 37 = .ok (.iconst 0, 1) := by decide +kernel
theorem dX9_grows_38 : decode cX9_grows 38 = .ok (.istore 4, 2) := by decide +kernel
theorem dX9_grows_40 : decode cX9_grows 40 = .ok (.iload 4, 2) := by decide +kernel
theorem dX9_grows_42 : decode cX9_grows 42 = .ok (.bipush 30, 2) := by decide +kernel
theorem dX9_grows_44 : decode cX9_grows 44 = .ok (.if_icmp .gt 46, 3) := by decide +kernel
theorem dX9_grows_47 : decode cX9_grows 47 = .ok (.aload_n 0, 1) := by decide +kernel
theorem dX9_grows_48 : decode cX9_grows 48 = .ok (.getfield 20, 3) := by decide +kernel
theorem dX9_grows_51 : decode cX9_grows 51 = .ok (.aload_n 0, 1) := by decide +kernel
theorem dX9_grows_52 : decode cX9_grows 52 = .ok (.getfield 27, 3) := by decide +kernel
theorem dX9_grows_55 : decode cX9_grows 55 = .ok (.getfield 110, 3) := by decide +kernel
theorem dX9_grows_58 : decode cX9_grows 58 = .ok (.iload_n 1, 1) := by decide +kernel
theorem dX9_grows_59 : decode cX9_grows 59 = .ok (.iaload, 1) := by decide +kernel
theorem dX9_grows_60 : decode cX9_grows 60 = .ok (.iload_n 2, 1) := by decide +kernel
theorem dX9_grows_61 : decode cX9_grows 61 = .ok (.iload 4, 2) := by decide +kernel
theorem dX9_grows_63 : decode cX9_grows 63 = .ok (.imul, 1) := by decide +kernel
theorem dX9_grows_64 : decode cX9_grows 64 = .ok (.iadd, 1) := by decide +kernel
theorem dX9_grows_65 : decode cX9_grows 65 = .ok (.aload_n 0, 1) := by decide +kernel
theorem dX9_grows_66 : decode cX9_grows 66 = .ok (.getfield 27, 3) := by decide +kernel
theorem dX9_grows_69 : decode cX9_grows 69 = .ok (.getfield 113, 3) := by decide +kernel
theorem dX9_grows_72 : decode cX9_grows 72 = .ok (.iload_n 1, 1) := by decide +kernel
theorem dX9_grows_73 : decode cX9_grows 73 = .ok (.iaload, 1) := by decide +kernel
theorem dX9_grows_74 : decode cX9_grows 74 = .ok (.iload_n 3, 1) := by decide +kernel
theorem dX9_grows_75 : decode cX9_grows 75 = .ok (.invokevirtual 179, 3) := by decide +kernel
theorem dX9_grows_78 : decode cX9_grows 78 = .ok (.ifCond .ne 6, 3) := by decide +kernel
theorem dX9_grows_81 : decode cX9_grows 81 = .ok (.iload 4, 2) := by decide +kernel
theorem dX9_grows_83 : decode cX9_grows 83 = .ok (.ireturn, 1) := by decide +kernel
theorem dX9_grows_84 : decode cX9_grows 84 = .ok (.iinc 4 1, 3) := by decide +kernel
theorem dX9_grows_87 : decode cX9_grows 87 = .ok (.goto (-47), 3) := by decide +kernel
theorem dX9_grows_90 : decode cX9_grows 90 = .ok (.bipush (-9), 2) := by decide +kernel
theorem dX9_grows_92 : decode cX9_grows 92 = .ok (.ireturn, 1) := by decide +kernel
theorem dX9_sheet_0 : decode cX9_sheet 0 = .ok (.aload_n 0, 1) := by decide +kernel
theorem dX9_sheet_1 : decode cX9_sheet 1 = .ok (.iconst 0, 1) := by decide +kernel
theorem dX9_sheet_2 : decode cX9_sheet 2 = .ok (.putfield 201, 3) := by decide +kernel
theorem dX9_sheet_5 : decode cX9_sheet 5 = .ok (.iload_n 1, 1) := by decide +kernel
theorem dX9_sheet_6 : decode cX9_sheet 6 = .ok (.invokestatic 204, 3) := by decide +kernel
theorem dX9_sheet_9 : decode cX9_sheet 9 = .ok (.ifCond .ne 5, 3) := by decide +kernel
theorem dX9_sheet_12 : decode cX9_sheet 12 = .ok (.iconst (-1), 1) := by decide +kernel
theorem dX9_sheet_13 : decode cX9_sheet 13 = .ok (.ireturn, 1) := by decide +kernel
theorem dX9_sheet_14 : decode cX9_sheet 14 = .ok (.iload_n 2, 1) := by decide +kernel
theorem dX9_sheet_15 : decode cX9_sheet 15 = .ok (.invokestatic 207, 3) := by decide +kernel
theorem dX9_sheet_18 : decode cX9_sheet 18 = .ok (.ifCond .eq 9, 3) := by decide +kernel
theorem dX9_sheet_21 : decode cX9_sheet 21 = .ok (.iload_n 3, 1) := by decide +kernel
theorem dX9_sheet_22 : decode cX9_sheet 22 = .ok (.bipush 60, 2) := by decide +kernel
theorem dX9_sheet_24 : decode cX9_sheet 24 = .ok (.if_icmp .le 6, 3) := by decide +kernel
theorem dX9_sheet_27 : decode cX9_sheet 27 = .ok (.bipush (-2), 2) := by decide +kernel
theorem dX9_sheet_29 : decode cX9_sheet 29 = .ok (.ireturn, 1) := by decide +kernel
theorem dX9_sheet_30 : decode cX9_sheet 30 = .ok (.iload_n 3, 1) := by decide +kernel
theorem dX9_sheet_31 : decode cX9_sheet 31 = .ok (.ifCond .ge 9, 3) := by decide +kernel
theorem dX9_sheet_34 : decode cX9_sheet 34 = .ok (.aload_n 0, 1) := by decide +kernel
theorem dX9_sheet_35 : decode cX9_sheet 35 = .ok (.iconst 4, 1) := by decide +kernel
theorem dX9_sheet_36 : decode cX9_sheet 36 = .ok (.invokevirtual 210, 3) := by decide +kernel
theorem dX9_sheet_39 : decode cX9_sheet 39 = .ok (.ireturn, 1) := by decide +kernel
theorem dX9_sheet_40 : decode cX9_sheet 40 = .ok (.aload_n 0, 1) := by decide +kernel
theorem dX9_sheet_41 : decode cX9_sheet 41 = .ok (.getfield 13, 3) := by decide +kernel
theorem dX9_sheet_44 : decode cX9_sheet 44 = .ok (.iload_n 1, 1) := by decide +kernel
theorem dX9_sheet_45 : decode cX9_sheet 45 = .ok (.aaload, 1) := by decide +kernel
theorem dX9_sheet_46 : decode cX9_sheet 46 = .ok (.iload_n 2, 1) := by decide +kernel
theorem dX9_sheet_47 : decode cX9_sheet 47 = .ok (.iload_n 3, 1) := by decide +kernel
theorem dX9_sheet_48 : decode cX9_sheet 48 = .ok (.invokevirtual 213, 3) := by decide +kernel
theorem dX9_sheet_51 : decode cX9_sheet 51 = .ok (.iconst 1, 1) := by decide +kernel
theorem dX9_sheet_52 : decode cX9_sheet 52 = .ok (.ireturn, 1) := by decide +kernel
theorem dX9_lose_0 : decode cX9_lose 0 = .ok (.iload_n 1, 1) := by decide +kernel
theorem dX9_lose_1 : decode cX9_lose 1 = .ok (.invokestatic 204, 3) := by decide +kernel
theorem dX9_lose_4 : decode cX9_lose 4 = .ok (.ifCond .ne 5, 3) := by decide +kernel
theorem dX9_lose_7 : decode cX9_lose 7 = .ok (.iconst (-1), 1) := by decide +kernel
theorem dX9_lose_8 : decode cX9_lose 8 = .ok (.ireturn, 1) := by decide +kernel
theorem dX9_lose_9 : decode cX9_lose 9 = .ok (.aload_n 0, 1) := by decide +kernel
theorem dX9_lose_10 : decode cX9_lose 10 = .ok (.getfield 13, 3) := by decide +kernel
theorem dX9_lose_13 : decode cX9_lose 13 = .ok (.iload_n 1, 1) := by decide +kernel
theorem dX9_lose_14 : decode cX9_lose 14 = .ok (.aaload, 1) := by decide +kernel
theorem dX9_lose_15 : decode cX9_lose 15 = .ok (.invokevirtual 216, 3) := by decide +kernel
theorem dX9_lose_18 : decode cX9_lose 18 = .ok (.ifCond .eq 7, 3) := by decide +kernel
theorem dX9_lose_21 : decode cX9_lose 21 = .ok (.iconst 0, 1) := by decide +kernel
theorem dX9_lose_22 : decode cX9_lose 22 = .ok (.goto 4, 3) := by decide +kernel
theorem dX9_lose_25 : decode cX9_lose 25 = .ok (.iconst 1, 1) := by decide +kernel
theorem dX9_lose_26 : decode cX9_lose 26 = .ok (.istore_n 2, 1) := by decide +kernel
theorem dX9_lose_27 : decode cX9_lose 27 = .ok (.aload_n 0, 1) := by decide +kernel
theorem dX9_lose_28 : decode cX9_lose 28 = .ok (.getfield 13, 3) := by decide +kernel
theorem dX9_lose_31 : decode cX9_lose 31 = .ok (.iload_n 1, 1) := by decide +kernel
theorem dX9_lose_32 : decode cX9_lose 32 = .ok (.aaload, 1) := by decide +kernel
theorem dX9_lose_33 : decode cX9_lose 33 = .ok (.invokevirtual 220, 3) := by decide +kernel
theorem dX9_lose_36 : decode cX9_lose 36 = .ok (.iload_n 2, 1) := by decide +kernel
theorem dX9_lose_37 : decode cX9_lose 37 = .ok (.ireturn, 1) := by decide +kernel
theorem dX9_put_0 : decode cX9_put 0 = .ok (.aload_n 0, 1) := by decide +kernel
theorem dX9_put_1 : decode cX9_put 1 = .ok (.iconst 0, 1) := by decide +kernel
theorem dX9_put_2 : decode cX9_put 2 = .ok (.putfield 201, 3) := by decide +kernel
theorem dX9_put_5 : decode cX9_put 5 = .ok (.iload_n 1, 1) := by decide +kernel
theorem dX9_put_6 : decode cX9_put 6 = .ok (.invokestatic 204, 3) := by decide +kernel
theorem dX9_put_9 : decode cX9_put 9 = .ok (.ifCond .ne 5, 3) := by decide +kernel
theorem dX9_put_12 : decode cX9_put 12 = .ok (.iconst (-1), 1) := by decide +kernel
theorem dX9_put_13 : decode cX9_put 13 = .ok (.ireturn, 1) := by decide +kernel
theorem dX9_put_14 : decode cX9_put 14 = .ok (.aload_n 0, 1) := by decide +kernel
theorem dX9_put_15 : decode cX9_put 15 = .ok (.getfield 13, 3) := by decide +kernel
theorem dX9_put_18 : decode cX9_put 18 = .ok (.iload_n 1, 1) := by decide +kernel
theorem dX9_put_19 : decode cX9_put 19 = .ok (.aaload, 1) := by decide +kernel
theorem dX9_put_20 : decode cX9_put 20 = .ok (.invokevirtual 216, 3) := by decide +kernel
theorem dX9_put_23 : decode cX9_put 23 = .ok (.ifCond .eq 9, 3) := by decide +kernel
theorem dX9_put_26 : decode cX9_put 26 = .ok (.aload_n 0, 1) := by decide +kernel
theorem dX9_put_27 : decode cX9_put 27 = .ok (.iconst 1, 1) := by decide +kernel
theorem dX9_put_28 : decode cX9_put 28 = .ok (.invokevirtual 210, 3) := by decide +kernel
theorem dX9_put_31 : decode cX9_put 31 = .ok (.ireturn, 1) := by decide +kernel
theorem dX9_put_32 : decode cX9_put 32 = .ok (.aload_n 0, 1) := by decide +kernel
theorem dX9_put_33 : decode cX9_put 33 = .ok (.getfield 13, 3) := by decide +kernel
theorem dX9_put_36 : decode cX9_put 36 = .ok (.iload_n 1, 1) := by decide +kernel
theorem dX9_put_37 : decode cX9_put 37 = .ok (.aaload, 1) := by decide +kernel
theorem dX9_put_38 : decode cX9_put 38 = .ok (.iload_n 2, 1) := by decide +kernel
theorem dX9_put_39 : decode cX9_put 39 = .ok (.iconst 1, 1) := by decide +kernel
theorem dX9_put_40 : decode cX9_put 40 = .ok (.invokevirtual 223, 3) := by decide +kernel
theorem dX9_put_43 : decode cX9_put 43 = .ok (.ifCond .ne 9, 3) := by decide +kernel
theorem dX9_put_46 : decode cX9_put 46 = .ok (.aload_n 0, 1) := by decide +kernel
theorem dX9_put_47 : decode cX9_put 47 = .ok (.iconst 3, 1) := by decide +kernel
theorem dX9_put_48 : decode cX9_put 48 = .ok (.invokevirtual 210, 3) := by decide +kernel
theorem dX9_put_51 : decode cX9_put 51 = .ok (.ireturn, 1) := by decide +kernel
theorem dX9_put_52 : decode cX9_put 52 = .ok (.aload_n 0, 1) := by decide +kernel
theorem dX9_put_53 : decode cX9_put 53 = .ok (.getfield 13, 3) := by decide +kernel
theorem dX9_put_56 : decode cX9_put 56 = .ok (.iload_n 1, 1) := by decide +kernel
theorem dX9_put_57 : decode cX9_put 57 = .ok (.aaload, 1) := by decide +kernel
theorem dX9_put_58 : decode cX9_put 58 = .ok (.getfield 52, 3) := by decide +kernel
theorem dX9_put_61 : decode cX9_put 61 = .ok (.iload_n 2, 1) := by decide +kernel
theorem dX9_put_62 : decode cX9_put 62 = .ok (.aload_n 0, 1) := by decide +kernel
theorem dX9_put_63 : decode cX9_put 63 = .ok (.getfield 13, 3) := by decide +kernel
theorem dX9_put_66 : decode cX9_put 66 = .ok (.iload_n 1, 1) := by decide +kernel
theorem dX9_put_67 : decode cX9_put 67 = .ok (.aaload, 1) := by decide +kernel
theorem dX9_put_68 : decode cX9_put 68 = .ok (.iload_n 3, 1) := by decide +kernel
theorem dX9_put_69 : decode cX9_put 69 = .ok (.invokevirtual 227, 3) := by decide +kernel
theorem dX9_put_72 : decode cX9_put 72 = .ok (.iastore, 1) := by decide +kernel
theorem dX9_put_73 : decode cX9_put 73 = .ok (.iconst 1, 1) := by decide +kernel
theorem dX9_put_74 : decode cX9_put 74 = .ok (.ireturn, 1) := by decide +kernel
theorem dX9_cell_0 : decode cX9_cell 0 = .ok (.aload_n 0, 1) := by decide +kernel
theorem dX9_cell_1 : decode cX9_cell 1 = .ok (.iload_n 1, 1) := by decide +kernel
theorem dX9_cell_2 : decode cX9_cell 2 = .ok (.iload_n 3, 1) := by decide +kernel
theorem dX9_cell_3 : decode cX9_cell 3 = .ok (.iload_n 2, 1) := by decide +kernel
theorem dX9_cell_4 : decode cX9_cell 4 = .ok (.iconst 1, 1) := by decide +kernel
theorem dX9_cell_5 : decode cX9_cell 5 = .ok (.invokevirtual 46, 3) := by decide +kernel
theorem dX9_cell_8 : decode cX9_cell 8 = .ok (.ifCond .eq 9, 3) := by decide +kernel
theorem dX9_cell_11 : decode cX9_cell 11 = .ok (.ldc2_w 230, 3) := by decide +kernel
theorem dX9_cell_14 : decode cX9_cell 14 = .ok (.goto 15, 3) := by decide +kernel
theorem dX9_cell_17 : decode cX9_cell 17 = .ok (.aload_n 0, 1) := by decide +kernel
theorem dX9_cell_18 : decode cX9_cell 18 = .ok (.getfield 13, 3) := by decide +kernel
theorem dX9_cell_21 : decode cX9_cell 21 = .ok (.iload_n 1, 1) := by decide +kernel
theorem dX9_cell_22 : decode cX9_cell 22 = .ok (.aaload, 1) := by decide +kernel
theorem dX9_cell_23 : decode cX9_cell 23 = .ok (.getfield 52, 3) := by decide +kernel
theorem dX9_cell_26 : decode cX9_cell 26 = .ok (.iload_n 2, 1) := by decide +kernel
theorem dX9_cell_27 : decode cX9_cell 27 = .ok (.iaload, 1) := by decide +kernel
theorem dX9_cell_28 : decode cX9_cell 28 = .ok (.i2l, 1) := by decide +kernel
theorem dX9_cell_29 : decode cX9_cell 29 = .ok (.lreturn, 1) := by decide +kernel
theorem dX9_copy_0 : decode cX9_copy 0 = .ok (.aload_n 0, 1) := by decide +kernel
theorem dX9_copy_1 : decode cX9_copy 1 = .ok (.iconst 0, 1) := by decide +kernel
theorem dX9_copy_2 : decode cX9_copy 2 = .ok (.putfield 201, 3) := by decide +kernel
theorem dX9_copy_5 : decode cX9_copy 5 = .ok (.iload_n 1, 1) := by decide +kernel
theorem dX9_copy_6 : decode cX9_copy 6 = .ok (.invokestatic 204, 3) := by decide +kernel
theorem dX9_copy_9 : decode cX9_copy 9 = .ok (.ifCond .eq 10, 3) := by decide +kernel
theorem dX9_copy_12 : decode cX9_copy 12 = .ok (.iload_n 3, 1) := by decide +kernel
theorem dX9_copy_13 : decode cX9_copy 13 = .ok (.invokestatic 204, 3) := by decide +kernel
theorem dX9_copy_16 : decode cX9_copy 16 = .ok (.ifCond .ne 5, 3) := by decide +kernel
theorem dX9_copy_19 : decode cX9_copy 19 = .ok (.iconst (-1), 1) := by decide +kernel
theorem dX9_copy_20 : decode cX9_copy 20 = .ok (.ireturn, 1) := by decide +kernel
theorem dX9_copy_21 : decode cX9_copy 21 = .ok (.aload_n 0, 1) := by decide +kernel
theorem dX9_copy_22 : decode cX9_copy 22 = .ok (.getfield 13, 3) := by decide +kernel
theorem dX9_copy_25 : decode cX9_copy 25 = .ok (.iload_n 1, 1) := by decide +kernel
theorem dX9_copy_26 : decode cX9_copy 26 = .ok (.aaload, 1) := by decide +kernel
theorem dX9_copy_27 : decode cX9_copy 27 = .ok (.astore 6, 2) := by decide +kernel
theorem dX9_copy_29 : decode cX9_copy 29 = .ok (.aload_n 0, 1) := by decide +kernel
theorem dX9_copy_30 : decode cX9_copy 30 = .ok (.getfield 13, 3) := by decide +kernel
theorem dX9_copy_33 : decode cX9_copy 33 = .ok (.iload_n 3, 1) := by decide +kernel
theorem dX9_copy_34 : decode cX9_copy 34 = .ok (.aaload, 1) := by decide +kernel
theorem dX9_copy_35 : decode cX9_copy 35 = .ok (.astore 7, 2) := by decide +kernel
theorem dX9_copy_37 : decode cX9_copy 37 = .ok (.aload 6, 2) := by decide +kernel
theorem dX9_copy_39 : decode cX9_copy 39 = .ok (.invokevirtual 216, 3) := by decide +kernel
theorem dX9_copy_42 : decode cX9_copy 42 = .ok (.ifCond .ne 11, 3) := by decide +kernel
theorem dX9_copy_45 : decode cX9_copy 45 = .ok (.aload 7, 2) := by decide +kernel
theorem dX9_copy_47 : decode cX9_copy 47 = .ok (.invokevirtual 216, 3) := by decide +kernel
theorem dX9_copy_50 : decode cX9_copy 50 = .ok (.ifCond .eq 9, 3) := by decide +kernel
theorem dX9_copy_53 : decode cX9_copy 53 = .ok (.aload_n 0, 1) := by decide +kernel
theorem dX9_copy_54 : decode cX9_copy 54 = .ok (.iconst 1, 1) := by decide +kernel
theorem dX9_copy_55 : decode cX9_copy 55 = .ok (.invokevirtual 210, 3) := by decide +kernel
theorem dX9_copy_58 : decode cX9_copy 58 = .ok (.ireturn, 1) := by decide +kernel
theorem dX9_copy_59 : decode cX9_copy 59 = .ok (.aload 6, 2) := by decide +kernel
theorem dX9_copy_61 : decode cX9_copy 61 = .ok (.getfield 232, 3) := by decide +kernel
theorem dX9_copy_64 : decode cX9_copy 64 = .ok (.aload 7, 2) := by decide +kernel
theorem dX9_copy_66 : decode cX9_copy 66 = .ok (.getfield 232, 3) := by decide +kernel
theorem dX9_copy_69 : decode cX9_copy 69 = .ok (.if_icmp .eq 9, 3) := by decide +kernel
theorem dX9_copy_72 : decode cX9_copy 72 = .ok (.aload_n 0, 1) := by decide +kernel
theorem dX9_copy_73 : decode cX9_copy 73 = .ok (.iconst 2, 1) := by decide +kernel
theorem dX9_copy_74 : decode cX9_copy 74 = .ok (.invokevirtual 210, 3) := by decide +kernel
theorem dX9_copy_77 : decode cX9_copy 77 = .ok (.ireturn, 1) := by decide +kernel
theorem dX9_copy_78 : decode cX9_copy 78 = .ok (.aload 6, 2) := by decide +kernel
theorem dX9_copy_80 : decode cX9_copy 80 = .ok (.iload_n 2, 1) := by decide +kernel
theorem dX9_copy_81 : decode cX9_copy 81 = .ok (.iload 5, 2) := by decide +kernel
theorem dX9_copy_83 : decode cX9_copy 83 = .ok (.invokevirtual 223, 3) := by decide +kernel
theorem dX9_copy_86 : decode cX9_copy 86 = .ok (.ifCond .eq 15, 3) := by decide +kernel
theorem dX9_copy_89 : decode cX9_copy 89 = .ok (.aload 7, 2) := by decide +kernel
theorem dX9_copy_91 : decode cX9_copy 91 = .ok (.iload 4, 2) := by decide +kernel
theorem dX9_copy_93 : decode cX9_copy 93 = .ok (.iload 5, 2) := by decide +kernel
theorem dX9_copy_95 : decode cX9_copy 95 = .ok (.invokevirtual 223, 3) := by decide +kernel
theorem dX9_copy_98 : decode cX9_copy 98 = .ok (.ifCond .ne 9, 3) := by decide +kernel
theorem dX9_copy_101 : decode cX9_copy 101 = .ok (.aload_n 0, 1) := by decide +kernel
theorem dX9_copy_102 : decode cX9_copy 102 = .ok (.iconst 3, 1) := by decide +kernel
theorem dX9_copy_103 : decode cX9_copy 103 = .ok (.invokevirtual 210, 3) := by decide +kernel
theorem dX9_copy_106 : decode cX9_copy 106 = .ok (.ireturn, 1) := by decide +kernel
theorem dX9_copy_107 : decode cX9_copy 107 = .ok (.aload 6, 2) := by decide +kernel
theorem dX9_copy_109 : decode cX9_copy 109 = .ok (.getfield 52, 3) := by decide +kernel
theorem dX9_copy_112 : decode cX9_copy 112 = .ok (.iload_n 2, 1) := by decide +kernel
theorem dX9_copy_113 : decode cX9_copy 113 = .ok (.aload 7, 2) := by decide +kernel
theorem dX9_copy_115 : decode cX9_copy 115 = .ok (.getfield 52, 3) := by decide +kernel
theorem dX9_copy_118 : decode cX9_copy 118 = .ok (.iload 4, 2) := by decide +kernel
theorem dX9_copy_120 : decode cX9_copy 120 = .ok (.iload 5, 2) := by decide +kernel
theorem dX9_copy_122 : decode cX9_copy 122 = .ok (.invokestatic 235, 3) := by decide +kernel
theorem dX9_copy_125 : decode cX9_copy 125 = .ok (.iload 5, 2) := by decide +kernel
theorem dX9_copy_127 : decode cX9_copy 127 = .ok (.ireturn, 1) := by decide +kernel
theorem dX9_tell_0 : decode cX9_tell 0 = .ok (.aload_n 0, 1) := by decide +kernel
theorem dX9_tell_1 : decode cX9_tell 1 = .ok (.getfield 20, 3) := by decide +kernel
theorem dX9_tell_4 : decode cX9_tell 4 = .ok (.iload_n 1, 1) := by decide +kernel
theorem dX9_tell_5 : decode cX9_tell 5 = .ok (.invokevirtual 74, 3) := by decide +kernel
theorem dX9_tell_8 : decode cX9_tell 8 = .ok (.ifCond .eq 22, 3) := by decide +kernel
theorem dX9_tell_11 : decode cX9_tell 11 = .ok (.aload_n 0, 1) := by decide +kernel
theorem dX9_tell_12 : decode cX9_tell 12 = .ok (.getfield 20, 3) := by decide +kernel
theorem dX9_tell_15 : decode cX9_tell 15 = .ok (.getfield 78, 3) := by decide +kernel
theorem dX9_tell_18 : decode cX9_tell 18 = .ok (.iload_n 1, 1) := by decide +kernel
theorem dX9_tell_19 : decode cX9_tell 19 = .ok (.aaload, 1) := by decide +kernel
theorem dX9_tell_20 : decode cX9_tell 20 = .ok (.aload_n 0, 1) := by decide +kernel
theorem dX9_tell_21 : decode cX9_tell 21 = .ok (.getfield 41, 3) := by decide +kernel
theorem dX9_tell_24 : decode cX9_tell 24 = .ok (.invokevirtual 241, 3) := by decide +kernel
theorem dX9_tell_27 : decode cX9_tell 27 = .ok (.goto 4, 3) := by decide +kernel
theorem dX9_tell_30 : decode cX9_tell 30 = .ok (.iconst (-1), 1) := by decide +kernel
theorem dX9_tell_31 : decode cX9_tell 31 = .ok (.ireturn, 1) := by decide +kernel
theorem dX9_ring_0 : decode cX9_ring 0 = .ok (.aload_n 0, 1) := by decide +kernel
theorem dX9_ring_1 : decode cX9_ring 1 = .ok (.getfield 20, 3) := by decide +kernel
theorem dX9_ring_4 : decode cX9_ring 4 = .ok (.iload_n 1, 1) := by decide +kernel
theorem dX9_ring_5 : decode cX9_ring 5 = .ok (.invokevirtual 74, 3) := by decide +kernel
theorem dX9_ring_8 : decode cX9_ring 8 = .ok (.ifCond .eq 23, 3) := by decide +kernel
theorem dX9_ring_11 : decode cX9_ring 11 = .ok (.aload_n 0, 1) := by decide +kernel
theorem dX9_ring_12 : decode cX9_ring 12 = .ok (.getfield 20, 3) := by decide +kernel
theorem dX9_ring_15 : decode cX9_ring 15 = .ok (.getfield 78, 3) := by decide +kernel
theorem dX9_ring_18 : decode cX9_ring 18 = .ok (.iload_n 1, 1) := by decide +kernel
theorem dX9_ring_19 : decode cX9_ring 19 = .ok (.aaload, 1) := by decide +kernel
theorem dX9_ring_20 : decode cX9_ring 20 = .ok (.aload_n 0, 1) := by decide +kernel
theorem dX9_ring_21 : decode cX9_ring 21 = .ok (.getfield 41, 3) := by decide +kernel
theorem dX9_ring_24 : decode cX9_ring 24 = .ok (.iload_n 1, 1) := by decide +kernel
theorem dX9_ring_25 : decode cX9_ring 25 = .ok (.invokevirtual 245, 3) := by decide +kernel
theorem dX9_ring_28 : decode cX9_ring 28 = .ok (.goto 4, 3) := by decide +kernel
theorem dX9_ring_31 : decode cX9_ring 31 = .ok (.iconst (-1), 1) := by decide +kernel
theorem dX9_ring_32 : decode cX9_ring 32 = .ok (.ireturn, 1) := by decide +kernel
theorem dX9_as_0 : decode cX9_as 0 = .ok (.aload_n 0, 1) := by decide +kernel
theorem dX9_as_1 : decode cX9_as 1 = .ok (.iconst 0, 1) := by decide +kernel
theorem dX9_as_2 : decode cX9_as 2 = .ok (.putfield 201, 3) := by decide +kernel
theorem dX9_as_5 : decode cX9_as 5 = .ok (.aload_n 0, 1) := by decide +kernel
theorem dX9_as_6 : decode cX9_as 6 = .ok (.getfield 20, 3) := by decide +kernel
theorem dX9_as_9 : decode cX9_as 9 = .ok (.iload_n 1, 1) := by decide +kernel
theorem dX9_as_10 : decode cX9_as 10 = .ok (.invokevirtual 74, 3) := by decide +kernel
theorem dX9_as_13 : decode cX9_as 13 = .ok (.ifCond .ne 5, 3) := by decide +kernel
theorem dX9_as_16 : decode cX9_as 16 = .ok (.iconst (-1), 1) := by decide +kernel
theorem dX9_as_17 : decode cX9_as 17 = .ok (.ireturn, 1) := by decide +kernel
theorem dX9_as_18 : decode cX9_as 18 = .ok (.iload_n 2, 1) := by decide +kernel
theorem dX9_as_19 : decode cX9_as 19 = .ok (.ifCond .lt 8, 3) := by decide +kernel
theorem dX9_as_22 : decode cX9_as 22 = .ok (.iload_n 2, 1) := by decide +kernel
theorem dX9_as_23 : decode cX9_as 23 = .ok (.iconst 2, 1) := by decide +kernel
theorem dX9_as_24 : decode cX9_as 24 = .ok (.if_icmp .le 6, 3) := by decide +kernel
theorem dX9_as_27 : decode cX9_as 27 = .ok (.bipush (-2), 2) := by decide +kernel
theorem dX9_as_29 : decode cX9_as 29 = .ok (.ireturn, 1) := by decide +kernel
theorem dX9_as_30 : decode cX9_as 30 = .ok (.iload_n 2, 1) := by decide +kernel
theorem dX9_as_31 : decode cX9_as 31 = .ok (.aload_n 0, 1) := by decide +kernel
theorem dX9_as_32 : decode cX9_as 32 = .ok (.getfield 20, 3) := by decide +kernel
theorem dX9_as_35 : decode cX9_as 35 = .ok (.getfield 78, 3) := by decide +kernel
theorem dX9_as_38 : decode cX9_as 38 = .ok (.iload_n 1, 1) := by decide +kernel
theorem dX9_as_39 : decode cX9_as 39 = .ok (.aaload, 1) := by decide +kernel
theorem dX9_as_40 : decode cX9_as 40 = .ok (.invokevirtual 249, 3) := by decide +kernel
theorem dX9_as_43 : decode cX9_as 43 = .ok (.if_icmp .gt 7, 3) := by decide +kernel
theorem dX9_as_46 : decode cX9_as 46 = .ok (.iconst 1, 1) := by decide +kernel
theorem dX9_as_47 : decode cX9_as 47 = .ok (.goto 8, 3) := by decide +kernel
theorem dX9_as_50 : decode cX9_as 50 = .ok (.aload_n 0, 1) := by decide +kernel
theorem dX9_as_51 : decode cX9_as 51 = .ok (.iconst 2, 1) := by decide +kernel
theorem dX9_as_52 : decode cX9_as 52 = .ok (.invokevirtual 210, 3) := by decide +kernel
theorem dX9_as_55 : decode cX9_as 55 = .ok (.ireturn, 1) := by decide +kernel
theorem dX9_trace_0 : decode cX9_trace 0 = .ok (.aload_n 0, 1) := by decide +kernel
theorem dX9_trace_1 : decode cX9_trace 1 = .ok (.getfield 41, 3) := by decide +kernel
theorem dX9_trace_4 : decode cX9_trace 4 = .ok (.getfield 252, 3) := by decide +kernel
theorem dX9_trace_7 : decode cX9_trace 7 = .ok (.ireturn, 1) := by decide +kernel
theorem dX9_fault_0 : decode cX9_fault 0 = .ok (.aload_n 0, 1) := by decide +kernel
theorem dX9_fault_1 : decode cX9_fault 1 = .ok (.getfield 201, 3) := by decide +kernel
theorem dX9_fault_4 : decode cX9_fault 4 = .ok (.ireturn, 1) := by decide +kernel
theorem dX9_many_0 : decode cX9_many 0 = .ok (.iload_n 1, 1) := by decide +kernel
theorem dX9_many_1 : decode cX9_many 1 = .ok (.tableswitch 63 0 3 #[31, 39, 47, 55], 31) := by decide +kernel
theorem dX9_many_32 : decode cX9_many 32 = .ok (.aload_n 0, 1) := by decide +kernel
theorem dX9_many_33 : decode cX9_many 33 = .ok (.getfield 20, 3) := by decide +kernel
theorem dX9_many_36 : decode cX9_many 36 = .ok (.getfield 255, 3) := by decide +kernel
theorem dX9_many_39 : decode cX9_many 39 = .ok (.ireturn, 1) := by decide +kernel
theorem dX9_many_40 : decode cX9_many 40 = .ok (.aload_n 0, 1) := by decide +kernel
theorem dX9_many_41 : decode cX9_many 41 = .ok (.getfield 20, 3) := by decide +kernel
theorem dX9_many_44 : decode cX9_many 44 = .ok (.getfield 70, 3) := by decide +kernel
theorem dX9_many_47 : decode cX9_many 47 = .ok (.ireturn, 1) := by decide +kernel
theorem dX9_many_48 : decode cX9_many 48 = .ok (.aload_n 0, 1) := by decide +kernel
theorem dX9_many_49 : decode cX9_many 49 = .ok (.getfield 27, 3) := by decide +kernel
theorem dX9_many_52 : decode cX9_many 52 = .ok (.getfield 94, 3) := by decide +kernel
theorem dX9_many_55 : decode cX9_many 55 = .ok (.ireturn, 1) := by decide +kernel
theorem dX9_many_56 : decode cX9_many 56 = .ok (.aload_n 0, 1) := by decide +kernel
theorem dX9_many_57 : decode cX9_many 57 = .ok (.getfield 27, 3) := by decide +kernel
theorem dX9_many_60 : decode cX9_many 60 = .ok (.getfield 101, 3) := by decide +kernel
theorem dX9_many_63 : decode cX9_many 63 = .ok (.ireturn, 1) := by decide +kernel
theorem dX9_many_64 : decode cX9_many 64 = .ok (.bipush (-2), 2) := by decide +kernel
theorem dX9_many_66 : decode cX9_many 66 = .ok (.ireturn, 1) := by decide +kernel
theorem dX9_isSheet_0 : decode cX9_isSheet 0 = .ok (.iload_n 0, 1) := by decide +kernel
theorem dX9_isSheet_1 : decode cX9_isSheet 1 = .ok (.ifCond .lt 12, 3) := by decide +kernel
theorem dX9_isSheet_4 : decode cX9_isSheet 4 = .ok (.iload_n 0, 1) := by decide +kernel
theorem dX9_isSheet_5 : decode cX9_isSheet 5 = .ok (.iconst 4, 1) := by decide +kernel
theorem dX9_isSheet_6 : decode cX9_isSheet 6 = .ok (.if_icmp .ge 7, 3) := by decide +kernel
theorem dX9_isSheet_9 : decode cX9_isSheet 9 = .ok (.iconst 1, 1) := by decide +kernel
theorem dX9_isSheet_10 : decode cX9_isSheet 10 = .ok (.goto 4, 3) := by decide +kernel
theorem dX9_isSheet_13 : decode cX9_isSheet 13 = .ok (.iconst 0, 1) := by decide +kernel
theorem dX9_isSheet_14 : decode cX9_isSheet 14 = .ok (.ireturn, 1) := by decide +kernel
theorem dX9_isLane_0 : decode cX9_isLane 0 = .ok (.iload_n 0, 1) := by decide +kernel
theorem dX9_isLane_1 : decode cX9_isLane 1 = .ok (.ifCond .lt 12, 3) := by decide +kernel
theorem dX9_isLane_4 : decode cX9_isLane 4 = .ok (.iload_n 0, 1) := by decide +kernel
theorem dX9_isLane_5 : decode cX9_isLane 5 = .ok (.iconst 2, 1) := by decide +kernel
theorem dX9_isLane_6 : decode cX9_isLane 6 = .ok (.if_icmp .gt 7, 3) := by decide +kernel
theorem dX9_isLane_9 : decode cX9_isLane 9 = .ok (.iconst 1, 1) := by decide +kernel
theorem dX9_isLane_10 : decode cX9_isLane 10 = .ok (.goto 4, 3) := by decide +kernel
theorem dX9_isLane_13 : decode cX9_isLane 13 = .ok (.iconst 0, 1) := by decide +kernel
theorem dX9_isLane_14 : decode cX9_isLane 14 = .ok (.ireturn, 1) := by decide +kernel
theorem dX9_isPersonsWeight_0 : decode cX9_isPersonsWeight 0 = .ok (.iload_n 0, 1) := by decide +kernel
theorem dX9_isPersonsWeight_1 : decode cX9_isPersonsWeight 1 = .ok (.bipush 10, 2) := by decide +kernel
theorem dX9_isPersonsWeight_3 : decode cX9_isPersonsWeight 3 = .ok (.if_icmp .lt 13, 3) := by decide +kernel
theorem dX9_isPersonsWeight_6 : decode cX9_isPersonsWeight 6 = .ok (.iload_n 0, 1) := by decide +kernel
theorem dX9_isPersonsWeight_7 : decode cX9_isPersonsWeight 7 = .ok (.bipush 99, 2) := by decide +kernel
theorem dX9_isPersonsWeight_9 : decode cX9_isPersonsWeight 9 = .ok (.if_icmp .gt 7, 3) := by decide +kernel
theorem dX9_isPersonsWeight_12 : decode cX9_isPersonsWeight 12 = .ok (.iconst 1, 1) := by decide +kernel
theorem dX9_isPersonsWeight_13 : decode cX9_isPersonsWeight 13 = .ok (.goto 4, 3) := by decide +kernel
theorem dX9_isPersonsWeight_16 : decode cX9_isPersonsWeight 16 = .ok (.iconst 0, 1) := by decide +kernel
theorem dX9_isPersonsWeight_17 : decode cX9_isPersonsWeight 17 = .ok (.ireturn, 1) := by decide +kernel
theorem dX9_faulted_0 : decode cX9_faulted 0 = .ok (.aload_n 0, 1) := by decide +kernel
theorem dX9_faulted_1 : decode cX9_faulted 1 = .ok (.iload_n 1, 1) := by decide +kernel
theorem dX9_faulted_2 : decode cX9_faulted 2 = .ok (.putfield 201, 3) := by decide +kernel
theorem dX9_faulted_5 : decode cX9_faulted 5 = .ok (.bipush (-10), 2) := by decide +kernel
theorem dX9_faulted_7 : decode cX9_faulted 7 = .ok (.iload_n 1, 1) := by decide +kernel
theorem dX9_faulted_8 : decode cX9_faulted 8 = .ok (.isub, 1) := by decide +kernel
theorem dX9_faulted_9 : decode cX9_faulted 9 = .ok (.ireturn, 1) := by decide +kernel
theorem dX9_cellsRefused_0 : decode cX9_cellsRefused 0 = .ok (.aload_n 0, 1) := by decide +kernel
theorem dX9_cellsRefused_1 : decode cX9_cellsRefused 1 = .ok (.iconst 0, 1) := by decide +kernel
theorem dX9_cellsRefused_2 : decode cX9_cellsRefused 2 = .ok (.putfield 201, 3) := by decide +kernel
theorem dX9_cellsRefused_5 : decode cX9_cellsRefused 5 = .ok (.iload_n 1, 1) := by decide +kernel
theorem dX9_cellsRefused_6 : decode cX9_cellsRefused 6 = .ok (.invokestatic 204, 3) := by decide +kernel
theorem dX9_cellsRefused_9 : decode cX9_cellsRefused 9 = .ok (.ifCond .ne 5, 3) := by decide +kernel
theorem dX9_cellsRefused_12 : decode cX9_cellsRefused 12 = .ok (.iconst (-1), 1) := by decide +kernel
theorem dX9_cellsRefused_13 : decode cX9_cellsRefused 13 = .ok (.ireturn, 1) := by decide +kernel
theorem dX9_cellsRefused_14 : decode cX9_cellsRefused 14 = .ok (.iload_n 2, 1) := by decide +kernel
theorem dX9_cellsRefused_15 : decode cX9_cellsRefused 15 = .ok (.invokestatic 207, 3) := by decide +kernel
theorem dX9_cellsRefused_18 : decode cX9_cellsRefused 18 = .ok (.ifCond .ne 6, 3) := by decide +kernel
theorem dX9_cellsRefused_21 : decode cX9_cellsRefused 21 = .ok (.bipush (-2), 2) := by decide +kernel
theorem dX9_cellsRefused_23 : decode cX9_cellsRefused 23 = .ok (.ireturn, 1) := by decide +kernel
theorem dX9_cellsRefused_24 : decode cX9_cellsRefused 24 = .ok (.aload_n 0, 1) := by decide +kernel
theorem dX9_cellsRefused_25 : decode cX9_cellsRefused 25 = .ok (.getfield 13, 3) := by decide +kernel
theorem dX9_cellsRefused_28 : decode cX9_cellsRefused 28 = .ok (.iload_n 1, 1) := by decide +kernel
theorem dX9_cellsRefused_29 : decode cX9_cellsRefused 29 = .ok (.aaload, 1) := by decide +kernel
theorem dX9_cellsRefused_30 : decode cX9_cellsRefused 30 = .ok (.invokevirtual 216, 3) := by decide +kernel
theorem dX9_cellsRefused_33 : decode cX9_cellsRefused 33 = .ok (.ifCond .eq 9, 3) := by decide +kernel
theorem dX9_cellsRefused_36 : decode cX9_cellsRefused 36 = .ok (.aload_n 0, 1) := by decide +kernel
theorem dX9_cellsRefused_37 : decode cX9_cellsRefused 37 = .ok (.iconst 1, 1) := by decide +kernel
theorem dX9_cellsRefused_38 : decode cX9_cellsRefused 38 = .ok (.invokevirtual 210, 3) := by decide +kernel
theorem dX9_cellsRefused_41 : decode cX9_cellsRefused 41 = .ok (.ireturn, 1) := by decide +kernel
theorem dX9_cellsRefused_42 : decode cX9_cellsRefused 42 = .ok (.aload_n 0, 1) := by decide +kernel
theorem dX9_cellsRefused_43 : decode cX9_cellsRefused 43 = .ok (.getfield 13, 3) := by decide +kernel
theorem dX9_cellsRefused_46 : decode cX9_cellsRefused 46 = .ok (.iload_n 1, 1) := by decide +kernel
theorem dX9_cellsRefused_47 : decode cX9_cellsRefused 47 = .ok (.aaload, 1) := by decide +kernel
theorem dX9_cellsRefused_48 : decode cX9_cellsRefused 48 = .ok (.getfield 232, 3) := by decide +kernel
theorem dX9_cellsRefused_51 : decode cX9_cellsRefused 51 = .ok (.iload_n 2, 1) := by decide +kernel
theorem dX9_cellsRefused_52 : decode cX9_cellsRefused 52 = .ok (.if_icmp .eq 9, 3) := by decide +kernel
theorem dX9_cellsRefused_55 : decode cX9_cellsRefused 55 = .ok (.aload_n 0, 1) := by decide +kernel
theorem dX9_cellsRefused_56 : decode cX9_cellsRefused 56 = .ok (.iconst 2, 1) := by decide +kernel
theorem dX9_cellsRefused_57 : decode cX9_cellsRefused 57 = .ok (.invokevirtual 210, 3) := by decide +kernel
theorem dX9_cellsRefused_60 : decode cX9_cellsRefused 60 = .ok (.ireturn, 1) := by decide +kernel
theorem dX9_cellsRefused_61 : decode cX9_cellsRefused 61 = .ok (.iload 4, 2) := by decide +kernel
theorem dX9_cellsRefused_63 : decode cX9_cellsRefused 63 = .ok (.ifCond .ge 9, 3) := by decide +kernel
theorem dX9_cellsRefused_66 : decode cX9_cellsRefused 66 = .ok (.aload_n 0, 1) := by decide +kernel
theorem dX9_cellsRefused_67 : decode cX9_cellsRefused 67 = .ok (.iconst 4, 1) := by decide +kernel
theorem dX9_cellsRefused_68 : decode cX9_cellsRefused 68 = .ok (.invokevirtual 210, 3) := by decide +kernel
theorem dX9_cellsRefused_71 : decode cX9_cellsRefused 71 = .ok (.ireturn, 1) := by decide +kernel
theorem dX9_cellsRefused_72 : decode cX9_cellsRefused 72 = .ok (.aload_n 0, 1) := by decide +kernel
theorem dX9_cellsRefused_73 : decode cX9_cellsRefused 73 = .ok (.getfield 13, 3) := by decide +kernel
theorem dX9_cellsRefused_76 : decode cX9_cellsRefused 76 = .ok (.iload_n 1, 1) := by decide +kernel
theorem dX9_cellsRefused_77 : decode cX9_cellsRefused 77 = .ok (.aaload, 1) := by decide +kernel
theorem dX9_cellsRefused_78 : decode cX9_cellsRefused 78 = .ok (.iload_n 3, 1) := by decide +kernel
theorem dX9_cellsRefused_79 : decode cX9_cellsRefused 79 = .ok (.iload 4, 2) := by decide +kernel
theorem dX9_cellsRefused_81 : decode cX9_cellsRefused 81 = .ok (.invokevirtual 223, 3) := by decide +kernel
theorem dX9_cellsRefused_84 : decode cX9_cellsRefused 84 = .ok (.ifCond .eq 7, 3) := by decide +kernel
theorem dX9_cellsRefused_87 : decode cX9_cellsRefused 87 = .ok (.iconst 0, 1) := by decide +kernel
theorem dX9_cellsRefused_88 : decode cX9_cellsRefused 88 = .ok (.goto 8, 3) := by decide +kernel
theorem dX9_cellsRefused_91 : decode cX9_cellsRefused 91 = .ok (.aload_n 0, 1) := by decide +kernel
theorem dX9_cellsRefused_92 : decode cX9_cellsRefused 92 = .ok (.iconst 3, 1) := by decide +kernel
theorem dX9_cellsRefused_93 : decode cX9_cellsRefused 93 = .ok (.invokevirtual 210, 3) := by decide +kernel
theorem dX9_cellsRefused_96 : decode cX9_cellsRefused 96 = .ok (.ireturn, 1) := by decide +kernel
theorem dX9_doorsRefused_0 : decode cX9_doorsRefused 0 = .ok (.aload_n 0, 1) := by decide +kernel
theorem dX9_doorsRefused_1 : decode cX9_doorsRefused 1 = .ok (.iload_n 1, 1) := by decide +kernel
theorem dX9_doorsRefused_2 : decode cX9_doorsRefused 2 = .ok (.iload_n 2, 1) := by decide +kernel
theorem dX9_doorsRefused_3 : decode cX9_doorsRefused 3 = .ok (.iload_n 3, 1) := by decide +kernel
theorem dX9_doorsRefused_4 : decode cX9_doorsRefused 4 = .ok (.iload 4, 2) := by decide +kernel
theorem dX9_doorsRefused_6 : decode cX9_doorsRefused 6 = .ok (.invokevirtual 46, 3) := by decide +kernel
theorem dX9_doorsRefused_9 : decode cX9_doorsRefused 9 = .ok (.istore 5, 2) := by decide +kernel
theorem dX9_doorsRefused_11 : decode cX9_doorsRefused 11 = .ok (.iload 5, 2) := by decide +kernel
theorem dX9_doorsRefused_13 : decode cX9_doorsRefused 13 = .ok (.ifCond .eq 6, 3) := by decide +kernel
theorem dX9_doorsRefused_16 : decode cX9_doorsRefused 16 = .ok (.iload 5, 2) := by decide +kernel
theorem dX9_doorsRefused_18 : decode cX9_doorsRefused 18 = .ok (.ireturn, 1) := by decide +kernel
theorem dX9_doorsRefused_19 : decode cX9_doorsRefused 19 = .ok (.iload_n 3, 1) := by decide +kernel
theorem dX9_doorsRefused_20 : decode cX9_doorsRefused 20 = .ok (.istore 6, 2) := by decide +kernel
theorem dX9_doorsRefused_22 : decode cX9_doorsRefused 22 = .ok (.iload 6, 2) := by decide +kernel
theorem dX9_doorsRefused_24 : decode cX9_doorsRefused 24 = .ok (.iload_n 3, 1) := by decide +kernel
theorem dX9_doorsRefused_25 : decode cX9_doorsRefused 25 = .ok (.iload 4, 2) := by decide +kernel
theorem dX9_doorsRefused_27 : decode cX9_doorsRefused 27 = .ok (.iadd, 1) := by decide +kernel
theorem dX9_doorsRefused_28 : decode cX9_doorsRefused 28 = .ok (.if_icmp .ge 33, 3) := by decide +kernel
theorem dX9_doorsRefused_31 : decode cX9_doorsRefused 31 = .ok (.aload_n 0, 1) := by decide +kernel
theorem dX9_doorsRefused_32 : decode cX9_doorsRefused 32 = .ok (.getfield 20, 3) := by decide +kernel
theorem dX9_doorsRefused_35 : decode cX9_doorsRefused 35 = .ok (.aload_n 0, 1) := by decide +kernel
theorem dX9_doorsRefused_36 : decode cX9_doorsRefused 36 = .ok (.getfield 13, 3) := by decide +kernel
theorem dX9_doorsRefused_39 : decode cX9_doorsRefused 39 = .ok (.iload_n 1, 1) := by decide +kernel
theorem dX9_doorsRefused_40 : decode cX9_doorsRefused 40 = .ok (.aaload, 1) := by decide +kernel
theorem dX9_doorsRefused_41 : decode cX9_doorsRefused 41 = .ok (.getfield 52, 3) := by decide +kernel
theorem dX9_doorsRefused_44 : decode cX9_doorsRefused 44 = .ok (.iload 6, 2) := by decide +kernel
theorem dX9_doorsRefused_46 : decode cX9_doorsRefused 46 = .ok (.iaload, 1) := by decide +kernel
theorem dX9_doorsRefused_47 : decode cX9_doorsRefused 47 = .ok (.invokevirtual 74, 3) := by decide +kernel
theorem dX9_doorsRefused_50 : decode cX9_doorsRefused 50 = .ok (.ifCond .ne 5, 3) := by decide +kernel
theorem dX9_doorsRefused_53 : decode cX9_doorsRefused 53 = .ok (.iconst (-1), 1) := by decide +kernel
theorem dX9_doorsRefused_54 : decode cX9_doorsRefused 54 = .ok (.ireturn, 1) := by decide +kernel
theorem dX9_doorsRefused_55 : decode cX9_doorsRefused 55 = .ok (.iinc 6 1, 3) := by decide +kernel
theorem dX9_doorsRefused_58 : decode cX9_doorsRefused 58 = .ok (.goto (-36), 3) := by decide +kernel
theorem dX9_doorsRefused_61 : decode cX9_doorsRefused 61 = .ok (.iconst 0, 1) := by decide +kernel
theorem dX9_doorsRefused_62 : decode cX9_doorsRefused 62 = .ok (.ireturn, 1) := by decide +kernel
theorem dX9_passesAll_0 : decode cX9_passesAll 0 = .ok (.iload 5, 2) := by decide +kernel
theorem dX9_passesAll_2 : decode cX9_passesAll 2 = .ok (.istore 6, 2) := by decide +kernel
theorem dX9_passesAll_4 : decode cX9_passesAll 4 = .ok (.iload_n 2, 1) := by decide +kernel
theorem dX9_passesAll_5 : decode cX9_passesAll 5 = .ok (.istore 7, 2) := by decide +kernel
theorem dX9_passesAll_7 : decode cX9_passesAll 7 = .ok (.iload 7, 2) := by decide +kernel
theorem dX9_passesAll_9 : decode cX9_passesAll 9 = .ok (.iload_n 2, 1) := by decide +kernel
theorem dX9_passesAll_10 : decode cX9_passesAll 10 = .ok (.iload_n 3, 1) := by decide +kernel
theorem dX9_passesAll_11 : decode cX9_passesAll 11 = .ok (.iadd, 1) := by decide +kernel
theorem dX9_passesAll_12 : decode cX9_passesAll 12 = .ok (.if_icmp .ge 36, 3) := by decide +kernel
theorem dX9_passesAll_15 : decode cX9_passesAll 15 = .ok (.iload 6, 2) := by decide +kernel
theorem dX9_passesAll_17 : decode cX9_passesAll 17 = .ok (.iconst (-1), 1) := by decide +kernel
theorem dX9_passesAll_18 : decode cX9_passesAll 18 = .ok (.if_icmp .eq 30, 3) := by decide +kernel
theorem dX9_passesAll_21 : decode cX9_passesAll 21 = .ok (.aload_n 0, 1) := by decide +kernel
theorem dX9_passesAll_22 : decode cX9_passesAll 22 = .ok (.getfield 20, 3) := by decide +kernel
theorem dX9_passesAll_25 : decode cX9_passesAll 25 = .ok (.getfield 78, 3) := by decide +kernel
theorem dX9_passesAll_28 : decode cX9_passesAll 28 = .ok (.aload_n 1, 1) := by decide +kernel
theorem dX9_passesAll_29 : decode cX9_passesAll 29 = .ok (.iload 7, 2) := by decide +kernel
theorem dX9_passesAll_31 : decode cX9_passesAll 31 = .ok (.iaload, 1) := by decide +kernel
theorem dX9_passesAll_32 : decode cX9_passesAll 32 = .ok (.aaload, 1) := by decide +kernel
theorem dX9_passesAll_33 : decode cX9_passesAll 33 = .ok (.iload 6, 2) := by decide +kernel
theorem dX9_passesAll_35 : decode cX9_passesAll 35 = .ok (.iload 4, 2) := by decide +kernel
theorem dX9_passesAll_37 : decode cX9_passesAll 37 = .ok (.invokevirtual 149, 3) := by decide +kernel
theorem dX9_passesAll_40 : decode cX9_passesAll 40 = .ok (.istore 6, 2) := by decide +kernel
theorem dX9_passesAll_42 : decode cX9_passesAll 42 = .ok (.iinc 7 1, 3) := by decide +kernel
theorem dX9_passesAll_45 : decode cX9_passesAll 45 = .ok (.goto (-38), 3) := by decide +kernel
theorem dX9_passesAll_48 : decode cX9_passesAll 48 = .ok (.iload 6, 2) := by decide +kernel
theorem dX9_passesAll_50 : decode cX9_passesAll 50 = .ok (.iconst (-1), 1) := by decide +kernel
theorem dX9_passesAll_51 : decode cX9_passesAll 51 = .ok (.if_icmp .eq 7, 3) := by decide +kernel
theorem dX9_passesAll_54 : decode cX9_passesAll 54 = .ok (.iconst 1, 1) := by decide +kernel
theorem dX9_passesAll_55 : decode cX9_passesAll 55 = .ok (.goto 4, 3) := by decide +kernel
theorem dX9_passesAll_58 : decode cX9_passesAll 58 = .ok (.iconst 0, 1) := by decide +kernel
theorem dX9_passesAll_59 : decode cX9_passesAll 59 = .ok (.ireturn, 1) := by decide +kernel
theorem dX9_comesChanged_0 : decode cX9_comesChanged 0 = .ok (.aload_n 0, 1) := by decide +kernel
theorem dX9_comesChanged_1 : decode cX9_comesChanged 1 = .ok (.getfield 27, 3) := by decide +kernel
theorem dX9_comesChanged_4 : decode cX9_comesChanged 4 = .ok (.getfield 110, 3) := by decide +kernel
theorem dX9_comesChanged_7 : decode cX9_comesChanged 7 = .ok (.iload_n 1, 1) := by decide +kernel
theorem dX9_comesChanged_8 : decode cX9_comesChanged 8 = .ok (.iaload, 1) := by decide +kernel
theorem dX9_comesChanged_9 : decode cX9_comesChanged 9 = .ok (.iload_n 3, 1) := by decide +kernel
theorem dX9_comesChanged_10 : decode cX9_comesChanged 10 = .ok (.iadd, 1) := by decide +kernel
theorem dX9_comesChanged_11 : decode cX9_comesChanged 11 = .ok (.istore 4, 2) := by decide +kernel
theorem dX9_comesChanged_13 : decode cX9_comesChanged 13 = .ok (.iload 4, 2) := by decide +kernel
theorem dX9_comesChanged_15 : decode cX9_comesChanged 15 = .ok (.iconst 1, 1) := by decide +kernel
theorem dX9_comesChanged_16 : decode cX9_comesChanged 16 = .ok (.if_icmp .lt 29, 3) := by decide +kernel
theorem dX9_comesChanged_19 : decode cX9_comesChanged 19 = .ok (.aload_n 0, 1) := by decide +kernel
theorem dX9_comesChanged_20 : decode cX9_comesChanged 20 = .ok (.getfield 20, 3) := by decide +kernel
theorem dX9_comesChanged_23 : decode cX9_comesChanged 23 = .ok (.iload 4, 2) := by decide +kernel
theorem dX9_comesChanged_25 : decode cX9_comesChanged 25 = .ok (.aload_n 0, 1) := by decide +kernel
theorem dX9_comesChanged_26 : decode cX9_comesChanged 26 = .ok (.getfield 27, 3) := by decide +kernel
theorem dX9_comesChanged_29 : decode cX9_comesChanged 29 = .ok (.getfield 113, 3) := by decide +kernel
theorem dX9_comesChanged_32 : decode cX9_comesChanged 32 = .ok (.iload_n 1, 1) := by decide +kernel
theorem dX9_comesChanged_33 : decode cX9_comesChanged 33 = .ok (.iaload, 1) := by decide +kernel
theorem dX9_comesChanged_34 : decode cX9_comesChanged 34 = .ok (.iload_n 2, 1) := by decide +kernel
theorem dX9_comesChanged_35 : decode cX9_comesChanged 35 = .ok (.invokevirtual 179, 3) := by decide +kernel
theorem dX9_comesChanged_38 : decode cX9_comesChanged 38 = .ok (.ifCond .eq 7, 3) := by decide +kernel
theorem dX9_comesChanged_41 : decode cX9_comesChanged 41 = .ok (.iconst 1, 1) := by decide +kernel
theorem dX9_comesChanged_42 : decode cX9_comesChanged 42 = .ok (.goto 4, 3) := by decide +kernel
theorem dX9_comesChanged_45 : decode cX9_comesChanged 45 = .ok (.iconst 0, 1) := by decide +kernel
theorem dX9_comesChanged_46 : decode cX9_comesChanged 46 = .ok (.ireturn, 1) := by decide +kernel
theorem dX9_comesWith_0 : decode cX9_comesWith 0 = .ok (.aload_n 0, 1) := by decide +kernel
theorem dX9_comesWith_1 : decode cX9_comesWith 1 = .ok (.getfield 34, 3) := by decide +kernel
theorem dX9_comesWith_4 : decode cX9_comesWith 4 = .ok (.aload_n 0, 1) := by decide +kernel
theorem dX9_comesWith_5 : decode cX9_comesWith 5 = .ok (.getfield 27, 3) := by decide +kernel
theorem dX9_comesWith_8 : decode cX9_comesWith 8 = .ok (.getfield 110, 3) := by decide +kernel
theorem dX9_comesWith_11 : decode cX9_comesWith 11 = .ok (.iload_n 1, 1) := by decide +kernel
theorem dX9_comesWith_12 : decode cX9_comesWith 12 = .ok (.iaload, 1) := by decide +kernel
theorem dX9_comesWith_13 : decode cX9_comesWith 13 = .ok (.aload_n 0, 1) := by decide +kernel
theorem dX9_comesWith_14 : decode cX9_comesWith 14 = .ok (.getfield 27, 3) := by decide +kernel
theorem dX9_comesWith_17 : decode cX9_comesWith 17 = .ok (.getfield 113, 3) := by decide +kernel
theorem dX9_comesWith_20 : decode cX9_comesWith 20 = .ok (.iload_n 1, 1) := by decide +kernel
theorem dX9_comesWith_21 : decode cX9_comesWith 21 = .ok (.iaload, 1) := by decide +kernel
theorem dX9_comesWith_22 : decode cX9_comesWith 22 = .ok (.invokevirtual 159, 3) := by decide +kernel
theorem dX9_comesWith_25 : decode cX9_comesWith 25 = .ok (.iload_n 3, 1) := by decide +kernel
theorem dX9_comesWith_26 : decode cX9_comesWith 26 = .ok (.ifCond .le 21, 3) := by decide +kernel
theorem dX9_comesWith_29 : decode cX9_comesWith 29 = .ok (.aload_n 0, 1) := by decide +kernel
theorem dX9_comesWith_30 : decode cX9_comesWith 30 = .ok (.getfield 34, 3) := by decide +kernel
theorem dX9_comesWith_33 : decode cX9_comesWith 33 = .ok (.iconst 0, 1) := by decide +kernel
theorem dX9_comesWith_34 : decode cX9_comesWith 34 = .ok (.iload_n 3, 1) := by decide +kernel
theorem dX9_comesWith_35 : decode cX9_comesWith 35 = .ok (.aload_n 0, 1) := by decide +kernel
theorem dX9_comesWith_36 : decode cX9_comesWith 36 = .ok (.getfield 27, 3) := by decide +kernel
theorem dX9_comesWith_39 : decode cX9_comesWith 39 = .ok (.getfield 113, 3) := by decide +kernel
theorem dX9_comesWith_42 : decode cX9_comesWith 42 = .ok (.iload_n 1, 1) := by decide +kernel
theorem dX9_comesWith_43 : decode cX9_comesWith 43 = .ok (.iaload, 1) := by decide +kernel
theorem dX9_comesWith_44 : decode cX9_comesWith 44 = .ok (.invokevirtual 162, 3) := by decide +kernel
theorem dX9_comesWith_47 : decode cX9_comesWith 47 = .ok (.iload 4, 2) := by decide +kernel
theorem dX9_comesWith_49 : decode cX9_comesWith 49 = .ok (.ifCond .le 22, 3) := by decide +kernel
theorem dX9_comesWith_52 : decode cX9_comesWith 52 = .ok (.aload_n 0, 1) := by decide +kernel
theorem dX9_comesWith_53 : decode cX9_comesWith 53 = .ok (.getfield 34, 3) := by decide +kernel
theorem dX9_comesWith_56 : decode cX9_comesWith 56 = .ok (.iconst 1, 1) := by decide +kernel
theorem dX9_comesWith_57 : decode cX9_comesWith 57 = .ok (.iload 4, 2) := by decide +kernel
theorem dX9_comesWith_59 : decode cX9_comesWith 59 = .ok (.aload_n 0, 1) := by decide +kernel
theorem dX9_comesWith_60 : decode cX9_comesWith 60 = .ok (.getfield 27, 3) := by decide +kernel
theorem dX9_comesWith_63 : decode cX9_comesWith 63 = .ok (.getfield 113, 3) := by decide +kernel
theorem dX9_comesWith_66 : decode cX9_comesWith 66 = .ok (.iload_n 1, 1) := by decide +kernel
theorem dX9_comesWith_67 : decode cX9_comesWith 67 = .ok (.iaload, 1) := by decide +kernel
theorem dX9_comesWith_68 : decode cX9_comesWith 68 = .ok (.invokevirtual 162, 3) := by decide +kernel
theorem dX9_comesWith_71 : decode cX9_comesWith 71 = .ok (.aload_n 0, 1) := by decide +kernel
theorem dX9_comesWith_72 : decode cX9_comesWith 72 = .ok (.getfield 34, 3) := by decide +kernel
theorem dX9_comesWith_75 : decode cX9_comesWith 75 = .ok (.aload_n 0, 1) := by decide +kernel
theorem dX9_comesWith_76 : decode cX9_comesWith 76 = .ok (.getfield 20, 3) := by decide +kernel
theorem dX9_comesWith_79 : decode cX9_comesWith 79 = .ok (.iload_n 2, 1) := by decide +kernel
theorem dX9_comesWith_80 : decode cX9_comesWith 80 = .ok (.invokevirtual 166, 3) := by decide +kernel
theorem dX9_comesWith_83 : decode cX9_comesWith 83 = .ok (.ireturn, 1) := by decide +kernel
theorem dX9_ofLaidRow_0 : decode cX9_ofLaidRow 0 = .ok (.iload_n 0, 1) := by decide +kernel
theorem dX9_ofLaidRow_1 : decode cX9_ofLaidRow 1 = .ok (.ifCond .le 7, 3) := by decide +kernel
theorem dX9_ofLaidRow_4 : decode cX9_ofLaidRow 4 = .ok (.iconst 1, 1) := by decide +kernel
theorem dX9_ofLaidRow_5 : decode cX9_ofLaidRow 5 = .ok (.goto 4, 3) := by decide +kernel
theorem dX9_ofLaidRow_8 : decode cX9_ofLaidRow 8 = .ok (.iconst 0, 1) := by decide +kernel
theorem dX9_ofLaidRow_9 : decode cX9_ofLaidRow 9 = .ok (.iload_n 1, 1) := by decide +kernel
theorem dX9_ofLaidRow_10 : decode cX9_ofLaidRow 10 = .ok (.ifCond .le 7, 3) := by decide +kernel
theorem dX9_ofLaidRow_13 : decode cX9_ofLaidRow 13 = .ok (.iconst 1, 1) := by decide +kernel
theorem dX9_ofLaidRow_14 : decode cX9_ofLaidRow 14 = .ok (.goto 4, 3) := by decide +kernel
theorem dX9_ofLaidRow_17 : decode cX9_ofLaidRow 17 = .ok (.iconst 0, 1) := by decide +kernel
theorem dX9_ofLaidRow_18 : decode cX9_ofLaidRow 18 = .ok (.iadd, 1) := by decide +kernel
theorem dX9_ofLaidRow_19 : decode cX9_ofLaidRow 19 = .ok (.istore_n 3, 1) := by decide +kernel
theorem dX9_ofLaidRow_20 : decode cX9_ofLaidRow 20 = .ok (.iload_n 2, 1) := by decide +kernel
theorem dX9_ofLaidRow_21 : decode cX9_ofLaidRow 21 = .ok (.iconst (-1), 1) := by decide +kernel
theorem dX9_ofLaidRow_22 : decode cX9_ofLaidRow 22 = .ok (.if_icmp .ne 5, 3) := by decide +kernel
theorem dX9_ofLaidRow_25 : decode cX9_ofLaidRow 25 = .ok (.iload_n 3, 1) := by decide +kernel
theorem dX9_ofLaidRow_26 : decode cX9_ofLaidRow 26 = .ok (.ireturn, 1) := by decide +kernel
theorem dX9_ofLaidRow_27 : decode cX9_ofLaidRow 27 = .ok (.iload_n 2, 1) := by decide +kernel
theorem dX9_ofLaidRow_28 : decode cX9_ofLaidRow 28 = .ok (.iload_n 3, 1) := by decide +kernel
theorem dX9_ofLaidRow_29 : decode cX9_ofLaidRow 29 = .ok (.if_icmp .lt 6, 3) := by decide +kernel
theorem dX9_ofLaidRow_32 : decode cX9_ofLaidRow 32 = .ok (.bipush (-9), 2) := by decide +kernel
theorem dX9_ofLaidRow_34 : decode cX9_ofLaidRow 34 = .ok (.ireturn, 1) := by decide +kernel
theorem dX9_ofLaidRow_35 : decode cX9_ofLaidRow 35 = .ok (.iload_n 2, 1) := by decide +kernel
theorem dX9_ofLaidRow_36 : decode cX9_ofLaidRow 36 = .ok (.ifCond .ne 12, 3) := by decide +kernel
theorem dX9_ofLaidRow_39 : decode cX9_ofLaidRow 39 = .ok (.iload_n 3, 1) := by decide +kernel
theorem dX9_ofLaidRow_40 : decode cX9_ofLaidRow 40 = .ok (.iconst 2, 1) := by decide +kernel
theorem dX9_ofLaidRow_41 : decode cX9_ofLaidRow 41 = .ok (.if_icmp .ne 7, 3) := by decide +kernel
theorem dX9_ofLaidRow_44 : decode cX9_ofLaidRow 44 = .ok (.iload_n 0, 1) := by decide +kernel
theorem dX9_ofLaidRow_45 : decode cX9_ofLaidRow 45 = .ok (.goto 4, 3) := by decide +kernel
theorem dX9_ofLaidRow_48 : decode cX9_ofLaidRow 48 = .ok (.iload_n 1, 1) := by decide +kernel
theorem dX9_ofLaidRow_49 : decode cX9_ofLaidRow 49 = .ok (.ireturn, 1) := by decide +kernel
theorem dJ6_bitCount_0f7a4_0 : decode cJ6_bitCount_0f7a4 0 = .ok (.iload_n 0, 1) := by decide +kernel
theorem dJ6_bitCount_0f7a4_1 : decode cJ6_bitCount_0f7a4 1 = .ok (.iload_n 0, 1) := by decide +kernel
theorem dJ6_bitCount_0f7a4_2 : decode cJ6_bitCount_0f7a4 2 = .ok (.iconst 1, 1) := by decide +kernel
theorem dJ6_bitCount_0f7a4_3 : decode cJ6_bitCount_0f7a4 3 = .ok (.iushr, 1) := by decide +kernel
theorem dJ6_bitCount_0f7a4_4 : decode cJ6_bitCount_0f7a4 4 = .ok (.ldc_w 265, 3) := by decide +kernel
theorem dJ6_bitCount_0f7a4_7 : decode cJ6_bitCount_0f7a4 7 = .ok (.iand, 1) := by decide +kernel
theorem dJ6_bitCount_0f7a4_8 : decode cJ6_bitCount_0f7a4 8 = .ok (.isub, 1) := by decide +kernel
theorem dJ6_bitCount_0f7a4_9 : decode cJ6_bitCount_0f7a4 9 = .ok (.istore_n 0, 1) := by decide +kernel
theorem dJ6_bitCount_0f7a4_10 : decode cJ6_bitCount_0f7a4 10 = .ok (.iload_n 0, 1) := by decide +kernel
theorem dJ6_bitCount_0f7a4_11 : decode cJ6_bitCount_0f7a4 11 = .ok (.ldc_w 266, 3) := by decide +kernel
theorem dJ6_bitCount_0f7a4_14 : decode cJ6_bitCount_0f7a4 14 = .ok (.iand, 1) := by decide +kernel
theorem dJ6_bitCount_0f7a4_15 : decode cJ6_bitCount_0f7a4 15 = .ok (.iload_n 0, 1) := by decide +kernel
theorem dJ6_bitCount_0f7a4_16 : decode cJ6_bitCount_0f7a4 16 = .ok (.iconst 2, 1) := by decide +kernel
theorem dJ6_bitCount_0f7a4_17 : decode cJ6_bitCount_0f7a4 17 = .ok (.iushr, 1) := by decide +kernel
theorem dJ6_bitCount_0f7a4_18 : decode cJ6_bitCount_0f7a4 18 = .ok (.ldc_w 266, 3) := by decide +kernel
theorem dJ6_bitCount_0f7a4_21 : decode cJ6_bitCount_0f7a4 21 = .ok (.iand, 1) := by decide +kernel
theorem dJ6_bitCount_0f7a4_22 : decode cJ6_bitCount_0f7a4 22 = .ok (.iadd, 1) := by decide +kernel
theorem dJ6_bitCount_0f7a4_23 : decode cJ6_bitCount_0f7a4 23 = .ok (.istore_n 0, 1) := by decide +kernel
theorem dJ6_bitCount_0f7a4_24 : decode cJ6_bitCount_0f7a4 24 = .ok (.iload_n 0, 1) := by decide +kernel
theorem dJ6_bitCount_0f7a4_25 : decode cJ6_bitCount_0f7a4 25 = .ok (.iload_n 0, 1) := by decide +kernel
theorem dJ6_bitCount_0f7a4_26 : decode cJ6_bitCount_0f7a4 26 = .ok (.iconst 4, 1) := by decide +kernel
theorem dJ6_bitCount_0f7a4_27 : decode cJ6_bitCount_0f7a4 27 = .ok (.iushr, 1) := by decide +kernel
theorem dJ6_bitCount_0f7a4_28 : decode cJ6_bitCount_0f7a4 28 = .ok (.iadd, 1) := by decide +kernel
theorem dJ6_bitCount_0f7a4_29 : decode cJ6_bitCount_0f7a4 29 = .ok (.ldc_w 267, 3) := by decide +kernel
theorem dJ6_bitCount_0f7a4_32 : decode cJ6_bitCount_0f7a4 32 = .ok (.iand, 1) := by decide +kernel
theorem dJ6_bitCount_0f7a4_33 : decode cJ6_bitCount_0f7a4 33 = .ok (.istore_n 0, 1) := by decide +kernel
theorem dJ6_bitCount_0f7a4_34 : decode cJ6_bitCount_0f7a4 34 = .ok (.iload_n 0, 1) := by decide +kernel
theorem dJ6_bitCount_0f7a4_35 : decode cJ6_bitCount_0f7a4 35 = .ok (.iload_n 0, 1) := by decide +kernel
theorem dJ6_bitCount_0f7a4_36 : decode cJ6_bitCount_0f7a4 36 = .ok (.bipush 8, 2) := by decide +kernel
theorem dJ6_bitCount_0f7a4_38 : decode cJ6_bitCount_0f7a4 38 = .ok (.iushr, 1) := by decide +kernel
theorem dJ6_bitCount_0f7a4_39 : decode cJ6_bitCount_0f7a4 39 = .ok (.iadd, 1) := by decide +kernel
theorem dJ6_bitCount_0f7a4_40 : decode cJ6_bitCount_0f7a4 40 = .ok (.istore_n 0, 1) := by decide +kernel
theorem dJ6_bitCount_0f7a4_41 : decode cJ6_bitCount_0f7a4 41 = .ok (.iload_n 0, 1) := by decide +kernel
theorem dJ6_bitCount_0f7a4_42 : decode cJ6_bitCount_0f7a4 42 = .ok (.iload_n 0, 1) := by decide +kernel
theorem dJ6_bitCount_0f7a4_43 : decode cJ6_bitCount_0f7a4 43 = .ok (.bipush 16, 2) := by decide +kernel
theorem dJ6_bitCount_0f7a4_45 : decode cJ6_bitCount_0f7a4 45 = .ok (.iushr, 1) := by decide +kernel
theorem dJ6_bitCount_0f7a4_46 : decode cJ6_bitCount_0f7a4 46 = .ok (.iadd, 1) := by decide +kernel
theorem dJ6_bitCount_0f7a4_47 : decode cJ6_bitCount_0f7a4 47 = .ok (.istore_n 0, 1) := by decide +kernel
theorem dJ6_bitCount_0f7a4_48 : decode cJ6_bitCount_0f7a4 48 = .ok (.iload_n 0, 1) := by decide +kernel
theorem dJ6_bitCount_0f7a4_49 : decode cJ6_bitCount_0f7a4 49 = .ok (.bipush 63, 2) := by decide +kernel
theorem dJ6_bitCount_0f7a4_51 : decode cJ6_bitCount_0f7a4 51 = .ok (.iand, 1) := by decide +kernel
theorem dJ6_bitCount_0f7a4_52 : decode cJ6_bitCount_0f7a4 52 = .ok (.ireturn, 1) := by decide +kernel
theorem dJ9_max_7cf53_0 : decode cJ9_max_7cf53 0 = .ok (.iload_n 0, 1) := by decide +kernel
theorem dJ9_max_7cf53_1 : decode cJ9_max_7cf53 1 = .ok (.iload_n 1, 1) := by decide +kernel
theorem dJ9_max_7cf53_2 : decode cJ9_max_7cf53 2 = .ok (.if_icmp .lt 7, 3) := by decide +kernel
theorem dJ9_max_7cf53_5 : decode cJ9_max_7cf53 5 = .ok (.iload_n 0, 1) := by decide +kernel
theorem dJ9_max_7cf53_6 : decode cJ9_max_7cf53 6 = .ok (.goto 4, 3) := by decide +kernel
theorem dJ9_max_7cf53_9 : decode cJ9_max_7cf53 9 = .ok (.iload_n 1, 1) := by decide +kernel
theorem dJ9_max_7cf53_10 : decode cJ9_max_7cf53 10 = .ok (.ireturn, 1) := by decide +kernel
theorem dJ9_min_7cf53_0 : decode cJ9_min_7cf53 0 = .ok (.iload_n 0, 1) := by decide +kernel
theorem dJ9_min_7cf53_1 : decode cJ9_min_7cf53 1 = .ok (.iload_n 1, 1) := by decide +kernel
theorem dJ9_min_7cf53_2 : decode cJ9_min_7cf53 2 = .ok (.if_icmp .gt 7, 3) := by decide +kernel
theorem dJ9_min_7cf53_5 : decode cJ9_min_7cf53 5 = .ok (.iload_n 0, 1) := by decide +kernel
theorem dJ9_min_7cf53_6 : decode cJ9_min_7cf53 6 = .ok (.goto 4, 3) := by decide +kernel
theorem dJ9_min_7cf53_9 : decode cJ9_min_7cf53 9 = .ok (.iload_n 1, 1) := by decide +kernel
theorem dJ9_min_7cf53_10 : decode cJ9_min_7cf53 10 = .ok (.ireturn, 1) := by decide +kernel
