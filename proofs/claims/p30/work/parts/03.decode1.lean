theorem dX9_idle_50 : decode cX9_idle 50 = .ok (.iconst (-1), 1) := by decide +kernel
theorem dX9_idle_51 : decode cX9_idle 51 = .ok (.if_icmp .eq 15, 3) := by decide +kernel
theorem dX9_idle_54 : decode cX9_idle 54 = .ok (.iload_n 3, 1) := by decide +kernel
theorem dX9_idle_55 : decode cX9_idle 55 = .ok (.bipush 99, 2) := by decide +kernel
theorem dX9_idle_57 : decode cX9_idle 57 = .ok (.if_icmp .ge 9, 3) := by decide +kernel
theorem dX9_idle_60 : decode cX9_idle 60 = .ok (.iload_n 3, 1) := by decide +kernel
theorem dX9_idle_61 : decode cX9_idle 61 = .ok (.iconst 1, 1) := by decide +kernel
theorem dX9_idle_62 : decode cX9_idle 62 = .ok (.iadd, 1) := by decide +kernel
theorem dX9_idle_63 : decode cX9_idle 63 = .ok (.goto 4, 3) := by decide +kernel
theorem dX9_idle_66 : decode cX9_idle 66 = .ok (.iconst (-1), 1) := by decide +kernel
theorem dX9_idle_67 : decode cX9_idle 67 = .ok (.ireturn, 1) := by decide +kernel
theorem dX9_hotShare_0 : decode cX9_hotShare 0 = .ok (.aload_n 0, 1) := by decide +kernel
theorem dX9_hotShare_1 : decode cX9_hotShare 1 = .ok (.getfield 10, 3) := by decide +kernel
theorem dX9_hotShare_4 : decode cX9_hotShare 4 = .ok (.getfield 140, 3) := by decide +kernel
theorem dX9_hotShare_7 : decode cX9_hotShare 7 = .ok (.ifCond .ne 5, 3) := by decide +kernel
theorem dX9_hotShare_10 : decode cX9_hotShare 10 = .ok (.dconst 1, 1) := by decide +kernel
theorem dX9_hotShare_11 : decode cX9_hotShare 11 = .ok (.dreturn, 1) := by decide +kernel
theorem dX9_hotShare_12 : decode cX9_hotShare 12 = .ok (.aload_n 0, 1) := by decide +kernel
theorem dX9_hotShare_13 : decode cX9_hotShare 13 = .ok (.getfield 10, 3) := by decide +kernel
theorem dX9_hotShare_16 : decode cX9_hotShare 16 = .ok (.getfield 140, 3) := by decide +kernel
theorem dX9_hotShare_19 : decode cX9_hotShare 19 = .ok (.aload_n 0, 1) := by decide +kernel
theorem dX9_hotShare_20 : decode cX9_hotShare 20 = .ok (.getfield 10, 3) := by decide +kernel
theorem dX9_hotShare_23 : decode cX9_hotShare 23 = .ok (.getfield 277, 3) := by decide +kernel
theorem dX9_hotShare_26 : decode cX9_hotShare 26 = .ok (.isub, 1) := by decide +kernel
theorem dX9_hotShare_27 : decode cX9_hotShare 27 = .ok (.i2d, 1) := by decide +kernel
theorem dX9_hotShare_28 : decode cX9_hotShare 28 = .ok (.aload_n 0, 1) := by decide +kernel
theorem dX9_hotShare_29 : decode cX9_hotShare 29 = .ok (.getfield 10, 3) := by decide +kernel
theorem dX9_hotShare_32 : decode cX9_hotShare 32 = .ok (.getfield 140, 3) := by decide +kernel
theorem dX9_hotShare_35 : decode cX9_hotShare 35 = .ok (.i2d, 1) := by decide +kernel
theorem dX9_hotShare_36 : decode cX9_hotShare 36 = .ok (.ddiv, 1) := by decide +kernel
theorem dX9_hotShare_37 : decode cX9_hotShare 37 = .ok (.dreturn, 1) := by decide +kernel
theorem dX9_isTown_0 : decode cX9_isTown 0 = .ok (.iload_n 0, 1) := by decide +kernel
theorem dX9_isTown_1 : decode cX9_isTown 1 = .ok (.ifCond .lt 13, 3) := by decide +kernel
theorem dX9_isTown_4 : decode cX9_isTown 4 = .ok (.iload_n 0, 1) := by decide +kernel
theorem dX9_isTown_5 : decode cX9_isTown 5 = .ok (.bipush 8, 2) := by decide +kernel
theorem dX9_isTown_7 : decode cX9_isTown 7 = .ok (.if_icmp .ge 7, 3) := by decide +kernel
theorem dX9_isTown_10 : decode cX9_isTown 10 = .ok (.iconst 1, 1) := by decide +kernel
theorem dX9_isTown_11 : decode cX9_isTown 11 = .ok (.goto 4, 3) := by decide +kernel
theorem dX9_isTown_14 : decode cX9_isTown 14 = .ok (.iconst 0, 1) := by decide +kernel
theorem dX9_isTown_15 : decode cX9_isTown 15 = .ok (.ireturn, 1) := by decide +kernel
theorem dX9_isHouse_0 : decode cX9_isHouse 0 = .ok (.iload_n 0, 1) := by decide +kernel
theorem dX9_isHouse_1 : decode cX9_isHouse 1 = .ok (.ifCond .lt 12, 3) := by decide +kernel
theorem dX9_isHouse_4 : decode cX9_isHouse 4 = .ok (.iload_n 0, 1) := by decide +kernel
theorem dX9_isHouse_5 : decode cX9_isHouse 5 = .ok (.iconst 4, 1) := by decide +kernel
theorem dX9_isHouse_6 : decode cX9_isHouse 6 = .ok (.if_icmp .ge 7, 3) := by decide +kernel
theorem dX9_isHouse_9 : decode cX9_isHouse 9 = .ok (.iconst 1, 1) := by decide +kernel
theorem dX9_isHouse_10 : decode cX9_isHouse 10 = .ok (.goto 4, 3) := by decide +kernel
theorem dX9_isHouse_13 : decode cX9_isHouse 13 = .ok (.iconst 0, 1) := by decide +kernel
theorem dX9_isHouse_14 : decode cX9_isHouse 14 = .ok (.ireturn, 1) := by decide +kernel
theorem dX9_isNeighbour_0 : decode cX9_isNeighbour 0 = .ok (.iload_n 0, 1) := by decide +kernel
theorem dX9_isNeighbour_1 : decode cX9_isNeighbour 1 = .ok (.ifCond .lt 12, 3) := by decide +kernel
theorem dX9_isNeighbour_4 : decode cX9_isNeighbour 4 = .ok (.iload_n 0, 1) := by decide +kernel
theorem dX9_isNeighbour_5 : decode cX9_isNeighbour 5 = .ok (.iconst 4, 1) := by decide +kernel
theorem dX9_isNeighbour_6 : decode cX9_isNeighbour 6 = .ok (.if_icmp .ge 7, 3) := by decide +kernel
theorem dX9_isNeighbour_9 : decode cX9_isNeighbour 9 = .ok (.iconst 1, 1) := by decide +kernel
theorem dX9_isNeighbour_10 : decode cX9_isNeighbour 10 = .ok (.goto 4, 3) := by decide +kernel
theorem dX9_isNeighbour_13 : decode cX9_isNeighbour 13 = .ok (.iconst 0, 1) := by decide +kernel
theorem dX9_isNeighbour_14 : decode cX9_isNeighbour 14 = .ok (.ireturn, 1) := by decide +kernel
theorem dX9_needTown_0 : decode cX9_needTown 0 = .ok (.iload_n 0, 1) := by decide +kernel
theorem dX9_needTown_1 : decode cX9_needTown 1 = .ok (.invokestatic 351, 3) := by decide +kernel
theorem dX9_needTown_4 : decode cX9_needTown 4 = .ok (.ifCond .ne 14, 3) := by decide +kernel
theorem dX9_needTown_7 : decode cX9_needTown 7 = .ok (.new 132, 3) := by decide +kernel
theorem dX9_needTown_10 : decode cX9_needTown 10 = .ok (.dup, 1) := by decide +kernel
theorem dX9_needTown_11 : decode cX9_needTown 11 = .ok (.ldc_w 354, 3) := by decide +kernel
theorem dX9_needTown_14 : decode cX9_needTown 14 = .ok (.invokespecial 136, 3) := by decide +kernel
theorem dX9_needTown_17 : decode cX9_needTown 17 = .ok (.athrow, 1) := by decide +kernel
theorem dX9_needTown_18 : decode cX9_needTown 18 = .ok (.return_, 1) := by decide +kernel
theorem dX9_needTwoTowns_0 : decode cX9_needTwoTowns 0 = .ok (.iload_n 0, 1) := by decide +kernel
theorem dX9_needTwoTowns_1 : decode cX9_needTwoTowns 1 = .ok (.invokestatic 77, 3) := by decide +kernel
theorem dX9_needTwoTowns_4 : decode cX9_needTwoTowns 4 = .ok (.iload_n 1, 1) := by decide +kernel
theorem dX9_needTwoTowns_5 : decode cX9_needTwoTowns 5 = .ok (.invokestatic 77, 3) := by decide +kernel
theorem dX9_needTwoTowns_8 : decode cX9_needTwoTowns 8 = .ok (.iload_n 0, 1) := by decide +kernel
theorem dX9_needTwoTowns_9 : decode cX9_needTwoTowns 9 = .ok (.iload_n 1, 1) := by decide +kernel
theorem dX9_needTwoTowns_10 : decode cX9_needTwoTowns 10 = .ok (.if_icmp .ne 14, 3) := by decide +kernel
theorem dX9_needTwoTowns_13 : decode cX9_needTwoTowns 13 = .ok (.new 153, 3) := by decide +kernel
theorem dX9_needTwoTowns_16 : decode cX9_needTwoTowns 16 = .ok (.dup, 1) := by decide +kernel
theorem dX9_needTwoTowns_17 : decode cX9_needTwoTowns 17 = .ok (.ldc_w 356, 3) := by decide +kernel
theorem dX9_needTwoTowns_20 : decode cX9_needTwoTowns 20 = .ok (.invokespecial 157, 3) := by decide +kernel
theorem dX9_needTwoTowns_23 : decode cX9_needTwoTowns 23 = .ok (.athrow, 1) := by decide +kernel
theorem dX9_needTwoTowns_24 : decode cX9_needTwoTowns 24 = .ok (.return_, 1) := by decide +kernel
theorem dX9_needHouse_0 : decode cX9_needHouse 0 = .ok (.iload_n 0, 1) := by decide +kernel
theorem dX9_needHouse_1 : decode cX9_needHouse 1 = .ok (.invokestatic 358, 3) := by decide +kernel
theorem dX9_needHouse_4 : decode cX9_needHouse 4 = .ok (.ifCond .ne 14, 3) := by decide +kernel
theorem dX9_needHouse_7 : decode cX9_needHouse 7 = .ok (.new 132, 3) := by decide +kernel
theorem dX9_needHouse_10 : decode cX9_needHouse 10 = .ok (.dup, 1) := by decide +kernel
theorem dX9_needHouse_11 : decode cX9_needHouse 11 = .ok (.ldc_w 361, 3) := by decide +kernel
theorem dX9_needHouse_14 : decode cX9_needHouse 14 = .ok (.invokespecial 136, 3) := by decide +kernel
theorem dX9_needHouse_17 : decode cX9_needHouse 17 = .ok (.athrow, 1) := by decide +kernel
theorem dX9_needHouse_18 : decode cX9_needHouse 18 = .ok (.return_, 1) := by decide +kernel
theorem dX9_needNeighbour_0 : decode cX9_needNeighbour 0 = .ok (.iload_n 0, 1) := by decide +kernel
theorem dX9_needNeighbour_1 : decode cX9_needNeighbour 1 = .ok (.invokestatic 363, 3) := by decide +kernel
theorem dX9_needNeighbour_4 : decode cX9_needNeighbour 4 = .ok (.ifCond .ne 14, 3) := by decide +kernel
theorem dX9_needNeighbour_7 : decode cX9_needNeighbour 7 = .ok (.new 132, 3) := by decide +kernel
theorem dX9_needNeighbour_10 : decode cX9_needNeighbour 10 = .ok (.dup, 1) := by decide +kernel
theorem dX9_needNeighbour_11 : decode cX9_needNeighbour 11 = .ok (.ldc_w 366, 3) := by decide +kernel
theorem dX9_needNeighbour_14 : decode cX9_needNeighbour 14 = .ok (.invokespecial 136, 3) := by decide +kernel
theorem dX9_needNeighbour_17 : decode cX9_needNeighbour 17 = .ok (.athrow, 1) := by decide +kernel
theorem dX9_needNeighbour_18 : decode cX9_needNeighbour 18 = .ok (.return_, 1) := by decide +kernel
theorem dX9_needExit_0 : decode cX9_needExit 0 = .ok (.aload_n 0, 1) := by decide +kernel
theorem dX9_needExit_1 : decode cX9_needExit 1 = .ok (.getfield 10, 3) := by decide +kernel
theorem dX9_needExit_4 : decode cX9_needExit 4 = .ok (.getfield 83, 3) := by decide +kernel
theorem dX9_needExit_7 : decode cX9_needExit 7 = .ok (.iload_n 1, 1) := by decide +kernel
theorem dX9_needExit_8 : decode cX9_needExit 8 = .ok (.invokevirtual 368, 3) := by decide +kernel
theorem dX9_needExit_11 : decode cX9_needExit 11 = .ok (.ifCond .ne 14, 3) := by decide +kernel
theorem dX9_needExit_14 : decode cX9_needExit 14 = .ok (.new 132, 3) := by decide +kernel
theorem dX9_needExit_17 : decode cX9_needExit 17 = .ok (.dup, 1) := by decide +kernel
theorem dX9_needExit_18 : decode cX9_needExit 18 = .ok (.ldc_w 371, 3) := by decide +kernel
theorem dX9_needExit_21 : decode cX9_needExit 21 = .ok (.invokespecial 136, 3) := by decide +kernel
theorem dX9_needExit_24 : decode cX9_needExit 24 = .ok (.athrow, 1) := by decide +kernel
theorem dX9_needExit_25 : decode cX9_needExit 25 = .ok (.return_, 1) := by decide +kernel
theorem dX9_needCost_0 : decode cX9_needCost 0 = .ok (.iload_n 0, 1) := by decide +kernel
theorem dX9_needCost_1 : decode cX9_needCost 1 = .ok (.bipush 99, 2) := by decide +kernel
theorem dX9_needCost_3 : decode cX9_needCost 3 = .ok (.invokestatic 117, 3) := by decide +kernel
theorem dX9_needCost_6 : decode cX9_needCost 6 = .ok (.return_, 1) := by decide +kernel
theorem dX9_needSlot_0 : decode cX9_needSlot 0 = .ok (.iload_n 0, 1) := by decide +kernel
theorem dX9_needSlot_1 : decode cX9_needSlot 1 = .ok (.iconst 1, 1) := by decide +kernel
theorem dX9_needSlot_2 : decode cX9_needSlot 2 = .ok (.invokestatic 117, 3) := by decide +kernel
theorem dX9_needSlot_5 : decode cX9_needSlot 5 = .ok (.return_, 1) := by decide +kernel
theorem dX9_needFromZero_0 : decode cX9_needFromZero 0 = .ok (.iload_n 0, 1) := by decide +kernel
theorem dX9_needFromZero_1 : decode cX9_needFromZero 1 = .ok (.ifCond .lt 8, 3) := by decide +kernel
theorem dX9_needFromZero_4 : decode cX9_needFromZero 4 = .ok (.iload_n 0, 1) := by decide +kernel
theorem dX9_needFromZero_5 : decode cX9_needFromZero 5 = .ok (.iload_n 1, 1) := by decide +kernel
theorem dX9_needFromZero_6 : decode cX9_needFromZero 6 = .ok (.if_icmp .le 14, 3) := by decide +kernel
theorem dX9_needFromZero_9 : decode cX9_needFromZero 9 = .ok (.new 153, 3) := by decide +kernel
theorem dX9_needFromZero_12 : decode cX9_needFromZero 12 = .ok (.dup, 1) := by decide +kernel
theorem dX9_needFromZero_13 : decode cX9_needFromZero 13 = .ok (.ldc_w 373, 3) := by decide +kernel
theorem dX9_needFromZero_16 : decode cX9_needFromZero 16 = .ok (.invokespecial 157, 3) := by decide +kernel
theorem dX9_needFromZero_19 : decode cX9_needFromZero 19 = .ok (.athrow, 1) := by decide +kernel
theorem dX9_needFromZero_20 : decode cX9_needFromZero 20 = .ok (.return_, 1) := by decide +kernel
theorem dX9_sendLoaf_0 : decode cX9_sendLoaf 0 = .ok (.aload_n 0, 1) := by decide +kernel
theorem dX9_sendLoaf_1 : decode cX9_sendLoaf 1 = .ok (.getfield 22, 3) := by decide +kernel
theorem dX9_sendLoaf_4 : decode cX9_sendLoaf 4 = .ok (.aload_n 0, 1) := by decide +kernel
theorem dX9_sendLoaf_5 : decode cX9_sendLoaf 5 = .ok (.getfield 10, 3) := by decide +kernel
theorem dX9_sendLoaf_8 : decode cX9_sendLoaf 8 = .ok (.iload_n 1, 1) := by decide +kernel
theorem dX9_sendLoaf_9 : decode cX9_sendLoaf 9 = .ok (.iload_n 2, 1) := by decide +kernel
theorem dX9_sendLoaf_10 : decode cX9_sendLoaf 10 = .ok (.invokevirtual 242, 3) := by decide +kernel
theorem dX9_sendLoaf_13 : decode cX9_sendLoaf 13 = .ok (.aload_n 0, 1) := by decide +kernel
theorem dX9_sendLoaf_14 : decode cX9_sendLoaf 14 = .ok (.getfield 10, 3) := by decide +kernel
theorem dX9_sendLoaf_17 : decode cX9_sendLoaf 17 = .ok (.iload_n 1, 1) := by decide +kernel
theorem dX9_sendLoaf_18 : decode cX9_sendLoaf 18 = .ok (.iload_n 2, 1) := by decide +kernel
theorem dX9_sendLoaf_19 : decode cX9_sendLoaf 19 = .ok (.aload_n 0, 1) := by decide +kernel
theorem dX9_sendLoaf_20 : decode cX9_sendLoaf 20 = .ok (.getfield 22, 3) := by decide +kernel
theorem dX9_sendLoaf_23 : decode cX9_sendLoaf 23 = .ok (.getfield 246, 3) := by decide +kernel
theorem dX9_sendLoaf_26 : decode cX9_sendLoaf 26 = .ok (.aload_n 0, 1) := by decide +kernel
theorem dX9_sendLoaf_27 : decode cX9_sendLoaf 27 = .ok (.getfield 22, 3) := by decide +kernel
theorem dX9_sendLoaf_30 : decode cX9_sendLoaf 30 = .ok (.getfield 249, 3) := by decide +kernel
theorem dX9_sendLoaf_33 : decode cX9_sendLoaf 33 = .ok (.invokevirtual 375, 3) := by decide +kernel
theorem dX9_sendLoaf_36 : decode cX9_sendLoaf 36 = .ok (.aload_n 0, 1) := by decide +kernel
theorem dX9_sendLoaf_37 : decode cX9_sendLoaf 37 = .ok (.getfield 22, 3) := by decide +kernel
theorem dX9_sendLoaf_40 : decode cX9_sendLoaf 40 = .ok (.getfield 246, 3) := by decide +kernel
theorem dX9_sendLoaf_43 : decode cX9_sendLoaf 43 = .ok (.ireturn, 1) := by decide +kernel
theorem dX9_isOrderDone_0 : decode cX9_isOrderDone 0 = .ok (.aload_n 0, 1) := by decide +kernel
theorem dX9_isOrderDone_1 : decode cX9_isOrderDone 1 = .ok (.getfield 36, 3) := by decide +kernel
theorem dX9_isOrderDone_4 : decode cX9_isOrderDone 4 = .ok (.iload_n 1, 1) := by decide +kernel
theorem dX9_isOrderDone_5 : decode cX9_isOrderDone 5 = .ok (.invokevirtual 379, 3) := by decide +kernel
theorem dX9_isOrderDone_8 : decode cX9_isOrderDone 8 = .ok (.lookupswitch 102 #[(114, 61), (115, 28)], 28) := by decide +kernel
theorem dX9_isOrderDone_36 : decode cX9_isOrderDone 36 = .ok (.aload_n 0, 1) := by decide +kernel
theorem dX9_isOrderDone_37 : decode cX9_isOrderDone 37 = .ok (.aload_n 0, 1) := by decide +kernel
theorem dX9_isOrderDone_38 : decode cX9_isOrderDone 38 = .ok (.getfield 36, 3) := by decide +kernel
theorem dX9_isOrderDone_41 : decode cX9_isOrderDone 41 = .ok (.iload_n 1, 1) := by decide +kernel
theorem dX9_isOrderDone_42 : decode cX9_isOrderDone 42 = .ok (.iconst 1, 1) := by decide +kernel
theorem dX9_isOrderDone_43 : decode cX9_isOrderDone 43 = .ok (.iadd, 1) := by decide +kernel
theorem dX9_isOrderDone_44 : decode cX9_isOrderDone 44 = .ok (.invokevirtual 382, 3) := by decide +kernel
theorem dX9_isOrderDone_47 : decode cX9_isOrderDone 47 = .ok (.aload_n 0, 1) := by decide +kernel
theorem dX9_isOrderDone_48 : decode cX9_isOrderDone 48 = .ok (.getfield 36, 3) := by decide +kernel
theorem dX9_isOrderDone_51 : decode cX9_isOrderDone 51 = .ok (.iload_n 1, 1) := by decide +kernel
theorem dX9_isOrderDone_52 : decode cX9_isOrderDone 52 = .ok (.iconst 3, 1) := by decide +kernel
theorem dX9_isOrderDone_53 : decode cX9_isOrderDone 53 = .ok (.iadd, 1) := by decide +kernel
theorem dX9_isOrderDone_54 : decode cX9_isOrderDone 54 = .ok (.invokevirtual 382, 3) := by decide +kernel
theorem dX9_isOrderDone_57 : decode cX9_isOrderDone 57 = .ok (.aload_n 0, 1) := by decide +kernel
theorem dX9_isOrderDone_58 : decode cX9_isOrderDone 58 = .ok (.getfield 36, 3) := by decide +kernel
theorem dX9_isOrderDone_61 : decode cX9_isOrderDone 61 = .ok (.iload_n 1, 1) := by decide +kernel
theorem dX9_isOrderDone_62 : decode cX9_isOrderDone 62 = .ok (.invokevirtual 385, 3) := by decide +kernel
theorem dX9_isOrderDone_65 : decode cX9_isOrderDone 65 = .ok (.invokevirtual 386, 3) := by decide +kernel
theorem dX9_isOrderDone_68 : decode cX9_isOrderDone 68 = .ok (.ireturn, 1) := by decide +kernel
theorem dX9_isOrderDone_69 : decode cX9_isOrderDone 69 = .ok (.aload_n 0, 1) := by decide +kernel
theorem dX9_isOrderDone_70 : decode cX9_isOrderDone 70 = .ok (.getfield 10, 3) := by decide +kernel
theorem dX9_isOrderDone_73 : decode cX9_isOrderDone 73 = .ok (.getfield 67, 3) := by decide +kernel
theorem dX9_isOrderDone_76 : decode cX9_isOrderDone 76 = .ok (.aload_n 0, 1) := by decide +kernel
theorem dX9_isOrderDone_77 : decode cX9_isOrderDone 77 = .ok (.getfield 36, 3) := by decide +kernel
theorem dX9_isOrderDone_80 : decode cX9_isOrderDone 80 = .ok (.iload_n 1, 1) := by decide +kernel
theorem dX9_isOrderDone_81 : decode cX9_isOrderDone 81 = .ok (.iconst 1, 1) := by decide +kernel
theorem dX9_isOrderDone_82 : decode cX9_isOrderDone 82 = .ok (.iadd, 1) := by decide +kernel
theorem dX9_isOrderDone_83 : decode cX9_isOrderDone 83 = .ok (.invokevirtual 382, 3) := by decide +kernel
theorem dX9_isOrderDone_86 : decode cX9_isOrderDone 86 = .ok (.aload_n 0, 1) := by decide +kernel
theorem dX9_isOrderDone_87 : decode cX9_isOrderDone 87 = .ok (.getfield 36, 3) := by decide +kernel
theorem dX9_isOrderDone_90 : decode cX9_isOrderDone 90 = .ok (.iload_n 1, 1) := by decide +kernel
theorem dX9_isOrderDone_91 : decode cX9_isOrderDone 91 = .ok (.iconst 2, 1) := by decide +kernel
theorem dX9_isOrderDone_92 : decode cX9_isOrderDone 92 = .ok (.iadd, 1) := by decide +kernel
theorem dX9_isOrderDone_93 : decode cX9_isOrderDone 93 = .ok (.invokevirtual 382, 3) := by decide +kernel
theorem dX9_isOrderDone_96 : decode cX9_isOrderDone 96 = .ok (.aload_n 0, 1) := by decide +kernel
theorem dX9_isOrderDone_97 : decode cX9_isOrderDone 97 = .ok (.getfield 36, 3) := by decide +kernel
theorem dX9_isOrderDone_100 : decode cX9_isOrderDone 100 = .ok (.iload_n 1, 1) := by decide +kernel
theorem dX9_isOrderDone_101 : decode cX9_isOrderDone 101 = .ok (.invokevirtual 390, 3) := by decide +kernel
theorem dX9_isOrderDone_104 : decode cX9_isOrderDone 104 = .ok (.invokevirtual 71, 3) := by decide +kernel
theorem dX9_isOrderDone_107 : decode cX9_isOrderDone 107 = .ok (.pop, 1) := by decide +kernel
theorem dX9_isOrderDone_108 : decode cX9_isOrderDone 108 = .ok (.iconst 1, 1) := by decide +kernel
theorem dX9_isOrderDone_109 : decode cX9_isOrderDone 109 = .ok (.ireturn, 1) := by decide +kernel
theorem dX9_isOrderDone_110 : decode cX9_isOrderDone 110 = .ok (.aload_n 0, 1) := by decide +kernel
theorem dX9_isOrderDone_111 : decode cX9_isOrderDone 111 = .ok (.aload_n 0, 1) := by decide +kernel
theorem dX9_isOrderDone_112 : decode cX9_isOrderDone 112 = .ok (.getfield 36, 3) := by decide +kernel
theorem dX9_isOrderDone_115 : decode cX9_isOrderDone 115 = .ok (.iload_n 1, 1) := by decide +kernel
theorem dX9_isOrderDone_116 : decode cX9_isOrderDone 116 = .ok (.iconst 1, 1) := by decide +kernel
theorem dX9_isOrderDone_117 : decode cX9_isOrderDone 117 = .ok (.iadd, 1) := by decide +kernel
theorem dX9_isOrderDone_118 : decode cX9_isOrderDone 118 = .ok (.invokevirtual 382, 3) := by decide +kernel
theorem dX9_isOrderDone_121 : decode cX9_isOrderDone 121 = .ok (.invokevirtual 392, 3) := by decide +kernel
theorem dX9_isOrderDone_124 : decode cX9_isOrderDone 124 = .ok (.ireturn, 1) := by decide +kernel
theorem dX9_areLoavesSent_0 : decode cX9_areLoavesSent 0 = .ok (.iconst 0, 1) := by decide +kernel
theorem dX9_areLoavesSent_1 : decode cX9_areLoavesSent 1 = .ok (.istore 4, 2) := by decide +kernel
theorem dX9_areLoavesSent_3 : decode cX9_areLoavesSent 3 = .ok (.iload 4, 2) := by decide +kernel
theorem dX9_areLoavesSent_5 : decode cX9_areLoavesSent 5 = .ok (.iload_n 3, 1) := by decide +kernel
theorem dX9_areLoavesSent_6 : decode cX9_areLoavesSent 6 = .ok (.if_icmp .ge 31, 3) := by decide +kernel
theorem dX9_areLoavesSent_9 : decode cX9_areLoavesSent 9 = .ok (.aload_n 0, 1) := by decide +kernel
theorem dX9_areLoavesSent_10 : decode cX9_areLoavesSent 10 = .ok (.getfield 10, 3) := by decide +kernel
theorem dX9_areLoavesSent_13 : decode cX9_areLoavesSent 13 = .ok (.getfield 140, 3) := by decide +kernel
theorem dX9_areLoavesSent_16 : decode cX9_areLoavesSent 16 = .ok (.sipush 9999, 3) := by decide +kernel
theorem dX9_areLoavesSent_19 : decode cX9_areLoavesSent 19 = .ok (.if_icmp .lt 5, 3) := by decide +kernel
theorem dX9_areLoavesSent_22 : decode cX9_areLoavesSent 22 = .ok (.iconst 0, 1) := by decide +kernel
theorem dX9_areLoavesSent_23 : decode cX9_areLoavesSent 23 = .ok (.ireturn, 1) := by decide +kernel
theorem dX9_areLoavesSent_24 : decode cX9_areLoavesSent 24 = .ok (.aload_n 0, 1) := by decide +kernel
theorem dX9_areLoavesSent_25 : decode cX9_areLoavesSent 25 = .ok (.iload_n 1, 1) := by decide +kernel
theorem dX9_areLoavesSent_26 : decode cX9_areLoavesSent 26 = .ok (.iload_n 2, 1) := by decide +kernel
theorem dX9_areLoavesSent_27 : decode cX9_areLoavesSent 27 = .ok (.invokevirtual 146, 3) := by decide +kernel
theorem dX9_areLoavesSent_30 : decode cX9_areLoavesSent 30 = .ok (.pop, 1) := by decide +kernel
theorem dX9_areLoavesSent_31 : decode cX9_areLoavesSent 31 = .ok (.iinc 4 1, 3) := by decide +kernel
theorem dX9_areLoavesSent_34 : decode cX9_areLoavesSent 34 = .ok (.goto (-31), 3) := by decide +kernel
theorem dX9_areLoavesSent_37 : decode cX9_areLoavesSent 37 = .ok (.iconst 1, 1) := by decide +kernel
theorem dX9_areLoavesSent_38 : decode cX9_areLoavesSent 38 = .ok (.ireturn, 1) := by decide +kernel
theorem dX9_isExitTurned_0 : decode cX9_isExitTurned 0 = .ok (.aload_n 0, 1) := by decide +kernel
theorem dX9_isExitTurned_1 : decode cX9_isExitTurned 1 = .ok (.getfield 10, 3) := by decide +kernel
theorem dX9_isExitTurned_4 : decode cX9_isExitTurned 4 = .ok (.getfield 83, 3) := by decide +kernel
theorem dX9_isExitTurned_7 : decode cX9_isExitTurned 7 = .ok (.iload_n 1, 1) := by decide +kernel
theorem dX9_isExitTurned_8 : decode cX9_isExitTurned 8 = .ok (.invokevirtual 368, 3) := by decide +kernel
theorem dX9_isExitTurned_11 : decode cX9_isExitTurned 11 = .ok (.istore_n 2, 1) := by decide +kernel
theorem dX9_isExitTurned_12 : decode cX9_isExitTurned 12 = .ok (.aload_n 0, 1) := by decide +kernel
theorem dX9_isExitTurned_13 : decode cX9_isExitTurned 13 = .ok (.getfield 10, 3) := by decide +kernel
theorem dX9_isExitTurned_16 : decode cX9_isExitTurned 16 = .ok (.getfield 83, 3) := by decide +kernel
theorem dX9_isExitTurned_19 : decode cX9_isExitTurned 19 = .ok (.iload_n 1, 1) := by decide +kernel
theorem dX9_isExitTurned_20 : decode cX9_isExitTurned 20 = .ok (.invokevirtual 107, 3) := by decide +kernel
theorem dX9_isExitTurned_23 : decode cX9_isExitTurned 23 = .ok (.iload_n 2, 1) := by decide +kernel
theorem dX9_isExitTurned_24 : decode cX9_isExitTurned 24 = .ok (.ireturn, 1) := by decide +kernel
theorem dX9_pairsWithoutExit_0 : decode cX9_pairsWithoutExit 0 = .ok (.iconst 0, 1) := by decide +kernel
theorem dX9_pairsWithoutExit_1 : decode cX9_pairsWithoutExit 1 = .ok (.istore_n 1, 1) := by decide +kernel
theorem dX9_pairsWithoutExit_2 : decode cX9_pairsWithoutExit 2 = .ok (.iconst 0, 1) := by decide +kernel
theorem dX9_pairsWithoutExit_3 : decode cX9_pairsWithoutExit 3 = .ok (.istore_n 2, 1) := by decide +kernel
theorem dX9_pairsWithoutExit_4 : decode cX9_pairsWithoutExit 4 = .ok (.iload_n 2, 1) := by decide +kernel
theorem dX9_pairsWithoutExit_5 : decode cX9_pairsWithoutExit 5 = .ok (.bipush 8, 2) := by decide +kernel
theorem dX9_pairsWithoutExit_7 : decode cX9_pairsWithoutExit 7 = .ok (.if_icmp .ge 53, 3) := by decide +kernel
theorem dX9_pairsWithoutExit_10 : decode cX9_pairsWithoutExit 10 = .ok (.iconst 0, 1) := by decide +kernel
theorem dX9_pairsWithoutExit_11 : decode cX9_pairsWithoutExit 11 = .ok (.istore_n 3, 1) := by decide +kernel
theorem dX9_pairsWithoutExit_12 : decode cX9_pairsWithoutExit 12 = .ok (.iload_n 3, 1) := by decide +kernel
theorem dX9_pairsWithoutExit_13 : decode cX9_pairsWithoutExit 13 = .ok (.iconst 4, 1) := by decide +kernel
theorem dX9_pairsWithoutExit_14 : decode cX9_pairsWithoutExit 14 = .ok (.if_icmp .ge 40, 3) := by decide +kernel
theorem dX9_pairsWithoutExit_17 : decode cX9_pairsWithoutExit 17 = .ok (.aload_n 0, 1) := by decide +kernel
theorem dX9_pairsWithoutExit_18 : decode cX9_pairsWithoutExit 18 = .ok (.getfield 22, 3) := by decide +kernel
theorem dX9_pairsWithoutExit_21 : decode cX9_pairsWithoutExit 21 = .ok (.aload_n 0, 1) := by decide +kernel
theorem dX9_pairsWithoutExit_22 : decode cX9_pairsWithoutExit 22 = .ok (.getfield 10, 3) := by decide +kernel
theorem dX9_pairsWithoutExit_25 : decode cX9_pairsWithoutExit 25 = .ok (.iload_n 2, 1) := by decide +kernel
theorem dX9_pairsWithoutExit_26 : decode cX9_pairsWithoutExit 26 = .ok (.iload_n 3, 1) := by decide +kernel
theorem dX9_pairsWithoutExit_27 : decode cX9_pairsWithoutExit 27 = .ok (.invokevirtual 242, 3) := by decide +kernel
theorem dX9_pairsWithoutExit_30 : decode cX9_pairsWithoutExit 30 = .ok (.iload_n 1, 1) := by decide +kernel
theorem dX9_pairsWithoutExit_31 : decode cX9_pairsWithoutExit 31 = .ok (.aload_n 0, 1) := by decide +kernel
theorem dX9_pairsWithoutExit_32 : decode cX9_pairsWithoutExit 32 = .ok (.getfield 22, 3) := by decide +kernel
theorem dX9_pairsWithoutExit_35 : decode cX9_pairsWithoutExit 35 = .ok (.getfield 254, 3) := by decide +kernel
theorem dX9_pairsWithoutExit_38 : decode cX9_pairsWithoutExit 38 = .ok (.ifCond .ne 7, 3) := by decide +kernel
theorem dX9_pairsWithoutExit_41 : decode cX9_pairsWithoutExit 41 = .ok (.iconst 1, 1) := by decide +kernel
theorem dX9_pairsWithoutExit_42 : decode cX9_pairsWithoutExit 42 = .ok (.goto 4, 3) := by decide +kernel
theorem dX9_pairsWithoutExit_45 : decode cX9_pairsWithoutExit 45 = .ok (.iconst 0, 1) := by decide +kernel
theorem dX9_pairsWithoutExit_46 : decode cX9_pairsWithoutExit 46 = .ok (.iadd, 1) := by decide +kernel
theorem dX9_pairsWithoutExit_47 : decode cX9_pairsWithoutExit 47 = .ok (.istore_n 1, 1) := by decide +kernel
theorem dX9_pairsWithoutExit_48 : decode cX9_pairsWithoutExit 48 = .ok (.iinc 3 1, 3) := by decide +kernel
theorem dX9_pairsWithoutExit_51 : decode cX9_pairsWithoutExit 51 = .ok (.goto (-39), 3) := by decide +kernel
theorem dX9_pairsWithoutExit_54 : decode cX9_pairsWithoutExit 54 = .ok (.iinc 2 1, 3) := by decide +kernel
theorem dX9_pairsWithoutExit_57 : decode cX9_pairsWithoutExit 57 = .ok (.goto (-53), 3) := by decide +kernel
theorem dX9_pairsWithoutExit_60 : decode cX9_pairsWithoutExit 60 = .ok (.iload_n 1, 1) := by decide +kernel
theorem dX9_pairsWithoutExit_61 : decode cX9_pairsWithoutExit 61 = .ok (.ireturn, 1) := by decide +kernel
theorem dX9_pairsDearerWithout_0 : decode cX9_pairsDearerWithout 0 = .ok (.iconst 0, 1) := by decide +kernel
theorem dX9_pairsDearerWithout_1 : decode cX9_pairsDearerWithout 1 = .ok (.istore_n 2, 1) := by decide +kernel
theorem dX9_pairsDearerWithout_2 : decode cX9_pairsDearerWithout 2 = .ok (.aload_n 0, 1) := by decide +kernel
theorem dX9_pairsDearerWithout_3 : decode cX9_pairsDearerWithout 3 = .ok (.getfield 16, 3) := by decide +kernel
theorem dX9_pairsDearerWithout_6 : decode cX9_pairsDearerWithout 6 = .ok (.getfield 83, 3) := by decide +kernel
theorem dX9_pairsDearerWithout_9 : decode cX9_pairsDearerWithout 9 = .ok (.iload_n 1, 1) := by decide +kernel
theorem dX9_pairsDearerWithout_10 : decode cX9_pairsDearerWithout 10 = .ok (.invokevirtual 107, 3) := by decide +kernel
theorem dX9_pairsDearerWithout_13 : decode cX9_pairsDearerWithout 13 = .ok (.iconst 0, 1) := by decide +kernel
theorem dX9_pairsDearerWithout_14 : decode cX9_pairsDearerWithout 14 = .ok (.istore_n 3, 1) := by decide +kernel
theorem dX9_pairsDearerWithout_15 : decode cX9_pairsDearerWithout 15 = .ok (.iload_n 3, 1) := by decide +kernel
theorem dX9_pairsDearerWithout_16 : decode cX9_pairsDearerWithout 16 = .ok (.bipush 8, 2) := by decide +kernel
theorem dX9_pairsDearerWithout_18 : decode cX9_pairsDearerWithout 18 = .ok (.if_icmp .ge 110, 3) := by decide +kernel
theorem dX9_pairsDearerWithout_21 : decode cX9_pairsDearerWithout 21 = .ok (.iconst 0, 1) := by decide +kernel
theorem dX9_pairsDearerWithout_22 : decode cX9_pairsDearerWithout 22 = .ok (.istore 4, 2) := by decide +kernel
theorem dX9_pairsDearerWithout_24 : decode cX9_pairsDearerWithout 24 = .ok (.iload 4, 2) := by decide +kernel
theorem dX9_pairsDearerWithout_26 : decode cX9_pairsDearerWithout 26 = .ok (.iconst 4, 1) := by decide +kernel
theorem dX9_pairsDearerWithout_27 : decode cX9_pairsDearerWithout 27 = .ok (.if_icmp .ge 95, 3) := by decide +kernel
theorem dX9_pairsDearerWithout_30 : decode cX9_pairsDearerWithout 30 = .ok (.aload_n 0, 1) := by decide +kernel
theorem dX9_pairsDearerWithout_31 : decode cX9_pairsDearerWithout 31 = .ok (.getfield 22, 3) := by decide +kernel
theorem dX9_pairsDearerWithout_34 : decode cX9_pairsDearerWithout 34 = .ok (.aload_n 0, 1) := by decide +kernel
theorem dX9_pairsDearerWithout_35 : decode cX9_pairsDearerWithout 35 = .ok (.getfield 10, 3) := by decide +kernel
theorem dX9_pairsDearerWithout_38 : decode cX9_pairsDearerWithout 38 = .ok (.iload_n 3, 1) := by decide +kernel
theorem dX9_pairsDearerWithout_39 : decode cX9_pairsDearerWithout 39 = .ok (.iload 4, 2) := by decide +kernel
theorem dX9_pairsDearerWithout_41 : decode cX9_pairsDearerWithout 41 = .ok (.invokevirtual 242, 3) := by decide +kernel
theorem dX9_pairsDearerWithout_44 : decode cX9_pairsDearerWithout 44 = .ok (.aload_n 0, 1) := by decide +kernel
theorem dX9_pairsDearerWithout_45 : decode cX9_pairsDearerWithout 45 = .ok (.getfield 22, 3) := by decide +kernel
theorem dX9_pairsDearerWithout_48 : decode cX9_pairsDearerWithout 48 = .ok (.getfield 249, 3) := by decide +kernel
theorem dX9_pairsDearerWithout_51 : decode cX9_pairsDearerWithout 51 = .ok (.istore 5, 2) := by decide +kernel
theorem dX9_pairsDearerWithout_53 : decode cX9_pairsDearerWithout 53 = .ok (.aload_n 0, 1) := by decide +kernel
theorem dX9_pairsDearerWithout_54 : decode cX9_pairsDearerWithout 54 = .ok (.getfield 22, 3) := by decide +kernel
theorem dX9_pairsDearerWithout_57 : decode cX9_pairsDearerWithout 57 = .ok (.aload_n 0, 1) := by decide +kernel
theorem dX9_pairsDearerWithout_58 : decode cX9_pairsDearerWithout 58 = .ok (.getfield 16, 3) := by decide +kernel
theorem dX9_pairsDearerWithout_61 : decode cX9_pairsDearerWithout 61 = .ok (.iload_n 3, 1) := by decide +kernel
theorem dX9_pairsDearerWithout_62 : decode cX9_pairsDearerWithout 62 = .ok (.iload 4, 2) := by decide +kernel
theorem dX9_pairsDearerWithout_64 : decode cX9_pairsDearerWithout 64 = .ok (.invokevirtual 242, 3) := by decide +kernel
theorem dX9_pairsDearerWithout_67 : decode cX9_pairsDearerWithout 67 = .ok (.aload_n 0, 1) := by decide +kernel
theorem dX9_pairsDearerWithout_68 : decode cX9_pairsDearerWithout 68 = .ok (.getfield 22, 3) := by decide +kernel
theorem dX9_pairsDearerWithout_71 : decode cX9_pairsDearerWithout 71 = .ok (.getfield 249, 3) := by decide +kernel
theorem dX9_pairsDearerWithout_74 : decode cX9_pairsDearerWithout 74 = .ok (.iconst (-1), 1) := by decide +kernel
theorem dX9_pairsDearerWithout_75 : decode cX9_pairsDearerWithout 75 = .ok (.if_icmp .eq 15, 3) := by decide +kernel
theorem dX9_pairsDearerWithout_78 : decode cX9_pairsDearerWithout 78 = .ok (.aload_n 0, 1) := by decide +kernel
theorem dX9_pairsDearerWithout_79 : decode cX9_pairsDearerWithout 79 = .ok (.getfield 22, 3) := by decide +kernel
theorem dX9_pairsDearerWithout_82 : decode cX9_pairsDearerWithout 82 = .ok (.getfield 249, 3) := by decide +kernel
theorem dX9_pairsDearerWithout_85 : decode cX9_pairsDearerWithout 85 = .ok (.iload 5, 2) := by decide +kernel
theorem dX9_pairsDearerWithout_87 : decode cX9_pairsDearerWithout 87 = .ok (.if_icmp .le 7, 3) := by decide +kernel
theorem dX9_pairsDearerWithout_90 : decode cX9_pairsDearerWithout 90 = .ok (.iconst 1, 1) := by decide +kernel
theorem dX9_pairsDearerWithout_91 : decode cX9_pairsDearerWithout 91 = .ok (.goto 4, 3) := by decide +kernel
theorem dX9_pairsDearerWithout_94 : decode cX9_pairsDearerWithout 94 = .ok (.iconst 0, 1) := by decide +kernel
theorem dX9_pairsDearerWithout_95 : decode cX9_pairsDearerWithout 95 = .ok (.istore 6, 2) := by decide +kernel
theorem dX9_pairsDearerWithout_97 : decode cX9_pairsDearerWithout 97 = .ok (.iload_n 2, 1) := by decide +kernel
theorem dX9_pairsDearerWithout_98 : decode cX9_pairsDearerWithout 98 = .ok (.iload 5, 2) := by decide +kernel
theorem dX9_pairsDearerWithout_100 : decode cX9_pairsDearerWithout 100 = .ok (.iconst (-1), 1) := by decide +kernel
theorem dX9_pairsDearerWithout_101 : decode cX9_pairsDearerWithout 101 = .ok (.if_icmp .eq 12, 3) := by decide +kernel
theorem dX9_pairsDearerWithout_104 : decode cX9_pairsDearerWithout 104 = .ok (.iload 6, 2) := by decide +kernel
theorem dX9_pairsDearerWithout_106 : decode cX9_pairsDearerWithout 106 = .ok (.ifCond .eq 7, 3) := by decide +kernel
theorem dX9_pairsDearerWithout_109 : decode cX9_pairsDearerWithout 109 = .ok (.iconst 1, 1) := by decide +kernel
theorem dX9_pairsDearerWithout_110 : decode cX9_pairsDearerWithout 110 = .ok (.goto 4, 3) := by decide +kernel
theorem dX9_pairsDearerWithout_113 : decode cX9_pairsDearerWithout 113 = .ok (.iconst 0, 1) := by decide +kernel
theorem dX9_pairsDearerWithout_114 : decode cX9_pairsDearerWithout 114 = .ok (.iadd, 1) := by decide +kernel
theorem dX9_pairsDearerWithout_115 : decode cX9_pairsDearerWithout 115 = .ok (.istore_n 2, 1) := by decide +kernel
theorem dX9_pairsDearerWithout_116 : decode cX9_pairsDearerWithout 116 = .ok (.iinc 4 1, 3) := by decide +kernel
theorem dX9_pairsDearerWithout_119 : decode cX9_pairsDearerWithout 119 = .ok (.goto (-95), 3) := by decide +kernel
theorem dX9_pairsDearerWithout_122 : decode cX9_pairsDearerWithout 122 = .ok (.iinc 3 1, 3) := by decide +kernel
theorem dX9_pairsDearerWithout_125 : decode cX9_pairsDearerWithout 125 = .ok (.goto (-110), 3) := by decide +kernel
theorem dX9_pairsDearerWithout_128 : decode cX9_pairsDearerWithout 128 = .ok (.aload_n 0, 1) := by decide +kernel
theorem dX9_pairsDearerWithout_129 : decode cX9_pairsDearerWithout 129 = .ok (.getfield 16, 3) := by decide +kernel
theorem dX9_pairsDearerWithout_132 : decode cX9_pairsDearerWithout 132 = .ok (.getfield 83, 3) := by decide +kernel
theorem dX9_pairsDearerWithout_135 : decode cX9_pairsDearerWithout 135 = .ok (.iload_n 1, 1) := by decide +kernel
theorem dX9_pairsDearerWithout_136 : decode cX9_pairsDearerWithout 136 = .ok (.invokevirtual 107, 3) := by decide +kernel
theorem dX9_pairsDearerWithout_139 : decode cX9_pairsDearerWithout 139 = .ok (.iload_n 2, 1) := by decide +kernel
theorem dX9_pairsDearerWithout_140 : decode cX9_pairsDearerWithout 140 = .ok (.ireturn, 1) := by decide +kernel
theorem dX9_pairsOtherOnTrial_0 : decode cX9_pairsOtherOnTrial 0 = .ok (.iconst 0, 1) := by decide +kernel
theorem dX9_pairsOtherOnTrial_1 : decode cX9_pairsOtherOnTrial 1 = .ok (.istore_n 1, 1) := by decide +kernel
theorem dX9_pairsOtherOnTrial_2 : decode cX9_pairsOtherOnTrial 2 = .ok (.iconst 0, 1) := by decide +kernel
theorem dX9_pairsOtherOnTrial_3 : decode cX9_pairsOtherOnTrial 3 = .ok (.istore_n 2, 1) := by decide +kernel
theorem dX9_pairsOtherOnTrial_4 : decode cX9_pairsOtherOnTrial 4 = .ok (.iload_n 2, 1) := by decide +kernel
theorem dX9_pairsOtherOnTrial_5 : decode cX9_pairsOtherOnTrial 5 = .ok (.bipush 8, 2) := by decide +kernel
theorem dX9_pairsOtherOnTrial_7 : decode cX9_pairsOtherOnTrial 7 = .ok (.if_icmp .ge 77, 3) := by decide +kernel
theorem dX9_pairsOtherOnTrial_10 : decode cX9_pairsOtherOnTrial 10 = .ok (.iconst 0, 1) := by decide +kernel
theorem dX9_pairsOtherOnTrial_11 : decode cX9_pairsOtherOnTrial 11 = .ok (.istore_n 3, 1) := by decide +kernel
theorem dX9_pairsOtherOnTrial_12 : decode cX9_pairsOtherOnTrial 12 = .ok (.iload_n 3, 1) := by decide +kernel
theorem dX9_pairsOtherOnTrial_13 : decode cX9_pairsOtherOnTrial 13 = .ok (.iconst 4, 1) := by decide +kernel
theorem dX9_pairsOtherOnTrial_14 : decode cX9_pairsOtherOnTrial 14 = .ok (.if_icmp .ge 64, 3) := by decide +kernel
theorem dX9_pairsOtherOnTrial_17 : decode cX9_pairsOtherOnTrial 17 = .ok (.aload_n 0, 1) := by decide +kernel
theorem dX9_pairsOtherOnTrial_18 : decode cX9_pairsOtherOnTrial 18 = .ok (.getfield 22, 3) := by decide +kernel
theorem dX9_pairsOtherOnTrial_21 : decode cX9_pairsOtherOnTrial 21 = .ok (.aload_n 0, 1) := by decide +kernel
theorem dX9_pairsOtherOnTrial_22 : decode cX9_pairsOtherOnTrial 22 = .ok (.getfield 10, 3) := by decide +kernel
theorem dX9_pairsOtherOnTrial_25 : decode cX9_pairsOtherOnTrial 25 = .ok (.iload_n 2, 1) := by decide +kernel
theorem dX9_pairsOtherOnTrial_26 : decode cX9_pairsOtherOnTrial 26 = .ok (.iload_n 3, 1) := by decide +kernel
theorem dX9_pairsOtherOnTrial_27 : decode cX9_pairsOtherOnTrial 27 = .ok (.invokevirtual 242, 3) := by decide +kernel
theorem dX9_pairsOtherOnTrial_30 : decode cX9_pairsOtherOnTrial 30 = .ok (.aload_n 0, 1) := by decide +kernel
theorem dX9_pairsOtherOnTrial_31 : decode cX9_pairsOtherOnTrial 31 = .ok (.getfield 22, 3) := by decide +kernel
theorem dX9_pairsOtherOnTrial_34 : decode cX9_pairsOtherOnTrial 34 = .ok (.getfield 246, 3) := by decide +kernel
theorem dX9_pairsOtherOnTrial_37 : decode cX9_pairsOtherOnTrial 37 = .ok (.istore 4, 2) := by decide +kernel
theorem dX9_pairsOtherOnTrial_39 : decode cX9_pairsOtherOnTrial 39 = .ok (.aload_n 0, 1) := by decide +kernel
theorem dX9_pairsOtherOnTrial_40 : decode cX9_pairsOtherOnTrial 40 = .ok (.getfield 22, 3) := by decide +kernel
theorem dX9_pairsOtherOnTrial_43 : decode cX9_pairsOtherOnTrial 43 = .ok (.aload_n 0, 1) := by decide +kernel
theorem dX9_pairsOtherOnTrial_44 : decode cX9_pairsOtherOnTrial 44 = .ok (.getfield 16, 3) := by decide +kernel
theorem dX9_pairsOtherOnTrial_47 : decode cX9_pairsOtherOnTrial 47 = .ok (.iload_n 2, 1) := by decide +kernel
theorem dX9_pairsOtherOnTrial_48 : decode cX9_pairsOtherOnTrial 48 = .ok (.iload_n 3, 1) := by decide +kernel
theorem dX9_pairsOtherOnTrial_49 : decode cX9_pairsOtherOnTrial 49 = .ok (.invokevirtual 242, 3) := by decide +kernel
theorem dX9_pairsOtherOnTrial_52 : decode cX9_pairsOtherOnTrial 52 = .ok (.iload_n 1, 1) := by decide +kernel
theorem dX9_pairsOtherOnTrial_53 : decode cX9_pairsOtherOnTrial 53 = .ok (.aload_n 0, 1) := by decide +kernel
theorem dX9_pairsOtherOnTrial_54 : decode cX9_pairsOtherOnTrial 54 = .ok (.getfield 22, 3) := by decide +kernel
theorem dX9_pairsOtherOnTrial_57 : decode cX9_pairsOtherOnTrial 57 = .ok (.getfield 246, 3) := by decide +kernel
theorem dX9_pairsOtherOnTrial_60 : decode cX9_pairsOtherOnTrial 60 = .ok (.iload 4, 2) := by decide +kernel
theorem dX9_pairsOtherOnTrial_62 : decode cX9_pairsOtherOnTrial 62 = .ok (.if_icmp .eq 7, 3) := by decide +kernel
theorem dX9_pairsOtherOnTrial_65 : decode cX9_pairsOtherOnTrial 65 = .ok (.iconst 1, 1) := by decide +kernel
theorem dX9_pairsOtherOnTrial_66 : decode cX9_pairsOtherOnTrial 66 = .ok (.goto 4, 3) := by decide +kernel
theorem dX9_pairsOtherOnTrial_69 : decode cX9_pairsOtherOnTrial 69 = .ok (.iconst 0, 1) := by decide +kernel
theorem dX9_pairsOtherOnTrial_70 : decode cX9_pairsOtherOnTrial 70 = .ok (.iadd, 1) := by decide +kernel
theorem dX9_pairsOtherOnTrial_71 : decode cX9_pairsOtherOnTrial 71 = .ok (.istore_n 1, 1) := by decide +kernel
theorem dX9_pairsOtherOnTrial_72 : decode cX9_pairsOtherOnTrial 72 = .ok (.iinc 3 1, 3) := by decide +kernel
theorem dX9_pairsOtherOnTrial_75 : decode cX9_pairsOtherOnTrial 75 = .ok (.goto (-63), 3) := by decide +kernel
theorem dX9_pairsOtherOnTrial_78 : decode cX9_pairsOtherOnTrial 78 = .ok (.iinc 2 1, 3) := by decide +kernel
theorem dX9_pairsOtherOnTrial_81 : decode cX9_pairsOtherOnTrial 81 = .ok (.goto (-77), 3) := by decide +kernel
theorem dX9_pairsOtherOnTrial_84 : decode cX9_pairsOtherOnTrial 84 = .ok (.iload_n 1, 1) := by decide +kernel
theorem dX9_pairsOtherOnTrial_85 : decode cX9_pairsOtherOnTrial 85 = .ok (.ireturn, 1) := by decide +kernel
theorem dX9_copyRow_0 : decode cX9_copyRow 0 = .ok (.aload_n 0, 1) := by decide +kernel
theorem dX9_copyRow_1 : decode cX9_copyRow 1 = .ok (.iconst 0, 1) := by decide +kernel
theorem dX9_copyRow_2 : decode cX9_copyRow 2 = .ok (.aload_n 1, 1) := by decide +kernel
theorem dX9_copyRow_3 : decode cX9_copyRow 3 = .ok (.iconst 0, 1) := by decide +kernel
theorem dX9_copyRow_4 : decode cX9_copyRow 4 = .ok (.aload_n 0, 1) := by decide +kernel
theorem dX9_copyRow_5 : decode cX9_copyRow 5 = .ok (.arraylength, 1) := by decide +kernel
theorem dX9_copyRow_6 : decode cX9_copyRow 6 = .ok (.aload_n 1, 1) := by decide +kernel
theorem dX9_copyRow_7 : decode cX9_copyRow 7 = .ok (.arraylength, 1) := by decide +kernel
theorem dX9_copyRow_8 : decode cX9_copyRow 8 = .ok (.invokestatic 424, 3) := by decide +kernel
theorem dX9_copyRow_11 : decode cX9_copyRow 11 = .ok (.invokestatic 429, 3) := by decide +kernel
theorem dX9_copyRow_14 : decode cX9_copyRow 14 = .ok (.return_, 1) := by decide +kernel
theorem dJ9_max_7cf53_0 : decode cJ9_max_7cf53 0 = .ok (.iload_n 0, 1) := by decide +kernel
theorem dJ9_max_7cf53_1 : decode cJ9_max_7cf53 1 = .ok (.iload_n 1, 1) := by decide +kernel
theorem dJ9_max_7cf53_2 : decode cJ9_max_7cf53 2 = .ok (.if_icmp .lt 7, 3) := by decide +kernel
theorem dJ9_max_7cf53_5 : decode cJ9_max_7cf53 5 = .ok (.iload_n 0, 1) := by decide +kernel
theorem dJ9_max_7cf53_6 : decode cJ9_max_7cf53 6 = .ok (.goto 4, 3) := by decide +kernel
theorem dJ9_max_7cf53_9 : decode cJ9_max_7cf53 9 = .ok (.iload_n 1, 1) := by decide +kernel
theorem dJ9_max_7cf53_10 : decode cJ9_max_7cf53 10 = .ok (.ireturn, 1) := by decide +kernel
theorem dJ9_min_7cf53_0 : decode cJ9_min_7cf53 0 = .ok (.iload_n 0, 1) := by decide +kernel
theorem dJ9_min_7cf53_1 : decode cJ9_min_7cf53 1 = .ok (.iload_n 1, 1) := by decide +kernel
theorem dJ9_min_7cf53_2 : decode cJ9_min_7cf53 2 = .ok (.if_icmp .gt 7, 3) := by decide +kernel
theorem dJ9_min_7cf53_5 : decode cJ9_min_7cf53 5 = .ok (.iload_n 0, 1) := by decide +kernel
theorem dJ9_min_7cf53_6 : decode cJ9_min_7cf53 6 = .ok (.goto 4, 3) := by decide +kernel
theorem dJ9_min_7cf53_9 : decode cJ9_min_7cf53 9 = .ok (.iload_n 1, 1) := by decide +kernel
theorem dJ9_min_7cf53_10 : decode cJ9_min_7cf53 10 = .ok (.ireturn, 1) := by decide +kernel
theorem dL_cell_0 : decode cL_cell 0 = .ok (.iload_n 1, 1) := by decide +kernel
theorem dL_cell_1 : decode cL_cell 1 = .ok (.aload_n 0, 1) := by decide +kernel
theorem dL_cell_2 : decode cL_cell 2 = .ok (.arraylength, 1) := by decide +kernel
theorem dL_cell_3 : decode cL_cell 3 = .ok (.if_icmp .ge 9, 3) := by decide +kernel
theorem dL_cell_6 : decode cL_cell 6 = .ok (.aload_n 0, 1) := by decide +kernel
theorem dL_cell_7 : decode cL_cell 7 = .ok (.iload_n 1, 1) := by decide +kernel
theorem dL_cell_8 : decode cL_cell 8 = .ok (.iaload, 1) := by decide +kernel
theorem dL_cell_9 : decode cL_cell 9 = .ok (.goto 15, 3) := by decide +kernel
theorem dL_cell_12 : decode cL_cell 12 = .ok (.ldc 7, 2) := by decide +kernel
theorem dL_cell_14 : decode cL_cell 14 = .ok (.iload_n 1, 1) := by decide +kernel
theorem dL_cell_15 : decode cL_cell 15 = .ok (.sipush 4096, 3) := by decide +kernel
theorem dL_cell_18 : decode cL_cell 18 = .ok (.irem, 1) := by decide +kernel
theorem dL_cell_19 : decode cL_cell 19 = .ok (.imul, 1) := by decide +kernel
theorem dL_cell_20 : decode cL_cell 20 = .ok (.sipush 347, 3) := by decide +kernel
theorem dL_cell_23 : decode cL_cell 23 = .ok (.iadd, 1) := by decide +kernel
theorem dL_cell_24 : decode cL_cell 24 = .ok (.ldc 8, 2) := by decide +kernel
theorem dL_cell_26 : decode cL_cell 26 = .ok (.iand, 1) := by decide +kernel
theorem dL_cell_27 : decode cL_cell 27 = .ok (.ireturn, 1) := by decide +kernel
theorem dL_road_0 : decode cL_road 0 = .ok (.aload_n 0, 1) := by decide +kernel
theorem dL_road_1 : decode cL_road 1 = .ok (.iload_n 1, 1) := by decide +kernel
theorem dL_road_2 : decode cL_road 2 = .ok (.iload_n 2, 1) := by decide +kernel
theorem dL_road_3 : decode cL_road 3 = .ok (.iload_n 3, 1) := by decide +kernel
theorem dL_road_4 : decode cL_road 4 = .ok (.invokevirtual 9, 3) := by decide +kernel
theorem dL_road_7 : decode cL_road 7 = .ok (.ireturn, 1) := by decide +kernel
theorem dL_road_8 : decode cL_road 8 = .ok (.astore 4, 2) := by decide +kernel
theorem dL_road_10 : decode cL_road 10 = .ok (.ldc 17, 2) := by decide +kernel
theorem dL_road_12 : decode cL_road 12 = .ok (.ireturn, 1) := by decide +kernel
theorem dL_road_13 : decode cL_road 13 = .ok (.astore 4, 2) := by decide +kernel
theorem dL_road_15 : decode cL_road 15 = .ok (.ldc 20, 2) := by decide +kernel
theorem dL_road_17 : decode cL_road 17 = .ok (.ireturn, 1) := by decide +kernel
theorem dL_exit_0 : decode cL_exit 0 = .ok (.aload_n 0, 1) := by decide +kernel
theorem dL_exit_1 : decode cL_exit 1 = .ok (.iload_n 1, 1) := by decide +kernel
theorem dL_exit_2 : decode cL_exit 2 = .ok (.iload_n 2, 1) := by decide +kernel
theorem dL_exit_3 : decode cL_exit 3 = .ok (.invokevirtual 21, 3) := by decide +kernel
theorem dL_exit_6 : decode cL_exit 6 = .ok (.ireturn, 1) := by decide +kernel
theorem dL_exit_7 : decode cL_exit 7 = .ok (.astore_n 3, 1) := by decide +kernel
theorem dL_exit_8 : decode cL_exit 8 = .ok (.ldc 17, 2) := by decide +kernel
theorem dL_exit_10 : decode cL_exit 10 = .ok (.ireturn, 1) := by decide +kernel
theorem dL_exit_11 : decode cL_exit 11 = .ok (.astore_n 3, 1) := by decide +kernel
theorem dL_exit_12 : decode cL_exit 12 = .ok (.ldc 20, 2) := by decide +kernel
theorem dL_exit_14 : decode cL_exit 14 = .ok (.ireturn, 1) := by decide +kernel
theorem dL_turn_0 : decode cL_turn 0 = .ok (.aload_n 0, 1) := by decide +kernel
theorem dL_turn_1 : decode cL_turn 1 = .ok (.iload_n 1, 1) := by decide +kernel
theorem dL_turn_2 : decode cL_turn 2 = .ok (.invokevirtual 27, 3) := by decide +kernel
theorem dL_turn_5 : decode cL_turn 5 = .ok (.ireturn, 1) := by decide +kernel
theorem dL_turn_6 : decode cL_turn 6 = .ok (.astore_n 2, 1) := by decide +kernel
theorem dL_turn_7 : decode cL_turn 7 = .ok (.ldc 17, 2) := by decide +kernel
theorem dL_turn_9 : decode cL_turn 9 = .ok (.ireturn, 1) := by decide +kernel
theorem dL_offer_0 : decode cL_offer 0 = .ok (.aload_n 0, 1) := by decide +kernel
theorem dL_offer_1 : decode cL_offer 1 = .ok (.iload_n 1, 1) := by decide +kernel
theorem dL_offer_2 : decode cL_offer 2 = .ok (.iload_n 2, 1) := by decide +kernel
theorem dL_offer_3 : decode cL_offer 3 = .ok (.iload_n 3, 1) := by decide +kernel
theorem dL_offer_4 : decode cL_offer 4 = .ok (.invokevirtual 31, 3) := by decide +kernel
theorem dL_offer_7 : decode cL_offer 7 = .ok (.ireturn, 1) := by decide +kernel
theorem dL_offer_8 : decode cL_offer 8 = .ok (.astore 4, 2) := by decide +kernel
theorem dL_offer_10 : decode cL_offer 10 = .ok (.ldc 17, 2) := by decide +kernel
theorem dL_offer_12 : decode cL_offer 12 = .ok (.ireturn, 1) := by decide +kernel
theorem dL_offer_13 : decode cL_offer 13 = .ok (.astore 4, 2) := by decide +kernel
theorem dL_offer_15 : decode cL_offer 15 = .ok (.ldc 20, 2) := by decide +kernel
theorem dL_offer_17 : decode cL_offer 17 = .ok (.ireturn, 1) := by decide +kernel
theorem dL_bound_0 : decode cL_bound 0 = .ok (.aload_n 0, 1) := by decide +kernel
theorem dL_bound_1 : decode cL_bound 1 = .ok (.iload_n 1, 1) := by decide +kernel
theorem dL_bound_2 : decode cL_bound 2 = .ok (.iload_n 2, 1) := by decide +kernel
theorem dL_bound_3 : decode cL_bound 3 = .ok (.invokevirtual 34, 3) := by decide +kernel
theorem dL_bound_6 : decode cL_bound 6 = .ok (.ireturn, 1) := by decide +kernel
theorem dL_bound_7 : decode cL_bound 7 = .ok (.astore_n 3, 1) := by decide +kernel
theorem dL_bound_8 : decode cL_bound 8 = .ok (.ldc 17, 2) := by decide +kernel
theorem dL_bound_10 : decode cL_bound 10 = .ok (.ireturn, 1) := by decide +kernel
theorem dL_bound_11 : decode cL_bound 11 = .ok (.astore_n 3, 1) := by decide +kernel
theorem dL_bound_12 : decode cL_bound 12 = .ok (.ldc 20, 2) := by decide +kernel
theorem dL_bound_14 : decode cL_bound 14 = .ok (.ireturn, 1) := by decide +kernel
theorem dL_set_0 : decode cL_set 0 = .ok (.aload_n 0, 1) := by decide +kernel
theorem dL_set_1 : decode cL_set 1 = .ok (.iload_n 1, 1) := by decide +kernel
theorem dL_set_2 : decode cL_set 2 = .ok (.iload_n 2, 1) := by decide +kernel
theorem dL_set_3 : decode cL_set 3 = .ok (.invokevirtual 37, 3) := by decide +kernel
theorem dL_set_6 : decode cL_set 6 = .ok (.ireturn, 1) := by decide +kernel
theorem dL_set_7 : decode cL_set 7 = .ok (.astore_n 3, 1) := by decide +kernel
theorem dL_set_8 : decode cL_set 8 = .ok (.ldc 17, 2) := by decide +kernel
theorem dL_set_10 : decode cL_set 10 = .ok (.ireturn, 1) := by decide +kernel
theorem dL_set_11 : decode cL_set 11 = .ok (.astore_n 3, 1) := by decide +kernel
theorem dL_set_12 : decode cL_set 12 = .ok (.ldc 20, 2) := by decide +kernel
theorem dL_set_14 : decode cL_set 14 = .ok (.ireturn, 1) := by decide +kernel
theorem dL_send_0 : decode cL_send 0 = .ok (.aload_n 0, 1) := by decide +kernel
theorem dL_send_1 : decode cL_send 1 = .ok (.iload_n 1, 1) := by decide +kernel
theorem dL_send_2 : decode cL_send 2 = .ok (.iload_n 2, 1) := by decide +kernel
theorem dL_send_3 : decode cL_send 3 = .ok (.invokevirtual 40, 3) := by decide +kernel
theorem dL_send_6 : decode cL_send 6 = .ok (.ireturn, 1) := by decide +kernel
theorem dL_send_7 : decode cL_send 7 = .ok (.astore_n 3, 1) := by decide +kernel
theorem dL_send_8 : decode cL_send 8 = .ok (.ldc 17, 2) := by decide +kernel
theorem dL_send_10 : decode cL_send 10 = .ok (.ireturn, 1) := by decide +kernel
theorem dL_send_11 : decode cL_send 11 = .ok (.astore_n 3, 1) := by decide +kernel
theorem dL_send_12 : decode cL_send 12 = .ok (.ldc 20, 2) := by decide +kernel
theorem dL_send_14 : decode cL_send 14 = .ok (.ireturn, 1) := by decide +kernel
theorem dL_append_0 : decode cL_append 0 = .ok (.aload_n 0, 1) := by decide +kernel
theorem dL_append_1 : decode cL_append 1 = .ok (.iload_n 1, 1) := by decide +kernel
theorem dL_append_2 : decode cL_append 2 = .ok (.invokevirtual 43, 3) := by decide +kernel
theorem dL_append_5 : decode cL_append 5 = .ok (.ireturn, 1) := by decide +kernel
theorem dL_append_6 : decode cL_append 6 = .ok (.astore_n 2, 1) := by decide +kernel
theorem dL_append_7 : decode cL_append 7 = .ok (.ldc 17, 2) := by decide +kernel
theorem dL_append_9 : decode cL_append 9 = .ok (.ireturn, 1) := by decide +kernel
theorem dL_append_10 : decode cL_append 10 = .ok (.astore_n 2, 1) := by decide +kernel
theorem dL_append_11 : decode cL_append 11 = .ok (.ldc 20, 2) := by decide +kernel
theorem dL_append_13 : decode cL_append 13 = .ok (.ireturn, 1) := by decide +kernel
theorem dL_run_0 : decode cL_run 0 = .ok (.aload_n 0, 1) := by decide +kernel
theorem dL_run_1 : decode cL_run 1 = .ok (.invokevirtual 46, 3) := by decide +kernel
theorem dL_run_4 : decode cL_run 4 = .ok (.ireturn, 1) := by decide +kernel
theorem dL_run_5 : decode cL_run 5 = .ok (.astore_n 1, 1) := by decide +kernel
theorem dL_run_6 : decode cL_run 6 = .ok (.ldc 17, 2) := by decide +kernel
theorem dL_run_8 : decode cL_run 8 = .ok (.ireturn, 1) := by decide +kernel
theorem dL_keep_0 : decode cL_keep 0 = .ok (.aload_n 0, 1) := by decide +kernel
theorem dL_keep_1 : decode cL_keep 1 = .ok (.iload_n 1, 1) := by decide +kernel
theorem dL_keep_2 : decode cL_keep 2 = .ok (.invokevirtual 50, 3) := by decide +kernel
theorem dL_keep_5 : decode cL_keep 5 = .ok (.ireturn, 1) := by decide +kernel
theorem dL_keep_6 : decode cL_keep 6 = .ok (.astore_n 2, 1) := by decide +kernel
theorem dL_keep_7 : decode cL_keep 7 = .ok (.ldc 17, 2) := by decide +kernel
theorem dL_keep_9 : decode cL_keep 9 = .ok (.ireturn, 1) := by decide +kernel
theorem dL_goBack_0 : decode cL_goBack 0 = .ok (.aload_n 0, 1) := by decide +kernel
theorem dL_goBack_1 : decode cL_goBack 1 = .ok (.iload_n 1, 1) := by decide +kernel
theorem dL_goBack_2 : decode cL_goBack 2 = .ok (.invokevirtual 53, 3) := by decide +kernel
theorem dL_goBack_5 : decode cL_goBack 5 = .ok (.ireturn, 1) := by decide +kernel
theorem dL_goBack_6 : decode cL_goBack 6 = .ok (.astore_n 2, 1) := by decide +kernel
theorem dL_goBack_7 : decode cL_goBack 7 = .ok (.ldc 17, 2) := by decide +kernel
theorem dL_goBack_9 : decode cL_goBack 9 = .ok (.ireturn, 1) := by decide +kernel
theorem dL_goBack_10 : decode cL_goBack 10 = .ok (.astore_n 2, 1) := by decide +kernel
theorem dL_goBack_11 : decode cL_goBack 11 = .ok (.ldc 20, 2) := by decide +kernel
theorem dL_goBack_13 : decode cL_goBack 13 = .ok (.ireturn, 1) := by decide +kernel
theorem dL_undo_0 : decode cL_undo 0 = .ok (.aload_n 0, 1) := by decide +kernel
theorem dL_undo_1 : decode cL_undo 1 = .ok (.invokevirtual 56, 3) := by decide +kernel
theorem dL_undo_4 : decode cL_undo 4 = .ok (.ireturn, 1) := by decide +kernel
theorem dL_undo_5 : decode cL_undo 5 = .ok (.astore_n 1, 1) := by decide +kernel
theorem dL_undo_6 : decode cL_undo 6 = .ok (.ldc 17, 2) := by decide +kernel
theorem dL_undo_8 : decode cL_undo 8 = .ok (.ireturn, 1) := by decide +kernel
theorem dL_roadOf_0 : decode cL_roadOf 0 = .ok (.aload_n 0, 1) := by decide +kernel
theorem dL_roadOf_1 : decode cL_roadOf 1 = .ok (.iload_n 1, 1) := by decide +kernel
theorem dL_roadOf_2 : decode cL_roadOf 2 = .ok (.iload_n 2, 1) := by decide +kernel
theorem dL_roadOf_3 : decode cL_roadOf 3 = .ok (.invokevirtual 59, 3) := by decide +kernel
theorem dL_roadOf_6 : decode cL_roadOf 6 = .ok (.ireturn, 1) := by decide +kernel
theorem dL_roadOf_7 : decode cL_roadOf 7 = .ok (.astore_n 3, 1) := by decide +kernel
theorem dL_roadOf_8 : decode cL_roadOf 8 = .ok (.ldc 17, 2) := by decide +kernel
theorem dL_roadOf_10 : decode cL_roadOf 10 = .ok (.ireturn, 1) := by decide +kernel
theorem dL_distance_0 : decode cL_distance 0 = .ok (.aload_n 0, 1) := by decide +kernel
theorem dL_distance_1 : decode cL_distance 1 = .ok (.iload_n 1, 1) := by decide +kernel
theorem dL_distance_2 : decode cL_distance 2 = .ok (.iload_n 2, 1) := by decide +kernel
theorem dL_distance_3 : decode cL_distance 3 = .ok (.iload_n 3, 1) := by decide +kernel
theorem dL_distance_4 : decode cL_distance 4 = .ok (.invokevirtual 62, 3) := by decide +kernel
theorem dL_distance_7 : decode cL_distance 7 = .ok (.ireturn, 1) := by decide +kernel
theorem dL_distance_8 : decode cL_distance 8 = .ok (.astore 4, 2) := by decide +kernel
theorem dL_distance_10 : decode cL_distance 10 = .ok (.ldc 17, 2) := by decide +kernel
theorem dL_distance_12 : decode cL_distance 12 = .ok (.ireturn, 1) := by decide +kernel
theorem dL_distance_13 : decode cL_distance 13 = .ok (.astore 4, 2) := by decide +kernel
theorem dL_distance_15 : decode cL_distance 15 = .ok (.ldc 20, 2) := by decide +kernel
theorem dL_distance_17 : decode cL_distance 17 = .ok (.ireturn, 1) := by decide +kernel
theorem dL_exitOf_0 : decode cL_exitOf 0 = .ok (.aload_n 0, 1) := by decide +kernel
theorem dL_exitOf_1 : decode cL_exitOf 1 = .ok (.iload_n 1, 1) := by decide +kernel
theorem dL_exitOf_2 : decode cL_exitOf 2 = .ok (.iload_n 2, 1) := by decide +kernel
theorem dL_exitOf_3 : decode cL_exitOf 3 = .ok (.invokevirtual 65, 3) := by decide +kernel
theorem dL_exitOf_6 : decode cL_exitOf 6 = .ok (.ireturn, 1) := by decide +kernel
theorem dL_exitOf_7 : decode cL_exitOf 7 = .ok (.astore_n 3, 1) := by decide +kernel
theorem dL_exitOf_8 : decode cL_exitOf 8 = .ok (.ldc 17, 2) := by decide +kernel
theorem dL_exitOf_10 : decode cL_exitOf 10 = .ok (.ireturn, 1) := by decide +kernel
theorem dL_exitOf_11 : decode cL_exitOf 11 = .ok (.astore_n 3, 1) := by decide +kernel
theorem dL_exitOf_12 : decode cL_exitOf 12 = .ok (.ldc 20, 2) := by decide +kernel
theorem dL_exitOf_14 : decode cL_exitOf 14 = .ok (.ireturn, 1) := by decide +kernel
theorem dL_neighbourOf_0 : decode cL_neighbourOf 0 = .ok (.aload_n 0, 1) := by decide +kernel
theorem dL_neighbourOf_1 : decode cL_neighbourOf 1 = .ok (.iload_n 1, 1) := by decide +kernel
theorem dL_neighbourOf_2 : decode cL_neighbourOf 2 = .ok (.iload_n 2, 1) := by decide +kernel
theorem dL_neighbourOf_3 : decode cL_neighbourOf 3 = .ok (.invokevirtual 68, 3) := by decide +kernel
theorem dL_neighbourOf_6 : decode cL_neighbourOf 6 = .ok (.ireturn, 1) := by decide +kernel
theorem dL_neighbourOf_7 : decode cL_neighbourOf 7 = .ok (.astore_n 3, 1) := by decide +kernel
theorem dL_neighbourOf_8 : decode cL_neighbourOf 8 = .ok (.ldc 17, 2) := by decide +kernel
theorem dL_neighbourOf_10 : decode cL_neighbourOf 10 = .ok (.ireturn, 1) := by decide +kernel
theorem dL_neighbourOf_11 : decode cL_neighbourOf 11 = .ok (.astore_n 3, 1) := by decide +kernel
theorem dL_neighbourOf_12 : decode cL_neighbourOf 12 = .ok (.ldc 20, 2) := by decide +kernel
theorem dL_neighbourOf_14 : decode cL_neighbourOf 14 = .ok (.ireturn, 1) := by decide +kernel
theorem dL_choice_0 : decode cL_choice 0 = .ok (.aload_n 0, 1) := by decide +kernel
theorem dL_choice_1 : decode cL_choice 1 = .ok (.iload_n 1, 1) := by decide +kernel
theorem dL_choice_2 : decode cL_choice 2 = .ok (.iload_n 2, 1) := by decide +kernel
theorem dL_choice_3 : decode cL_choice 3 = .ok (.iload_n 3, 1) := by decide +kernel
theorem dL_choice_4 : decode cL_choice 4 = .ok (.invokevirtual 71, 3) := by decide +kernel
theorem dL_choice_7 : decode cL_choice 7 = .ok (.ireturn, 1) := by decide +kernel
theorem dL_choice_8 : decode cL_choice 8 = .ok (.astore 4, 2) := by decide +kernel
theorem dL_choice_10 : decode cL_choice 10 = .ok (.ldc 17, 2) := by decide +kernel
theorem dL_choice_12 : decode cL_choice 12 = .ok (.ireturn, 1) := by decide +kernel
theorem dL_choice_13 : decode cL_choice 13 = .ok (.astore 4, 2) := by decide +kernel
theorem dL_choice_15 : decode cL_choice 15 = .ok (.ldc 20, 2) := by decide +kernel
theorem dL_choice_17 : decode cL_choice 17 = .ok (.ireturn, 1) := by decide +kernel
theorem dL_why_0 : decode cL_why 0 = .ok (.aload_n 0, 1) := by decide +kernel
theorem dL_why_1 : decode cL_why 1 = .ok (.iload_n 1, 1) := by decide +kernel
theorem dL_why_2 : decode cL_why 2 = .ok (.iload_n 2, 1) := by decide +kernel
theorem dL_why_3 : decode cL_why 3 = .ok (.iload_n 3, 1) := by decide +kernel
theorem dL_why_4 : decode cL_why 4 = .ok (.invokevirtual 74, 3) := by decide +kernel
theorem dL_why_7 : decode cL_why 7 = .ok (.ireturn, 1) := by decide +kernel
theorem dL_why_8 : decode cL_why 8 = .ok (.astore 4, 2) := by decide +kernel
theorem dL_why_10 : decode cL_why 10 = .ok (.ldc 17, 2) := by decide +kernel
theorem dL_why_12 : decode cL_why 12 = .ok (.ireturn, 1) := by decide +kernel
theorem dL_count_0 : decode cL_count 0 = .ok (.aload_n 0, 1) := by decide +kernel
theorem dL_count_1 : decode cL_count 1 = .ok (.iload_n 1, 1) := by decide +kernel
theorem dL_count_2 : decode cL_count 2 = .ok (.invokevirtual 77, 3) := by decide +kernel
theorem dL_count_5 : decode cL_count 5 = .ok (.ireturn, 1) := by decide +kernel
theorem dL_count_6 : decode cL_count 6 = .ok (.astore_n 2, 1) := by decide +kernel
theorem dL_count_7 : decode cL_count 7 = .ok (.ldc 17, 2) := by decide +kernel
theorem dL_count_9 : decode cL_count 9 = .ok (.ireturn, 1) := by decide +kernel
theorem dL_ifRoad_0 : decode cL_ifRoad 0 = .ok (.aload_n 0, 1) := by decide +kernel
theorem dL_ifRoad_1 : decode cL_ifRoad 1 = .ok (.iload_n 1, 1) := by decide +kernel
theorem dL_ifRoad_2 : decode cL_ifRoad 2 = .ok (.iload_n 2, 1) := by decide +kernel
theorem dL_ifRoad_3 : decode cL_ifRoad 3 = .ok (.iload_n 3, 1) := by decide +kernel
theorem dL_ifRoad_4 : decode cL_ifRoad 4 = .ok (.invokevirtual 80, 3) := by decide +kernel
theorem dL_ifRoad_7 : decode cL_ifRoad 7 = .ok (.ireturn, 1) := by decide +kernel
theorem dL_ifRoad_8 : decode cL_ifRoad 8 = .ok (.astore 4, 2) := by decide +kernel
theorem dL_ifRoad_10 : decode cL_ifRoad 10 = .ok (.ldc 17, 2) := by decide +kernel
theorem dL_ifRoad_12 : decode cL_ifRoad 12 = .ok (.ireturn, 1) := by decide +kernel
theorem dL_ifRoad_13 : decode cL_ifRoad 13 = .ok (.astore 4, 2) := by decide +kernel
theorem dL_ifRoad_15 : decode cL_ifRoad 15 = .ok (.ldc 20, 2) := by decide +kernel
theorem dL_ifRoad_17 : decode cL_ifRoad 17 = .ok (.ireturn, 1) := by decide +kernel
theorem dL_idle_0 : decode cL_idle 0 = .ok (.aload_n 0, 1) := by decide +kernel
theorem dL_idle_1 : decode cL_idle 1 = .ok (.iload_n 1, 1) := by decide +kernel
theorem dL_idle_2 : decode cL_idle 2 = .ok (.iload_n 2, 1) := by decide +kernel
theorem dL_idle_3 : decode cL_idle 3 = .ok (.invokevirtual 83, 3) := by decide +kernel
theorem dL_idle_6 : decode cL_idle 6 = .ok (.ireturn, 1) := by decide +kernel
theorem dL_idle_7 : decode cL_idle 7 = .ok (.astore_n 3, 1) := by decide +kernel
theorem dL_idle_8 : decode cL_idle 8 = .ok (.ldc 17, 2) := by decide +kernel
theorem dL_idle_10 : decode cL_idle 10 = .ok (.ireturn, 1) := by decide +kernel
theorem dL_idle_11 : decode cL_idle 11 = .ok (.astore_n 3, 1) := by decide +kernel
theorem dL_idle_12 : decode cL_idle 12 = .ok (.ldc 20, 2) := by decide +kernel
theorem dL_idle_14 : decode cL_idle 14 = .ok (.ireturn, 1) := by decide +kernel
theorem dL_acts_0 : decode cL_acts 0 = .ok (.iload_n 1, 1) := by decide +kernel
theorem dL_acts_1 : decode cL_acts 1 = .ok (.bipush 16, 2) := by decide +kernel
theorem dL_acts_3 : decode cL_acts 3 = .ok (.idiv, 1) := by decide +kernel
theorem dL_acts_4 : decode cL_acts 4 = .ok (.istore_n 2, 1) := by decide +kernel
theorem dL_acts_5 : decode cL_acts 5 = .ok (.iload_n 1, 1) := by decide +kernel
theorem dL_acts_6 : decode cL_acts 6 = .ok (.bipush 16, 2) := by decide +kernel
theorem dL_acts_8 : decode cL_acts 8 = .ok (.irem, 1) := by decide +kernel
theorem dL_acts_9 : decode cL_acts 9 = .ok (.tableswitch 210 0 9 #[55, 55, 70, 70, 70, 90, 90, 120, 129, 168], 55) := by decide +kernel
theorem dL_acts_64 : decode cL_acts 64 = .ok (.aload_n 0, 1) := by decide +kernel
theorem dL_acts_65 : decode cL_acts 65 = .ok (.iload_n 2, 1) := by decide +kernel
theorem dL_acts_66 : decode cL_acts 66 = .ok (.bipush 8, 2) := by decide +kernel
theorem dL_acts_68 : decode cL_acts 68 = .ok (.irem, 1) := by decide +kernel
theorem dL_acts_69 : decode cL_acts 69 = .ok (.iload_n 2, 1) := by decide +kernel
theorem dL_acts_70 : decode cL_acts 70 = .ok (.bipush 8, 2) := by decide +kernel
theorem dL_acts_72 : decode cL_acts 72 = .ok (.idiv, 1) := by decide +kernel
theorem dL_acts_73 : decode cL_acts 73 = .ok (.iconst 4, 1) := by decide +kernel
theorem dL_acts_74 : decode cL_acts 74 = .ok (.irem, 1) := by decide +kernel
theorem dL_acts_75 : decode cL_acts 75 = .ok (.invokestatic 86, 3) := by decide +kernel
theorem dL_acts_78 : decode cL_acts 78 = .ok (.ireturn, 1) := by decide +kernel
theorem dL_acts_79 : decode cL_acts 79 = .ok (.aload_n 0, 1) := by decide +kernel
theorem dL_acts_80 : decode cL_acts 80 = .ok (.iload_n 2, 1) := by decide +kernel
theorem dL_acts_81 : decode cL_acts 81 = .ok (.iconst 4, 1) := by decide +kernel
theorem dL_acts_82 : decode cL_acts 82 = .ok (.irem, 1) := by decide +kernel
theorem dL_acts_83 : decode cL_acts 83 = .ok (.iload_n 2, 1) := by decide +kernel
theorem dL_acts_84 : decode cL_acts 84 = .ok (.iconst 4, 1) := by decide +kernel
theorem dL_acts_85 : decode cL_acts 85 = .ok (.idiv, 1) := by decide +kernel
theorem dL_acts_86 : decode cL_acts 86 = .ok (.iconst 4, 1) := by decide +kernel
theorem dL_acts_87 : decode cL_acts 87 = .ok (.irem, 1) := by decide +kernel
theorem dL_acts_88 : decode cL_acts 88 = .ok (.iload_n 2, 1) := by decide +kernel
theorem dL_acts_89 : decode cL_acts 89 = .ok (.bipush 16, 2) := by decide +kernel
theorem dL_acts_91 : decode cL_acts 91 = .ok (.idiv, 1) := by decide +kernel
theorem dL_acts_92 : decode cL_acts 92 = .ok (.bipush 6, 2) := by decide +kernel
theorem dL_acts_94 : decode cL_acts 94 = .ok (.irem, 1) := by decide +kernel
theorem dL_acts_95 : decode cL_acts 95 = .ok (.invokestatic 91, 3) := by decide +kernel
theorem dL_acts_98 : decode cL_acts 98 = .ok (.ireturn, 1) := by decide +kernel
theorem dL_acts_99 : decode cL_acts 99 = .ok (.aload_n 0, 1) := by decide +kernel
theorem dL_acts_100 : decode cL_acts 100 = .ok (.iload_n 2, 1) := by decide +kernel
theorem dL_acts_101 : decode cL_acts 101 = .ok (.bipush 8, 2) := by decide +kernel
theorem dL_acts_103 : decode cL_acts 103 = .ok (.irem, 1) := by decide +kernel
theorem dL_acts_104 : decode cL_acts 104 = .ok (.iload_n 2, 1) := by decide +kernel
theorem dL_acts_105 : decode cL_acts 105 = .ok (.iconst 1, 1) := by decide +kernel
theorem dL_acts_106 : decode cL_acts 106 = .ok (.iadd, 1) := by decide +kernel
theorem dL_acts_107 : decode cL_acts 107 = .ok (.iload_n 2, 1) := by decide +kernel
theorem dL_acts_108 : decode cL_acts 108 = .ok (.bipush 8, 2) := by decide +kernel
theorem dL_acts_110 : decode cL_acts 110 = .ok (.idiv, 1) := by decide +kernel
theorem dL_acts_111 : decode cL_acts 111 = .ok (.bipush 7, 2) := by decide +kernel
theorem dL_acts_113 : decode cL_acts 113 = .ok (.irem, 1) := by decide +kernel
theorem dL_acts_114 : decode cL_acts 114 = .ok (.iadd, 1) := by decide +kernel
theorem dL_acts_115 : decode cL_acts 115 = .ok (.bipush 8, 2) := by decide +kernel
theorem dL_acts_117 : decode cL_acts 117 = .ok (.irem, 1) := by decide +kernel
theorem dL_acts_118 : decode cL_acts 118 = .ok (.iload_n 2, 1) := by decide +kernel
theorem dL_acts_119 : decode cL_acts 119 = .ok (.bipush 64, 2) := by decide +kernel
theorem dL_acts_121 : decode cL_acts 121 = .ok (.idiv, 1) := by decide +kernel
theorem dL_acts_122 : decode cL_acts 122 = .ok (.bipush 40, 2) := by decide +kernel
theorem dL_acts_124 : decode cL_acts 124 = .ok (.irem, 1) := by decide +kernel
theorem dL_acts_125 : decode cL_acts 125 = .ok (.invokestatic 94, 3) := by decide +kernel
theorem dL_acts_128 : decode cL_acts 128 = .ok (.ireturn, 1) := by decide +kernel
theorem dL_acts_129 : decode cL_acts 129 = .ok (.aload_n 0, 1) := by decide +kernel
theorem dL_acts_130 : decode cL_acts 130 = .ok (.iload_n 2, 1) := by decide +kernel
theorem dL_acts_131 : decode cL_acts 131 = .ok (.bipush 8, 2) := by decide +kernel
theorem dL_acts_133 : decode cL_acts 133 = .ok (.irem, 1) := by decide +kernel
theorem dL_acts_134 : decode cL_acts 134 = .ok (.invokestatic 96, 3) := by decide +kernel
theorem dL_acts_137 : decode cL_acts 137 = .ok (.ireturn, 1) := by decide +kernel
theorem dL_acts_138 : decode cL_acts 138 = .ok (.iload_n 2, 1) := by decide +kernel
theorem dL_acts_139 : decode cL_acts 139 = .ok (.iconst 2, 1) := by decide +kernel
theorem dL_acts_140 : decode cL_acts 140 = .ok (.irem, 1) := by decide +kernel
theorem dL_acts_141 : decode cL_acts 141 = .ok (.ifCond .ne 20, 3) := by decide +kernel
theorem dL_acts_144 : decode cL_acts 144 = .ok (.aload_n 0, 1) := by decide +kernel
theorem dL_acts_145 : decode cL_acts 145 = .ok (.iload_n 2, 1) := by decide +kernel
theorem dL_acts_146 : decode cL_acts 146 = .ok (.iconst 2, 1) := by decide +kernel
theorem dL_acts_147 : decode cL_acts 147 = .ok (.idiv, 1) := by decide +kernel
theorem dL_acts_148 : decode cL_acts 148 = .ok (.iconst 2, 1) := by decide +kernel
theorem dL_acts_149 : decode cL_acts 149 = .ok (.irem, 1) := by decide +kernel
theorem dL_acts_150 : decode cL_acts 150 = .ok (.iload_n 2, 1) := by decide +kernel
theorem dL_acts_151 : decode cL_acts 151 = .ok (.iconst 4, 1) := by decide +kernel
theorem dL_acts_152 : decode cL_acts 152 = .ok (.idiv, 1) := by decide +kernel
theorem dL_acts_153 : decode cL_acts 153 = .ok (.iconst 2, 1) := by decide +kernel
theorem dL_acts_154 : decode cL_acts 154 = .ok (.irem, 1) := by decide +kernel
theorem dL_acts_155 : decode cL_acts 155 = .ok (.invokestatic 99, 3) := by decide +kernel
theorem dL_acts_158 : decode cL_acts 158 = .ok (.goto 18, 3) := by decide +kernel
theorem dL_acts_161 : decode cL_acts 161 = .ok (.aload_n 0, 1) := by decide +kernel
theorem dL_acts_162 : decode cL_acts 162 = .ok (.iload_n 2, 1) := by decide +kernel
theorem dL_acts_163 : decode cL_acts 163 = .ok (.iconst 2, 1) := by decide +kernel
theorem dL_acts_164 : decode cL_acts 164 = .ok (.idiv, 1) := by decide +kernel
theorem dL_acts_165 : decode cL_acts 165 = .ok (.iconst 4, 1) := by decide +kernel
theorem dL_acts_166 : decode cL_acts 166 = .ok (.irem, 1) := by decide +kernel
theorem dL_acts_167 : decode cL_acts 167 = .ok (.iload_n 2, 1) := by decide +kernel
theorem dL_acts_168 : decode cL_acts 168 = .ok (.bipush 8, 2) := by decide +kernel
theorem dL_acts_170 : decode cL_acts 170 = .ok (.idiv, 1) := by decide +kernel
theorem dL_acts_171 : decode cL_acts 171 = .ok (.iconst 4, 1) := by decide +kernel
theorem dL_acts_172 : decode cL_acts 172 = .ok (.irem, 1) := by decide +kernel
theorem dL_acts_173 : decode cL_acts 173 = .ok (.invokestatic 101, 3) := by decide +kernel
theorem dL_acts_176 : decode cL_acts 176 = .ok (.ireturn, 1) := by decide +kernel
theorem dL_acts_177 : decode cL_acts 177 = .ok (.iload_n 2, 1) := by decide +kernel
theorem dL_acts_178 : decode cL_acts 178 = .ok (.iconst 3, 1) := by decide +kernel
theorem dL_acts_179 : decode cL_acts 179 = .ok (.irem, 1) := by decide +kernel
theorem dL_acts_180 : decode cL_acts 180 = .ok (.ifCond .ne 10, 3) := by decide +kernel
theorem dL_acts_183 : decode cL_acts 183 = .ok (.aload_n 0, 1) := by decide +kernel
theorem dL_acts_184 : decode cL_acts 184 = .ok (.invokevirtual 103, 3) := by decide +kernel
theorem dL_acts_187 : decode cL_acts 187 = .ok (.goto 31, 3) := by decide +kernel
theorem dL_acts_190 : decode cL_acts 190 = .ok (.iload_n 2, 1) := by decide +kernel
theorem dL_acts_191 : decode cL_acts 191 = .ok (.iconst 3, 1) := by decide +kernel
theorem dL_acts_192 : decode cL_acts 192 = .ok (.irem, 1) := by decide +kernel
theorem dL_acts_193 : decode cL_acts 193 = .ok (.iconst 1, 1) := by decide +kernel
theorem dL_acts_194 : decode cL_acts 194 = .ok (.if_icmp .ne 15, 3) := by decide +kernel
theorem dL_acts_197 : decode cL_acts 197 = .ok (.aload_n 0, 1) := by decide +kernel
theorem dL_acts_198 : decode cL_acts 198 = .ok (.iload_n 2, 1) := by decide +kernel
theorem dL_acts_199 : decode cL_acts 199 = .ok (.iconst 3, 1) := by decide +kernel
theorem dL_acts_200 : decode cL_acts 200 = .ok (.idiv, 1) := by decide +kernel
theorem dL_acts_201 : decode cL_acts 201 = .ok (.iconst 2, 1) := by decide +kernel
theorem dL_acts_202 : decode cL_acts 202 = .ok (.irem, 1) := by decide +kernel
theorem dL_acts_203 : decode cL_acts 203 = .ok (.invokestatic 106, 3) := by decide +kernel
theorem dL_acts_206 : decode cL_acts 206 = .ok (.goto 12, 3) := by decide +kernel
theorem dL_acts_209 : decode cL_acts 209 = .ok (.aload_n 0, 1) := by decide +kernel
theorem dL_acts_210 : decode cL_acts 210 = .ok (.iload_n 2, 1) := by decide +kernel
theorem dL_acts_211 : decode cL_acts 211 = .ok (.iconst 3, 1) := by decide +kernel
theorem dL_acts_212 : decode cL_acts 212 = .ok (.idiv, 1) := by decide +kernel
theorem dL_acts_213 : decode cL_acts 213 = .ok (.iconst 2, 1) := by decide +kernel
theorem dL_acts_214 : decode cL_acts 214 = .ok (.irem, 1) := by decide +kernel
theorem dL_acts_215 : decode cL_acts 215 = .ok (.invokestatic 108, 3) := by decide +kernel
theorem dL_acts_218 : decode cL_acts 218 = .ok (.ireturn, 1) := by decide +kernel
theorem dL_acts_219 : decode cL_acts 219 = .ok (.aload_n 0, 1) := by decide +kernel
theorem dL_acts_220 : decode cL_acts 220 = .ok (.iload_n 2, 1) := by decide +kernel
theorem dL_acts_221 : decode cL_acts 221 = .ok (.bipush 8, 2) := by decide +kernel
theorem dL_acts_223 : decode cL_acts 223 = .ok (.irem, 1) := by decide +kernel
theorem dL_acts_224 : decode cL_acts 224 = .ok (.iload_n 2, 1) := by decide +kernel
theorem dL_acts_225 : decode cL_acts 225 = .ok (.bipush 8, 2) := by decide +kernel
theorem dL_acts_227 : decode cL_acts 227 = .ok (.idiv, 1) := by decide +kernel
theorem dL_acts_228 : decode cL_acts 228 = .ok (.iconst 4, 1) := by decide +kernel
theorem dL_acts_229 : decode cL_acts 229 = .ok (.irem, 1) := by decide +kernel
theorem dL_acts_230 : decode cL_acts 230 = .ok (.invokestatic 110, 3) := by decide +kernel
theorem dL_acts_233 : decode cL_acts 233 = .ok (.ireturn, 1) := by decide +kernel
theorem dL_ways_0 : decode cL_ways 0 = .ok (.aload_n 0, 1) := by decide +kernel
theorem dL_ways_1 : decode cL_ways 1 = .ok (.iload_n 1, 1) := by decide +kernel
theorem dL_ways_2 : decode cL_ways 2 = .ok (.iload_n 1, 1) := by decide +kernel
theorem dL_ways_3 : decode cL_ways 3 = .ok (.iconst 0, 1) := by decide +kernel
theorem dL_ways_4 : decode cL_ways 4 = .ok (.invokestatic 112, 3) := by decide +kernel
theorem dL_ways_7 : decode cL_ways 7 = .ok (.ifCond .ne 7, 3) := by decide +kernel
theorem dL_ways_10 : decode cL_ways 10 = .ok (.iconst 1, 1) := by decide +kernel
theorem dL_ways_11 : decode cL_ways 11 = .ok (.goto 4, 3) := by decide +kernel
theorem dL_ways_14 : decode cL_ways 14 = .ok (.iconst 0, 1) := by decide +kernel
theorem dL_ways_15 : decode cL_ways 15 = .ok (.istore_n 2, 1) := by decide +kernel
theorem dL_ways_16 : decode cL_ways 16 = .ok (.iconst 0, 1) := by decide +kernel
theorem dL_ways_17 : decode cL_ways 17 = .ok (.istore_n 3, 1) := by decide +kernel
theorem dL_ways_18 : decode cL_ways 18 = .ok (.iload_n 3, 1) := by decide +kernel
theorem dL_ways_19 : decode cL_ways 19 = .ok (.bipush 8, 2) := by decide +kernel
theorem dL_ways_21 : decode cL_ways 21 = .ok (.if_icmp .ge 165, 3) := by decide +kernel
theorem dL_ways_24 : decode cL_ways 24 = .ok (.iload_n 2, 1) := by decide +kernel
theorem dL_ways_25 : decode cL_ways 25 = .ok (.ifCond .eq 161, 3) := by decide +kernel
theorem dL_ways_28 : decode cL_ways 28 = .ok (.aload_n 0, 1) := by decide +kernel
theorem dL_ways_29 : decode cL_ways 29 = .ok (.iload_n 1, 1) := by decide +kernel
theorem dL_ways_30 : decode cL_ways 30 = .ok (.iload_n 3, 1) := by decide +kernel
theorem dL_ways_31 : decode cL_ways 31 = .ok (.iconst 0, 1) := by decide +kernel
theorem dL_ways_32 : decode cL_ways 32 = .ok (.invokestatic 112, 3) := by decide +kernel
theorem dL_ways_35 : decode cL_ways 35 = .ok (.istore 4, 2) := by decide +kernel
theorem dL_ways_37 : decode cL_ways 37 = .ok (.iload_n 1, 1) := by decide +kernel
theorem dL_ways_38 : decode cL_ways 38 = .ok (.iload_n 3, 1) := by decide +kernel
theorem dL_ways_39 : decode cL_ways 39 = .ok (.if_icmp .ne 7, 3) := by decide +kernel
theorem dL_ways_42 : decode cL_ways 42 = .ok (.iconst 0, 1) := by decide +kernel
theorem dL_ways_43 : decode cL_ways 43 = .ok (.goto 5, 3) := by decide +kernel
theorem dL_ways_46 : decode cL_ways 46 = .ok (.ldc 114, 2) := by decide +kernel
theorem dL_ways_48 : decode cL_ways 48 = .ok (.istore 5, 2) := by decide +kernel
theorem dL_ways_50 : decode cL_ways 50 = .ok (.iconst 0, 1) := by decide +kernel
theorem dL_ways_51 : decode cL_ways 51 = .ok (.istore 6, 2) := by decide +kernel
theorem dL_ways_53 : decode cL_ways 53 = .ok (.iload 6, 2) := by decide +kernel
theorem dL_ways_55 : decode cL_ways 55 = .ok (.bipush 8, 2) := by decide +kernel
theorem dL_ways_57 : decode cL_ways 57 = .ok (.if_icmp .ge 60, 3) := by decide +kernel
theorem dL_ways_60 : decode cL_ways 60 = .ok (.aload_n 0, 1) := by decide +kernel
theorem dL_ways_61 : decode cL_ways 61 = .ok (.iload 6, 2) := by decide +kernel
theorem dL_ways_63 : decode cL_ways 63 = .ok (.iload_n 3, 1) := by decide +kernel
theorem dL_ways_64 : decode cL_ways 64 = .ok (.invokestatic 115, 3) := by decide +kernel
theorem dL_ways_67 : decode cL_ways 67 = .ok (.istore 7, 2) := by decide +kernel
theorem dL_ways_69 : decode cL_ways 69 = .ok (.aload_n 0, 1) := by decide +kernel
theorem dL_ways_70 : decode cL_ways 70 = .ok (.iload_n 1, 1) := by decide +kernel
theorem dL_ways_71 : decode cL_ways 71 = .ok (.iload 6, 2) := by decide +kernel
theorem dL_ways_73 : decode cL_ways 73 = .ok (.iconst 1, 1) := by decide +kernel
theorem dL_ways_74 : decode cL_ways 74 = .ok (.invokestatic 112, 3) := by decide +kernel
theorem dL_ways_77 : decode cL_ways 77 = .ok (.istore 8, 2) := by decide +kernel
theorem dL_ways_79 : decode cL_ways 79 = .ok (.iload 7, 2) := by decide +kernel
theorem dL_ways_81 : decode cL_ways 81 = .ok (.ifCond .le 26, 3) := by decide +kernel
theorem dL_ways_84 : decode cL_ways 84 = .ok (.iload 8, 2) := by decide +kernel
theorem dL_ways_86 : decode cL_ways 86 = .ok (.ifCond .lt 21, 3) := by decide +kernel
theorem dL_ways_89 : decode cL_ways 89 = .ok (.iload 8, 2) := by decide +kernel
theorem dL_ways_91 : decode cL_ways 91 = .ok (.iload 7, 2) := by decide +kernel
theorem dL_ways_93 : decode cL_ways 93 = .ok (.iadd, 1) := by decide +kernel
theorem dL_ways_94 : decode cL_ways 94 = .ok (.iload 5, 2) := by decide +kernel
theorem dL_ways_96 : decode cL_ways 96 = .ok (.if_icmp .ge 11, 3) := by decide +kernel
theorem dL_ways_99 : decode cL_ways 99 = .ok (.iload 8, 2) := by decide +kernel
theorem dL_ways_101 : decode cL_ways 101 = .ok (.iload 7, 2) := by decide +kernel
theorem dL_ways_103 : decode cL_ways 103 = .ok (.iadd, 1) := by decide +kernel
theorem dL_ways_104 : decode cL_ways 104 = .ok (.goto 5, 3) := by decide +kernel
theorem dL_ways_107 : decode cL_ways 107 = .ok (.iload 5, 2) := by decide +kernel
theorem dL_ways_109 : decode cL_ways 109 = .ok (.istore 5, 2) := by decide +kernel
theorem dL_ways_111 : decode cL_ways 111 = .ok (.iinc 6 1, 3) := by decide +kernel
theorem dL_ways_114 : decode cL_ways 114 = .ok (.goto (-61), 3) := by decide +kernel
theorem dL_ways_117 : decode cL_ways 117 = .ok (.iload 4, 2) := by decide +kernel
theorem dL_ways_119 : decode cL_ways 119 = .ok (.aload_n 0, 1) := by decide +kernel
theorem dL_ways_120 : decode cL_ways 120 = .ok (.iload_n 1, 1) := by decide +kernel
theorem dL_ways_121 : decode cL_ways 121 = .ok (.iload_n 3, 1) := by decide +kernel
theorem dL_ways_122 : decode cL_ways 122 = .ok (.iconst 1, 1) := by decide +kernel
theorem dL_ways_123 : decode cL_ways 123 = .ok (.invokestatic 112, 3) := by decide +kernel
theorem dL_ways_126 : decode cL_ways 126 = .ok (.if_icmp .ne 52, 3) := by decide +kernel
theorem dL_ways_129 : decode cL_ways 129 = .ok (.iload 4, 2) := by decide +kernel
theorem dL_ways_131 : decode cL_ways 131 = .ok (.aload_n 0, 1) := by decide +kernel
theorem dL_ways_132 : decode cL_ways 132 = .ok (.iload_n 3, 1) := by decide +kernel
theorem dL_ways_133 : decode cL_ways 133 = .ok (.iload_n 1, 1) := by decide +kernel
theorem dL_ways_134 : decode cL_ways 134 = .ok (.iconst 0, 1) := by decide +kernel
theorem dL_ways_135 : decode cL_ways 135 = .ok (.invokestatic 112, 3) := by decide +kernel
theorem dL_ways_138 : decode cL_ways 138 = .ok (.if_icmp .ne 40, 3) := by decide +kernel
theorem dL_ways_141 : decode cL_ways 141 = .ok (.iload 4, 2) := by decide +kernel
theorem dL_ways_143 : decode cL_ways 143 = .ok (.iload 5, 2) := by decide +kernel
theorem dL_ways_145 : decode cL_ways 145 = .ok (.ldc 114, 2) := by decide +kernel
theorem dL_ways_147 : decode cL_ways 147 = .ok (.if_icmp .ne 7, 3) := by decide +kernel
theorem dL_ways_150 : decode cL_ways 150 = .ok (.iconst (-1), 1) := by decide +kernel
theorem dL_ways_151 : decode cL_ways 151 = .ok (.goto 5, 3) := by decide +kernel
theorem dL_ways_154 : decode cL_ways 154 = .ok (.iload 5, 2) := by decide +kernel
theorem dL_ways_156 : decode cL_ways 156 = .ok (.if_icmp .ne 22, 3) := by decide +kernel
theorem dL_ways_159 : decode cL_ways 159 = .ok (.aload_n 0, 1) := by decide +kernel
theorem dL_ways_160 : decode cL_ways 160 = .ok (.iload_n 1, 1) := by decide +kernel
theorem dL_ways_161 : decode cL_ways 161 = .ok (.iload_n 3, 1) := by decide +kernel
theorem dL_ways_162 : decode cL_ways 162 = .ok (.invokestatic 115, 3) := by decide +kernel
theorem dL_ways_165 : decode cL_ways 165 = .ok (.aload_n 0, 1) := by decide +kernel
theorem dL_ways_166 : decode cL_ways 166 = .ok (.iload_n 3, 1) := by decide +kernel
theorem dL_ways_167 : decode cL_ways 167 = .ok (.iload_n 1, 1) := by decide +kernel
theorem dL_ways_168 : decode cL_ways 168 = .ok (.invokestatic 115, 3) := by decide +kernel
theorem dL_ways_171 : decode cL_ways 171 = .ok (.if_icmp .ne 7, 3) := by decide +kernel
theorem dL_ways_174 : decode cL_ways 174 = .ok (.iconst 1, 1) := by decide +kernel
theorem dL_ways_175 : decode cL_ways 175 = .ok (.goto 4, 3) := by decide +kernel
theorem dL_ways_178 : decode cL_ways 178 = .ok (.iconst 0, 1) := by decide +kernel
theorem dL_ways_179 : decode cL_ways 179 = .ok (.istore_n 2, 1) := by decide +kernel
theorem dL_ways_180 : decode cL_ways 180 = .ok (.iinc 3 1, 3) := by decide +kernel
theorem dL_ways_183 : decode cL_ways 183 = .ok (.goto (-165), 3) := by decide +kernel
theorem dL_ways_186 : decode cL_ways 186 = .ok (.iload_n 2, 1) := by decide +kernel
theorem dL_ways_187 : decode cL_ways 187 = .ok (.ireturn, 1) := by decide +kernel
theorem dL_choices_0 : decode cL_choices 0 = .ok (.aload_n 0, 1) := by decide +kernel
theorem dL_choices_1 : decode cL_choices 1 = .ok (.iconst 1, 1) := by decide +kernel
theorem dL_choices_2 : decode cL_choices 2 = .ok (.invokestatic 117, 3) := by decide +kernel
theorem dL_choices_5 : decode cL_choices 5 = .ok (.istore_n 3, 1) := by decide +kernel
theorem dL_choices_6 : decode cL_choices 6 = .ok (.aload_n 0, 1) := by decide +kernel
theorem dL_choices_7 : decode cL_choices 7 = .ok (.iload_n 1, 1) := by decide +kernel
theorem dL_choices_8 : decode cL_choices 8 = .ok (.iload_n 2, 1) := by decide +kernel
theorem dL_choices_9 : decode cL_choices 9 = .ok (.iconst 0, 1) := by decide +kernel
theorem dL_choices_10 : decode cL_choices 10 = .ok (.invokestatic 119, 3) := by decide +kernel
theorem dL_choices_13 : decode cL_choices 13 = .ok (.istore 4, 2) := by decide +kernel
theorem dL_choices_15 : decode cL_choices 15 = .ok (.iconst 0, 1) := by decide +kernel
theorem dL_choices_16 : decode cL_choices 16 = .ok (.istore 5, 2) := by decide +kernel
theorem dL_choices_18 : decode cL_choices 18 = .ok (.iconst 0, 1) := by decide +kernel
theorem dL_choices_19 : decode cL_choices 19 = .ok (.istore 6, 2) := by decide +kernel
theorem dL_choices_21 : decode cL_choices 21 = .ok (.aload_n 0, 1) := by decide +kernel
theorem dL_choices_22 : decode cL_choices 22 = .ok (.invokestatic 121, 3) := by decide +kernel
theorem dL_choices_25 : decode cL_choices 25 = .ok (.ifCond .ne 7, 3) := by decide +kernel
theorem dL_choices_28 : decode cL_choices 28 = .ok (.iconst 1, 1) := by decide +kernel
theorem dL_choices_29 : decode cL_choices 29 = .ok (.goto 4, 3) := by decide +kernel
theorem dL_choices_32 : decode cL_choices 32 = .ok (.iconst 0, 1) := by decide +kernel
theorem dL_choices_33 : decode cL_choices 33 = .ok (.istore 7, 2) := by decide +kernel
theorem dL_choices_35 : decode cL_choices 35 = .ok (.iload 4, 2) := by decide +kernel
theorem dL_choices_37 : decode cL_choices 37 = .ok (.iconst (-1), 1) := by decide +kernel
theorem dL_choices_38 : decode cL_choices 38 = .ok (.if_icmp .lt 13, 3) := by decide +kernel
theorem dL_choices_41 : decode cL_choices 41 = .ok (.iload 4, 2) := by decide +kernel
theorem dL_choices_43 : decode cL_choices 43 = .ok (.iload_n 3, 1) := by decide +kernel
theorem dL_choices_44 : decode cL_choices 44 = .ok (.if_icmp .ge 7, 3) := by decide +kernel
theorem dL_choices_47 : decode cL_choices 47 = .ok (.iconst 1, 1) := by decide +kernel
theorem dL_choices_48 : decode cL_choices 48 = .ok (.goto 4, 3) := by decide +kernel
theorem dL_choices_51 : decode cL_choices 51 = .ok (.iconst 0, 1) := by decide +kernel
theorem dL_choices_52 : decode cL_choices 52 = .ok (.istore 8, 2) := by decide +kernel
theorem dL_choices_54 : decode cL_choices 54 = .ok (.iconst 0, 1) := by decide +kernel
theorem dL_choices_55 : decode cL_choices 55 = .ok (.istore 9, 2) := by decide +kernel
theorem dL_choices_57 : decode cL_choices 57 = .ok (.iload 9, 2) := by decide +kernel
theorem dL_choices_59 : decode cL_choices 59 = .ok (.iload_n 3, 1) := by decide +kernel
theorem dL_choices_60 : decode cL_choices 60 = .ok (.if_icmp .ge 390, 3) := by decide +kernel
theorem dL_choices_63 : decode cL_choices 63 = .ok (.iload 8, 2) := by decide +kernel
theorem dL_choices_65 : decode cL_choices 65 = .ok (.ifCond .eq 385, 3) := by decide +kernel
theorem dL_choices_68 : decode cL_choices 68 = .ok (.aload_n 0, 1) := by decide +kernel
theorem dL_choices_69 : decode cL_choices 69 = .ok (.iload_n 1, 1) := by decide +kernel
theorem dL_choices_70 : decode cL_choices 70 = .ok (.aload_n 0, 1) := by decide +kernel
theorem dL_choices_71 : decode cL_choices 71 = .ok (.iload 9, 2) := by decide +kernel
theorem dL_choices_73 : decode cL_choices 73 = .ok (.iconst 0, 1) := by decide +kernel
theorem dL_choices_74 : decode cL_choices 74 = .ok (.invokestatic 125, 3) := by decide +kernel
theorem dL_choices_77 : decode cL_choices 77 = .ok (.iconst 0, 1) := by decide +kernel
theorem dL_choices_78 : decode cL_choices 78 = .ok (.invokestatic 112, 3) := by decide +kernel
theorem dL_choices_81 : decode cL_choices 81 = .ok (.istore 10, 2) := by decide +kernel
theorem dL_choices_83 : decode cL_choices 83 = .ok (.aload_n 0, 1) := by decide +kernel
theorem dL_choices_84 : decode cL_choices 84 = .ok (.aload_n 0, 1) := by decide +kernel
theorem dL_choices_85 : decode cL_choices 85 = .ok (.iload 9, 2) := by decide +kernel
theorem dL_choices_87 : decode cL_choices 87 = .ok (.iconst 1, 1) := by decide +kernel
theorem dL_choices_88 : decode cL_choices 88 = .ok (.invokestatic 125, 3) := by decide +kernel
theorem dL_choices_91 : decode cL_choices 91 = .ok (.iload_n 2, 1) := by decide +kernel
theorem dL_choices_92 : decode cL_choices 92 = .ok (.invokestatic 127, 3) := by decide +kernel
theorem dL_choices_95 : decode cL_choices 95 = .ok (.istore 11, 2) := by decide +kernel
theorem dL_choices_97 : decode cL_choices 97 = .ok (.aload_n 0, 1) := by decide +kernel
theorem dL_choices_98 : decode cL_choices 98 = .ok (.iload_n 1, 1) := by decide +kernel
theorem dL_choices_99 : decode cL_choices 99 = .ok (.iload_n 2, 1) := by decide +kernel
theorem dL_choices_100 : decode cL_choices 100 = .ok (.iload 9, 2) := by decide +kernel
theorem dL_choices_102 : decode cL_choices 102 = .ok (.invokestatic 129, 3) := by decide +kernel
theorem dL_choices_105 : decode cL_choices 105 = .ok (.istore 12, 2) := by decide +kernel
theorem dL_choices_107 : decode cL_choices 107 = .ok (.aload_n 0, 1) := by decide +kernel
theorem dL_choices_108 : decode cL_choices 108 = .ok (.iload 9, 2) := by decide +kernel
theorem dL_choices_110 : decode cL_choices 110 = .ok (.iconst 2, 1) := by decide +kernel
theorem dL_choices_111 : decode cL_choices 111 = .ok (.invokestatic 125, 3) := by decide +kernel
theorem dL_choices_114 : decode cL_choices 114 = .ok (.iconst 1, 1) := by decide +kernel
theorem dL_choices_115 : decode cL_choices 115 = .ok (.if_icmp .ne 17, 3) := by decide +kernel
theorem dL_choices_118 : decode cL_choices 118 = .ok (.iload 11, 2) := by decide +kernel
theorem dL_choices_120 : decode cL_choices 120 = .ok (.ifCond .le 12, 3) := by decide +kernel
theorem dL_choices_123 : decode cL_choices 123 = .ok (.iload 10, 2) := by decide +kernel
theorem dL_choices_125 : decode cL_choices 125 = .ok (.ifCond .lt 7, 3) := by decide +kernel
theorem dL_choices_128 : decode cL_choices 128 = .ok (.iconst 1, 1) := by decide +kernel
theorem dL_choices_129 : decode cL_choices 129 = .ok (.goto 4, 3) := by decide +kernel
theorem dL_choices_132 : decode cL_choices 132 = .ok (.iconst 0, 1) := by decide +kernel
theorem dL_choices_133 : decode cL_choices 133 = .ok (.istore 13, 2) := by decide +kernel
theorem dL_choices_135 : decode cL_choices 135 = .ok (.iload 6, 2) := by decide +kernel
theorem dL_choices_137 : decode cL_choices 137 = .ok (.iload 13, 2) := by decide +kernel
theorem dL_choices_139 : decode cL_choices 139 = .ok (.ifCond .eq 7, 3) := by decide +kernel
theorem dL_choices_142 : decode cL_choices 142 = .ok (.iconst 1, 1) := by decide +kernel
theorem dL_choices_143 : decode cL_choices 143 = .ok (.goto 4, 3) := by decide +kernel
theorem dL_choices_146 : decode cL_choices 146 = .ok (.iconst 0, 1) := by decide +kernel
theorem dL_choices_147 : decode cL_choices 147 = .ok (.iadd, 1) := by decide +kernel
theorem dL_choices_148 : decode cL_choices 148 = .ok (.istore 6, 2) := by decide +kernel
theorem dL_choices_150 : decode cL_choices 150 = .ok (.iload 5, 2) := by decide +kernel
theorem dL_choices_152 : decode cL_choices 152 = .ok (.iload 12, 2) := by decide +kernel
theorem dL_choices_154 : decode cL_choices 154 = .ok (.ifCond .eq 10, 3) := by decide +kernel
theorem dL_choices_157 : decode cL_choices 157 = .ok (.iload 12, 2) := by decide +kernel
theorem dL_choices_159 : decode cL_choices 159 = .ok (.bipush 6, 2) := by decide +kernel
theorem dL_choices_161 : decode cL_choices 161 = .ok (.if_icmp .ne 7, 3) := by decide +kernel
theorem dL_choices_164 : decode cL_choices 164 = .ok (.iconst 1, 1) := by decide +kernel
theorem dL_choices_165 : decode cL_choices 165 = .ok (.goto 4, 3) := by decide +kernel
theorem dL_choices_168 : decode cL_choices 168 = .ok (.iconst 0, 1) := by decide +kernel
theorem dL_choices_169 : decode cL_choices 169 = .ok (.iadd, 1) := by decide +kernel
theorem dL_choices_170 : decode cL_choices 170 = .ok (.istore 5, 2) := by decide +kernel
theorem dL_choices_172 : decode cL_choices 172 = .ok (.iload 12, 2) := by decide +kernel
theorem dL_choices_174 : decode cL_choices 174 = .ok (.ifCond .ne 7, 3) := by decide +kernel
theorem dL_choices_177 : decode cL_choices 177 = .ok (.iconst 1, 1) := by decide +kernel
theorem dL_choices_178 : decode cL_choices 178 = .ok (.goto 4, 3) := by decide +kernel
theorem dL_choices_181 : decode cL_choices 181 = .ok (.iconst 0, 1) := by decide +kernel
theorem dL_choices_182 : decode cL_choices 182 = .ok (.iload 9, 2) := by decide +kernel
theorem dL_choices_184 : decode cL_choices 184 = .ok (.iload 4, 2) := by decide +kernel
theorem dL_choices_186 : decode cL_choices 186 = .ok (.if_icmp .ne 7, 3) := by decide +kernel
theorem dL_choices_189 : decode cL_choices 189 = .ok (.iconst 1, 1) := by decide +kernel
theorem dL_choices_190 : decode cL_choices 190 = .ok (.goto 4, 3) := by decide +kernel
theorem dL_choices_193 : decode cL_choices 193 = .ok (.iconst 0, 1) := by decide +kernel
theorem dL_choices_194 : decode cL_choices 194 = .ok (.if_icmp .ne 55, 3) := by decide +kernel
theorem dL_choices_197 : decode cL_choices 197 = .ok (.iload 13, 2) := by decide +kernel
theorem dL_choices_199 : decode cL_choices 199 = .ok (.ifCond .eq 17, 3) := by decide +kernel
theorem dL_choices_202 : decode cL_choices 202 = .ok (.iload 12, 2) := by decide +kernel
theorem dL_choices_204 : decode cL_choices 204 = .ok (.ifCond .eq 41, 3) := by decide +kernel
theorem dL_choices_207 : decode cL_choices 207 = .ok (.iload 12, 2) := by decide +kernel
theorem dL_choices_209 : decode cL_choices 209 = .ok (.iconst 3, 1) := by decide +kernel
theorem dL_choices_210 : decode cL_choices 210 = .ok (.if_icmp .le 39, 3) := by decide +kernel
theorem dL_choices_213 : decode cL_choices 213 = .ok (.goto 32, 3) := by decide +kernel
theorem dL_choices_216 : decode cL_choices 216 = .ok (.iload 12, 2) := by decide +kernel
theorem dL_choices_218 : decode cL_choices 218 = .ok (.aload_n 0, 1) := by decide +kernel
theorem dL_choices_219 : decode cL_choices 219 = .ok (.iload 9, 2) := by decide +kernel
theorem dL_choices_221 : decode cL_choices 221 = .ok (.iconst 2, 1) := by decide +kernel
theorem dL_choices_222 : decode cL_choices 222 = .ok (.invokestatic 125, 3) := by decide +kernel
theorem dL_choices_225 : decode cL_choices 225 = .ok (.ifCond .ne 7, 3) := by decide +kernel
theorem dL_choices_228 : decode cL_choices 228 = .ok (.iconst 1, 1) := by decide +kernel
theorem dL_choices_229 : decode cL_choices 229 = .ok (.goto 13, 3) := by decide +kernel
theorem dL_choices_232 : decode cL_choices 232 = .ok (.iload 11, 2) := by decide +kernel
theorem dL_choices_234 : decode cL_choices 234 = .ok (.ifCond .ne 7, 3) := by decide +kernel
theorem dL_choices_237 : decode cL_choices 237 = .ok (.iconst 2, 1) := by decide +kernel
theorem dL_choices_238 : decode cL_choices 238 = .ok (.goto 4, 3) := by decide +kernel
theorem dL_choices_241 : decode cL_choices 241 = .ok (.iconst 3, 1) := by decide +kernel
theorem dL_choices_242 : decode cL_choices 242 = .ok (.if_icmp .ne 7, 3) := by decide +kernel
theorem dL_choices_245 : decode cL_choices 245 = .ok (.iconst 1, 1) := by decide +kernel
theorem dL_choices_246 : decode cL_choices 246 = .ok (.goto 4, 3) := by decide +kernel
theorem dL_choices_249 : decode cL_choices 249 = .ok (.iconst 0, 1) := by decide +kernel
theorem dL_choices_250 : decode cL_choices 250 = .ok (.istore 8, 2) := by decide +kernel
theorem dL_choices_252 : decode cL_choices 252 = .ok (.iload 8, 2) := by decide +kernel
theorem dL_choices_254 : decode cL_choices 254 = .ok (.ifCond .eq 190, 3) := by decide +kernel
theorem dL_choices_257 : decode cL_choices 257 = .ok (.iload 13, 2) := by decide +kernel
theorem dL_choices_259 : decode cL_choices 259 = .ok (.ifCond .eq 185, 3) := by decide +kernel
theorem dL_choices_262 : decode cL_choices 262 = .ok (.aload_n 0, 1) := by decide +kernel
theorem dL_choices_263 : decode cL_choices 263 = .ok (.iload_n 1, 1) := by decide +kernel
theorem dL_choices_264 : decode cL_choices 264 = .ok (.aload_n 0, 1) := by decide +kernel
theorem dL_choices_265 : decode cL_choices 265 = .ok (.iload 4, 2) := by decide +kernel
theorem dL_choices_267 : decode cL_choices 267 = .ok (.iconst 0, 1) := by decide +kernel
theorem dL_choices_268 : decode cL_choices 268 = .ok (.invokestatic 125, 3) := by decide +kernel
theorem dL_choices_271 : decode cL_choices 271 = .ok (.iconst 0, 1) := by decide +kernel
theorem dL_choices_272 : decode cL_choices 272 = .ok (.invokestatic 112, 3) := by decide +kernel
theorem dL_choices_275 : decode cL_choices 275 = .ok (.istore 14, 2) := by decide +kernel
theorem dL_choices_277 : decode cL_choices 277 = .ok (.aload_n 0, 1) := by decide +kernel
theorem dL_choices_278 : decode cL_choices 278 = .ok (.aload_n 0, 1) := by decide +kernel
theorem dL_choices_279 : decode cL_choices 279 = .ok (.iload 4, 2) := by decide +kernel
theorem dL_choices_281 : decode cL_choices 281 = .ok (.iconst 1, 1) := by decide +kernel
theorem dL_choices_282 : decode cL_choices 282 = .ok (.invokestatic 125, 3) := by decide +kernel
theorem dL_choices_285 : decode cL_choices 285 = .ok (.iload_n 2, 1) := by decide +kernel
theorem dL_choices_286 : decode cL_choices 286 = .ok (.invokestatic 127, 3) := by decide +kernel
theorem dL_choices_289 : decode cL_choices 289 = .ok (.istore 15, 2) := by decide +kernel
theorem dL_choices_291 : decode cL_choices 291 = .ok (.iload 7, 2) := by decide +kernel
theorem dL_choices_293 : decode cL_choices 293 = .ok (.ifCond .eq 18, 3) := by decide +kernel
theorem dL_choices_296 : decode cL_choices 296 = .ok (.iload 11, 2) := by decide +kernel
theorem dL_choices_298 : decode cL_choices 298 = .ok (.iload 15, 2) := by decide +kernel
theorem dL_choices_300 : decode cL_choices 300 = .ok (.if_icmp .le 7, 3) := by decide +kernel
theorem dL_choices_303 : decode cL_choices 303 = .ok (.iconst 1, 1) := by decide +kernel
theorem dL_choices_304 : decode cL_choices 304 = .ok (.goto 19, 3) := by decide +kernel
theorem dL_choices_307 : decode cL_choices 307 = .ok (.iconst 0, 1) := by decide +kernel
theorem dL_choices_308 : decode cL_choices 308 = .ok (.goto 15, 3) := by decide +kernel
theorem dL_choices_311 : decode cL_choices 311 = .ok (.iload 10, 2) := by decide +kernel
theorem dL_choices_313 : decode cL_choices 313 = .ok (.iload 14, 2) := by decide +kernel
theorem dL_choices_315 : decode cL_choices 315 = .ok (.if_icmp .le 7, 3) := by decide +kernel
theorem dL_choices_318 : decode cL_choices 318 = .ok (.iconst 1, 1) := by decide +kernel
theorem dL_choices_319 : decode cL_choices 319 = .ok (.goto 4, 3) := by decide +kernel
theorem dL_choices_322 : decode cL_choices 322 = .ok (.iconst 0, 1) := by decide +kernel
theorem dL_choices_323 : decode cL_choices 323 = .ok (.istore 16, 2) := by decide +kernel
theorem dL_choices_325 : decode cL_choices 325 = .ok (.iload 7, 2) := by decide +kernel
theorem dL_choices_327 : decode cL_choices 327 = .ok (.ifCond .eq 25, 3) := by decide +kernel
theorem dL_choices_330 : decode cL_choices 330 = .ok (.iload 11, 2) := by decide +kernel
theorem dL_choices_332 : decode cL_choices 332 = .ok (.iload 15, 2) := by decide +kernel
theorem dL_choices_334 : decode cL_choices 334 = .ok (.if_icmp .ne 14, 3) := by decide +kernel
theorem dL_choices_337 : decode cL_choices 337 = .ok (.iload 10, 2) := by decide +kernel
theorem dL_choices_339 : decode cL_choices 339 = .ok (.iload 14, 2) := by decide +kernel
theorem dL_choices_341 : decode cL_choices 341 = .ok (.if_icmp .le 7, 3) := by decide +kernel
theorem dL_choices_344 : decode cL_choices 344 = .ok (.iconst 1, 1) := by decide +kernel
theorem dL_choices_345 : decode cL_choices 345 = .ok (.goto 26, 3) := by decide +kernel
theorem dL_choices_348 : decode cL_choices 348 = .ok (.iconst 0, 1) := by decide +kernel
theorem dL_choices_349 : decode cL_choices 349 = .ok (.goto 22, 3) := by decide +kernel
theorem dL_choices_352 : decode cL_choices 352 = .ok (.iload 10, 2) := by decide +kernel
theorem dL_choices_354 : decode cL_choices 354 = .ok (.iload 14, 2) := by decide +kernel
theorem dL_choices_356 : decode cL_choices 356 = .ok (.if_icmp .ne 14, 3) := by decide +kernel
theorem dL_choices_359 : decode cL_choices 359 = .ok (.iload 11, 2) := by decide +kernel
theorem dL_choices_361 : decode cL_choices 361 = .ok (.iload 15, 2) := by decide +kernel
theorem dL_choices_363 : decode cL_choices 363 = .ok (.if_icmp .le 7, 3) := by decide +kernel
theorem dL_choices_366 : decode cL_choices 366 = .ok (.iconst 1, 1) := by decide +kernel
theorem dL_choices_367 : decode cL_choices 367 = .ok (.goto 4, 3) := by decide +kernel
theorem dL_choices_370 : decode cL_choices 370 = .ok (.iconst 0, 1) := by decide +kernel
theorem dL_choices_371 : decode cL_choices 371 = .ok (.istore 17, 2) := by decide +kernel
theorem dL_choices_373 : decode cL_choices 373 = .ok (.iload 16, 2) := by decide +kernel
theorem dL_choices_375 : decode cL_choices 375 = .ok (.ifCond .eq 17, 3) := by decide +kernel
theorem dL_choices_378 : decode cL_choices 378 = .ok (.iload 12, 2) := by decide +kernel
theorem dL_choices_380 : decode cL_choices 380 = .ok (.iconst 4, 1) := by decide +kernel
theorem dL_choices_381 : decode cL_choices 381 = .ok (.if_icmp .ne 7, 3) := by decide +kernel
theorem dL_choices_384 : decode cL_choices 384 = .ok (.iconst 1, 1) := by decide +kernel
theorem dL_choices_385 : decode cL_choices 385 = .ok (.goto 57, 3) := by decide +kernel
theorem dL_choices_388 : decode cL_choices 388 = .ok (.iconst 0, 1) := by decide +kernel
theorem dL_choices_389 : decode cL_choices 389 = .ok (.goto 53, 3) := by decide +kernel
theorem dL_choices_392 : decode cL_choices 392 = .ok (.iload 17, 2) := by decide +kernel
theorem dL_choices_394 : decode cL_choices 394 = .ok (.ifCond .eq 17, 3) := by decide +kernel
theorem dL_choices_397 : decode cL_choices 397 = .ok (.iload 12, 2) := by decide +kernel
theorem dL_choices_399 : decode cL_choices 399 = .ok (.iconst 5, 1) := by decide +kernel
theorem dL_choices_400 : decode cL_choices 400 = .ok (.if_icmp .ne 7, 3) := by decide +kernel
theorem dL_choices_403 : decode cL_choices 403 = .ok (.iconst 1, 1) := by decide +kernel
theorem dL_choices_404 : decode cL_choices 404 = .ok (.goto 38, 3) := by decide +kernel
theorem dL_choices_407 : decode cL_choices 407 = .ok (.iconst 0, 1) := by decide +kernel
theorem dL_choices_408 : decode cL_choices 408 = .ok (.goto 34, 3) := by decide +kernel
theorem dL_choices_411 : decode cL_choices 411 = .ok (.iload 11, 2) := by decide +kernel
theorem dL_choices_413 : decode cL_choices 413 = .ok (.iload 15, 2) := by decide +kernel
theorem dL_choices_415 : decode cL_choices 415 = .ok (.if_icmp .ne 26, 3) := by decide +kernel
theorem dL_choices_418 : decode cL_choices 418 = .ok (.iload 10, 2) := by decide +kernel
theorem dL_choices_420 : decode cL_choices 420 = .ok (.iload 14, 2) := by decide +kernel
theorem dL_choices_422 : decode cL_choices 422 = .ok (.if_icmp .ne 19, 3) := by decide +kernel
theorem dL_choices_425 : decode cL_choices 425 = .ok (.iload 12, 2) := by decide +kernel
theorem dL_choices_427 : decode cL_choices 427 = .ok (.ifCond .eq 10, 3) := by decide +kernel
theorem dL_choices_430 : decode cL_choices 430 = .ok (.iload 12, 2) := by decide +kernel
theorem dL_choices_432 : decode cL_choices 432 = .ok (.bipush 6, 2) := by decide +kernel
theorem dL_choices_434 : decode cL_choices 434 = .ok (.if_icmp .ne 7, 3) := by decide +kernel
theorem dL_choices_437 : decode cL_choices 437 = .ok (.iconst 1, 1) := by decide +kernel
theorem dL_choices_438 : decode cL_choices 438 = .ok (.goto 4, 3) := by decide +kernel
theorem dL_choices_441 : decode cL_choices 441 = .ok (.iconst 0, 1) := by decide +kernel
theorem dL_choices_442 : decode cL_choices 442 = .ok (.istore 8, 2) := by decide +kernel
theorem dL_choices_444 : decode cL_choices 444 = .ok (.iinc 9 1, 3) := by decide +kernel
theorem dL_choices_447 : decode cL_choices 447 = .ok (.goto (-390), 3) := by decide +kernel
theorem dL_choices_450 : decode cL_choices 450 = .ok (.aload_n 0, 1) := by decide +kernel
theorem dL_choices_451 : decode cL_choices 451 = .ok (.iload_n 1, 1) := by decide +kernel
theorem dL_choices_452 : decode cL_choices 452 = .ok (.iload_n 2, 1) := by decide +kernel
theorem dL_choices_453 : decode cL_choices 453 = .ok (.iconst 5, 1) := by decide +kernel
theorem dL_choices_454 : decode cL_choices 454 = .ok (.invokestatic 119, 3) := by decide +kernel
theorem dL_choices_457 : decode cL_choices 457 = .ok (.istore 9, 2) := by decide +kernel
theorem dL_choices_459 : decode cL_choices 459 = .ok (.aload_n 0, 1) := by decide +kernel
theorem dL_choices_460 : decode cL_choices 460 = .ok (.iload_n 1, 1) := by decide +kernel
theorem dL_choices_461 : decode cL_choices 461 = .ok (.iload_n 2, 1) := by decide +kernel
theorem dL_choices_462 : decode cL_choices 462 = .ok (.iconst 1, 1) := by decide +kernel
theorem dL_choices_463 : decode cL_choices 463 = .ok (.invokestatic 119, 3) := by decide +kernel
theorem dL_choices_466 : decode cL_choices 466 = .ok (.istore 10, 2) := by decide +kernel
theorem dL_choices_468 : decode cL_choices 468 = .ok (.iload 8, 2) := by decide +kernel
theorem dL_choices_470 : decode cL_choices 470 = .ok (.ifCond .eq 117, 3) := by decide +kernel
theorem dL_choices_473 : decode cL_choices 473 = .ok (.iload 5, 2) := by decide +kernel
theorem dL_choices_475 : decode cL_choices 475 = .ok (.aload_n 0, 1) := by decide +kernel
theorem dL_choices_476 : decode cL_choices 476 = .ok (.iload_n 1, 1) := by decide +kernel
theorem dL_choices_477 : decode cL_choices 477 = .ok (.iload_n 2, 1) := by decide +kernel
theorem dL_choices_478 : decode cL_choices 478 = .ok (.iconst 2, 1) := by decide +kernel
theorem dL_choices_479 : decode cL_choices 479 = .ok (.invokestatic 119, 3) := by decide +kernel
theorem dL_choices_482 : decode cL_choices 482 = .ok (.if_icmp .ne 105, 3) := by decide +kernel
theorem dL_choices_485 : decode cL_choices 485 = .ok (.iload 6, 2) := by decide +kernel
theorem dL_choices_487 : decode cL_choices 487 = .ok (.aload_n 0, 1) := by decide +kernel
theorem dL_choices_488 : decode cL_choices 488 = .ok (.iload_n 1, 1) := by decide +kernel
theorem dL_choices_489 : decode cL_choices 489 = .ok (.iload_n 2, 1) := by decide +kernel
theorem dL_choices_490 : decode cL_choices 490 = .ok (.iconst 3, 1) := by decide +kernel
theorem dL_choices_491 : decode cL_choices 491 = .ok (.invokestatic 119, 3) := by decide +kernel
theorem dL_choices_494 : decode cL_choices 494 = .ok (.if_icmp .ne 93, 3) := by decide +kernel
theorem dL_choices_497 : decode cL_choices 497 = .ok (.iload 4, 2) := by decide +kernel
theorem dL_choices_499 : decode cL_choices 499 = .ok (.iconst (-1), 1) := by decide +kernel
theorem dL_choices_500 : decode cL_choices 500 = .ok (.if_icmp .ne 7, 3) := by decide +kernel
theorem dL_choices_503 : decode cL_choices 503 = .ok (.iconst 1, 1) := by decide +kernel
theorem dL_choices_504 : decode cL_choices 504 = .ok (.goto 4, 3) := by decide +kernel
theorem dL_choices_507 : decode cL_choices 507 = .ok (.iconst 0, 1) := by decide +kernel
theorem dL_choices_508 : decode cL_choices 508 = .ok (.iload 6, 2) := by decide +kernel
theorem dL_choices_510 : decode cL_choices 510 = .ok (.ifCond .ne 7, 3) := by decide +kernel
theorem dL_choices_513 : decode cL_choices 513 = .ok (.iconst 1, 1) := by decide +kernel
theorem dL_choices_514 : decode cL_choices 514 = .ok (.goto 4, 3) := by decide +kernel
theorem dL_choices_517 : decode cL_choices 517 = .ok (.iconst 0, 1) := by decide +kernel
theorem dL_choices_518 : decode cL_choices 518 = .ok (.if_icmp .ne 69, 3) := by decide +kernel
theorem dL_choices_521 : decode cL_choices 521 = .ok (.iload 4, 2) := by decide +kernel
theorem dL_choices_523 : decode cL_choices 523 = .ok (.ifCond .ge 18, 3) := by decide +kernel
theorem dL_choices_526 : decode cL_choices 526 = .ok (.iload 10, 2) := by decide +kernel
theorem dL_choices_528 : decode cL_choices 528 = .ok (.iconst (-1), 1) := by decide +kernel
theorem dL_choices_529 : decode cL_choices 529 = .ok (.if_icmp .ne 58, 3) := by decide +kernel
theorem dL_choices_532 : decode cL_choices 532 = .ok (.iload 9, 2) := by decide +kernel
theorem dL_choices_534 : decode cL_choices 534 = .ok (.iconst (-1), 1) := by decide +kernel
theorem dL_choices_535 : decode cL_choices 535 = .ok (.if_icmp .ne 52, 3) := by decide +kernel
theorem dL_choices_538 : decode cL_choices 538 = .ok (.goto 45, 3) := by decide +kernel
theorem dL_choices_541 : decode cL_choices 541 = .ok (.iload 10, 2) := by decide +kernel
theorem dL_choices_543 : decode cL_choices 543 = .ok (.aload_n 0, 1) := by decide +kernel
theorem dL_choices_544 : decode cL_choices 544 = .ok (.iload_n 1, 1) := by decide +kernel
theorem dL_choices_545 : decode cL_choices 545 = .ok (.aload_n 0, 1) := by decide +kernel
theorem dL_choices_546 : decode cL_choices 546 = .ok (.iload 4, 2) := by decide +kernel
theorem dL_choices_548 : decode cL_choices 548 = .ok (.iconst 0, 1) := by decide +kernel
theorem dL_choices_549 : decode cL_choices 549 = .ok (.invokestatic 125, 3) := by decide +kernel
theorem dL_choices_552 : decode cL_choices 552 = .ok (.iconst 0, 1) := by decide +kernel
theorem dL_choices_553 : decode cL_choices 553 = .ok (.invokestatic 112, 3) := by decide +kernel
theorem dL_choices_556 : decode cL_choices 556 = .ok (.if_icmp .ne 31, 3) := by decide +kernel
theorem dL_choices_559 : decode cL_choices 559 = .ok (.iload 9, 2) := by decide +kernel
theorem dL_choices_561 : decode cL_choices 561 = .ok (.iload_n 1, 1) := by decide +kernel
theorem dL_choices_562 : decode cL_choices 562 = .ok (.if_icmp .ne 7, 3) := by decide +kernel
theorem dL_choices_565 : decode cL_choices 565 = .ok (.iconst 1, 1) := by decide +kernel
theorem dL_choices_566 : decode cL_choices 566 = .ok (.goto 4, 3) := by decide +kernel
theorem dL_choices_569 : decode cL_choices 569 = .ok (.iconst 0, 1) := by decide +kernel
theorem dL_choices_570 : decode cL_choices 570 = .ok (.iload 10, 2) := by decide +kernel
theorem dL_choices_572 : decode cL_choices 572 = .ok (.ifCond .ne 7, 3) := by decide +kernel
theorem dL_choices_575 : decode cL_choices 575 = .ok (.iconst 1, 1) := by decide +kernel
theorem dL_choices_576 : decode cL_choices 576 = .ok (.goto 4, 3) := by decide +kernel
theorem dL_choices_579 : decode cL_choices 579 = .ok (.iconst 0, 1) := by decide +kernel
theorem dL_choices_580 : decode cL_choices 580 = .ok (.if_icmp .ne 7, 3) := by decide +kernel
theorem dL_choices_583 : decode cL_choices 583 = .ok (.iconst 1, 1) := by decide +kernel
theorem dL_choices_584 : decode cL_choices 584 = .ok (.goto 4, 3) := by decide +kernel
theorem dL_choices_587 : decode cL_choices 587 = .ok (.iconst 0, 1) := by decide +kernel
theorem dL_choices_588 : decode cL_choices 588 = .ok (.istore 8, 2) := by decide +kernel
theorem dL_choices_590 : decode cL_choices 590 = .ok (.iload 8, 2) := by decide +kernel
theorem dL_choices_592 : decode cL_choices 592 = .ok (.ifCond .eq 45, 3) := by decide +kernel
theorem dL_choices_595 : decode cL_choices 595 = .ok (.iload 4, 2) := by decide +kernel
theorem dL_choices_597 : decode cL_choices 597 = .ok (.ifCond .lt 36, 3) := by decide +kernel
theorem dL_choices_600 : decode cL_choices 600 = .ok (.iload 9, 2) := by decide +kernel
theorem dL_choices_602 : decode cL_choices 602 = .ok (.iload_n 1, 1) := by decide +kernel
theorem dL_choices_603 : decode cL_choices 603 = .ok (.if_icmp .eq 30, 3) := by decide +kernel
theorem dL_choices_606 : decode cL_choices 606 = .ok (.aload_n 0, 1) := by decide +kernel
theorem dL_choices_607 : decode cL_choices 607 = .ok (.iload_n 1, 1) := by decide +kernel
theorem dL_choices_608 : decode cL_choices 608 = .ok (.iload 9, 2) := by decide +kernel
theorem dL_choices_610 : decode cL_choices 610 = .ok (.invokestatic 115, 3) := by decide +kernel
theorem dL_choices_613 : decode cL_choices 613 = .ok (.aload_n 0, 1) := by decide +kernel
theorem dL_choices_614 : decode cL_choices 614 = .ok (.iload 9, 2) := by decide +kernel
theorem dL_choices_616 : decode cL_choices 616 = .ok (.aload_n 0, 1) := by decide +kernel
theorem dL_choices_617 : decode cL_choices 617 = .ok (.iload 4, 2) := by decide +kernel
theorem dL_choices_619 : decode cL_choices 619 = .ok (.iconst 0, 1) := by decide +kernel
theorem dL_choices_620 : decode cL_choices 620 = .ok (.invokestatic 125, 3) := by decide +kernel
theorem dL_choices_623 : decode cL_choices 623 = .ok (.iconst 0, 1) := by decide +kernel
theorem dL_choices_624 : decode cL_choices 624 = .ok (.invokestatic 112, 3) := by decide +kernel
theorem dL_choices_627 : decode cL_choices 627 = .ok (.iadd, 1) := by decide +kernel
theorem dL_choices_628 : decode cL_choices 628 = .ok (.iload 10, 2) := by decide +kernel
theorem dL_choices_630 : decode cL_choices 630 = .ok (.if_icmp .ne 7, 3) := by decide +kernel
theorem dL_choices_633 : decode cL_choices 633 = .ok (.iconst 1, 1) := by decide +kernel
theorem dL_choices_634 : decode cL_choices 634 = .ok (.goto 4, 3) := by decide +kernel
theorem dL_choices_637 : decode cL_choices 637 = .ok (.iconst 0, 1) := by decide +kernel
theorem dL_choices_638 : decode cL_choices 638 = .ok (.ireturn, 1) := by decide +kernel
theorem dL_setting_0 : decode cL_setting 0 = .ok (.aload_n 0, 1) := by decide +kernel
theorem dL_setting_1 : decode cL_setting 1 = .ok (.iconst 0, 1) := by decide +kernel
theorem dL_setting_2 : decode cL_setting 2 = .ok (.iconst 0, 1) := by decide +kernel
theorem dL_setting_3 : decode cL_setting 3 = .ok (.invokestatic 99, 3) := by decide +kernel
theorem dL_setting_6 : decode cL_setting 6 = .ok (.istore_n 1, 1) := by decide +kernel
theorem dL_setting_7 : decode cL_setting 7 = .ok (.aload_n 0, 1) := by decide +kernel
theorem dL_setting_8 : decode cL_setting 8 = .ok (.invokestatic 131, 3) := by decide +kernel
theorem dL_setting_11 : decode cL_setting 11 = .ok (.ifCond .ge 7, 3) := by decide +kernel
theorem dL_setting_14 : decode cL_setting 14 = .ok (.iconst (-1), 1) := by decide +kernel
theorem dL_setting_15 : decode cL_setting 15 = .ok (.goto 4, 3) := by decide +kernel
theorem dL_setting_18 : decode cL_setting 18 = .ok (.iload_n 1, 1) := by decide +kernel
theorem dL_setting_19 : decode cL_setting 19 = .ok (.ireturn, 1) := by decide +kernel
theorem dL_hangs_0 : decode cL_hangs 0 = .ok (.aload_n 0, 1) := by decide +kernel
theorem dL_hangs_1 : decode cL_hangs 1 = .ok (.iconst 1, 1) := by decide +kernel
theorem dL_hangs_2 : decode cL_hangs 2 = .ok (.invokestatic 117, 3) := by decide +kernel
theorem dL_hangs_5 : decode cL_hangs 5 = .ok (.istore_n 2, 1) := by decide +kernel
theorem dL_hangs_6 : decode cL_hangs 6 = .ok (.iconst 0, 1) := by decide +kernel
theorem dL_hangs_7 : decode cL_hangs 7 = .ok (.istore_n 3, 1) := by decide +kernel
theorem dL_hangs_8 : decode cL_hangs 8 = .ok (.iconst 0, 1) := by decide +kernel
theorem dL_hangs_9 : decode cL_hangs 9 = .ok (.istore 4, 2) := by decide +kernel
theorem dL_hangs_11 : decode cL_hangs 11 = .ok (.iload 4, 2) := by decide +kernel
theorem dL_hangs_13 : decode cL_hangs 13 = .ok (.bipush 64, 2) := by decide +kernel
theorem dL_hangs_15 : decode cL_hangs 15 = .ok (.if_icmp .ge 34, 3) := by decide +kernel
theorem dL_hangs_18 : decode cL_hangs 18 = .ok (.iload_n 3, 1) := by decide +kernel
theorem dL_hangs_19 : decode cL_hangs 19 = .ok (.aload_n 0, 1) := by decide +kernel
theorem dL_hangs_20 : decode cL_hangs 20 = .ok (.iload 4, 2) := by decide +kernel
theorem dL_hangs_22 : decode cL_hangs 22 = .ok (.bipush 8, 2) := by decide +kernel
theorem dL_hangs_24 : decode cL_hangs 24 = .ok (.idiv, 1) := by decide +kernel
theorem dL_hangs_25 : decode cL_hangs 25 = .ok (.iload 4, 2) := by decide +kernel
theorem dL_hangs_27 : decode cL_hangs 27 = .ok (.bipush 8, 2) := by decide +kernel
theorem dL_hangs_29 : decode cL_hangs 29 = .ok (.irem, 1) := by decide +kernel
theorem dL_hangs_30 : decode cL_hangs 30 = .ok (.invokestatic 115, 3) := by decide +kernel
theorem dL_hangs_33 : decode cL_hangs 33 = .ok (.ifCond .le 7, 3) := by decide +kernel
theorem dL_hangs_36 : decode cL_hangs 36 = .ok (.iconst 1, 1) := by decide +kernel
theorem dL_hangs_37 : decode cL_hangs 37 = .ok (.goto 4, 3) := by decide +kernel
theorem dL_hangs_40 : decode cL_hangs 40 = .ok (.iconst 0, 1) := by decide +kernel
theorem dL_hangs_41 : decode cL_hangs 41 = .ok (.iadd, 1) := by decide +kernel
theorem dL_hangs_42 : decode cL_hangs 42 = .ok (.istore_n 3, 1) := by decide +kernel
theorem dL_hangs_43 : decode cL_hangs 43 = .ok (.iinc 4 1, 3) := by decide +kernel
theorem dL_hangs_46 : decode cL_hangs 46 = .ok (.goto (-35), 3) := by decide +kernel
theorem dL_hangs_49 : decode cL_hangs 49 = .ok (.iconst 0, 1) := by decide +kernel
theorem dL_hangs_50 : decode cL_hangs 50 = .ok (.istore 4, 2) := by decide +kernel
theorem dL_hangs_52 : decode cL_hangs 52 = .ok (.iconst 0, 1) := by decide +kernel
theorem dL_hangs_53 : decode cL_hangs 53 = .ok (.istore 5, 2) := by decide +kernel
theorem dL_hangs_55 : decode cL_hangs 55 = .ok (.iconst 0, 1) := by decide +kernel
theorem dL_hangs_56 : decode cL_hangs 56 = .ok (.istore 6, 2) := by decide +kernel
theorem dL_hangs_58 : decode cL_hangs 58 = .ok (.iconst 0, 1) := by decide +kernel
theorem dL_hangs_59 : decode cL_hangs 59 = .ok (.istore 7, 2) := by decide +kernel
theorem dL_hangs_61 : decode cL_hangs 61 = .ok (.iload 7, 2) := by decide +kernel
theorem dL_hangs_63 : decode cL_hangs 63 = .ok (.iload_n 2, 1) := by decide +kernel
theorem dL_hangs_64 : decode cL_hangs 64 = .ok (.if_icmp .ge 45, 3) := by decide +kernel
theorem dL_hangs_67 : decode cL_hangs 67 = .ok (.iload 4, 2) := by decide +kernel
theorem dL_hangs_69 : decode cL_hangs 69 = .ok (.aload_n 0, 1) := by decide +kernel
theorem dL_hangs_70 : decode cL_hangs 70 = .ok (.iload 7, 2) := by decide +kernel
theorem dL_hangs_72 : decode cL_hangs 72 = .ok (.iconst 2, 1) := by decide +kernel
theorem dL_hangs_73 : decode cL_hangs 73 = .ok (.invokestatic 125, 3) := by decide +kernel
theorem dL_hangs_76 : decode cL_hangs 76 = .ok (.iadd, 1) := by decide +kernel
theorem dL_hangs_77 : decode cL_hangs 77 = .ok (.istore 4, 2) := by decide +kernel
theorem dL_hangs_79 : decode cL_hangs 79 = .ok (.iload 5, 2) := by decide +kernel
theorem dL_hangs_81 : decode cL_hangs 81 = .ok (.aload_n 0, 1) := by decide +kernel
theorem dL_hangs_82 : decode cL_hangs 82 = .ok (.iload 7, 2) := by decide +kernel
theorem dL_hangs_84 : decode cL_hangs 84 = .ok (.iconst 3, 1) := by decide +kernel
theorem dL_hangs_85 : decode cL_hangs 85 = .ok (.invokestatic 125, 3) := by decide +kernel
theorem dL_hangs_88 : decode cL_hangs 88 = .ok (.iadd, 1) := by decide +kernel
theorem dL_hangs_89 : decode cL_hangs 89 = .ok (.istore 5, 2) := by decide +kernel
theorem dL_hangs_91 : decode cL_hangs 91 = .ok (.iload 6, 2) := by decide +kernel
theorem dL_hangs_93 : decode cL_hangs 93 = .ok (.aload_n 0, 1) := by decide +kernel
theorem dL_hangs_94 : decode cL_hangs 94 = .ok (.iload 7, 2) := by decide +kernel
theorem dL_hangs_96 : decode cL_hangs 96 = .ok (.iconst 4, 1) := by decide +kernel
theorem dL_hangs_97 : decode cL_hangs 97 = .ok (.invokestatic 125, 3) := by decide +kernel
theorem dL_hangs_100 : decode cL_hangs 100 = .ok (.iadd, 1) := by decide +kernel
theorem dL_hangs_101 : decode cL_hangs 101 = .ok (.istore 6, 2) := by decide +kernel
theorem dL_hangs_103 : decode cL_hangs 103 = .ok (.iinc 7 1, 3) := by decide +kernel
theorem dL_hangs_106 : decode cL_hangs 106 = .ok (.goto (-45), 3) := by decide +kernel
theorem dL_hangs_109 : decode cL_hangs 109 = .ok (.iconst 0, 1) := by decide +kernel
theorem dL_hangs_110 : decode cL_hangs 110 = .ok (.istore 7, 2) := by decide +kernel
theorem dL_hangs_112 : decode cL_hangs 112 = .ok (.iconst 0, 1) := by decide +kernel
theorem dL_hangs_113 : decode cL_hangs 113 = .ok (.istore 8, 2) := by decide +kernel
theorem dL_hangs_115 : decode cL_hangs 115 = .ok (.aload_n 0, 1) := by decide +kernel
theorem dL_hangs_116 : decode cL_hangs 116 = .ok (.iload_n 2, 1) := by decide +kernel
theorem dL_hangs_117 : decode cL_hangs 117 = .ok (.iconst 0, 1) := by decide +kernel
theorem dL_hangs_118 : decode cL_hangs 118 = .ok (.invokestatic 125, 3) := by decide +kernel
theorem dL_hangs_121 : decode cL_hangs 121 = .ok (.ldc 17, 2) := by decide +kernel
theorem dL_hangs_123 : decode cL_hangs 123 = .ok (.if_icmp .ne 7, 3) := by decide +kernel
theorem dL_hangs_126 : decode cL_hangs 126 = .ok (.iconst 1, 1) := by decide +kernel
theorem dL_hangs_127 : decode cL_hangs 127 = .ok (.goto 4, 3) := by decide +kernel
theorem dL_hangs_130 : decode cL_hangs 130 = .ok (.iconst 0, 1) := by decide +kernel
theorem dL_hangs_131 : decode cL_hangs 131 = .ok (.istore 9, 2) := by decide +kernel
theorem dL_hangs_133 : decode cL_hangs 133 = .ok (.iconst 0, 1) := by decide +kernel
theorem dL_hangs_134 : decode cL_hangs 134 = .ok (.istore 10, 2) := by decide +kernel
theorem dL_hangs_136 : decode cL_hangs 136 = .ok (.iload 10, 2) := by decide +kernel
theorem dL_hangs_138 : decode cL_hangs 138 = .ok (.iconst 4, 1) := by decide +kernel
theorem dL_hangs_139 : decode cL_hangs 139 = .ok (.if_icmp .ge 132, 3) := by decide +kernel
theorem dL_hangs_142 : decode cL_hangs 142 = .ok (.iload 9, 2) := by decide +kernel
theorem dL_hangs_144 : decode cL_hangs 144 = .ok (.ifCond .eq 127, 3) := by decide +kernel
theorem dL_hangs_147 : decode cL_hangs 147 = .ok (.aload_n 0, 1) := by decide +kernel
theorem dL_hangs_148 : decode cL_hangs 148 = .ok (.iload 10, 2) := by decide +kernel
theorem dL_hangs_150 : decode cL_hangs 150 = .ok (.iconst 5, 1) := by decide +kernel
theorem dL_hangs_151 : decode cL_hangs 151 = .ok (.invokestatic 127, 3) := by decide +kernel
theorem dL_hangs_154 : decode cL_hangs 154 = .ok (.aload_n 0, 1) := by decide +kernel
theorem dL_hangs_155 : decode cL_hangs 155 = .ok (.iload 10, 2) := by decide +kernel
theorem dL_hangs_157 : decode cL_hangs 157 = .ok (.iconst 4, 1) := by decide +kernel
theorem dL_hangs_158 : decode cL_hangs 158 = .ok (.invokestatic 127, 3) := by decide +kernel
theorem dL_hangs_161 : decode cL_hangs 161 = .ok (.isub, 1) := by decide +kernel
theorem dL_hangs_162 : decode cL_hangs 162 = .ok (.istore 11, 2) := by decide +kernel
theorem dL_hangs_164 : decode cL_hangs 164 = .ok (.iconst 0, 1) := by decide +kernel
theorem dL_hangs_165 : decode cL_hangs 165 = .ok (.istore 12, 2) := by decide +kernel
theorem dL_hangs_167 : decode cL_hangs 167 = .ok (.iload 12, 2) := by decide +kernel
theorem dL_hangs_169 : decode cL_hangs 169 = .ok (.iconst 4, 1) := by decide +kernel
theorem dL_hangs_170 : decode cL_hangs 170 = .ok (.if_icmp .ge 30, 3) := by decide +kernel
theorem dL_hangs_173 : decode cL_hangs 173 = .ok (.iload 7, 2) := by decide +kernel
theorem dL_hangs_175 : decode cL_hangs 175 = .ok (.aload_n 0, 1) := by decide +kernel
theorem dL_hangs_176 : decode cL_hangs 176 = .ok (.iload 10, 2) := by decide +kernel
theorem dL_hangs_178 : decode cL_hangs 178 = .ok (.iload 12, 2) := by decide +kernel
theorem dL_hangs_180 : decode cL_hangs 180 = .ok (.invokestatic 127, 3) := by decide +kernel
theorem dL_hangs_183 : decode cL_hangs 183 = .ok (.ifCond .le 7, 3) := by decide +kernel
theorem dL_hangs_186 : decode cL_hangs 186 = .ok (.iconst 1, 1) := by decide +kernel
theorem dL_hangs_187 : decode cL_hangs 187 = .ok (.goto 4, 3) := by decide +kernel
theorem dL_hangs_190 : decode cL_hangs 190 = .ok (.iconst 0, 1) := by decide +kernel
theorem dL_hangs_191 : decode cL_hangs 191 = .ok (.iadd, 1) := by decide +kernel
theorem dL_hangs_192 : decode cL_hangs 192 = .ok (.istore 7, 2) := by decide +kernel
theorem dL_hangs_194 : decode cL_hangs 194 = .ok (.iinc 12 1, 3) := by decide +kernel
theorem dL_hangs_197 : decode cL_hangs 197 = .ok (.goto (-30), 3) := by decide +kernel
theorem dL_hangs_200 : decode cL_hangs 200 = .ok (.iload 8, 2) := by decide +kernel
theorem dL_hangs_202 : decode cL_hangs 202 = .ok (.aload_n 0, 1) := by decide +kernel
theorem dL_hangs_203 : decode cL_hangs 203 = .ok (.iload 10, 2) := by decide +kernel
theorem dL_hangs_205 : decode cL_hangs 205 = .ok (.bipush 7, 2) := by decide +kernel
theorem dL_hangs_207 : decode cL_hangs 207 = .ok (.invokestatic 127, 3) := by decide +kernel
theorem dL_hangs_210 : decode cL_hangs 210 = .ok (.iadd, 1) := by decide +kernel
theorem dL_hangs_211 : decode cL_hangs 211 = .ok (.istore 8, 2) := by decide +kernel
theorem dL_hangs_213 : decode cL_hangs 213 = .ok (.aload_n 0, 1) := by decide +kernel
theorem dL_hangs_214 : decode cL_hangs 214 = .ok (.iload 10, 2) := by decide +kernel
theorem dL_hangs_216 : decode cL_hangs 216 = .ok (.bipush 6, 2) := by decide +kernel
theorem dL_hangs_218 : decode cL_hangs 218 = .ok (.invokestatic 127, 3) := by decide +kernel
theorem dL_hangs_221 : decode cL_hangs 221 = .ok (.aload_n 0, 1) := by decide +kernel
theorem dL_hangs_222 : decode cL_hangs 222 = .ok (.iload 10, 2) := by decide +kernel
theorem dL_hangs_224 : decode cL_hangs 224 = .ok (.bipush 7, 2) := by decide +kernel
theorem dL_hangs_226 : decode cL_hangs 226 = .ok (.invokestatic 127, 3) := by decide +kernel
theorem dL_hangs_229 : decode cL_hangs 229 = .ok (.if_icmp .gt 33, 3) := by decide +kernel
theorem dL_hangs_232 : decode cL_hangs 232 = .ok (.aload_n 0, 1) := by decide +kernel
theorem dL_hangs_233 : decode cL_hangs 233 = .ok (.iload 10, 2) := by decide +kernel
theorem dL_hangs_235 : decode cL_hangs 235 = .ok (.bipush 6, 2) := by decide +kernel
theorem dL_hangs_237 : decode cL_hangs 237 = .ok (.invokestatic 127, 3) := by decide +kernel
theorem dL_hangs_240 : decode cL_hangs 240 = .ok (.aload_n 0, 1) := by decide +kernel
theorem dL_hangs_241 : decode cL_hangs 241 = .ok (.iload 10, 2) := by decide +kernel
theorem dL_hangs_243 : decode cL_hangs 243 = .ok (.iconst 5, 1) := by decide +kernel
theorem dL_hangs_244 : decode cL_hangs 244 = .ok (.invokestatic 127, 3) := by decide +kernel
theorem dL_hangs_247 : decode cL_hangs 247 = .ok (.if_icmp .gt 15, 3) := by decide +kernel
theorem dL_hangs_250 : decode cL_hangs 250 = .ok (.iload 11, 2) := by decide +kernel
theorem dL_hangs_252 : decode cL_hangs 252 = .ok (.sipush 9999, 3) := by decide +kernel
theorem dL_hangs_255 : decode cL_hangs 255 = .ok (.if_icmp .gt 7, 3) := by decide +kernel
theorem dL_hangs_258 : decode cL_hangs 258 = .ok (.iconst 1, 1) := by decide +kernel
theorem dL_hangs_259 : decode cL_hangs 259 = .ok (.goto 4, 3) := by decide +kernel
theorem dL_hangs_262 : decode cL_hangs 262 = .ok (.iconst 0, 1) := by decide +kernel
theorem dL_hangs_263 : decode cL_hangs 263 = .ok (.istore 9, 2) := by decide +kernel
theorem dL_hangs_265 : decode cL_hangs 265 = .ok (.iinc 10 1, 3) := by decide +kernel
theorem dL_hangs_268 : decode cL_hangs 268 = .ok (.goto (-132), 3) := by decide +kernel
theorem dL_hangs_271 : decode cL_hangs 271 = .ok (.iconst 0, 1) := by decide +kernel
theorem dL_hangs_272 : decode cL_hangs 272 = .ok (.istore 10, 2) := by decide +kernel
theorem dL_hangs_274 : decode cL_hangs 274 = .ok (.iconst 0, 1) := by decide +kernel
theorem dL_hangs_275 : decode cL_hangs 275 = .ok (.istore 11, 2) := by decide +kernel
theorem dL_hangs_277 : decode cL_hangs 277 = .ok (.iconst 0, 1) := by decide +kernel
theorem dL_hangs_278 : decode cL_hangs 278 = .ok (.istore 12, 2) := by decide +kernel
theorem dL_hangs_280 : decode cL_hangs 280 = .ok (.iload 12, 2) := by decide +kernel
theorem dL_hangs_282 : decode cL_hangs 282 = .ok (.bipush 32, 2) := by decide +kernel
theorem dL_hangs_284 : decode cL_hangs 284 = .ok (.if_icmp .ge 53, 3) := by decide +kernel
theorem dL_hangs_287 : decode cL_hangs 287 = .ok (.iload 10, 2) := by decide +kernel
theorem dL_hangs_289 : decode cL_hangs 289 = .ok (.aload_n 0, 1) := by decide +kernel
theorem dL_hangs_290 : decode cL_hangs 290 = .ok (.iload 12, 2) := by decide +kernel
theorem dL_hangs_292 : decode cL_hangs 292 = .ok (.iconst 4, 1) := by decide +kernel
theorem dL_hangs_293 : decode cL_hangs 293 = .ok (.idiv, 1) := by decide +kernel
theorem dL_hangs_294 : decode cL_hangs 294 = .ok (.iload 12, 2) := by decide +kernel
theorem dL_hangs_296 : decode cL_hangs 296 = .ok (.iconst 4, 1) := by decide +kernel
theorem dL_hangs_297 : decode cL_hangs 297 = .ok (.irem, 1) := by decide +kernel
theorem dL_hangs_298 : decode cL_hangs 298 = .ok (.iconst 4, 1) := by decide +kernel
theorem dL_hangs_299 : decode cL_hangs 299 = .ok (.invokestatic 119, 3) := by decide +kernel
theorem dL_hangs_302 : decode cL_hangs 302 = .ok (.iadd, 1) := by decide +kernel
theorem dL_hangs_303 : decode cL_hangs 303 = .ok (.istore 10, 2) := by decide +kernel
theorem dL_hangs_305 : decode cL_hangs 305 = .ok (.iload 11, 2) := by decide +kernel
theorem dL_hangs_307 : decode cL_hangs 307 = .ok (.aload_n 0, 1) := by decide +kernel
theorem dL_hangs_308 : decode cL_hangs 308 = .ok (.iload 12, 2) := by decide +kernel
theorem dL_hangs_310 : decode cL_hangs 310 = .ok (.iconst 4, 1) := by decide +kernel
theorem dL_hangs_311 : decode cL_hangs 311 = .ok (.idiv, 1) := by decide +kernel
theorem dL_hangs_312 : decode cL_hangs 312 = .ok (.iload 12, 2) := by decide +kernel
theorem dL_hangs_314 : decode cL_hangs 314 = .ok (.iconst 4, 1) := by decide +kernel
theorem dL_hangs_315 : decode cL_hangs 315 = .ok (.irem, 1) := by decide +kernel
theorem dL_hangs_316 : decode cL_hangs 316 = .ok (.iconst 0, 1) := by decide +kernel
theorem dL_hangs_317 : decode cL_hangs 317 = .ok (.invokestatic 119, 3) := by decide +kernel
theorem dL_hangs_320 : decode cL_hangs 320 = .ok (.ifCond .ge 7, 3) := by decide +kernel
theorem dL_hangs_323 : decode cL_hangs 323 = .ok (.iconst 1, 1) := by decide +kernel
theorem dL_hangs_324 : decode cL_hangs 324 = .ok (.goto 4, 3) := by decide +kernel
theorem dL_hangs_327 : decode cL_hangs 327 = .ok (.iconst 0, 1) := by decide +kernel
theorem dL_hangs_328 : decode cL_hangs 328 = .ok (.iadd, 1) := by decide +kernel
theorem dL_hangs_329 : decode cL_hangs 329 = .ok (.istore 11, 2) := by decide +kernel
theorem dL_hangs_331 : decode cL_hangs 331 = .ok (.iinc 12 1, 3) := by decide +kernel
theorem dL_hangs_334 : decode cL_hangs 334 = .ok (.goto (-54), 3) := by decide +kernel
theorem dL_hangs_337 : decode cL_hangs 337 = .ok (.iload 9, 2) := by decide +kernel
theorem dL_hangs_339 : decode cL_hangs 339 = .ok (.ifCond .eq 140, 3) := by decide +kernel
theorem dL_hangs_342 : decode cL_hangs 342 = .ok (.iload_n 3, 1) := by decide +kernel
theorem dL_hangs_343 : decode cL_hangs 343 = .ok (.iconst 2, 1) := by decide +kernel
theorem dL_hangs_344 : decode cL_hangs 344 = .ok (.aload_n 0, 1) := by decide +kernel
theorem dL_hangs_345 : decode cL_hangs 345 = .ok (.iconst 0, 1) := by decide +kernel
theorem dL_hangs_346 : decode cL_hangs 346 = .ok (.invokestatic 117, 3) := by decide +kernel
theorem dL_hangs_349 : decode cL_hangs 349 = .ok (.imul, 1) := by decide +kernel
theorem dL_hangs_350 : decode cL_hangs 350 = .ok (.if_icmp .ne 129, 3) := by decide +kernel
theorem dL_hangs_353 : decode cL_hangs 353 = .ok (.iload 4, 2) := by decide +kernel
theorem dL_hangs_355 : decode cL_hangs 355 = .ok (.aload_n 0, 1) := by decide +kernel
theorem dL_hangs_356 : decode cL_hangs 356 = .ok (.iconst 2, 1) := by decide +kernel
theorem dL_hangs_357 : decode cL_hangs 357 = .ok (.invokestatic 117, 3) := by decide +kernel
theorem dL_hangs_360 : decode cL_hangs 360 = .ok (.if_icmp .ne 119, 3) := by decide +kernel
theorem dL_hangs_363 : decode cL_hangs 363 = .ok (.iload 7, 2) := by decide +kernel
theorem dL_hangs_365 : decode cL_hangs 365 = .ok (.aload_n 0, 1) := by decide +kernel
theorem dL_hangs_366 : decode cL_hangs 366 = .ok (.iconst 3, 1) := by decide +kernel
theorem dL_hangs_367 : decode cL_hangs 367 = .ok (.invokestatic 117, 3) := by decide +kernel
theorem dL_hangs_370 : decode cL_hangs 370 = .ok (.if_icmp .ne 109, 3) := by decide +kernel
theorem dL_hangs_373 : decode cL_hangs 373 = .ok (.iload 5, 2) := by decide +kernel
theorem dL_hangs_375 : decode cL_hangs 375 = .ok (.aload_n 0, 1) := by decide +kernel
theorem dL_hangs_376 : decode cL_hangs 376 = .ok (.iconst 4, 1) := by decide +kernel
theorem dL_hangs_377 : decode cL_hangs 377 = .ok (.invokestatic 117, 3) := by decide +kernel
theorem dL_hangs_380 : decode cL_hangs 380 = .ok (.aload_n 0, 1) := by decide +kernel
theorem dL_hangs_381 : decode cL_hangs 381 = .ok (.iconst 5, 1) := by decide +kernel
theorem dL_hangs_382 : decode cL_hangs 382 = .ok (.invokestatic 117, 3) := by decide +kernel
theorem dL_hangs_385 : decode cL_hangs 385 = .ok (.isub, 1) := by decide +kernel
theorem dL_hangs_386 : decode cL_hangs 386 = .ok (.if_icmp .ne 93, 3) := by decide +kernel
theorem dL_hangs_389 : decode cL_hangs 389 = .ok (.iload 10, 2) := by decide +kernel
theorem dL_hangs_391 : decode cL_hangs 391 = .ok (.iload 5, 2) := by decide +kernel
theorem dL_hangs_393 : decode cL_hangs 393 = .ok (.if_icmp .ne 86, 3) := by decide +kernel
theorem dL_hangs_396 : decode cL_hangs 396 = .ok (.iload 6, 2) := by decide +kernel
theorem dL_hangs_398 : decode cL_hangs 398 = .ok (.aload_n 0, 1) := by decide +kernel
theorem dL_hangs_399 : decode cL_hangs 399 = .ok (.bipush 6, 2) := by decide +kernel
theorem dL_hangs_401 : decode cL_hangs 401 = .ok (.invokestatic 117, 3) := by decide +kernel
theorem dL_hangs_404 : decode cL_hangs 404 = .ok (.if_icmp .ne 75, 3) := by decide +kernel
theorem dL_hangs_407 : decode cL_hangs 407 = .ok (.iload 8, 2) := by decide +kernel
theorem dL_hangs_409 : decode cL_hangs 409 = .ok (.aload_n 0, 1) := by decide +kernel
theorem dL_hangs_410 : decode cL_hangs 410 = .ok (.bipush 7, 2) := by decide +kernel
theorem dL_hangs_412 : decode cL_hangs 412 = .ok (.invokestatic 117, 3) := by decide +kernel
theorem dL_hangs_415 : decode cL_hangs 415 = .ok (.if_icmp .ne 64, 3) := by decide +kernel
theorem dL_hangs_418 : decode cL_hangs 418 = .ok (.iload 11, 2) := by decide +kernel
theorem dL_hangs_420 : decode cL_hangs 420 = .ok (.aload_n 0, 1) := by decide +kernel
theorem dL_hangs_421 : decode cL_hangs 421 = .ok (.bipush 8, 2) := by decide +kernel
theorem dL_hangs_423 : decode cL_hangs 423 = .ok (.invokestatic 117, 3) := by decide +kernel
theorem dL_hangs_426 : decode cL_hangs 426 = .ok (.if_icmp .ne 53, 3) := by decide +kernel
theorem dL_hangs_429 : decode cL_hangs 429 = .ok (.aload_n 0, 1) := by decide +kernel
theorem dL_hangs_430 : decode cL_hangs 430 = .ok (.iload_n 1, 1) := by decide +kernel
theorem dL_hangs_431 : decode cL_hangs 431 = .ok (.bipush 8, 2) := by decide +kernel
theorem dL_hangs_433 : decode cL_hangs 433 = .ok (.irem, 1) := by decide +kernel
theorem dL_hangs_434 : decode cL_hangs 434 = .ok (.invokestatic 133, 3) := by decide +kernel
theorem dL_hangs_437 : decode cL_hangs 437 = .ok (.ifCond .eq 42, 3) := by decide +kernel
theorem dL_hangs_440 : decode cL_hangs 440 = .ok (.aload_n 0, 1) := by decide +kernel
theorem dL_hangs_441 : decode cL_hangs 441 = .ok (.invokevirtual 137, 3) := by decide +kernel
theorem dL_hangs_444 : decode cL_hangs 444 = .ok (.iconst (-1), 1) := by decide +kernel
theorem dL_hangs_445 : decode cL_hangs 445 = .ok (.if_icmp .ne 7, 3) := by decide +kernel
theorem dL_hangs_448 : decode cL_hangs 448 = .ok (.iconst 1, 1) := by decide +kernel
theorem dL_hangs_449 : decode cL_hangs 449 = .ok (.goto 4, 3) := by decide +kernel
theorem dL_hangs_452 : decode cL_hangs 452 = .ok (.iconst 0, 1) := by decide +kernel
theorem dL_hangs_453 : decode cL_hangs 453 = .ok (.iload 4, 2) := by decide +kernel
theorem dL_hangs_455 : decode cL_hangs 455 = .ok (.ifCond .ne 7, 3) := by decide +kernel
theorem dL_hangs_458 : decode cL_hangs 458 = .ok (.iconst 1, 1) := by decide +kernel
theorem dL_hangs_459 : decode cL_hangs 459 = .ok (.goto 4, 3) := by decide +kernel
theorem dL_hangs_462 : decode cL_hangs 462 = .ok (.iconst 0, 1) := by decide +kernel
theorem dL_hangs_463 : decode cL_hangs 463 = .ok (.if_icmp .ne 16, 3) := by decide +kernel
theorem dL_hangs_466 : decode cL_hangs 466 = .ok (.aload_n 0, 1) := by decide +kernel
theorem dL_hangs_467 : decode cL_hangs 467 = .ok (.invokevirtual 140, 3) := by decide +kernel
theorem dL_hangs_470 : decode cL_hangs 470 = .ok (.dconst 1, 1) := by decide +kernel
theorem dL_hangs_471 : decode cL_hangs 471 = .ok (.dcmp .g, 1) := by decide +kernel
theorem dL_hangs_472 : decode cL_hangs 472 = .ok (.ifCond .gt 7, 3) := by decide +kernel
theorem dL_hangs_475 : decode cL_hangs 475 = .ok (.iconst 1, 1) := by decide +kernel
theorem dL_hangs_476 : decode cL_hangs 476 = .ok (.goto 4, 3) := by decide +kernel
theorem dL_hangs_479 : decode cL_hangs 479 = .ok (.iconst 0, 1) := by decide +kernel
theorem dL_hangs_480 : decode cL_hangs 480 = .ok (.ireturn, 1) := by decide +kernel
theorem dL_law_0 : decode cL_law 0 = .ok (.new 10, 3) := by decide +kernel
theorem dL_law_3 : decode cL_law 3 = .ok (.dup, 1) := by decide +kernel
theorem dL_law_4 : decode cL_law 4 = .ok (.invokespecial 144, 3) := by decide +kernel
theorem dL_law_7 : decode cL_law 7 = .ok (.astore_n 1, 1) := by decide +kernel
theorem dL_law_8 : decode cL_law 8 = .ok (.aload_n 1, 1) := by decide +kernel
theorem dL_law_9 : decode cL_law 9 = .ok (.invokestatic 131, 3) := by decide +kernel
theorem dL_law_12 : decode cL_law 12 = .ok (.ldc 17, 2) := by decide +kernel
theorem dL_law_14 : decode cL_law 14 = .ok (.if_icmp .ne 82, 3) := by decide +kernel
theorem dL_law_17 : decode cL_law 17 = .ok (.aload_n 1, 1) := by decide +kernel
theorem dL_law_18 : decode cL_law 18 = .ok (.iconst 0, 1) := by decide +kernel
theorem dL_law_19 : decode cL_law 19 = .ok (.invokestatic 106, 3) := by decide +kernel
theorem dL_law_22 : decode cL_law 22 = .ok (.ldc 20, 2) := by decide +kernel
theorem dL_law_24 : decode cL_law 24 = .ok (.if_icmp .ne 72, 3) := by decide +kernel
theorem dL_law_27 : decode cL_law 27 = .ok (.aload_n 1, 1) := by decide +kernel
theorem dL_law_28 : decode cL_law 28 = .ok (.invokestatic 145, 3) := by decide +kernel
theorem dL_law_31 : decode cL_law 31 = .ok (.ldc 17, 2) := by decide +kernel
theorem dL_law_33 : decode cL_law 33 = .ok (.if_icmp .ne 63, 3) := by decide +kernel
theorem dL_law_36 : decode cL_law 36 = .ok (.aload_n 1, 1) := by decide +kernel
theorem dL_law_37 : decode cL_law 37 = .ok (.invokevirtual 137, 3) := by decide +kernel
theorem dL_law_40 : decode cL_law 40 = .ok (.iconst (-1), 1) := by decide +kernel
theorem dL_law_41 : decode cL_law 41 = .ok (.if_icmp .ne 55, 3) := by decide +kernel
theorem dL_law_44 : decode cL_law 44 = .ok (.aload_n 1, 1) := by decide +kernel
theorem dL_law_45 : decode cL_law 45 = .ok (.invokevirtual 140, 3) := by decide +kernel
theorem dL_law_48 : decode cL_law 48 = .ok (.dconst 1, 1) := by decide +kernel
theorem dL_law_49 : decode cL_law 49 = .ok (.dcmp .l, 1) := by decide +kernel
theorem dL_law_50 : decode cL_law 50 = .ok (.ifCond .ne 46, 3) := by decide +kernel
theorem dL_law_53 : decode cL_law 53 = .ok (.aload_n 1, 1) := by decide +kernel
theorem dL_law_54 : decode cL_law 54 = .ok (.iconst 0, 1) := by decide +kernel
theorem dL_law_55 : decode cL_law 55 = .ok (.invokestatic 117, 3) := by decide +kernel
theorem dL_law_58 : decode cL_law 58 = .ok (.bipush 7, 2) := by decide +kernel
theorem dL_law_60 : decode cL_law 60 = .ok (.if_icmp .ne 36, 3) := by decide +kernel
theorem dL_law_63 : decode cL_law 63 = .ok (.aload_n 1, 1) := by decide +kernel
theorem dL_law_64 : decode cL_law 64 = .ok (.bipush 8, 2) := by decide +kernel
theorem dL_law_66 : decode cL_law 66 = .ok (.invokestatic 117, 3) := by decide +kernel
theorem dL_law_69 : decode cL_law 69 = .ok (.bipush 32, 2) := by decide +kernel
theorem dL_law_71 : decode cL_law 71 = .ok (.if_icmp .ne 25, 3) := by decide +kernel
theorem dL_law_74 : decode cL_law 74 = .ok (.aload_n 1, 1) := by decide +kernel
theorem dL_law_75 : decode cL_law 75 = .ok (.iconst 0, 1) := by decide +kernel
theorem dL_law_76 : decode cL_law 76 = .ok (.invokestatic 96, 3) := by decide +kernel
theorem dL_law_79 : decode cL_law 79 = .ok (.ldc 17, 2) := by decide +kernel
theorem dL_law_81 : decode cL_law 81 = .ok (.if_icmp .ne 15, 3) := by decide +kernel
theorem dL_law_84 : decode cL_law 84 = .ok (.aload_n 1, 1) := by decide +kernel
theorem dL_law_85 : decode cL_law 85 = .ok (.iconst 3, 1) := by decide +kernel
theorem dL_law_86 : decode cL_law 86 = .ok (.invokestatic 147, 3) := by decide +kernel
theorem dL_law_89 : decode cL_law 89 = .ok (.ifCond .eq 7, 3) := by decide +kernel
theorem dL_law_92 : decode cL_law 92 = .ok (.iconst 1, 1) := by decide +kernel
theorem dL_law_93 : decode cL_law 93 = .ok (.goto 4, 3) := by decide +kernel
theorem dL_law_96 : decode cL_law 96 = .ok (.iconst 0, 1) := by decide +kernel
theorem dL_law_97 : decode cL_law 97 = .ok (.istore_n 2, 1) := by decide +kernel
theorem dL_law_98 : decode cL_law 98 = .ok (.iconst 0, 1) := by decide +kernel
theorem dL_law_99 : decode cL_law 99 = .ok (.istore_n 3, 1) := by decide +kernel
theorem dL_law_100 : decode cL_law 100 = .ok (.iload_n 3, 1) := by decide +kernel
theorem dL_law_101 : decode cL_law 101 = .ok (.bipush 34, 2) := by decide +kernel
theorem dL_law_103 : decode cL_law 103 = .ok (.if_icmp .ge 702, 3) := by decide +kernel
theorem dL_law_106 : decode cL_law 106 = .ok (.iload_n 2, 1) := by decide +kernel
theorem dL_law_107 : decode cL_law 107 = .ok (.ifCond .eq 698, 3) := by decide +kernel
theorem dL_law_110 : decode cL_law 110 = .ok (.aload_n 0, 1) := by decide +kernel
theorem dL_law_111 : decode cL_law 111 = .ok (.iload_n 3, 1) := by decide +kernel
theorem dL_law_112 : decode cL_law 112 = .ok (.invokestatic 150, 3) := by decide +kernel
theorem dL_law_115 : decode cL_law 115 = .ok (.istore 4, 2) := by decide +kernel
theorem dL_law_117 : decode cL_law 117 = .ok (.iload 4, 2) := by decide +kernel
theorem dL_law_119 : decode cL_law 119 = .ok (.bipush 16, 2) := by decide +kernel
theorem dL_law_121 : decode cL_law 121 = .ok (.idiv, 1) := by decide +kernel
theorem dL_law_122 : decode cL_law 122 = .ok (.istore 5, 2) := by decide +kernel
theorem dL_law_124 : decode cL_law 124 = .ok (.iload 4, 2) := by decide +kernel
theorem dL_law_126 : decode cL_law 126 = .ok (.bipush 16, 2) := by decide +kernel
theorem dL_law_128 : decode cL_law 128 = .ok (.irem, 1) := by decide +kernel
theorem dL_law_129 : decode cL_law 129 = .ok (.istore 6, 2) := by decide +kernel
theorem dL_law_131 : decode cL_law 131 = .ok (.aload_n 1, 1) := by decide +kernel
theorem dL_law_132 : decode cL_law 132 = .ok (.bipush 9, 2) := by decide +kernel
theorem dL_law_134 : decode cL_law 134 = .ok (.invokestatic 117, 3) := by decide +kernel
theorem dL_law_137 : decode cL_law 137 = .ok (.istore 7, 2) := by decide +kernel
theorem dL_law_139 : decode cL_law 139 = .ok (.iload 5, 2) := by decide +kernel
theorem dL_law_141 : decode cL_law 141 = .ok (.bipush 8, 2) := by decide +kernel
theorem dL_law_143 : decode cL_law 143 = .ok (.irem, 1) := by decide +kernel
theorem dL_law_144 : decode cL_law 144 = .ok (.istore 8, 2) := by decide +kernel
theorem dL_law_146 : decode cL_law 146 = .ok (.iload 5, 2) := by decide +kernel
theorem dL_law_148 : decode cL_law 148 = .ok (.bipush 8, 2) := by decide +kernel
theorem dL_law_150 : decode cL_law 150 = .ok (.idiv, 1) := by decide +kernel
theorem dL_law_151 : decode cL_law 151 = .ok (.iconst 4, 1) := by decide +kernel
theorem dL_law_152 : decode cL_law 152 = .ok (.irem, 1) := by decide +kernel
theorem dL_law_153 : decode cL_law 153 = .ok (.istore 9, 2) := by decide +kernel
theorem dL_law_155 : decode cL_law 155 = .ok (.aload_n 1, 1) := by decide +kernel
theorem dL_law_156 : decode cL_law 156 = .ok (.iconst 1, 1) := by decide +kernel
theorem dL_law_157 : decode cL_law 157 = .ok (.invokestatic 117, 3) := by decide +kernel
theorem dL_law_160 : decode cL_law 160 = .ok (.istore 10, 2) := by decide +kernel
theorem dL_law_162 : decode cL_law 162 = .ok (.aload_n 1, 1) := by decide +kernel
theorem dL_law_163 : decode cL_law 163 = .ok (.iload 8, 2) := by decide +kernel
theorem dL_law_165 : decode cL_law 165 = .ok (.iload 9, 2) := by decide +kernel
theorem dL_law_167 : decode cL_law 167 = .ok (.iconst 0, 1) := by decide +kernel
theorem dL_law_168 : decode cL_law 168 = .ok (.invokestatic 119, 3) := by decide +kernel
theorem dL_law_171 : decode cL_law 171 = .ok (.istore 11, 2) := by decide +kernel
theorem dL_law_173 : decode cL_law 173 = .ok (.aload_n 1, 1) := by decide +kernel
theorem dL_law_174 : decode cL_law 174 = .ok (.iload 8, 2) := by decide +kernel
theorem dL_law_176 : decode cL_law 176 = .ok (.iload 9, 2) := by decide +kernel
theorem dL_law_178 : decode cL_law 178 = .ok (.iconst 1, 1) := by decide +kernel
theorem dL_law_179 : decode cL_law 179 = .ok (.invokestatic 119, 3) := by decide +kernel
theorem dL_law_182 : decode cL_law 182 = .ok (.istore 12, 2) := by decide +kernel
theorem dL_law_184 : decode cL_law 184 = .ok (.aload_n 1, 1) := by decide +kernel
theorem dL_law_185 : decode cL_law 185 = .ok (.iload 8, 2) := by decide +kernel
theorem dL_law_187 : decode cL_law 187 = .ok (.iload 9, 2) := by decide +kernel
theorem dL_law_189 : decode cL_law 189 = .ok (.iconst 4, 1) := by decide +kernel
theorem dL_law_190 : decode cL_law 190 = .ok (.invokestatic 119, 3) := by decide +kernel
theorem dL_law_193 : decode cL_law 193 = .ok (.istore 13, 2) := by decide +kernel
theorem dL_law_195 : decode cL_law 195 = .ok (.aload_n 1, 1) := by decide +kernel
theorem dL_law_196 : decode cL_law 196 = .ok (.iconst 4, 1) := by decide +kernel
theorem dL_law_197 : decode cL_law 197 = .ok (.invokestatic 117, 3) := by decide +kernel
theorem dL_law_200 : decode cL_law 200 = .ok (.istore 14, 2) := by decide +kernel
theorem dL_law_202 : decode cL_law 202 = .ok (.aload_n 1, 1) := by decide +kernel
theorem dL_law_203 : decode cL_law 203 = .ok (.iconst 5, 1) := by decide +kernel
theorem dL_law_204 : decode cL_law 204 = .ok (.invokestatic 117, 3) := by decide +kernel
theorem dL_law_207 : decode cL_law 207 = .ok (.istore 15, 2) := by decide +kernel
theorem dL_law_209 : decode cL_law 209 = .ok (.aload_n 1, 1) := by decide +kernel
theorem dL_law_210 : decode cL_law 210 = .ok (.bipush 6, 2) := by decide +kernel
theorem dL_law_212 : decode cL_law 212 = .ok (.invokestatic 117, 3) := by decide +kernel
theorem dL_law_215 : decode cL_law 215 = .ok (.istore 16, 2) := by decide +kernel
theorem dL_law_217 : decode cL_law 217 = .ok (.aload_n 1, 1) := by decide +kernel
theorem dL_law_218 : decode cL_law 218 = .ok (.bipush 7, 2) := by decide +kernel
theorem dL_law_220 : decode cL_law 220 = .ok (.invokestatic 117, 3) := by decide +kernel
theorem dL_law_223 : decode cL_law 223 = .ok (.istore 17, 2) := by decide +kernel
theorem dL_law_225 : decode cL_law 225 = .ok (.iload 6, 2) := by decide +kernel
theorem dL_law_227 : decode cL_law 227 = .ok (.iconst 5, 1) := by decide +kernel
theorem dL_law_228 : decode cL_law 228 = .ok (.if_icmp .eq 10, 3) := by decide +kernel
theorem dL_law_231 : decode cL_law 231 = .ok (.iload 6, 2) := by decide +kernel
theorem dL_law_233 : decode cL_law 233 = .ok (.bipush 6, 2) := by decide +kernel
theorem dL_law_235 : decode cL_law 235 = .ok (.if_icmp .ne 28, 3) := by decide +kernel
theorem dL_law_238 : decode cL_law 238 = .ok (.aload_n 1, 1) := by decide +kernel
theorem dL_law_239 : decode cL_law 239 = .ok (.iload 8, 2) := by decide +kernel
theorem dL_law_241 : decode cL_law 241 = .ok (.iload 5, 2) := by decide +kernel
theorem dL_law_243 : decode cL_law 243 = .ok (.iconst 1, 1) := by decide +kernel
theorem dL_law_244 : decode cL_law 244 = .ok (.iadd, 1) := by decide +kernel
theorem dL_law_245 : decode cL_law 245 = .ok (.iload 5, 2) := by decide +kernel
theorem dL_law_247 : decode cL_law 247 = .ok (.bipush 8, 2) := by decide +kernel
theorem dL_law_249 : decode cL_law 249 = .ok (.idiv, 1) := by decide +kernel
theorem dL_law_250 : decode cL_law 250 = .ok (.bipush 7, 2) := by decide +kernel
theorem dL_law_252 : decode cL_law 252 = .ok (.irem, 1) := by decide +kernel
theorem dL_law_253 : decode cL_law 253 = .ok (.iadd, 1) := by decide +kernel
theorem dL_law_254 : decode cL_law 254 = .ok (.bipush 8, 2) := by decide +kernel
theorem dL_law_256 : decode cL_law 256 = .ok (.irem, 1) := by decide +kernel
theorem dL_law_257 : decode cL_law 257 = .ok (.invokestatic 115, 3) := by decide +kernel
theorem dL_law_260 : decode cL_law 260 = .ok (.goto 4, 3) := by decide +kernel
theorem dL_law_263 : decode cL_law 263 = .ok (.iconst 0, 1) := by decide +kernel
theorem dL_law_264 : decode cL_law 264 = .ok (.istore 18, 2) := by decide +kernel
theorem dL_law_266 : decode cL_law 266 = .ok (.iload 6, 2) := by decide +kernel
theorem dL_law_268 : decode cL_law 268 = .ok (.iconst 5, 1) := by decide +kernel
theorem dL_law_269 : decode cL_law 269 = .ok (.if_icmp .eq 10, 3) := by decide +kernel
theorem dL_law_272 : decode cL_law 272 = .ok (.iload 6, 2) := by decide +kernel
theorem dL_law_274 : decode cL_law 274 = .ok (.bipush 6, 2) := by decide +kernel
theorem dL_law_276 : decode cL_law 276 = .ok (.if_icmp .ne 36, 3) := by decide +kernel
theorem dL_law_279 : decode cL_law 279 = .ok (.aload_n 1, 1) := by decide +kernel
theorem dL_law_280 : decode cL_law 280 = .ok (.iload 8, 2) := by decide +kernel
theorem dL_law_282 : decode cL_law 282 = .ok (.iload 5, 2) := by decide +kernel
theorem dL_law_284 : decode cL_law 284 = .ok (.iconst 1, 1) := by decide +kernel
theorem dL_law_285 : decode cL_law 285 = .ok (.iadd, 1) := by decide +kernel
theorem dL_law_286 : decode cL_law 286 = .ok (.iload 5, 2) := by decide +kernel
theorem dL_law_288 : decode cL_law 288 = .ok (.bipush 8, 2) := by decide +kernel
theorem dL_law_290 : decode cL_law 290 = .ok (.idiv, 1) := by decide +kernel
theorem dL_law_291 : decode cL_law 291 = .ok (.bipush 7, 2) := by decide +kernel
theorem dL_law_293 : decode cL_law 293 = .ok (.irem, 1) := by decide +kernel
theorem dL_law_294 : decode cL_law 294 = .ok (.iadd, 1) := by decide +kernel
theorem dL_law_295 : decode cL_law 295 = .ok (.bipush 8, 2) := by decide +kernel
theorem dL_law_297 : decode cL_law 297 = .ok (.irem, 1) := by decide +kernel
theorem dL_law_298 : decode cL_law 298 = .ok (.iload 5, 2) := by decide +kernel
theorem dL_law_300 : decode cL_law 300 = .ok (.bipush 64, 2) := by decide +kernel
theorem dL_law_302 : decode cL_law 302 = .ok (.idiv, 1) := by decide +kernel
theorem dL_law_303 : decode cL_law 303 = .ok (.bipush 40, 2) := by decide +kernel
theorem dL_law_305 : decode cL_law 305 = .ok (.irem, 1) := by decide +kernel
theorem dL_law_306 : decode cL_law 306 = .ok (.invokestatic 154, 3) := by decide +kernel
theorem dL_law_309 : decode cL_law 309 = .ok (.goto 4, 3) := by decide +kernel
theorem dL_law_312 : decode cL_law 312 = .ok (.iconst 0, 1) := by decide +kernel
theorem dL_law_313 : decode cL_law 313 = .ok (.istore 19, 2) := by decide +kernel
theorem dL_law_315 : decode cL_law 315 = .ok (.aload_n 1, 1) := by decide +kernel
theorem dL_law_316 : decode cL_law 316 = .ok (.iload 4, 2) := by decide +kernel
theorem dL_law_318 : decode cL_law 318 = .ok (.invokestatic 156, 3) := by decide +kernel
theorem dL_law_321 : decode cL_law 321 = .ok (.istore 20, 2) := by decide +kernel
theorem dL_law_323 : decode cL_law 323 = .ok (.iload 20, 2) := by decide +kernel
theorem dL_law_325 : decode cL_law 325 = .ok (.ldc 159, 2) := by decide +kernel
theorem dL_law_327 : decode cL_law 327 = .ok (.if_icmp .le 7, 3) := by decide +kernel
theorem dL_law_330 : decode cL_law 330 = .ok (.iconst 1, 1) := by decide +kernel
theorem dL_law_331 : decode cL_law 331 = .ok (.goto 4, 3) := by decide +kernel
theorem dL_law_334 : decode cL_law 334 = .ok (.iconst 0, 1) := by decide +kernel
theorem dL_law_335 : decode cL_law 335 = .ok (.istore 21, 2) := by decide +kernel
theorem dL_law_337 : decode cL_law 337 = .ok (.aload_n 1, 1) := by decide +kernel
theorem dL_law_338 : decode cL_law 338 = .ok (.bipush 9, 2) := by decide +kernel
theorem dL_law_340 : decode cL_law 340 = .ok (.invokestatic 117, 3) := by decide +kernel
theorem dL_law_343 : decode cL_law 343 = .ok (.iload 21, 2) := by decide +kernel
theorem dL_law_345 : decode cL_law 345 = .ok (.ifCond .eq 25, 3) := by decide +kernel
theorem dL_law_348 : decode cL_law 348 = .ok (.iload 6, 2) := by decide +kernel
theorem dL_law_350 : decode cL_law 350 = .ok (.bipush 9, 2) := by decide +kernel
theorem dL_law_352 : decode cL_law 352 = .ok (.if_icmp .ne 11, 3) := by decide +kernel
theorem dL_law_355 : decode cL_law 355 = .ok (.iload 5, 2) := by decide +kernel
theorem dL_law_357 : decode cL_law 357 = .ok (.iconst 3, 1) := by decide +kernel
theorem dL_law_358 : decode cL_law 358 = .ok (.irem, 1) := by decide +kernel
theorem dL_law_359 : decode cL_law 359 = .ok (.iconst 2, 1) := by decide +kernel
theorem dL_law_360 : decode cL_law 360 = .ok (.if_icmp .eq 10, 3) := by decide +kernel
theorem dL_law_363 : decode cL_law 363 = .ok (.iload 7, 2) := by decide +kernel
theorem dL_law_365 : decode cL_law 365 = .ok (.bipush 6, 2) := by decide +kernel
theorem dL_law_367 : decode cL_law 367 = .ok (.if_icmp .ne 8, 3) := by decide +kernel
theorem dL_law_370 : decode cL_law 370 = .ok (.iload 7, 2) := by decide +kernel
theorem dL_law_372 : decode cL_law 372 = .ok (.goto 7, 3) := by decide +kernel
theorem dL_law_375 : decode cL_law 375 = .ok (.iload 7, 2) := by decide +kernel
theorem dL_law_377 : decode cL_law 377 = .ok (.iconst 1, 1) := by decide +kernel
theorem dL_law_378 : decode cL_law 378 = .ok (.iadd, 1) := by decide +kernel
theorem dL_law_379 : decode cL_law 379 = .ok (.if_icmp .ne 7, 3) := by decide +kernel
theorem dL_law_382 : decode cL_law 382 = .ok (.iconst 1, 1) := by decide +kernel
theorem dL_law_383 : decode cL_law 383 = .ok (.goto 4, 3) := by decide +kernel
theorem dL_law_386 : decode cL_law 386 = .ok (.iconst 0, 1) := by decide +kernel
theorem dL_law_387 : decode cL_law 387 = .ok (.istore_n 2, 1) := by decide +kernel
theorem dL_law_388 : decode cL_law 388 = .ok (.iload_n 2, 1) := by decide +kernel
theorem dL_law_389 : decode cL_law 389 = .ok (.ifCond .eq 165, 3) := by decide +kernel
theorem dL_law_392 : decode cL_law 392 = .ok (.iload 6, 2) := by decide +kernel
theorem dL_law_394 : decode cL_law 394 = .ok (.bipush 9, 2) := by decide +kernel
theorem dL_law_396 : decode cL_law 396 = .ok (.if_icmp .le 158, 3) := by decide +kernel
theorem dL_law_399 : decode cL_law 399 = .ok (.iload 20, 2) := by decide +kernel
theorem dL_law_401 : decode cL_law 401 = .ok (.iload 11, 2) := by decide +kernel
theorem dL_law_403 : decode cL_law 403 = .ok (.if_icmp .ne 88, 3) := by decide +kernel
theorem dL_law_406 : decode cL_law 406 = .ok (.aload_n 1, 1) := by decide +kernel
theorem dL_law_407 : decode cL_law 407 = .ok (.iconst 4, 1) := by decide +kernel
theorem dL_law_408 : decode cL_law 408 = .ok (.invokestatic 117, 3) := by decide +kernel
theorem dL_law_411 : decode cL_law 411 = .ok (.iload 14, 2) := by decide +kernel
theorem dL_law_413 : decode cL_law 413 = .ok (.iconst 1, 1) := by decide +kernel
theorem dL_law_414 : decode cL_law 414 = .ok (.iadd, 1) := by decide +kernel
theorem dL_law_415 : decode cL_law 415 = .ok (.if_icmp .ne 76, 3) := by decide +kernel
theorem dL_law_418 : decode cL_law 418 = .ok (.aload_n 1, 1) := by decide +kernel
theorem dL_law_419 : decode cL_law 419 = .ok (.iconst 5, 1) := by decide +kernel
theorem dL_law_420 : decode cL_law 420 = .ok (.invokestatic 117, 3) := by decide +kernel
theorem dL_law_423 : decode cL_law 423 = .ok (.iload 15, 2) := by decide +kernel
theorem dL_law_425 : decode cL_law 425 = .ok (.iload 11, 2) := by decide +kernel
theorem dL_law_427 : decode cL_law 427 = .ok (.ifCond .ge 7, 3) := by decide +kernel
theorem dL_law_430 : decode cL_law 430 = .ok (.iconst 1, 1) := by decide +kernel
theorem dL_law_431 : decode cL_law 431 = .ok (.goto 4, 3) := by decide +kernel
theorem dL_law_434 : decode cL_law 434 = .ok (.iconst 0, 1) := by decide +kernel
theorem dL_law_435 : decode cL_law 435 = .ok (.iadd, 1) := by decide +kernel
theorem dL_law_436 : decode cL_law 436 = .ok (.if_icmp .ne 55, 3) := by decide +kernel
theorem dL_law_439 : decode cL_law 439 = .ok (.aload_n 1, 1) := by decide +kernel
theorem dL_law_440 : decode cL_law 440 = .ok (.bipush 6, 2) := by decide +kernel
theorem dL_law_442 : decode cL_law 442 = .ok (.invokestatic 117, 3) := by decide +kernel
theorem dL_law_445 : decode cL_law 445 = .ok (.iload 16, 2) := by decide +kernel
theorem dL_law_447 : decode cL_law 447 = .ok (.iload 11, 2) := by decide +kernel
theorem dL_law_449 : decode cL_law 449 = .ok (.ifCond .ge 7, 3) := by decide +kernel
theorem dL_law_452 : decode cL_law 452 = .ok (.iconst 0, 1) := by decide +kernel
theorem dL_law_453 : decode cL_law 453 = .ok (.goto 5, 3) := by decide +kernel
theorem dL_law_456 : decode cL_law 456 = .ok (.iload 12, 2) := by decide +kernel
theorem dL_law_458 : decode cL_law 458 = .ok (.iadd, 1) := by decide +kernel
theorem dL_law_459 : decode cL_law 459 = .ok (.if_icmp .ne 32, 3) := by decide +kernel
theorem dL_law_462 : decode cL_law 462 = .ok (.aload_n 1, 1) := by decide +kernel
theorem dL_law_463 : decode cL_law 463 = .ok (.iload 8, 2) := by decide +kernel
theorem dL_law_465 : decode cL_law 465 = .ok (.iload 9, 2) := by decide +kernel
theorem dL_law_467 : decode cL_law 467 = .ok (.iconst 4, 1) := by decide +kernel
theorem dL_law_468 : decode cL_law 468 = .ok (.invokestatic 119, 3) := by decide +kernel
theorem dL_law_471 : decode cL_law 471 = .ok (.iload 13, 2) := by decide +kernel
theorem dL_law_473 : decode cL_law 473 = .ok (.iload 11, 2) := by decide +kernel
theorem dL_law_475 : decode cL_law 475 = .ok (.ifCond .ge 7, 3) := by decide +kernel
theorem dL_law_478 : decode cL_law 478 = .ok (.iconst 0, 1) := by decide +kernel
theorem dL_law_479 : decode cL_law 479 = .ok (.goto 4, 3) := by decide +kernel
theorem dL_law_482 : decode cL_law 482 = .ok (.iconst 1, 1) := by decide +kernel
theorem dL_law_483 : decode cL_law 483 = .ok (.iadd, 1) := by decide +kernel
theorem dL_law_484 : decode cL_law 484 = .ok (.if_icmp .ne 7, 3) := by decide +kernel
theorem dL_law_487 : decode cL_law 487 = .ok (.iconst 1, 1) := by decide +kernel
theorem dL_law_488 : decode cL_law 488 = .ok (.goto 4, 3) := by decide +kernel
theorem dL_law_491 : decode cL_law 491 = .ok (.iconst 0, 1) := by decide +kernel
theorem dL_law_492 : decode cL_law 492 = .ok (.istore_n 2, 1) := by decide +kernel
theorem dL_law_493 : decode cL_law 493 = .ok (.iload_n 2, 1) := by decide +kernel
theorem dL_law_494 : decode cL_law 494 = .ok (.ifCond .eq 268, 3) := by decide +kernel
theorem dL_law_497 : decode cL_law 497 = .ok (.iload 11, 2) := by decide +kernel
theorem dL_law_499 : decode cL_law 499 = .ok (.ifCond .lt 263, 3) := by decide +kernel
theorem dL_law_502 : decode cL_law 502 = .ok (.aload_n 1, 1) := by decide +kernel
theorem dL_law_503 : decode cL_law 503 = .ok (.iload 11, 2) := by decide +kernel
theorem dL_law_505 : decode cL_law 505 = .ok (.iconst 1, 1) := by decide +kernel
theorem dL_law_506 : decode cL_law 506 = .ok (.invokestatic 125, 3) := by decide +kernel
theorem dL_law_509 : decode cL_law 509 = .ok (.istore 22, 2) := by decide +kernel
theorem dL_law_511 : decode cL_law 511 = .ok (.aload_n 1, 1) := by decide +kernel
theorem dL_law_512 : decode cL_law 512 = .ok (.bipush 7, 2) := by decide +kernel
theorem dL_law_514 : decode cL_law 514 = .ok (.invokestatic 117, 3) := by decide +kernel
theorem dL_law_517 : decode cL_law 517 = .ok (.iload 17, 2) := by decide +kernel
theorem dL_law_519 : decode cL_law 519 = .ok (.aload_n 1, 1) := by decide +kernel
theorem dL_law_520 : decode cL_law 520 = .ok (.iload 22, 2) := by decide +kernel
theorem dL_law_522 : decode cL_law 522 = .ok (.iconst 5, 1) := by decide +kernel
theorem dL_law_523 : decode cL_law 523 = .ok (.invokestatic 127, 3) := by decide +kernel
theorem dL_law_526 : decode cL_law 526 = .ok (.aload_n 1, 1) := by decide +kernel
theorem dL_law_527 : decode cL_law 527 = .ok (.iload 22, 2) := by decide +kernel
theorem dL_law_529 : decode cL_law 529 = .ok (.iconst 4, 1) := by decide +kernel
theorem dL_law_530 : decode cL_law 530 = .ok (.invokestatic 127, 3) := by decide +kernel
theorem dL_law_533 : decode cL_law 533 = .ok (.if_icmp .le 7, 3) := by decide +kernel
theorem dL_law_536 : decode cL_law 536 = .ok (.iconst 1, 1) := by decide +kernel
theorem dL_law_537 : decode cL_law 537 = .ok (.goto 4, 3) := by decide +kernel
theorem dL_law_540 : decode cL_law 540 = .ok (.iconst 0, 1) := by decide +kernel
theorem dL_law_541 : decode cL_law 541 = .ok (.iadd, 1) := by decide +kernel
theorem dL_law_542 : decode cL_law 542 = .ok (.if_icmp .ne 7, 3) := by decide +kernel
theorem dL_law_545 : decode cL_law 545 = .ok (.iconst 1, 1) := by decide +kernel
theorem dL_law_546 : decode cL_law 546 = .ok (.goto 4, 3) := by decide +kernel
theorem dL_law_549 : decode cL_law 549 = .ok (.iconst 0, 1) := by decide +kernel
theorem dL_law_550 : decode cL_law 550 = .ok (.istore_n 2, 1) := by decide +kernel
theorem dL_law_551 : decode cL_law 551 = .ok (.goto 211, 3) := by decide +kernel
theorem dL_law_554 : decode cL_law 554 = .ok (.iload_n 2, 1) := by decide +kernel
theorem dL_law_555 : decode cL_law 555 = .ok (.ifCond .eq 168, 3) := by decide +kernel
theorem dL_law_558 : decode cL_law 558 = .ok (.iload 6, 2) := by decide +kernel
theorem dL_law_560 : decode cL_law 560 = .ok (.iconst 5, 1) := by decide +kernel
theorem dL_law_561 : decode cL_law 561 = .ok (.if_icmp .eq 10, 3) := by decide +kernel
theorem dL_law_564 : decode cL_law 564 = .ok (.iload 6, 2) := by decide +kernel
theorem dL_law_566 : decode cL_law 566 = .ok (.bipush 6, 2) := by decide +kernel
theorem dL_law_568 : decode cL_law 568 = .ok (.if_icmp .ne 155, 3) := by decide +kernel
theorem dL_law_571 : decode cL_law 571 = .ok (.iload 5, 2) := by decide +kernel
theorem dL_law_573 : decode cL_law 573 = .ok (.iconst 1, 1) := by decide +kernel
theorem dL_law_574 : decode cL_law 574 = .ok (.iadd, 1) := by decide +kernel
theorem dL_law_575 : decode cL_law 575 = .ok (.iload 5, 2) := by decide +kernel
theorem dL_law_577 : decode cL_law 577 = .ok (.bipush 8, 2) := by decide +kernel
theorem dL_law_579 : decode cL_law 579 = .ok (.idiv, 1) := by decide +kernel
theorem dL_law_580 : decode cL_law 580 = .ok (.bipush 7, 2) := by decide +kernel
theorem dL_law_582 : decode cL_law 582 = .ok (.irem, 1) := by decide +kernel
theorem dL_law_583 : decode cL_law 583 = .ok (.iadd, 1) := by decide +kernel
theorem dL_law_584 : decode cL_law 584 = .ok (.bipush 8, 2) := by decide +kernel
theorem dL_law_586 : decode cL_law 586 = .ok (.irem, 1) := by decide +kernel
theorem dL_law_587 : decode cL_law 587 = .ok (.istore 22, 2) := by decide +kernel
theorem dL_law_589 : decode cL_law 589 = .ok (.iload 5, 2) := by decide +kernel
theorem dL_law_591 : decode cL_law 591 = .ok (.bipush 64, 2) := by decide +kernel
theorem dL_law_593 : decode cL_law 593 = .ok (.idiv, 1) := by decide +kernel
theorem dL_law_594 : decode cL_law 594 = .ok (.bipush 40, 2) := by decide +kernel
theorem dL_law_596 : decode cL_law 596 = .ok (.irem, 1) := by decide +kernel
theorem dL_law_597 : decode cL_law 597 = .ok (.istore 23, 2) := by decide +kernel
theorem dL_law_599 : decode cL_law 599 = .ok (.aload_n 1, 1) := by decide +kernel
theorem dL_law_600 : decode cL_law 600 = .ok (.iload 8, 2) := by decide +kernel
theorem dL_law_602 : decode cL_law 602 = .ok (.iload 22, 2) := by decide +kernel
theorem dL_law_604 : decode cL_law 604 = .ok (.invokestatic 160, 3) := by decide +kernel
theorem dL_law_607 : decode cL_law 607 = .ok (.istore 24, 2) := by decide +kernel
theorem dL_law_609 : decode cL_law 609 = .ok (.iload 20, 2) := by decide +kernel
theorem dL_law_611 : decode cL_law 611 = .ok (.iload 18, 2) := by decide +kernel
theorem dL_law_613 : decode cL_law 613 = .ok (.if_icmp .ne 105, 3) := by decide +kernel
theorem dL_law_616 : decode cL_law 616 = .ok (.aload_n 1, 1) := by decide +kernel
theorem dL_law_617 : decode cL_law 617 = .ok (.iload 8, 2) := by decide +kernel
theorem dL_law_619 : decode cL_law 619 = .ok (.iload 22, 2) := by decide +kernel
theorem dL_law_621 : decode cL_law 621 = .ok (.invokestatic 115, 3) := by decide +kernel
theorem dL_law_624 : decode cL_law 624 = .ok (.iload 23, 2) := by decide +kernel
theorem dL_law_626 : decode cL_law 626 = .ok (.if_icmp .ne 92, 3) := by decide +kernel
theorem dL_law_629 : decode cL_law 629 = .ok (.iload 19, 2) := by decide +kernel
theorem dL_law_631 : decode cL_law 631 = .ok (.ifCond .lt 87, 3) := by decide +kernel
theorem dL_law_634 : decode cL_law 634 = .ok (.iload 19, 2) := by decide +kernel
theorem dL_law_636 : decode cL_law 636 = .ok (.bipush 32, 2) := by decide +kernel
theorem dL_law_638 : decode cL_law 638 = .ok (.if_icmp .gt 80, 3) := by decide +kernel
theorem dL_law_641 : decode cL_law 641 = .ok (.iload 24, 2) := by decide +kernel
theorem dL_law_643 : decode cL_law 643 = .ok (.ifCond .ge 25, 3) := by decide +kernel
theorem dL_law_646 : decode cL_law 646 = .ok (.iload 23, 2) := by decide +kernel
theorem dL_law_648 : decode cL_law 648 = .ok (.ifCond .eq 66, 3) := by decide +kernel
theorem dL_law_651 : decode cL_law 651 = .ok (.aload_n 1, 1) := by decide +kernel
theorem dL_law_652 : decode cL_law 652 = .ok (.iload 8, 2) := by decide +kernel
theorem dL_law_654 : decode cL_law 654 = .ok (.iload 22, 2) := by decide +kernel
theorem dL_law_656 : decode cL_law 656 = .ok (.iconst 0, 1) := by decide +kernel
theorem dL_law_657 : decode cL_law 657 = .ok (.invokestatic 112, 3) := by decide +kernel
theorem dL_law_660 : decode cL_law 660 = .ok (.iload 23, 2) := by decide +kernel
theorem dL_law_662 : decode cL_law 662 = .ok (.if_icmp .ne 56, 3) := by decide +kernel
theorem dL_law_665 : decode cL_law 665 = .ok (.goto 49, 3) := by decide +kernel
theorem dL_law_668 : decode cL_law 668 = .ok (.iload 24, 2) := by decide +kernel
theorem dL_law_670 : decode cL_law 670 = .ok (.iconst 1, 1) := by decide +kernel
theorem dL_law_671 : decode cL_law 671 = .ok (.if_icmp .le 47, 3) := by decide +kernel
theorem dL_law_674 : decode cL_law 674 = .ok (.iload 24, 2) := by decide +kernel
theorem dL_law_676 : decode cL_law 676 = .ok (.bipush 99, 2) := by decide +kernel
theorem dL_law_678 : decode cL_law 678 = .ok (.if_icmp .gt 40, 3) := by decide +kernel
theorem dL_law_681 : decode cL_law 681 = .ok (.aload_n 1, 1) := by decide +kernel
theorem dL_law_682 : decode cL_law 682 = .ok (.iload 8, 2) := by decide +kernel
theorem dL_law_684 : decode cL_law 684 = .ok (.iload 22, 2) := by decide +kernel
theorem dL_law_686 : decode cL_law 686 = .ok (.iconst 0, 1) := by decide +kernel
theorem dL_law_687 : decode cL_law 687 = .ok (.invokestatic 112, 3) := by decide +kernel
theorem dL_law_690 : decode cL_law 690 = .ok (.iload 23, 2) := by decide +kernel
theorem dL_law_692 : decode cL_law 692 = .ok (.ifCond .eq 10, 3) := by decide +kernel
theorem dL_law_695 : decode cL_law 695 = .ok (.iload 23, 2) := by decide +kernel
theorem dL_law_697 : decode cL_law 697 = .ok (.iload 24, 2) := by decide +kernel
theorem dL_law_699 : decode cL_law 699 = .ok (.if_icmp .lt 10, 3) := by decide +kernel
theorem dL_law_702 : decode cL_law 702 = .ok (.iload 24, 2) := by decide +kernel
theorem dL_law_704 : decode cL_law 704 = .ok (.iconst 1, 1) := by decide +kernel
theorem dL_law_705 : decode cL_law 705 = .ok (.isub, 1) := by decide +kernel
theorem dL_law_706 : decode cL_law 706 = .ok (.goto 5, 3) := by decide +kernel
theorem dL_law_709 : decode cL_law 709 = .ok (.iload 23, 2) := by decide +kernel
theorem dL_law_711 : decode cL_law 711 = .ok (.if_icmp .ne 7, 3) := by decide +kernel
theorem dL_law_714 : decode cL_law 714 = .ok (.iconst 1, 1) := by decide +kernel
theorem dL_law_715 : decode cL_law 715 = .ok (.goto 4, 3) := by decide +kernel
theorem dL_law_718 : decode cL_law 718 = .ok (.iconst 0, 1) := by decide +kernel
theorem dL_law_719 : decode cL_law 719 = .ok (.istore_n 2, 1) := by decide +kernel
theorem dL_law_720 : decode cL_law 720 = .ok (.goto 42, 3) := by decide +kernel
theorem dL_law_723 : decode cL_law 723 = .ok (.iload_n 2, 1) := by decide +kernel
theorem dL_law_724 : decode cL_law 724 = .ok (.ifCond .eq 38, 3) := by decide +kernel
theorem dL_law_727 : decode cL_law 727 = .ok (.iload 6, 2) := by decide +kernel
theorem dL_law_729 : decode cL_law 729 = .ok (.iconst 2, 1) := by decide +kernel
theorem dL_law_730 : decode cL_law 730 = .ok (.if_icmp .ge 32, 3) := by decide +kernel
theorem dL_law_733 : decode cL_law 733 = .ok (.iload 21, 2) := by decide +kernel
theorem dL_law_735 : decode cL_law 735 = .ok (.ifCond .eq 21, 3) := by decide +kernel
theorem dL_law_738 : decode cL_law 738 = .ok (.iload 20, 2) := by decide +kernel
theorem dL_law_740 : decode cL_law 740 = .ok (.iload 10, 2) := by decide +kernel
theorem dL_law_742 : decode cL_law 742 = .ok (.if_icmp .ne 18, 3) := by decide +kernel
theorem dL_law_745 : decode cL_law 745 = .ok (.aload_n 1, 1) := by decide +kernel
theorem dL_law_746 : decode cL_law 746 = .ok (.iload 20, 2) := by decide +kernel
theorem dL_law_748 : decode cL_law 748 = .ok (.iconst 2, 1) := by decide +kernel
theorem dL_law_749 : decode cL_law 749 = .ok (.invokestatic 125, 3) := by decide +kernel
theorem dL_law_752 : decode cL_law 752 = .ok (.iconst 1, 1) := by decide +kernel
theorem dL_law_753 : decode cL_law 753 = .ok (.if_icmp .ne 7, 3) := by decide +kernel
theorem dL_law_756 : decode cL_law 756 = .ok (.iconst 1, 1) := by decide +kernel
theorem dL_law_757 : decode cL_law 757 = .ok (.goto 4, 3) := by decide +kernel
theorem dL_law_760 : decode cL_law 760 = .ok (.iconst 0, 1) := by decide +kernel
theorem dL_law_761 : decode cL_law 761 = .ok (.istore_n 2, 1) := by decide +kernel
theorem dL_law_762 : decode cL_law 762 = .ok (.iload_n 2, 1) := by decide +kernel
theorem dL_law_763 : decode cL_law 763 = .ok (.ifCond .eq 34, 3) := by decide +kernel
theorem dL_law_766 : decode cL_law 766 = .ok (.aload_n 1, 1) := by decide +kernel
theorem dL_law_767 : decode cL_law 767 = .ok (.iload 8, 2) := by decide +kernel
theorem dL_law_769 : decode cL_law 769 = .ok (.iload 9, 2) := by decide +kernel
theorem dL_law_771 : decode cL_law 771 = .ok (.invokestatic 162, 3) := by decide +kernel
theorem dL_law_774 : decode cL_law 774 = .ok (.ifCond .eq 23, 3) := by decide +kernel
theorem dL_law_777 : decode cL_law 777 = .ok (.iload_n 3, 1) := by decide +kernel
theorem dL_law_778 : decode cL_law 778 = .ok (.bipush 7, 2) := by decide +kernel
theorem dL_law_780 : decode cL_law 780 = .ok (.irem, 1) := by decide +kernel
theorem dL_law_781 : decode cL_law 781 = .ok (.ifCond .gt 12, 3) := by decide +kernel
theorem dL_law_784 : decode cL_law 784 = .ok (.aload_n 1, 1) := by decide +kernel
theorem dL_law_785 : decode cL_law 785 = .ok (.iload 5, 2) := by decide +kernel
theorem dL_law_787 : decode cL_law 787 = .ok (.invokestatic 147, 3) := by decide +kernel
theorem dL_law_790 : decode cL_law 790 = .ok (.ifCond .eq 7, 3) := by decide +kernel
theorem dL_law_793 : decode cL_law 793 = .ok (.iconst 1, 1) := by decide +kernel
theorem dL_law_794 : decode cL_law 794 = .ok (.goto 4, 3) := by decide +kernel
theorem dL_law_797 : decode cL_law 797 = .ok (.iconst 0, 1) := by decide +kernel
theorem dL_law_798 : decode cL_law 798 = .ok (.istore_n 2, 1) := by decide +kernel
theorem dL_law_799 : decode cL_law 799 = .ok (.iinc 3 1, 3) := by decide +kernel
theorem dL_law_802 : decode cL_law 802 = .ok (.goto (-702), 3) := by decide +kernel
theorem dL_law_805 : decode cL_law 805 = .ok (.iload_n 2, 1) := by decide +kernel
theorem dL_law_806 : decode cL_law 806 = .ok (.ifCond .eq 261, 3) := by decide +kernel
theorem dL_law_809 : decode cL_law 809 = .ok (.aload_n 1, 1) := by decide +kernel
theorem dL_law_810 : decode cL_law 810 = .ok (.iconst 5, 1) := by decide +kernel
theorem dL_law_811 : decode cL_law 811 = .ok (.invokestatic 147, 3) := by decide +kernel
theorem dL_law_814 : decode cL_law 814 = .ok (.ifCond .eq 253, 3) := by decide +kernel
theorem dL_law_817 : decode cL_law 817 = .ok (.aload_n 1, 1) := by decide +kernel
theorem dL_law_818 : decode cL_law 818 = .ok (.bipush 8, 2) := by decide +kernel
theorem dL_law_820 : decode cL_law 820 = .ok (.iconst 0, 1) := by decide +kernel
theorem dL_law_821 : decode cL_law 821 = .ok (.iconst 1, 1) := by decide +kernel
theorem dL_law_822 : decode cL_law 822 = .ok (.invokestatic 94, 3) := by decide +kernel
theorem dL_law_825 : decode cL_law 825 = .ok (.ldc 17, 2) := by decide +kernel
theorem dL_law_827 : decode cL_law 827 = .ok (.if_icmp .ne 240, 3) := by decide +kernel
theorem dL_law_830 : decode cL_law 830 = .ok (.aload_n 1, 1) := by decide +kernel
theorem dL_law_831 : decode cL_law 831 = .ok (.iconst 1, 1) := by decide +kernel
theorem dL_law_832 : decode cL_law 832 = .ok (.iconst 1, 1) := by decide +kernel
theorem dL_law_833 : decode cL_law 833 = .ok (.iconst 1, 1) := by decide +kernel
theorem dL_law_834 : decode cL_law 834 = .ok (.invokestatic 94, 3) := by decide +kernel
theorem dL_law_837 : decode cL_law 837 = .ok (.ldc 20, 2) := by decide +kernel
theorem dL_law_839 : decode cL_law 839 = .ok (.if_icmp .ne 228, 3) := by decide +kernel
theorem dL_law_842 : decode cL_law 842 = .ok (.aload_n 1, 1) := by decide +kernel
theorem dL_law_843 : decode cL_law 843 = .ok (.iconst 0, 1) := by decide +kernel
theorem dL_law_844 : decode cL_law 844 = .ok (.iconst 1, 1) := by decide +kernel
theorem dL_law_845 : decode cL_law 845 = .ok (.bipush 100, 2) := by decide +kernel
theorem dL_law_847 : decode cL_law 847 = .ok (.invokestatic 94, 3) := by decide +kernel
theorem dL_law_850 : decode cL_law 850 = .ok (.ldc 20, 2) := by decide +kernel
theorem dL_law_852 : decode cL_law 852 = .ok (.if_icmp .ne 215, 3) := by decide +kernel
theorem dL_law_855 : decode cL_law 855 = .ok (.aload_n 1, 1) := by decide +kernel
theorem dL_law_856 : decode cL_law 856 = .ok (.bipush 8, 2) := by decide +kernel
theorem dL_law_858 : decode cL_law 858 = .ok (.iconst 0, 1) := by decide +kernel
theorem dL_law_859 : decode cL_law 859 = .ok (.invokestatic 86, 3) := by decide +kernel
theorem dL_law_862 : decode cL_law 862 = .ok (.ldc 17, 2) := by decide +kernel
theorem dL_law_864 : decode cL_law 864 = .ok (.if_icmp .ne 203, 3) := by decide +kernel
theorem dL_law_867 : decode cL_law 867 = .ok (.aload_n 1, 1) := by decide +kernel
theorem dL_law_868 : decode cL_law 868 = .ok (.iconst 0, 1) := by decide +kernel
theorem dL_law_869 : decode cL_law 869 = .ok (.iconst 4, 1) := by decide +kernel
theorem dL_law_870 : decode cL_law 870 = .ok (.invokestatic 86, 3) := by decide +kernel
theorem dL_law_873 : decode cL_law 873 = .ok (.ldc 17, 2) := by decide +kernel
theorem dL_law_875 : decode cL_law 875 = .ok (.if_icmp .ne 192, 3) := by decide +kernel
theorem dL_law_878 : decode cL_law 878 = .ok (.aload_n 1, 1) := by decide +kernel
theorem dL_law_879 : decode cL_law 879 = .ok (.iconst 4, 1) := by decide +kernel
theorem dL_law_880 : decode cL_law 880 = .ok (.iconst 0, 1) := by decide +kernel
theorem dL_law_881 : decode cL_law 881 = .ok (.iconst 1, 1) := by decide +kernel
theorem dL_law_882 : decode cL_law 882 = .ok (.invokestatic 91, 3) := by decide +kernel
theorem dL_law_885 : decode cL_law 885 = .ok (.ldc 17, 2) := by decide +kernel
theorem dL_law_887 : decode cL_law 887 = .ok (.if_icmp .ne 180, 3) := by decide +kernel
theorem dL_law_890 : decode cL_law 890 = .ok (.aload_n 1, 1) := by decide +kernel
theorem dL_law_891 : decode cL_law 891 = .ok (.iconst 0, 1) := by decide +kernel
theorem dL_law_892 : decode cL_law 892 = .ok (.iconst 0, 1) := by decide +kernel
theorem dL_law_893 : decode cL_law 893 = .ok (.bipush 10, 2) := by decide +kernel
theorem dL_law_895 : decode cL_law 895 = .ok (.invokestatic 91, 3) := by decide +kernel
theorem dL_law_898 : decode cL_law 898 = .ok (.ldc 20, 2) := by decide +kernel
theorem dL_law_900 : decode cL_law 900 = .ok (.if_icmp .ne 167, 3) := by decide +kernel
theorem dL_law_903 : decode cL_law 903 = .ok (.aload_n 1, 1) := by decide +kernel
theorem dL_law_904 : decode cL_law 904 = .ok (.iconst 0, 1) := by decide +kernel
theorem dL_law_905 : decode cL_law 905 = .ok (.bipush 100, 2) := by decide +kernel
theorem dL_law_907 : decode cL_law 907 = .ok (.invokestatic 101, 3) := by decide +kernel
theorem dL_law_910 : decode cL_law 910 = .ok (.ldc 20, 2) := by decide +kernel
theorem dL_law_912 : decode cL_law 912 = .ok (.if_icmp .ne 155, 3) := by decide +kernel
theorem dL_law_915 : decode cL_law 915 = .ok (.aload_n 1, 1) := by decide +kernel
theorem dL_law_916 : decode cL_law 916 = .ok (.iconst 2, 1) := by decide +kernel
theorem dL_law_917 : decode cL_law 917 = .ok (.iconst 0, 1) := by decide +kernel
theorem dL_law_918 : decode cL_law 918 = .ok (.invokestatic 99, 3) := by decide +kernel
theorem dL_law_921 : decode cL_law 921 = .ok (.ldc 17, 2) := by decide +kernel
theorem dL_law_923 : decode cL_law 923 = .ok (.if_icmp .ne 144, 3) := by decide +kernel
theorem dL_law_926 : decode cL_law 926 = .ok (.aload_n 1, 1) := by decide +kernel
theorem dL_law_927 : decode cL_law 927 = .ok (.iconst 0, 1) := by decide +kernel
theorem dL_law_928 : decode cL_law 928 = .ok (.iconst 2, 1) := by decide +kernel
theorem dL_law_929 : decode cL_law 929 = .ok (.invokestatic 99, 3) := by decide +kernel
theorem dL_law_932 : decode cL_law 932 = .ok (.ldc 20, 2) := by decide +kernel
theorem dL_law_934 : decode cL_law 934 = .ok (.if_icmp .ne 133, 3) := by decide +kernel
theorem dL_law_937 : decode cL_law 937 = .ok (.aload_n 1, 1) := by decide +kernel
theorem dL_law_938 : decode cL_law 938 = .ok (.iconst 0, 1) := by decide +kernel
theorem dL_law_939 : decode cL_law 939 = .ok (.iconst 4, 1) := by decide +kernel
theorem dL_law_940 : decode cL_law 940 = .ok (.invokestatic 110, 3) := by decide +kernel
theorem dL_law_943 : decode cL_law 943 = .ok (.ldc 17, 2) := by decide +kernel
theorem dL_law_945 : decode cL_law 945 = .ok (.if_icmp .ne 122, 3) := by decide +kernel
theorem dL_law_948 : decode cL_law 948 = .ok (.aload_n 1, 1) := by decide +kernel
theorem dL_law_949 : decode cL_law 949 = .ok (.bipush 32, 2) := by decide +kernel
theorem dL_law_951 : decode cL_law 951 = .ok (.invokestatic 166, 3) := by decide +kernel
theorem dL_law_954 : decode cL_law 954 = .ok (.ldc 17, 2) := by decide +kernel
theorem dL_law_956 : decode cL_law 956 = .ok (.if_icmp .ne 111, 3) := by decide +kernel
theorem dL_law_959 : decode cL_law 959 = .ok (.aload_n 1, 1) := by decide +kernel
theorem dL_law_960 : decode cL_law 960 = .ok (.iconst 2, 1) := by decide +kernel
theorem dL_law_961 : decode cL_law 961 = .ok (.invokestatic 108, 3) := by decide +kernel
theorem dL_law_964 : decode cL_law 964 = .ok (.ldc 17, 2) := by decide +kernel
theorem dL_law_966 : decode cL_law 966 = .ok (.if_icmp .ne 101, 3) := by decide +kernel
theorem dL_law_969 : decode cL_law 969 = .ok (.aload_n 1, 1) := by decide +kernel
theorem dL_law_970 : decode cL_law 970 = .ok (.iconst (-1), 1) := by decide +kernel
theorem dL_law_971 : decode cL_law 971 = .ok (.iconst 0, 1) := by decide +kernel
theorem dL_law_972 : decode cL_law 972 = .ok (.invokestatic 115, 3) := by decide +kernel
theorem dL_law_975 : decode cL_law 975 = .ok (.ldc 17, 2) := by decide +kernel
theorem dL_law_977 : decode cL_law 977 = .ok (.if_icmp .ne 90, 3) := by decide +kernel
theorem dL_law_980 : decode cL_law 980 = .ok (.aload_n 1, 1) := by decide +kernel
theorem dL_law_981 : decode cL_law 981 = .ok (.iconst 0, 1) := by decide +kernel
theorem dL_law_982 : decode cL_law 982 = .ok (.iconst 1, 1) := by decide +kernel
theorem dL_law_983 : decode cL_law 983 = .ok (.iconst 2, 1) := by decide +kernel
theorem dL_law_984 : decode cL_law 984 = .ok (.invokestatic 112, 3) := by decide +kernel
theorem dL_law_987 : decode cL_law 987 = .ok (.ldc 20, 2) := by decide +kernel
theorem dL_law_989 : decode cL_law 989 = .ok (.if_icmp .ne 78, 3) := by decide +kernel
theorem dL_law_992 : decode cL_law 992 = .ok (.aload_n 1, 1) := by decide +kernel
theorem dL_law_993 : decode cL_law 993 = .ok (.iconst 0, 1) := by decide +kernel
theorem dL_law_994 : decode cL_law 994 = .ok (.bipush 8, 2) := by decide +kernel
theorem dL_law_996 : decode cL_law 996 = .ok (.invokestatic 127, 3) := by decide +kernel
theorem dL_law_999 : decode cL_law 999 = .ok (.ldc 20, 2) := by decide +kernel
theorem dL_law_1001 : decode cL_law 1001 = .ok (.if_icmp .ne 66, 3) := by decide +kernel
theorem dL_law_1004 : decode cL_law 1004 = .ok (.aload_n 1, 1) := by decide +kernel
theorem dL_law_1005 : decode cL_law 1005 = .ok (.iconst 0, 1) := by decide +kernel
theorem dL_law_1006 : decode cL_law 1006 = .ok (.iconst 0, 1) := by decide +kernel
theorem dL_law_1007 : decode cL_law 1007 = .ok (.bipush 6, 2) := by decide +kernel
theorem dL_law_1009 : decode cL_law 1009 = .ok (.invokestatic 119, 3) := by decide +kernel
theorem dL_law_1012 : decode cL_law 1012 = .ok (.ldc 20, 2) := by decide +kernel
theorem dL_law_1014 : decode cL_law 1014 = .ok (.if_icmp .ne 53, 3) := by decide +kernel
theorem dL_law_1017 : decode cL_law 1017 = .ok (.aload_n 1, 1) := by decide +kernel
theorem dL_law_1018 : decode cL_law 1018 = .ok (.bipush 10, 2) := by decide +kernel
theorem dL_law_1020 : decode cL_law 1020 = .ok (.invokestatic 117, 3) := by decide +kernel
theorem dL_law_1023 : decode cL_law 1023 = .ok (.ldc 17, 2) := by decide +kernel
theorem dL_law_1025 : decode cL_law 1025 = .ok (.if_icmp .ne 42, 3) := by decide +kernel
theorem dL_law_1028 : decode cL_law 1028 = .ok (.aload_n 1, 1) := by decide +kernel
theorem dL_law_1029 : decode cL_law 1029 = .ok (.iconst 2, 1) := by decide +kernel
theorem dL_law_1030 : decode cL_law 1030 = .ok (.iconst 2, 1) := by decide +kernel
theorem dL_law_1031 : decode cL_law 1031 = .ok (.iconst 1, 1) := by decide +kernel
theorem dL_law_1032 : decode cL_law 1032 = .ok (.invokestatic 154, 3) := by decide +kernel
theorem dL_law_1035 : decode cL_law 1035 = .ok (.ldc 20, 2) := by decide +kernel
theorem dL_law_1037 : decode cL_law 1037 = .ok (.if_icmp .ne 30, 3) := by decide +kernel
theorem dL_law_1040 : decode cL_law 1040 = .ok (.aload_n 1, 1) := by decide +kernel
theorem dL_law_1041 : decode cL_law 1041 = .ok (.iconst 3, 1) := by decide +kernel
theorem dL_law_1042 : decode cL_law 1042 = .ok (.iconst 3, 1) := by decide +kernel
theorem dL_law_1043 : decode cL_law 1043 = .ok (.invokestatic 160, 3) := by decide +kernel
theorem dL_law_1046 : decode cL_law 1046 = .ok (.ldc 20, 2) := by decide +kernel
theorem dL_law_1048 : decode cL_law 1048 = .ok (.if_icmp .ne 19, 3) := by decide +kernel
theorem dL_law_1051 : decode cL_law 1051 = .ok (.aload_n 1, 1) := by decide +kernel
theorem dL_law_1052 : decode cL_law 1052 = .ok (.bipush 8, 2) := by decide +kernel
theorem dL_law_1054 : decode cL_law 1054 = .ok (.iconst 0, 1) := by decide +kernel
theorem dL_law_1055 : decode cL_law 1055 = .ok (.invokestatic 160, 3) := by decide +kernel
theorem dL_law_1058 : decode cL_law 1058 = .ok (.ldc 17, 2) := by decide +kernel
theorem dL_law_1060 : decode cL_law 1060 = .ok (.if_icmp .ne 7, 3) := by decide +kernel
theorem dL_law_1063 : decode cL_law 1063 = .ok (.iconst 1, 1) := by decide +kernel
theorem dL_law_1064 : decode cL_law 1064 = .ok (.goto 4, 3) := by decide +kernel
theorem dL_law_1067 : decode cL_law 1067 = .ok (.iconst 0, 1) := by decide +kernel
theorem dL_law_1068 : decode cL_law 1068 = .ok (.ireturn, 1) := by decide +kernel
