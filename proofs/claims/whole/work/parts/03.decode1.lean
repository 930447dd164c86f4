theorem dX9_dearest_66 : decode cX9_dearest 66 = .ok (.istore_n 1, 1) := by decide +kernel
theorem dX9_dearest_67 : decode cX9_dearest 67 = .ok (.iinc 3 1, 3) := by decide +kernel
theorem dX9_dearest_70 : decode cX9_dearest 70 = .ok (.goto (-53), 3) := by decide +kernel
theorem dX9_dearest_73 : decode cX9_dearest 73 = .ok (.iload_n 1, 1) := by decide +kernel
theorem dX9_dearest_74 : decode cX9_dearest 74 = .ok (.ireturn, 1) := by decide +kernel
theorem dX9_idle_0 : decode cX9_idle 0 = .ok (.iload_n 1, 1) := by decide +kernel
theorem dX9_idle_1 : decode cX9_idle 1 = .ok (.iload_n 2, 1) := by decide +kernel
theorem dX9_idle_2 : decode cX9_idle 2 = .ok (.invokestatic 56, 3) := by decide +kernel
theorem dX9_idle_5 : decode cX9_idle 5 = .ok (.aload_n 0, 1) := by decide +kernel
theorem dX9_idle_6 : decode cX9_idle 6 = .ok (.getfield 16, 3) := by decide +kernel
theorem dX9_idle_9 : decode cX9_idle 9 = .ok (.getfield 67, 3) := by decide +kernel
theorem dX9_idle_12 : decode cX9_idle 12 = .ok (.aload_n 0, 1) := by decide +kernel
theorem dX9_idle_13 : decode cX9_idle 13 = .ok (.getfield 10, 3) := by decide +kernel
theorem dX9_idle_16 : decode cX9_idle 16 = .ok (.getfield 67, 3) := by decide +kernel
theorem dX9_idle_19 : decode cX9_idle 19 = .ok (.invokevirtual 297, 3) := by decide +kernel
theorem dX9_idle_22 : decode cX9_idle 22 = .ok (.aload_n 0, 1) := by decide +kernel
theorem dX9_idle_23 : decode cX9_idle 23 = .ok (.getfield 16, 3) := by decide +kernel
theorem dX9_idle_26 : decode cX9_idle 26 = .ok (.getfield 67, 3) := by decide +kernel
theorem dX9_idle_29 : decode cX9_idle 29 = .ok (.iload_n 1, 1) := by decide +kernel
theorem dX9_idle_30 : decode cX9_idle 30 = .ok (.iload_n 2, 1) := by decide +kernel
theorem dX9_idle_31 : decode cX9_idle 31 = .ok (.iconst 0, 1) := by decide +kernel
theorem dX9_idle_32 : decode cX9_idle 32 = .ok (.invokevirtual 71, 3) := by decide +kernel
theorem dX9_idle_35 : decode cX9_idle 35 = .ok (.pop, 1) := by decide +kernel
theorem dX9_idle_36 : decode cX9_idle 36 = .ok (.aload_n 0, 1) := by decide +kernel
theorem dX9_idle_37 : decode cX9_idle 37 = .ok (.getfield 16, 3) := by decide +kernel
theorem dX9_idle_40 : decode cX9_idle 40 = .ok (.getfield 67, 3) := by decide +kernel
theorem dX9_idle_43 : decode cX9_idle 43 = .ok (.iload_n 1, 1) := by decide +kernel
theorem dX9_idle_44 : decode cX9_idle 44 = .ok (.iload_n 2, 1) := by decide +kernel
theorem dX9_idle_45 : decode cX9_idle 45 = .ok (.invokevirtual 214, 3) := by decide +kernel
theorem dX9_idle_48 : decode cX9_idle 48 = .ok (.istore_n 3, 1) := by decide +kernel
theorem dX9_idle_49 : decode cX9_idle 49 = .ok (.iload_n 3, 1) := by decide +kernel
theorem dX9_idle_50 : decode cX9_idle 50 = .ok (.iconst (-1), 1) := by decide +kernel
theorem dX9_idle_51 : decode cX9_idle 51 = .ok (.if_icmp .eq 15, 3) := by decide +kernel
theorem dX9_idle_54 : decode cX9_idle 54 = .ok (.iload_n 3, 1) := by decide +kernel
theorem dX9_idle_55 : decode cX9_idle 55 = .ok (.bipush 99, 2) := by decide +kernel
theorem dX9_idle_57 : decode cX9_idle 57 = .ok (.if_icmp .ge 9, 3) := by decide +kernel
theorem dX9_idle_60 : decode cX9_idle 60 = .ok (.iload_n 3, 1) := by decide +kernel
theorem dX9_idle_61 : decode cX9_idle 61 = .ok (.iconst 1, 1) := by decide +kernel
theorem dX9_idle_62 : decode cX9_idle 62 = .ok (.iadd, 1) := by decide +kernel
theorem dX9_idle_63 : decode cX9_idle 63 = .ok (.goto 4, 3) := by decide +kernel
theorem dX9_idle_66 : decode cX9_idle 66 = .ok (.iconst (-1), 1) := by decide +kernel
theorem dX9_idle_67 : decode cX9_idle 67 = .ok (.ireturn, 1) := by decide +kernel
theorem dX9_hotShare_0 : decode cX9_hotShare 0 = .ok (.aload_n 0, 1) := by decide +kernel
theorem dX9_hotShare_1 : decode cX9_hotShare 1 = .ok (.getfield 10, 3) := by decide +kernel
theorem dX9_hotShare_4 : decode cX9_hotShare 4 = .ok (.getfield 140, 3) := by decide +kernel
theorem dX9_hotShare_7 : decode cX9_hotShare 7 = .ok (.ifCond .ne 5, 3) := by decide +kernel
theorem dX9_hotShare_10 : decode cX9_hotShare 10 = .ok (.dconst 1, 1) := by decide +kernel
theorem dX9_hotShare_11 : decode cX9_hotShare 11 = .ok (.dreturn, 1) := by decide +kernel
theorem dX9_hotShare_12 : decode cX9_hotShare 12 = .ok (.aload_n 0, 1) := by decide +kernel
theorem dX9_hotShare_13 : decode cX9_hotShare 13 = .ok (.getfield 10, 3) := by decide +kernel
theorem dX9_hotShare_16 : decode cX9_hotShare 16 = .ok (.getfield 140, 3) := by decide +kernel
theorem dX9_hotShare_19 : decode cX9_hotShare 19 = .ok (.aload_n 0, 1) := by decide +kernel
theorem dX9_hotShare_20 : decode cX9_hotShare 20 = .ok (.getfield 10, 3) := by decide +kernel
theorem dX9_hotShare_23 : decode cX9_hotShare 23 = .ok (.getfield 277, 3) := by decide +kernel
theorem dX9_hotShare_26 : decode cX9_hotShare 26 = .ok (.isub, 1) := by decide +kernel
theorem dX9_hotShare_27 : decode cX9_hotShare 27 = .ok (.i2d, 1) := by decide +kernel
theorem dX9_hotShare_28 : decode cX9_hotShare 28 = .ok (.aload_n 0, 1) := by decide +kernel
theorem dX9_hotShare_29 : decode cX9_hotShare 29 = .ok (.getfield 10, 3) := by decide +kernel
theorem dX9_hotShare_32 : decode cX9_hotShare 32 = .ok (.getfield 140, 3) := by decide +kernel
theorem dX9_hotShare_35 : decode cX9_hotShare 35 = .ok (.i2d, 1) := by decide +kernel
theorem dX9_hotShare_36 : decode cX9_hotShare 36 = .ok (.ddiv, 1) := by decide +kernel
theorem dX9_hotShare_37 : decode cX9_hotShare 37 = .ok (.dreturn, 1) := by decide +kernel
theorem dX9_digest_0 : decode cX9_digest 0 = .ok (.ldc2_w 300, 3) := by decide +kernel
theorem dX9_digest_3 : decode cX9_digest 3 = .ok (.lstore_n 1, 1) := by decide +kernel
theorem dX9_digest_4 : decode cX9_digest 4 = .ok (.aload_n 0, 1) := by decide +kernel
theorem dX9_digest_5 : decode cX9_digest 5 = .ok (.lload_n 1, 1) := by decide +kernel
theorem dX9_digest_6 : decode cX9_digest 6 = .ok (.invokevirtual 302, 3) := by decide +kernel
theorem dX9_digest_9 : decode cX9_digest 9 = .ok (.lstore_n 1, 1) := by decide +kernel
theorem dX9_digest_10 : decode cX9_digest 10 = .ok (.lload_n 1, 1) := by decide +kernel
theorem dX9_digest_11 : decode cX9_digest 11 = .ok (.aload_n 0, 1) := by decide +kernel
theorem dX9_digest_12 : decode cX9_digest 12 = .ok (.getfield 10, 3) := by decide +kernel
theorem dX9_digest_15 : decode cX9_digest 15 = .ok (.iconst 0, 1) := by decide +kernel
theorem dX9_digest_16 : decode cX9_digest 16 = .ok (.invokevirtual 306, 3) := by decide +kernel
theorem dX9_digest_19 : decode cX9_digest 19 = .ok (.i2l, 1) := by decide +kernel
theorem dX9_digest_20 : decode cX9_digest 20 = .ok (.invokestatic 309, 3) := by decide +kernel
theorem dX9_digest_23 : decode cX9_digest 23 = .ok (.lstore_n 1, 1) := by decide +kernel
theorem dX9_digest_24 : decode cX9_digest 24 = .ok (.lload_n 1, 1) := by decide +kernel
theorem dX9_digest_25 : decode cX9_digest 25 = .ok (.aload_n 0, 1) := by decide +kernel
theorem dX9_digest_26 : decode cX9_digest 26 = .ok (.getfield 10, 3) := by decide +kernel
theorem dX9_digest_29 : decode cX9_digest 29 = .ok (.iconst 1, 1) := by decide +kernel
theorem dX9_digest_30 : decode cX9_digest 30 = .ok (.invokevirtual 306, 3) := by decide +kernel
theorem dX9_digest_33 : decode cX9_digest 33 = .ok (.i2l, 1) := by decide +kernel
theorem dX9_digest_34 : decode cX9_digest 34 = .ok (.invokestatic 309, 3) := by decide +kernel
theorem dX9_digest_37 : decode cX9_digest 37 = .ok (.lstore_n 1, 1) := by decide +kernel
theorem dX9_digest_38 : decode cX9_digest 38 = .ok (.aload_n 0, 1) := by decide +kernel
theorem dX9_digest_39 : decode cX9_digest 39 = .ok (.lload_n 1, 1) := by decide +kernel
theorem dX9_digest_40 : decode cX9_digest 40 = .ok (.invokevirtual 313, 3) := by decide +kernel
theorem dX9_digest_43 : decode cX9_digest 43 = .ok (.lstore_n 1, 1) := by decide +kernel
theorem dX9_digest_44 : decode cX9_digest 44 = .ok (.aload_n 0, 1) := by decide +kernel
theorem dX9_digest_45 : decode cX9_digest 45 = .ok (.lload_n 1, 1) := by decide +kernel
theorem dX9_digest_46 : decode cX9_digest 46 = .ok (.invokevirtual 316, 3) := by decide +kernel
theorem dX9_digest_49 : decode cX9_digest 49 = .ok (.lstore_n 1, 1) := by decide +kernel
theorem dX9_digest_50 : decode cX9_digest 50 = .ok (.aload_n 0, 1) := by decide +kernel
theorem dX9_digest_51 : decode cX9_digest 51 = .ok (.lload_n 1, 1) := by decide +kernel
theorem dX9_digest_52 : decode cX9_digest 52 = .ok (.invokevirtual 319, 3) := by decide +kernel
theorem dX9_digest_55 : decode cX9_digest 55 = .ok (.lstore_n 1, 1) := by decide +kernel
theorem dX9_digest_56 : decode cX9_digest 56 = .ok (.aload_n 0, 1) := by decide +kernel
theorem dX9_digest_57 : decode cX9_digest 57 = .ok (.lload_n 1, 1) := by decide +kernel
theorem dX9_digest_58 : decode cX9_digest 58 = .ok (.invokevirtual 322, 3) := by decide +kernel
theorem dX9_digest_61 : decode cX9_digest 61 = .ok (.lstore_n 1, 1) := by decide +kernel
theorem dX9_digest_62 : decode cX9_digest 62 = .ok (.aload_n 0, 1) := by decide +kernel
theorem dX9_digest_63 : decode cX9_digest 63 = .ok (.lload_n 1, 1) := by decide +kernel
theorem dX9_digest_64 : decode cX9_digest 64 = .ok (.invokevirtual 325, 3) := by decide +kernel
theorem dX9_digest_67 : decode cX9_digest 67 = .ok (.lstore_n 1, 1) := by decide +kernel
theorem dX9_digest_68 : decode cX9_digest 68 = .ok (.lload_n 1, 1) := by decide +kernel
theorem dX9_digest_69 : decode cX9_digest 69 = .ok (.aload_n 0, 1) := by decide +kernel
theorem dX9_digest_70 : decode cX9_digest 70 = .ok (.iconst 0, 1) := by decide +kernel
theorem dX9_digest_71 : decode cX9_digest 71 = .ok (.bipush 7, 2) := by decide +kernel
theorem dX9_digest_73 : decode cX9_digest 73 = .ok (.iconst 5, 1) := by decide +kernel
theorem dX9_digest_74 : decode cX9_digest 74 = .ok (.invokevirtual 328, 3) := by decide +kernel
theorem dX9_digest_77 : decode cX9_digest 77 = .ok (.i2l, 1) := by decide +kernel
theorem dX9_digest_78 : decode cX9_digest 78 = .ok (.invokestatic 309, 3) := by decide +kernel
theorem dX9_digest_81 : decode cX9_digest 81 = .ok (.lstore_n 1, 1) := by decide +kernel
theorem dX9_digest_82 : decode cX9_digest 82 = .ok (.lload_n 1, 1) := by decide +kernel
theorem dX9_digest_83 : decode cX9_digest 83 = .ok (.aload_n 0, 1) := by decide +kernel
theorem dX9_digest_84 : decode cX9_digest 84 = .ok (.invokevirtual 331, 3) := by decide +kernel
theorem dX9_digest_87 : decode cX9_digest 87 = .ok (.i2l, 1) := by decide +kernel
theorem dX9_digest_88 : decode cX9_digest 88 = .ok (.invokestatic 309, 3) := by decide +kernel
theorem dX9_digest_91 : decode cX9_digest 91 = .ok (.lstore_n 1, 1) := by decide +kernel
theorem dX9_digest_92 : decode cX9_digest 92 = .ok (.lload_n 1, 1) := by decide +kernel
theorem dX9_digest_93 : decode cX9_digest 93 = .ok (.aload_n 0, 1) := by decide +kernel
theorem dX9_digest_94 : decode cX9_digest 94 = .ok (.iconst 0, 1) := by decide +kernel
theorem dX9_digest_95 : decode cX9_digest 95 = .ok (.bipush 7, 2) := by decide +kernel
theorem dX9_digest_97 : decode cX9_digest 97 = .ok (.invokevirtual 334, 3) := by decide +kernel
theorem dX9_digest_100 : decode cX9_digest 100 = .ok (.i2l, 1) := by decide +kernel
theorem dX9_digest_101 : decode cX9_digest 101 = .ok (.invokestatic 309, 3) := by decide +kernel
theorem dX9_digest_104 : decode cX9_digest 104 = .ok (.lstore_n 1, 1) := by decide +kernel
theorem dX9_digest_105 : decode cX9_digest 105 = .ok (.lload_n 1, 1) := by decide +kernel
theorem dX9_digest_106 : decode cX9_digest 106 = .ok (.aload_n 0, 1) := by decide +kernel
theorem dX9_digest_107 : decode cX9_digest 107 = .ok (.invokevirtual 337, 3) := by decide +kernel
theorem dX9_digest_110 : decode cX9_digest 110 = .ok (.invokestatic 341, 3) := by decide +kernel
theorem dX9_digest_113 : decode cX9_digest 113 = .ok (.invokestatic 309, 3) := by decide +kernel
theorem dX9_digest_116 : decode cX9_digest 116 = .ok (.lstore_n 1, 1) := by decide +kernel
theorem dX9_digest_117 : decode cX9_digest 117 = .ok (.aload_n 0, 1) := by decide +kernel
theorem dX9_digest_118 : decode cX9_digest 118 = .ok (.lload_n 1, 1) := by decide +kernel
theorem dX9_digest_119 : decode cX9_digest 119 = .ok (.invokevirtual 345, 3) := by decide +kernel
theorem dX9_digest_122 : decode cX9_digest 122 = .ok (.lstore_n 1, 1) := by decide +kernel
theorem dX9_digest_123 : decode cX9_digest 123 = .ok (.aload_n 0, 1) := by decide +kernel
theorem dX9_digest_124 : decode cX9_digest 124 = .ok (.lload_n 1, 1) := by decide +kernel
theorem dX9_digest_125 : decode cX9_digest 125 = .ok (.invokevirtual 348, 3) := by decide +kernel
theorem dX9_digest_128 : decode cX9_digest 128 = .ok (.lreturn, 1) := by decide +kernel
theorem dX9_isTown_0 : decode cX9_isTown 0 = .ok (.iload_n 0, 1) := by decide +kernel
theorem dX9_isTown_1 : decode cX9_isTown 1 = .ok (.ifCond .lt 13, 3) := by decide +kernel
theorem dX9_isTown_4 : decode cX9_isTown 4 = .ok (.iload_n 0, 1) := by decide +kernel
theorem dX9_isTown_5 : decode cX9_isTown 5 = .ok (.bipush 8, 2) := by decide +kernel
theorem dX9_isTown_7 : decode cX9_isTown 7 = .ok (.if_icmp .ge 7, 3) := by decide +kernel
theorem dX9_isTown_10 : decode cX9_isTown 10 = .ok (.iconst 1, 1) := by decide +kernel
theorem dX9_isTown_11 : decode cX9_isTown 11 = .ok (.goto 4, 3) := by decide +kernel
theorem dX9_isTown_14 : decode cX9_isTown 14 = .ok (.iconst 0, 1) := by decide +kernel
theorem dX9_isTown_15 : decode cX9_isTown 15 = .ok (.ireturn, 1) := by decide +kernel
theorem dX9_isHouse_0 : decode cX9_isHouse 0 = .ok (.iload_n 0, 1) := by decide +kernel
theorem dX9_isHouse_1 : decode cX9_isHouse 1 = .ok (.ifCond .lt 12, 3) := by decide +kernel
theorem dX9_isHouse_4 : decode cX9_isHouse 4 = .ok (.iload_n 0, 1) := by decide +kernel
theorem dX9_isHouse_5 : decode cX9_isHouse 5 = .ok (.iconst 4, 1) := by decide +kernel
theorem dX9_isHouse_6 : decode cX9_isHouse 6 = .ok (.if_icmp .ge 7, 3) := by decide +kernel
theorem dX9_isHouse_9 : decode cX9_isHouse 9 = .ok (.iconst 1, 1) := by decide +kernel
theorem dX9_isHouse_10 : decode cX9_isHouse 10 = .ok (.goto 4, 3) := by decide +kernel
theorem dX9_isHouse_13 : decode cX9_isHouse 13 = .ok (.iconst 0, 1) := by decide +kernel
theorem dX9_isHouse_14 : decode cX9_isHouse 14 = .ok (.ireturn, 1) := by decide +kernel
theorem dX9_isNeighbour_0 : decode cX9_isNeighbour 0 = .ok (.iload_n 0, 1) := by decide +kernel
theorem dX9_isNeighbour_1 : decode cX9_isNeighbour 1 = .ok (.ifCond .lt 12, 3) := by decide +kernel
theorem dX9_isNeighbour_4 : decode cX9_isNeighbour 4 = .ok (.iload_n 0, 1) := by decide +kernel
theorem dX9_isNeighbour_5 : decode cX9_isNeighbour 5 = .ok (.iconst 4, 1) := by decide +kernel
theorem dX9_isNeighbour_6 : decode cX9_isNeighbour 6 = .ok (.if_icmp .ge 7, 3) := by decide +kernel
theorem dX9_isNeighbour_9 : decode cX9_isNeighbour 9 = .ok (.iconst 1, 1) := by decide +kernel
theorem dX9_isNeighbour_10 : decode cX9_isNeighbour 10 = .ok (.goto 4, 3) := by decide +kernel
theorem dX9_isNeighbour_13 : decode cX9_isNeighbour 13 = .ok (.iconst 0, 1) := by decide +kernel
theorem dX9_isNeighbour_14 : decode cX9_isNeighbour 14 = .ok (.ireturn, 1) := by decide +kernel
theorem dX9_needTown_0 : decode cX9_needTown 0 = .ok (.iload_n 0, 1) := by decide +kernel
theorem dX9_needTown_1 : decode cX9_needTown 1 = .ok (.invokestatic 351, 3) := by decide +kernel
theorem dX9_needTown_4 : decode cX9_needTown 4 = .ok (.ifCond .ne 14, 3) := by decide +kernel
theorem dX9_needTown_7 : decode cX9_needTown 7 = .ok (.new 132, 3) := by decide +kernel
theorem dX9_needTown_10 : decode cX9_needTown 10 = .ok (.dup, 1) := by decide +kernel
theorem dX9_needTown_11 : decode cX9_needTown 11 = .ok (.ldc_w 354, 3) := by decide +kernel
theorem dX9_needTown_14 : decode cX9_needTown 14 = .ok (.invokespecial 136, 3) := by decide +kernel
theorem dX9_needTown_17 : decode cX9_needTown 17 = .ok (.athrow, 1) := by decide +kernel
theorem dX9_needTown_18 : decode cX9_needTown 18 = .ok (.return_, 1) := by decide +kernel
theorem dX9_needTwoTowns_0 : decode cX9_needTwoTowns 0 = .ok (.iload_n 0, 1) := by decide +kernel
theorem dX9_needTwoTowns_1 : decode cX9_needTwoTowns 1 = .ok (.invokestatic 77, 3) := by decide +kernel
theorem dX9_needTwoTowns_4 : decode cX9_needTwoTowns 4 = .ok (.iload_n 1, 1) := by decide +kernel
theorem dX9_needTwoTowns_5 : decode cX9_needTwoTowns 5 = .ok (.invokestatic 77, 3) := by decide +kernel
theorem dX9_needTwoTowns_8 : decode cX9_needTwoTowns 8 = .ok (.iload_n 0, 1) := by decide +kernel
theorem dX9_needTwoTowns_9 : decode cX9_needTwoTowns 9 = .ok (.iload_n 1, 1) := by decide +kernel
theorem dX9_needTwoTowns_10 : decode cX9_needTwoTowns 10 = .ok (.if_icmp .ne 14, 3) := by decide +kernel
theorem dX9_needTwoTowns_13 : decode cX9_needTwoTowns 13 = .ok (.new 153, 3) := by decide +kernel
theorem dX9_needTwoTowns_16 : decode cX9_needTwoTowns 16 = .ok (.dup, 1) := by decide +kernel
theorem dX9_needTwoTowns_17 : decode cX9_needTwoTowns 17 = .ok (.ldc_w 356, 3) := by decide +kernel
theorem dX9_needTwoTowns_20 : decode cX9_needTwoTowns 20 = .ok (.invokespecial 157, 3) := by decide +kernel
theorem dX9_needTwoTowns_23 : decode cX9_needTwoTowns 23 = .ok (.athrow, 1) := by decide +kernel
theorem dX9_needTwoTowns_24 : decode cX9_needTwoTowns 24 = .ok (.return_, 1) := by decide +kernel
theorem dX9_needHouse_0 : decode cX9_needHouse 0 = .ok (.iload_n 0, 1) := by decide +kernel
theorem dX9_needHouse_1 : decode cX9_needHouse 1 = .ok (.invokestatic 358, 3) := by decide +kernel
theorem dX9_needHouse_4 : decode cX9_needHouse 4 = .ok (.ifCond .ne 14, 3) := by decide +kernel
theorem dX9_needHouse_7 : decode cX9_needHouse 7 = .ok (.new 132, 3) := by decide +kernel
theorem dX9_needHouse_10 : decode cX9_needHouse 10 = .ok (.dup, 1) := by decide +kernel
theorem dX9_needHouse_11 : decode cX9_needHouse 11 = .ok (.ldc_w 361, 3) := by decide +kernel
theorem dX9_needHouse_14 : decode cX9_needHouse 14 = .ok (.invokespecial 136, 3) := by decide +kernel
theorem dX9_needHouse_17 : decode cX9_needHouse 17 = .ok (.athrow, 1) := by decide +kernel
theorem dX9_needHouse_18 : decode cX9_needHouse 18 = .ok (.return_, 1) := by decide +kernel
theorem dX9_needNeighbour_0 : decode cX9_needNeighbour 0 = .ok (.iload_n 0, 1) := by decide +kernel
theorem dX9_needNeighbour_1 : decode cX9_needNeighbour 1 = .ok (.invokestatic 363, 3) := by decide +kernel
theorem dX9_needNeighbour_4 : decode cX9_needNeighbour 4 = .ok (.ifCond .ne 14, 3) := by decide +kernel
theorem dX9_needNeighbour_7 : decode cX9_needNeighbour 7 = .ok (.new 132, 3) := by decide +kernel
theorem dX9_needNeighbour_10 : decode cX9_needNeighbour 10 = .ok (.dup, 1) := by decide +kernel
theorem dX9_needNeighbour_11 : decode cX9_needNeighbour 11 = .ok (.ldc_w 366, 3) := by decide +kernel
theorem dX9_needNeighbour_14 : decode cX9_needNeighbour 14 = .ok (.invokespecial 136, 3) := by decide +kernel
theorem dX9_needNeighbour_17 : decode cX9_needNeighbour 17 = .ok (.athrow, 1) := by decide +kernel
theorem dX9_needNeighbour_18 : decode cX9_needNeighbour 18 = .ok (.return_, 1) := by decide +kernel
theorem dX9_needExit_0 : decode cX9_needExit 0 = .ok (.aload_n 0, 1) := by decide +kernel
theorem dX9_needExit_1 : decode cX9_needExit 1 = .ok (.getfield 10, 3) := by decide +kernel
theorem dX9_needExit_4 : decode cX9_needExit 4 = .ok (.getfield 83, 3) := by decide +kernel
theorem dX9_needExit_7 : decode cX9_needExit 7 = .ok (.iload_n 1, 1) := by decide +kernel
theorem dX9_needExit_8 : decode cX9_needExit 8 = .ok (.invokevirtual 368, 3) := by decide +kernel
theorem dX9_needExit_11 : decode cX9_needExit 11 = .ok (.ifCond .ne 14, 3) := by decide +kernel
theorem dX9_needExit_14 : decode cX9_needExit 14 = .ok (.new 132, 3) := by decide +kernel
theorem dX9_needExit_17 : decode cX9_needExit 17 = .ok (.dup, 1) := by decide +kernel
theorem dX9_needExit_18 : decode cX9_needExit 18 = .ok (.ldc_w 371, 3) := by decide +kernel
theorem dX9_needExit_21 : decode cX9_needExit 21 = .ok (.invokespecial 136, 3) := by decide +kernel
theorem dX9_needExit_24 : decode cX9_needExit 24 = .ok (.athrow, 1) := by decide +kernel
theorem dX9_needExit_25 : decode cX9_needExit 25 = .ok (.return_, 1) := by decide +kernel
theorem dX9_needCost_0 : decode cX9_needCost 0 = .ok (.iload_n 0, 1) := by decide +kernel
theorem dX9_needCost_1 : decode cX9_needCost 1 = .ok (.bipush 99, 2) := by decide +kernel
theorem dX9_needCost_3 : decode cX9_needCost 3 = .ok (.invokestatic 117, 3) := by decide +kernel
theorem dX9_needCost_6 : decode cX9_needCost 6 = .ok (.return_, 1) := by decide +kernel
theorem dX9_needSlot_0 : decode cX9_needSlot 0 = .ok (.iload_n 0, 1) := by decide +kernel
theorem dX9_needSlot_1 : decode cX9_needSlot 1 = .ok (.iconst 1, 1) := by decide +kernel
theorem dX9_needSlot_2 : decode cX9_needSlot 2 = .ok (.invokestatic 117, 3) := by decide +kernel
theorem dX9_needSlot_5 : decode cX9_needSlot 5 = .ok (.return_, 1) := by decide +kernel
theorem dX9_needFromZero_0 : decode cX9_needFromZero 0 = .ok (.iload_n 0, 1) := by decide +kernel
theorem dX9_needFromZero_1 : decode cX9_needFromZero 1 = .ok (.ifCond .lt 8, 3) := by decide +kernel
theorem dX9_needFromZero_4 : decode cX9_needFromZero 4 = .ok (.iload_n 0, 1) := by decide +kernel
theorem dX9_needFromZero_5 : decode cX9_needFromZero 5 = .ok (.iload_n 1, 1) := by decide +kernel
theorem dX9_needFromZero_6 : decode cX9_needFromZero 6 = .ok (.if_icmp .le 14, 3) := by decide +kernel
theorem dX9_needFromZero_9 : decode cX9_needFromZero 9 = .ok (.new 153, 3) := by decide +kernel
theorem dX9_needFromZero_12 : decode cX9_needFromZero 12 = .ok (.dup, 1) := by decide +kernel
theorem dX9_needFromZero_13 : decode cX9_needFromZero 13 = .ok (.ldc_w 373, 3) := by decide +kernel
theorem dX9_needFromZero_16 : decode cX9_needFromZero 16 = .ok (.invokespecial 157, 3) := by decide +kernel
theorem dX9_needFromZero_19 : decode cX9_needFromZero 19 = .ok (.athrow, 1) := by decide +kernel
theorem dX9_needFromZero_20 : decode cX9_needFromZero 20 = .ok (.return_, 1) := by decide +kernel
theorem dX9_sendLoaf_0 : decode cX9_sendLoaf 0 = .ok (.aload_n 0, 1) := by decide +kernel
theorem dX9_sendLoaf_1 : decode cX9_sendLoaf 1 = .ok (.getfield 22, 3) := by decide +kernel
theorem dX9_sendLoaf_4 : decode cX9_sendLoaf 4 = .ok (.aload_n 0, 1) := by decide +kernel
theorem dX9_sendLoaf_5 : decode cX9_sendLoaf 5 = .ok (.getfield 10, 3) := by decide +kernel
theorem dX9_sendLoaf_8 : decode cX9_sendLoaf 8 = .ok (.iload_n 1, 1) := by decide +kernel
theorem dX9_sendLoaf_9 : decode cX9_sendLoaf 9 = .ok (.iload_n 2, 1) := by decide +kernel
theorem dX9_sendLoaf_10 : decode cX9_sendLoaf 10 = .ok (.invokevirtual 242, 3) := by decide +kernel
theorem dX9_sendLoaf_13 : decode cX9_sendLoaf 13 = .ok (.aload_n 0, 1) := by decide +kernel
theorem dX9_sendLoaf_14 : decode cX9_sendLoaf 14 = .ok (.getfield 10, 3) := by decide +kernel
theorem dX9_sendLoaf_17 : decode cX9_sendLoaf 17 = .ok (.iload_n 1, 1) := by decide +kernel
theorem dX9_sendLoaf_18 : decode cX9_sendLoaf 18 = .ok (.iload_n 2, 1) := by decide +kernel
theorem dX9_sendLoaf_19 : decode cX9_sendLoaf 19 = .ok (.aload_n 0, 1) := by decide +kernel
theorem dX9_sendLoaf_20 : decode cX9_sendLoaf 20 = .ok (.getfield 22, 3) := by decide +kernel
theorem dX9_sendLoaf_23 : decode cX9_sendLoaf 23 = .ok (.getfield 246, 3) := by decide +kernel
theorem dX9_sendLoaf_26 : decode cX9_sendLoaf 26 = .ok (.aload_n 0, 1) := by decide +kernel
theorem dX9_sendLoaf_27 : decode cX9_sendLoaf 27 = .ok (.getfield 22, 3) := by decide +kernel
theorem dX9_sendLoaf_30 : decode cX9_sendLoaf 30 = .ok (.getfield 249, 3) := by decide +kernel
theorem dX9_sendLoaf_33 : decode cX9_sendLoaf 33 = .ok (.invokevirtual 375, 3) := by decide +kernel
theorem dX9_sendLoaf_36 : decode cX9_sendLoaf 36 = .ok (.aload_n 0, 1) := by decide +kernel
theorem dX9_sendLoaf_37 : decode cX9_sendLoaf 37 = .ok (.getfield 22, 3) := by decide +kernel
theorem dX9_sendLoaf_40 : decode cX9_sendLoaf 40 = .ok (.getfield 246, 3) := by decide +kernel
theorem dX9_sendLoaf_43 : decode cX9_sendLoaf 43 = .ok (.ireturn, 1) := by decide +kernel
theorem dX9_isOrderDone_0 : decode cX9_isOrderDone 0 = .ok (.aload_n 0, 1) := by decide +kernel
theorem dX9_isOrderDone_1 : decode cX9_isOrderDone 1 = .ok (.getfield 36, 3) := by decide +kernel
theorem dX9_isOrderDone_4 : decode cX9_isOrderDone 4 = .ok (.iload_n 1, 1) := by decide +kernel
theorem dX9_isOrderDone_5 : decode cX9_isOrderDone 5 = .ok (.invokevirtual 379, 3) := by decide +kernel
theorem dX9_isOrderDone_8 : decode cX9_isOrderDone 8 = .ok (.lookupswitch 102 #[(114, 61), (115, 28)], 28) := by decide +kernel
theorem dX9_isOrderDone_36 : decode cX9_isOrderDone 36 = .ok (.aload_n 0, 1) := by decide +kernel
theorem dX9_isOrderDone_37 : decode cX9_isOrderDone 37 = .ok (.aload_n 0, 1) := by decide +kernel
theorem dX9_isOrderDone_38 : decode cX9_isOrderDone 38 = .ok (.getfield 36, 3) := by decide +kernel
theorem dX9_isOrderDone_41 : decode cX9_isOrderDone 41 = .ok (.iload_n 1, 1) := by decide +kernel
theorem dX9_isOrderDone_42 : decode cX9_isOrderDone 42 = .ok (.iconst 1, 1) := by decide +kernel
theorem dX9_isOrderDone_43 : decode cX9_isOrderDone 43 = .ok (.iadd, 1) := by decide +kernel
theorem dX9_isOrderDone_44 : decode cX9_isOrderDone 44 = .ok (.invokevirtual 382, 3) := by decide +kernel
theorem dX9_isOrderDone_47 : decode cX9_isOrderDone 47 = .ok (.aload_n 0, 1) := by decide +kernel
theorem dX9_isOrderDone_48 : decode cX9_isOrderDone 48 = .ok (.getfield 36, 3) := by decide +kernel
theorem dX9_isOrderDone_51 : decode cX9_isOrderDone 51 = .ok (.iload_n 1, 1) := by decide +kernel
theorem dX9_isOrderDone_52 : decode cX9_isOrderDone 52 = .ok (.iconst 3, 1) := by decide +kernel
theorem dX9_isOrderDone_53 : decode cX9_isOrderDone 53 = .ok (.iadd, 1) := by decide +kernel
theorem dX9_isOrderDone_54 : decode cX9_isOrderDone 54 = .ok (.invokevirtual 382, 3) := by decide +kernel
theorem dX9_isOrderDone_57 : decode cX9_isOrderDone 57 = .ok (.aload_n 0, 1) := by decide +kernel
theorem dX9_isOrderDone_58 : decode cX9_isOrderDone 58 = .ok (.getfield 36, 3) := by decide +kernel
theorem dX9_isOrderDone_61 : decode cX9_isOrderDone 61 = .ok (.iload_n 1, 1) := by decide +kernel
theorem dX9_isOrderDone_62 : decode cX9_isOrderDone 62 = .ok (.invokevirtual 385, 3) := by decide +kernel
theorem dX9_isOrderDone_65 : decode cX9_isOrderDone 65 = .ok (.invokevirtual 386, 3) := by decide +kernel
theorem dX9_isOrderDone_68 : decode cX9_isOrderDone 68 = .ok (.ireturn, 1) := by decide +kernel
theorem dX9_isOrderDone_69 : decode cX9_isOrderDone 69 = .ok (.aload_n 0, 1) := by decide +kernel
theorem dX9_isOrderDone_70 : decode cX9_isOrderDone 70 = .ok (.getfield 10, 3) := by decide +kernel
theorem dX9_isOrderDone_73 : decode cX9_isOrderDone 73 = .ok (.getfield 67, 3) := by decide +kernel
theorem dX9_isOrderDone_76 : decode cX9_isOrderDone 76 = .ok (.aload_n 0, 1) := by decide +kernel
theorem dX9_isOrderDone_77 : decode cX9_isOrderDone 77 = .ok (.getfield 36, 3) := by decide +kernel
theorem dX9_isOrderDone_80 : decode cX9_isOrderDone 80 = .ok (.iload_n 1, 1) := by decide +kernel
theorem dX9_isOrderDone_81 : decode cX9_isOrderDone 81 = .ok (.iconst 1, 1) := by decide +kernel
theorem dX9_isOrderDone_82 : decode cX9_isOrderDone 82 = .ok (.iadd, 1) := by decide +kernel
theorem dX9_isOrderDone_83 : decode cX9_isOrderDone 83 = .ok (.invokevirtual 382, 3) := by decide +kernel
theorem dX9_isOrderDone_86 : decode cX9_isOrderDone 86 = .ok (.aload_n 0, 1) := by decide +kernel
theorem dX9_isOrderDone_87 : decode cX9_isOrderDone 87 = .ok (.getfield 36, 3) := by decide +kernel
theorem dX9_isOrderDone_90 : decode cX9_isOrderDone 90 = .ok (.iload_n 1, 1) := by decide +kernel
theorem dX9_isOrderDone_91 : decode cX9_isOrderDone 91 = .ok (.iconst 2, 1) := by decide +kernel
theorem dX9_isOrderDone_92 : decode cX9_isOrderDone 92 = .ok (.iadd, 1) := by decide +kernel
theorem dX9_isOrderDone_93 : decode cX9_isOrderDone 93 = .ok (.invokevirtual 382, 3) := by decide +kernel
theorem dX9_isOrderDone_96 : decode cX9_isOrderDone 96 = .ok (.aload_n 0, 1) := by decide +kernel
theorem dX9_isOrderDone_97 : decode cX9_isOrderDone 97 = .ok (.getfield 36, 3) := by decide +kernel
theorem dX9_isOrderDone_100 : decode cX9_isOrderDone 100 = .ok (.iload_n 1, 1) := by decide +kernel
theorem dX9_isOrderDone_101 : decode cX9_isOrderDone 101 = .ok (.invokevirtual 390, 3) := by decide +kernel
theorem dX9_isOrderDone_104 : decode cX9_isOrderDone 104 = .ok (.invokevirtual 71, 3) := by decide +kernel
theorem dX9_isOrderDone_107 : decode cX9_isOrderDone 107 = .ok (.pop, 1) := by decide +kernel
theorem dX9_isOrderDone_108 : decode cX9_isOrderDone 108 = .ok (.iconst 1, 1) := by decide +kernel
theorem dX9_isOrderDone_109 : decode cX9_isOrderDone 109 = .ok (.ireturn, 1) := by decide +kernel
theorem dX9_isOrderDone_110 : decode cX9_isOrderDone 110 = .ok (.aload_n 0, 1) := by decide +kernel
theorem dX9_isOrderDone_111 : decode cX9_isOrderDone 111 = .ok (.aload_n 0, 1) := by decide +kernel
theorem dX9_isOrderDone_112 : decode cX9_isOrderDone 112 = .ok (.getfield 36, 3) := by decide +kernel
theorem dX9_isOrderDone_115 : decode cX9_isOrderDone 115 = .ok (.iload_n 1, 1) := by decide +kernel
theorem dX9_isOrderDone_116 : decode cX9_isOrderDone 116 = .ok (.iconst 1, 1) := by decide +kernel
theorem dX9_isOrderDone_117 : decode cX9_isOrderDone 117 = .ok (.iadd, 1) := by decide +kernel
theorem dX9_isOrderDone_118 : decode cX9_isOrderDone 118 = .ok (.invokevirtual 382, 3) := by decide +kernel
theorem dX9_isOrderDone_121 : decode cX9_isOrderDone 121 = .ok (.invokevirtual 392, 3) := by decide +kernel
theorem dX9_isOrderDone_124 : decode cX9_isOrderDone 124 = .ok (.ireturn, 1) := by decide +kernel
theorem dX9_areLoavesSent_0 : decode cX9_areLoavesSent 0 = .ok (.iconst 0, 1) := by decide +kernel
theorem dX9_areLoavesSent_1 : decode cX9_areLoavesSent 1 = .ok (.istore 4, 2) := by decide +kernel
theorem dX9_areLoavesSent_3 : decode cX9_areLoavesSent 3 = .ok (.iload 4, 2) := by decide +kernel
theorem dX9_areLoavesSent_5 : decode cX9_areLoavesSent 5 = .ok (.iload_n 3, 1) := by decide +kernel
theorem dX9_areLoavesSent_6 : decode cX9_areLoavesSent 6 = .ok (.if_icmp .ge 31, 3) := by decide +kernel
theorem dX9_areLoavesSent_9 : decode cX9_areLoavesSent 9 = .ok (.aload_n 0, 1) := by decide +kernel
theorem dX9_areLoavesSent_10 : decode cX9_areLoavesSent 10 = .ok (.getfield 10, 3) := by decide +kernel
theorem dX9_areLoavesSent_13 : decode cX9_areLoavesSent 13 = .ok (.getfield 140, 3) := by decide +kernel
theorem dX9_areLoavesSent_16 : decode cX9_areLoavesSent 16 = .ok (.sipush 9999, 3) := by decide +kernel
theorem dX9_areLoavesSent_19 : decode cX9_areLoavesSent 19 = .ok (.if_icmp .lt 5, 3) := by decide +kernel
theorem dX9_areLoavesSent_22 : decode cX9_areLoavesSent 22 = .ok (.iconst 0, 1) := by decide +kernel
theorem dX9_areLoavesSent_23 : decode cX9_areLoavesSent 23 = .ok (.ireturn, 1) := by decide +kernel
theorem dX9_areLoavesSent_24 : decode cX9_areLoavesSent 24 = .ok (.aload_n 0, 1) := by decide +kernel
theorem dX9_areLoavesSent_25 : decode cX9_areLoavesSent 25 = .ok (.iload_n 1, 1) := by decide +kernel
theorem dX9_areLoavesSent_26 : decode cX9_areLoavesSent 26 = .ok (.iload_n 2, 1) := by decide +kernel
theorem dX9_areLoavesSent_27 : decode cX9_areLoavesSent 27 = .ok (.invokevirtual 146, 3) := by decide +kernel
theorem dX9_areLoavesSent_30 : decode cX9_areLoavesSent 30 = .ok (.pop, 1) := by decide +kernel
theorem dX9_areLoavesSent_31 : decode cX9_areLoavesSent 31 = .ok (.iinc 4 1, 3) := by decide +kernel
theorem dX9_areLoavesSent_34 : decode cX9_areLoavesSent 34 = .ok (.goto (-31), 3) := by decide +kernel
theorem dX9_areLoavesSent_37 : decode cX9_areLoavesSent 37 = .ok (.iconst 1, 1) := by decide +kernel
theorem dX9_areLoavesSent_38 : decode cX9_areLoavesSent 38 = .ok (.ireturn, 1) := by decide +kernel
theorem dX9_isExitTurned_0 : decode cX9_isExitTurned 0 = .ok (.aload_n 0, 1) := by decide +kernel
theorem dX9_isExitTurned_1 : decode cX9_isExitTurned 1 = .ok (.getfield 10, 3) := by decide +kernel
theorem dX9_isExitTurned_4 : decode cX9_isExitTurned 4 = .ok (.getfield 83, 3) := by decide +kernel
theorem dX9_isExitTurned_7 : decode cX9_isExitTurned 7 = .ok (.iload_n 1, 1) := by decide +kernel
theorem dX9_isExitTurned_8 : decode cX9_isExitTurned 8 = .ok (.invokevirtual 368, 3) := by decide +kernel
theorem dX9_isExitTurned_11 : decode cX9_isExitTurned 11 = .ok (.istore_n 2, 1) := by decide +kernel
theorem dX9_isExitTurned_12 : decode cX9_isExitTurned 12 = .ok (.aload_n 0, 1) := by decide +kernel
theorem dX9_isExitTurned_13 : decode cX9_isExitTurned 13 = .ok (.getfield 10, 3) := by decide +kernel
theorem dX9_isExitTurned_16 : decode cX9_isExitTurned 16 = .ok (.getfield 83, 3) := by decide +kernel
theorem dX9_isExitTurned_19 : decode cX9_isExitTurned 19 = .ok (.iload_n 1, 1) := by decide +kernel
theorem dX9_isExitTurned_20 : decode cX9_isExitTurned 20 = .ok (.invokevirtual 107, 3) := by decide +kernel
theorem dX9_isExitTurned_23 : decode cX9_isExitTurned 23 = .ok (.iload_n 2, 1) := by decide +kernel
theorem dX9_isExitTurned_24 : decode cX9_isExitTurned 24 = .ok (.ireturn, 1) := by decide +kernel
theorem dX9_pairsWithoutExit_0 : decode cX9_pairsWithoutExit 0 = .ok (.iconst 0, 1) := by decide +kernel
theorem dX9_pairsWithoutExit_1 : decode cX9_pairsWithoutExit 1 = .ok (.istore_n 1, 1) := by decide +kernel
theorem dX9_pairsWithoutExit_2 : decode cX9_pairsWithoutExit 2 = .ok (.iconst 0, 1) := by decide +kernel
theorem dX9_pairsWithoutExit_3 : decode cX9_pairsWithoutExit 3 = .ok (.istore_n 2, 1) := by decide +kernel
theorem dX9_pairsWithoutExit_4 : decode cX9_pairsWithoutExit 4 = .ok (.iload_n 2, 1) := by decide +kernel
theorem dX9_pairsWithoutExit_5 : decode cX9_pairsWithoutExit 5 = .ok (.bipush 8, 2) := by decide +kernel
theorem dX9_pairsWithoutExit_7 : decode cX9_pairsWithoutExit 7 = .ok (.if_icmp .ge 53, 3) := by decide +kernel
theorem dX9_pairsWithoutExit_10 : decode cX9_pairsWithoutExit 10 = .ok (.iconst 0, 1) := by decide +kernel
theorem dX9_pairsWithoutExit_11 : decode cX9_pairsWithoutExit 11 = .ok (.istore_n 3, 1) := by decide +kernel
theorem dX9_pairsWithoutExit_12 : decode cX9_pairsWithoutExit 12 = .ok (.iload_n 3, 1) := by decide +kernel
theorem dX9_pairsWithoutExit_13 : decode cX9_pairsWithoutExit 13 = .ok (.iconst 4, 1) := by decide +kernel
theorem dX9_pairsWithoutExit_14 : decode cX9_pairsWithoutExit 14 = .ok (.if_icmp .ge 40, 3) := by decide +kernel
theorem dX9_pairsWithoutExit_17 : decode cX9_pairsWithoutExit 17 = .ok (.aload_n 0, 1) := by decide +kernel
theorem dX9_pairsWithoutExit_18 : decode cX9_pairsWithoutExit 18 = .ok (.getfield 22, 3) := by decide +kernel
theorem dX9_pairsWithoutExit_21 : decode cX9_pairsWithoutExit 21 = .ok (.aload_n 0, 1) := by decide +kernel
theorem dX9_pairsWithoutExit_22 : decode cX9_pairsWithoutExit 22 = .ok (.getfield 10, 3) := by decide +kernel
theorem dX9_pairsWithoutExit_25 : decode cX9_pairsWithoutExit 25 = .ok (.iload_n 2, 1) := by decide +kernel
theorem dX9_pairsWithoutExit_26 : decode cX9_pairsWithoutExit 26 = .ok (.iload_n 3, 1) := by decide +kernel
theorem dX9_pairsWithoutExit_27 : decode cX9_pairsWithoutExit 27 = .ok (.invokevirtual 242, 3) := by decide +kernel
theorem dX9_pairsWithoutExit_30 : decode cX9_pairsWithoutExit 30 = .ok (.iload_n 1, 1) := by decide +kernel
theorem dX9_pairsWithoutExit_31 : decode cX9_pairsWithoutExit 31 = .ok (.aload_n 0, 1) := by decide +kernel
theorem dX9_pairsWithoutExit_32 : decode cX9_pairsWithoutExit 32 = .ok (.getfield 22, 3) := by decide +kernel
theorem dX9_pairsWithoutExit_35 : decode cX9_pairsWithoutExit 35 = .ok (.getfield 254, 3) := by decide +kernel
theorem dX9_pairsWithoutExit_38 : decode cX9_pairsWithoutExit 38 = .ok (.ifCond .ne 7, 3) := by decide +kernel
theorem dX9_pairsWithoutExit_41 : decode cX9_pairsWithoutExit 41 = .ok (.iconst 1, 1) := by decide +kernel
theorem dX9_pairsWithoutExit_42 : decode cX9_pairsWithoutExit 42 = .ok (.goto 4, 3) := by decide +kernel
theorem dX9_pairsWithoutExit_45 : decode cX9_pairsWithoutExit 45 = .ok (.iconst 0, 1) := by decide +kernel
theorem dX9_pairsWithoutExit_46 : decode cX9_pairsWithoutExit 46 = .ok (.iadd, 1) := by decide +kernel
theorem dX9_pairsWithoutExit_47 : decode cX9_pairsWithoutExit 47 = .ok (.istore_n 1, 1) := by decide +kernel
theorem dX9_pairsWithoutExit_48 : decode cX9_pairsWithoutExit 48 = .ok (.iinc 3 1, 3) := by decide +kernel
theorem dX9_pairsWithoutExit_51 : decode cX9_pairsWithoutExit 51 = .ok (.goto (-39), 3) := by decide +kernel
theorem dX9_pairsWithoutExit_54 : decode cX9_pairsWithoutExit 54 = .ok (.iinc 2 1, 3) := by decide +kernel
theorem dX9_pairsWithoutExit_57 : decode cX9_pairsWithoutExit 57 = .ok (.goto (-53), 3) := by decide +kernel
theorem dX9_pairsWithoutExit_60 : decode cX9_pairsWithoutExit 60 = .ok (.iload_n 1, 1) := by decide +kernel
theorem dX9_pairsWithoutExit_61 : decode cX9_pairsWithoutExit 61 = .ok (.ireturn, 1) := by decide +kernel
theorem dX9_pairsDearerWithout_0 : decode cX9_pairsDearerWithout 0 = .ok (.iconst 0, 1) := by decide +kernel
theorem dX9_pairsDearerWithout_1 : decode cX9_pairsDearerWithout 1 = .ok (.istore_n 2, 1) := by decide +kernel
theorem dX9_pairsDearerWithout_2 : decode cX9_pairsDearerWithout 2 = .ok (.aload_n 0, 1) := by decide +kernel
theorem dX9_pairsDearerWithout_3 : decode cX9_pairsDearerWithout 3 = .ok (.getfield 16, 3) := by decide +kernel
theorem dX9_pairsDearerWithout_6 : decode cX9_pairsDearerWithout 6 = .ok (.getfield 83, 3) := by decide +kernel
theorem dX9_pairsDearerWithout_9 : decode cX9_pairsDearerWithout 9 = .ok (.iload_n 1, 1) := by decide +kernel
theorem dX9_pairsDearerWithout_10 : decode cX9_pairsDearerWithout 10 = .ok (.invokevirtual 107, 3) := by decide +kernel
theorem dX9_pairsDearerWithout_13 : decode cX9_pairsDearerWithout 13 = .ok (.iconst 0, 1) := by decide +kernel
theorem dX9_pairsDearerWithout_14 : decode cX9_pairsDearerWithout 14 = .ok (.istore_n 3, 1) := by decide +kernel
theorem dX9_pairsDearerWithout_15 : decode cX9_pairsDearerWithout 15 = .ok (.iload_n 3, 1) := by decide +kernel
theorem dX9_pairsDearerWithout_16 : decode cX9_pairsDearerWithout 16 = .ok (.bipush 8, 2) := by decide +kernel
theorem dX9_pairsDearerWithout_18 : decode cX9_pairsDearerWithout 18 = .ok (.if_icmp .ge 110, 3) := by decide +kernel
theorem dX9_pairsDearerWithout_21 : decode cX9_pairsDearerWithout 21 = .ok (.iconst 0, 1) := by decide +kernel
theorem dX9_pairsDearerWithout_22 : decode cX9_pairsDearerWithout 22 = .ok (.istore 4, 2) := by decide +kernel
theorem dX9_pairsDearerWithout_24 : decode cX9_pairsDearerWithout 24 = .ok (.iload 4, 2) := by decide +kernel
theorem dX9_pairsDearerWithout_26 : decode cX9_pairsDearerWithout 26 = .ok (.iconst 4, 1) := by decide +kernel
theorem dX9_pairsDearerWithout_27 : decode cX9_pairsDearerWithout 27 = .ok (.if_icmp .ge 95, 3) := by decide +kernel
theorem dX9_pairsDearerWithout_30 : decode cX9_pairsDearerWithout 30 = .ok (.aload_n 0, 1) := by decide +kernel
theorem dX9_pairsDearerWithout_31 : decode cX9_pairsDearerWithout 31 = .ok (.getfield 22, 3) := by decide +kernel
theorem dX9_pairsDearerWithout_34 : decode cX9_pairsDearerWithout 34 = .ok (.aload_n 0, 1) := by decide +kernel
theorem dX9_pairsDearerWithout_35 : decode cX9_pairsDearerWithout 35 = .ok (.getfield 10, 3) := by decide +kernel
theorem dX9_pairsDearerWithout_38 : decode cX9_pairsDearerWithout 38 = .ok (.iload_n 3, 1) := by decide +kernel
theorem dX9_pairsDearerWithout_39 : decode cX9_pairsDearerWithout 39 = .ok (.iload 4, 2) := by decide +kernel
theorem dX9_pairsDearerWithout_41 : decode cX9_pairsDearerWithout 41 = .ok (.invokevirtual 242, 3) := by decide +kernel
theorem dX9_pairsDearerWithout_44 : decode cX9_pairsDearerWithout 44 = .ok (.aload_n 0, 1) := by decide +kernel
theorem dX9_pairsDearerWithout_45 : decode cX9_pairsDearerWithout 45 = .ok (.getfield 22, 3) := by decide +kernel
theorem dX9_pairsDearerWithout_48 : decode cX9_pairsDearerWithout 48 = .ok (.getfield 249, 3) := by decide +kernel
theorem dX9_pairsDearerWithout_51 : decode cX9_pairsDearerWithout 51 = .ok (.istore 5, 2) := by decide +kernel
theorem dX9_pairsDearerWithout_53 : decode cX9_pairsDearerWithout 53 = .ok (.aload_n 0, 1) := by decide +kernel
theorem dX9_pairsDearerWithout_54 : decode cX9_pairsDearerWithout 54 = .ok (.getfield 22, 3) := by decide +kernel
theorem dX9_pairsDearerWithout_57 : decode cX9_pairsDearerWithout 57 = .ok (.aload_n 0, 1) := by decide +kernel
theorem dX9_pairsDearerWithout_58 : decode cX9_pairsDearerWithout 58 = .ok (.getfield 16, 3) := by decide +kernel
theorem dX9_pairsDearerWithout_61 : decode cX9_pairsDearerWithout 61 = .ok (.iload_n 3, 1) := by decide +kernel
theorem dX9_pairsDearerWithout_62 : decode cX9_pairsDearerWithout 62 = .ok (.iload 4, 2) := by decide +kernel
theorem dX9_pairsDearerWithout_64 : decode cX9_pairsDearerWithout 64 = .ok (.invokevirtual 242, 3) := by decide +kernel
theorem dX9_pairsDearerWithout_67 : decode cX9_pairsDearerWithout 67 = .ok (.aload_n 0, 1) := by decide +kernel
theorem dX9_pairsDearerWithout_68 : decode cX9_pairsDearerWithout 68 = .ok (.getfield 22, 3) := by decide +kernel
theorem dX9_pairsDearerWithout_71 : decode cX9_pairsDearerWithout 71 = .ok (.getfield 249, 3) := by decide +kernel
theorem dX9_pairsDearerWithout_74 : decode cX9_pairsDearerWithout 74 = .ok (.iconst (-1), 1) := by decide +kernel
theorem dX9_pairsDearerWithout_75 : decode cX9_pairsDearerWithout 75 = .ok (.if_icmp .eq 15, 3) := by decide +kernel
theorem dX9_pairsDearerWithout_78 : decode cX9_pairsDearerWithout 78 = .ok (.aload_n 0, 1) := by decide +kernel
theorem dX9_pairsDearerWithout_79 : decode cX9_pairsDearerWithout 79 = .ok (.getfield 22, 3) := by decide +kernel
theorem dX9_pairsDearerWithout_82 : decode cX9_pairsDearerWithout 82 = .ok (.getfield 249, 3) := by decide +kernel
theorem dX9_pairsDearerWithout_85 : decode cX9_pairsDearerWithout 85 = .ok (.iload 5, 2) := by decide +kernel
theorem dX9_pairsDearerWithout_87 : decode cX9_pairsDearerWithout 87 = .ok (.if_icmp .le 7, 3) := by decide +kernel
theorem dX9_pairsDearerWithout_90 : decode cX9_pairsDearerWithout 90 = .ok (.iconst 1, 1) := by decide +kernel
theorem dX9_pairsDearerWithout_91 : decode cX9_pairsDearerWithout 91 = .ok (.goto 4, 3) := by decide +kernel
theorem dX9_pairsDearerWithout_94 : decode cX9_pairsDearerWithout 94 = .ok (.iconst 0, 1) := by decide +kernel
theorem dX9_pairsDearerWithout_95 : decode cX9_pairsDearerWithout 95 = .ok (.istore 6, 2) := by decide +kernel
theorem dX9_pairsDearerWithout_97 : decode cX9_pairsDearerWithout 97 = .ok (.iload_n 2, 1) := by decide +kernel
theorem dX9_pairsDearerWithout_98 : decode cX9_pairsDearerWithout 98 = .ok (.iload 5, 2) := by decide +kernel
theorem dX9_pairsDearerWithout_100 : decode cX9_pairsDearerWithout 100 = .ok (.iconst (-1), 1) := by decide +kernel
theorem dX9_pairsDearerWithout_101 : decode cX9_pairsDearerWithout 101 = .ok (.if_icmp .eq 12, 3) := by decide +kernel
theorem dX9_pairsDearerWithout_104 : decode cX9_pairsDearerWithout 104 = .ok (.iload 6, 2) := by decide +kernel
theorem dX9_pairsDearerWithout_106 : decode cX9_pairsDearerWithout 106 = .ok (.ifCond .eq 7, 3) := by decide +kernel
theorem dX9_pairsDearerWithout_109 : decode cX9_pairsDearerWithout 109 = .ok (.iconst 1, 1) := by decide +kernel
theorem dX9_pairsDearerWithout_110 : decode cX9_pairsDearerWithout 110 = .ok (.goto 4, 3) := by decide +kernel
theorem dX9_pairsDearerWithout_113 : decode cX9_pairsDearerWithout 113 = .ok (.iconst 0, 1) := by decide +kernel
theorem dX9_pairsDearerWithout_114 : decode cX9_pairsDearerWithout 114 = .ok (.iadd, 1) := by decide +kernel
theorem dX9_pairsDearerWithout_115 : decode cX9_pairsDearerWithout 115 = .ok (.istore_n 2, 1) := by decide +kernel
theorem dX9_pairsDearerWithout_116 : decode cX9_pairsDearerWithout 116 = .ok (.iinc 4 1, 3) := by decide +kernel
theorem dX9_pairsDearerWithout_119 : decode cX9_pairsDearerWithout 119 = .ok (.goto (-95), 3) := by decide +kernel
theorem dX9_pairsDearerWithout_122 : decode cX9_pairsDearerWithout 122 = .ok (.iinc 3 1, 3) := by decide +kernel
theorem dX9_pairsDearerWithout_125 : decode cX9_pairsDearerWithout 125 = .ok (.goto (-110), 3) := by decide +kernel
theorem dX9_pairsDearerWithout_128 : decode cX9_pairsDearerWithout 128 = .ok (.aload_n 0, 1) := by decide +kernel
theorem dX9_pairsDearerWithout_129 : decode cX9_pairsDearerWithout 129 = .ok (.getfield 16, 3) := by decide +kernel
theorem dX9_pairsDearerWithout_132 : decode cX9_pairsDearerWithout 132 = .ok (.getfield 83, 3) := by decide +kernel
theorem dX9_pairsDearerWithout_135 : decode cX9_pairsDearerWithout 135 = .ok (.iload_n 1, 1) := by decide +kernel
theorem dX9_pairsDearerWithout_136 : decode cX9_pairsDearerWithout 136 = .ok (.invokevirtual 107, 3) := by decide +kernel
theorem dX9_pairsDearerWithout_139 : decode cX9_pairsDearerWithout 139 = .ok (.iload_n 2, 1) := by decide +kernel
theorem dX9_pairsDearerWithout_140 : decode cX9_pairsDearerWithout 140 = .ok (.ireturn, 1) := by decide +kernel
theorem dX9_pairsOtherOnTrial_0 : decode cX9_pairsOtherOnTrial 0 = .ok (.iconst 0, 1) := by decide +kernel
theorem dX9_pairsOtherOnTrial_1 : decode cX9_pairsOtherOnTrial 1 = .ok (.istore_n 1, 1) := by decide +kernel
theorem dX9_pairsOtherOnTrial_2 : decode cX9_pairsOtherOnTrial 2 = .ok (.iconst 0, 1) := by decide +kernel
theorem dX9_pairsOtherOnTrial_3 : decode cX9_pairsOtherOnTrial 3 = .ok (.istore_n 2, 1) := by decide +kernel
theorem dX9_pairsOtherOnTrial_4 : decode cX9_pairsOtherOnTrial 4 = .ok (.iload_n 2, 1) := by decide +kernel
theorem dX9_pairsOtherOnTrial_5 : decode cX9_pairsOtherOnTrial 5 = .ok (.bipush 8, 2) := by decide +kernel
theorem dX9_pairsOtherOnTrial_7 : decode cX9_pairsOtherOnTrial 7 = .ok (.if_icmp .ge 77, 3) := by decide +kernel
theorem dX9_pairsOtherOnTrial_10 : decode cX9_pairsOtherOnTrial 10 = .ok (.iconst 0, 1) := by decide +kernel
theorem dX9_pairsOtherOnTrial_11 : decode cX9_pairsOtherOnTrial 11 = .ok (.istore_n 3, 1) := by decide +kernel
theorem dX9_pairsOtherOnTrial_12 : decode cX9_pairsOtherOnTrial 12 = .ok (.iload_n 3, 1) := by decide +kernel
theorem dX9_pairsOtherOnTrial_13 : decode cX9_pairsOtherOnTrial 13 = .ok (.iconst 4, 1) := by decide +kernel
theorem dX9_pairsOtherOnTrial_14 : decode cX9_pairsOtherOnTrial 14 = .ok (.if_icmp .ge 64, 3) := by decide +kernel
theorem dX9_pairsOtherOnTrial_17 : decode cX9_pairsOtherOnTrial 17 = .ok (.aload_n 0, 1) := by decide +kernel
theorem dX9_pairsOtherOnTrial_18 : decode cX9_pairsOtherOnTrial 18 = .ok (.getfield 22, 3) := by decide +kernel
theorem dX9_pairsOtherOnTrial_21 : decode cX9_pairsOtherOnTrial 21 = .ok (.aload_n 0, 1) := by decide +kernel
theorem dX9_pairsOtherOnTrial_22 : decode cX9_pairsOtherOnTrial 22 = .ok (.getfield 10, 3) := by decide +kernel
theorem dX9_pairsOtherOnTrial_25 : decode cX9_pairsOtherOnTrial 25 = .ok (.iload_n 2, 1) := by decide +kernel
theorem dX9_pairsOtherOnTrial_26 : decode cX9_pairsOtherOnTrial 26 = .ok (.iload_n 3, 1) := by decide +kernel
theorem dX9_pairsOtherOnTrial_27 : decode cX9_pairsOtherOnTrial 27 = .ok (.invokevirtual 242, 3) := by decide +kernel
theorem dX9_pairsOtherOnTrial_30 : decode cX9_pairsOtherOnTrial 30 = .ok (.aload_n 0, 1) := by decide +kernel
theorem dX9_pairsOtherOnTrial_31 : decode cX9_pairsOtherOnTrial 31 = .ok (.getfield 22, 3) := by decide +kernel
theorem dX9_pairsOtherOnTrial_34 : decode cX9_pairsOtherOnTrial 34 = .ok (.getfield 246, 3) := by decide +kernel
theorem dX9_pairsOtherOnTrial_37 : decode cX9_pairsOtherOnTrial 37 = .ok (.istore 4, 2) := by decide +kernel
theorem dX9_pairsOtherOnTrial_39 : decode cX9_pairsOtherOnTrial 39 = .ok (.aload_n 0, 1) := by decide +kernel
theorem dX9_pairsOtherOnTrial_40 : decode cX9_pairsOtherOnTrial 40 = .ok (.getfield 22, 3) := by decide +kernel
theorem dX9_pairsOtherOnTrial_43 : decode cX9_pairsOtherOnTrial 43 = .ok (.aload_n 0, 1) := by decide +kernel
theorem dX9_pairsOtherOnTrial_44 : decode cX9_pairsOtherOnTrial 44 = .ok (.getfield 16, 3) := by decide +kernel
theorem dX9_pairsOtherOnTrial_47 : decode cX9_pairsOtherOnTrial 47 = .ok (.iload_n 2, 1) := by decide +kernel
theorem dX9_pairsOtherOnTrial_48 : decode cX9_pairsOtherOnTrial 48 = .ok (.iload_n 3, 1) := by decide +kernel
theorem dX9_pairsOtherOnTrial_49 : decode cX9_pairsOtherOnTrial 49 = .ok (.invokevirtual 242, 3) := by decide +kernel
theorem dX9_pairsOtherOnTrial_52 : decode cX9_pairsOtherOnTrial 52 = .ok (.iload_n 1, 1) := by decide +kernel
theorem dX9_pairsOtherOnTrial_53 : decode cX9_pairsOtherOnTrial 53 = .ok (.aload_n 0, 1) := by decide +kernel
theorem dX9_pairsOtherOnTrial_54 : decode cX9_pairsOtherOnTrial 54 = .ok (.getfield 22, 3) := by decide +kernel
theorem dX9_pairsOtherOnTrial_57 : decode cX9_pairsOtherOnTrial 57 = .ok (.getfield 246, 3) := by decide +kernel
theorem dX9_pairsOtherOnTrial_60 : decode cX9_pairsOtherOnTrial 60 = .ok (.iload 4, 2) := by decide +kernel
theorem dX9_pairsOtherOnTrial_62 : decode cX9_pairsOtherOnTrial 62 = .ok (.if_icmp .eq 7, 3) := by decide +kernel
theorem dX9_pairsOtherOnTrial_65 : decode cX9_pairsOtherOnTrial 65 = .ok (.iconst 1, 1) := by decide +kernel
theorem dX9_pairsOtherOnTrial_66 : decode cX9_pairsOtherOnTrial 66 = .ok (.goto 4, 3) := by decide +kernel
theorem dX9_pairsOtherOnTrial_69 : decode cX9_pairsOtherOnTrial 69 = .ok (.iconst 0, 1) := by decide +kernel
theorem dX9_pairsOtherOnTrial_70 : decode cX9_pairsOtherOnTrial 70 = .ok (.iadd, 1) := by decide +kernel
theorem dX9_pairsOtherOnTrial_71 : decode cX9_pairsOtherOnTrial 71 = .ok (.istore_n 1, 1) := by decide +kernel
theorem dX9_pairsOtherOnTrial_72 : decode cX9_pairsOtherOnTrial 72 = .ok (.iinc 3 1, 3) := by decide +kernel
theorem dX9_pairsOtherOnTrial_75 : decode cX9_pairsOtherOnTrial 75 = .ok (.goto (-63), 3) := by decide +kernel
theorem dX9_pairsOtherOnTrial_78 : decode cX9_pairsOtherOnTrial 78 = .ok (.iinc 2 1, 3) := by decide +kernel
theorem dX9_pairsOtherOnTrial_81 : decode cX9_pairsOtherOnTrial 81 = .ok (.goto (-77), 3) := by decide +kernel
theorem dX9_pairsOtherOnTrial_84 : decode cX9_pairsOtherOnTrial 84 = .ok (.iload_n 1, 1) := by decide +kernel
theorem dX9_pairsOtherOnTrial_85 : decode cX9_pairsOtherOnTrial 85 = .ok (.ireturn, 1) := by decide +kernel
theorem dX9_joined_0 : decode cX9_joined 0 = .ok (.ldc2_w 395, 3) := by decide +kernel
theorem dX9_joined_3 : decode cX9_joined 3 = .ok (.lload_n 0, 1) := by decide +kernel
theorem dX9_joined_4 : decode cX9_joined 4 = .ok (.lmul, 1) := by decide +kernel
theorem dX9_joined_5 : decode cX9_joined 5 = .ok (.lload_n 2, 1) := by decide +kernel
theorem dX9_joined_6 : decode cX9_joined 6 = .ok (.ladd, 1) := by decide +kernel
theorem dX9_joined_7 : decode cX9_joined 7 = .ok (.lreturn, 1) := by decide +kernel
theorem dX9_withCounts_0 : decode cX9_withCounts 0 = .ok (.lload_n 1, 1) := by decide +kernel
theorem dX9_withCounts_1 : decode cX9_withCounts 1 = .ok (.lstore_n 3, 1) := by decide +kernel
theorem dX9_withCounts_2 : decode cX9_withCounts 2 = .ok (.iconst 0, 1) := by decide +kernel
theorem dX9_withCounts_3 : decode cX9_withCounts 3 = .ok (.istore 5, 2) := by decide +kernel
theorem dX9_withCounts_5 : decode cX9_withCounts 5 = .ok (.iload 5, 2) := by decide +kernel
theorem dX9_withCounts_7 : decode cX9_withCounts 7 = .ok (.bipush 9, 2) := by decide +kernel
theorem dX9_withCounts_9 : decode cX9_withCounts 9 = .ok (.if_icmp .gt 21, 3) := by decide +kernel
theorem dX9_withCounts_12 : decode cX9_withCounts 12 = .ok (.lload_n 3, 1) := by decide +kernel
theorem dX9_withCounts_13 : decode cX9_withCounts 13 = .ok (.aload_n 0, 1) := by decide +kernel
theorem dX9_withCounts_14 : decode cX9_withCounts 14 = .ok (.iload 5, 2) := by decide +kernel
theorem dX9_withCounts_16 : decode cX9_withCounts 16 = .ok (.invokevirtual 397, 3) := by decide +kernel
theorem dX9_withCounts_19 : decode cX9_withCounts 19 = .ok (.i2l, 1) := by decide +kernel
theorem dX9_withCounts_20 : decode cX9_withCounts 20 = .ok (.invokestatic 309, 3) := by decide +kernel
theorem dX9_withCounts_23 : decode cX9_withCounts 23 = .ok (.lstore_n 3, 1) := by decide +kernel
theorem dX9_withCounts_24 : decode cX9_withCounts 24 = .ok (.iinc 5 1, 3) := by decide +kernel
theorem dX9_withCounts_27 : decode cX9_withCounts 27 = .ok (.goto (-22), 3) := by decide +kernel
theorem dX9_withCounts_30 : decode cX9_withCounts 30 = .ok (.lload_n 3, 1) := by decide +kernel
theorem dX9_withCounts_31 : decode cX9_withCounts 31 = .ok (.lreturn, 1) := by decide +kernel
theorem dX9_withRoads_0 : decode cX9_withRoads 0 = .ok (.lload_n 1, 1) := by decide +kernel
theorem dX9_withRoads_1 : decode cX9_withRoads 1 = .ok (.lstore_n 3, 1) := by decide +kernel
theorem dX9_withRoads_2 : decode cX9_withRoads 2 = .ok (.iconst 0, 1) := by decide +kernel
theorem dX9_withRoads_3 : decode cX9_withRoads 3 = .ok (.istore 5, 2) := by decide +kernel
theorem dX9_withRoads_5 : decode cX9_withRoads 5 = .ok (.iload 5, 2) := by decide +kernel
theorem dX9_withRoads_7 : decode cX9_withRoads 7 = .ok (.bipush 8, 2) := by decide +kernel
theorem dX9_withRoads_9 : decode cX9_withRoads 9 = .ok (.if_icmp .ge 54, 3) := by decide +kernel
theorem dX9_withRoads_12 : decode cX9_withRoads 12 = .ok (.iconst 0, 1) := by decide +kernel
theorem dX9_withRoads_13 : decode cX9_withRoads 13 = .ok (.istore 6, 2) := by decide +kernel
theorem dX9_withRoads_15 : decode cX9_withRoads 15 = .ok (.iload 6, 2) := by decide +kernel
theorem dX9_withRoads_17 : decode cX9_withRoads 17 = .ok (.bipush 8, 2) := by decide +kernel
theorem dX9_withRoads_19 : decode cX9_withRoads 19 = .ok (.if_icmp .ge 38, 3) := by decide +kernel
theorem dX9_withRoads_22 : decode cX9_withRoads 22 = .ok (.lload_n 3, 1) := by decide +kernel
theorem dX9_withRoads_23 : decode cX9_withRoads 23 = .ok (.aload_n 0, 1) := by decide +kernel
theorem dX9_withRoads_24 : decode cX9_withRoads 24 = .ok (.iload 5, 2) := by decide +kernel
theorem dX9_withRoads_26 : decode cX9_withRoads 26 = .ok (.iload 6, 2) := by decide +kernel
theorem dX9_withRoads_28 : decode cX9_withRoads 28 = .ok (.invokevirtual 400, 3) := by decide +kernel
theorem dX9_withRoads_31 : decode cX9_withRoads 31 = .ok (.i2l, 1) := by decide +kernel
theorem dX9_withRoads_32 : decode cX9_withRoads 32 = .ok (.invokestatic 309, 3) := by decide +kernel
theorem dX9_withRoads_35 : decode cX9_withRoads 35 = .ok (.lstore_n 3, 1) := by decide +kernel
theorem dX9_withRoads_36 : decode cX9_withRoads 36 = .ok (.lload_n 3, 1) := by decide +kernel
theorem dX9_withRoads_37 : decode cX9_withRoads 37 = .ok (.aload_n 0, 1) := by decide +kernel
theorem dX9_withRoads_38 : decode cX9_withRoads 38 = .ok (.iload 5, 2) := by decide +kernel
theorem dX9_withRoads_40 : decode cX9_withRoads 40 = .ok (.iload 6, 2) := by decide +kernel
theorem dX9_withRoads_42 : decode cX9_withRoads 42 = .ok (.iconst 0, 1) := by decide +kernel
theorem dX9_withRoads_43 : decode cX9_withRoads 43 = .ok (.invokevirtual 403, 3) := by decide +kernel
theorem dX9_withRoads_46 : decode cX9_withRoads 46 = .ok (.i2l, 1) := by decide +kernel
theorem dX9_withRoads_47 : decode cX9_withRoads 47 = .ok (.invokestatic 309, 3) := by decide +kernel
theorem dX9_withRoads_50 : decode cX9_withRoads 50 = .ok (.lstore_n 3, 1) := by decide +kernel
theorem dX9_withRoads_51 : decode cX9_withRoads 51 = .ok (.iinc 6 1, 3) := by decide +kernel
theorem dX9_withRoads_54 : decode cX9_withRoads 54 = .ok (.goto (-39), 3) := by decide +kernel
theorem dX9_withRoads_57 : decode cX9_withRoads 57 = .ok (.iinc 5 1, 3) := by decide +kernel
theorem dX9_withRoads_60 : decode cX9_withRoads 60 = .ok (.goto (-55), 3) := by decide +kernel
theorem dX9_withRoads_63 : decode cX9_withRoads 63 = .ok (.lload_n 3, 1) := by decide +kernel
theorem dX9_withRoads_64 : decode cX9_withRoads 64 = .ok (.lreturn, 1) := by decide +kernel
theorem dX9_withExits_0 : decode cX9_withExits 0 = .ok (.lload_n 1, 1) := by decide +kernel
theorem dX9_withExits_1 : decode cX9_withExits 1 = .ok (.lstore_n 3, 1) := by decide +kernel
theorem dX9_withExits_2 : decode cX9_withExits 2 = .ok (.iconst 0, 1) := by decide +kernel
theorem dX9_withExits_3 : decode cX9_withExits 3 = .ok (.istore 5, 2) := by decide +kernel
theorem dX9_withExits_5 : decode cX9_withExits 5 = .ok (.iload 5, 2) := by decide +kernel
theorem dX9_withExits_7 : decode cX9_withExits 7 = .ok (.aload_n 0, 1) := by decide +kernel
theorem dX9_withExits_8 : decode cX9_withExits 8 = .ok (.getfield 10, 3) := by decide +kernel
theorem dX9_withExits_11 : decode cX9_withExits 11 = .ok (.getfield 83, 3) := by decide +kernel
theorem dX9_withExits_14 : decode cX9_withExits 14 = .ok (.invokevirtual 270, 3) := by decide +kernel
theorem dX9_withExits_17 : decode cX9_withExits 17 = .ok (.if_icmp .ge 38, 3) := by decide +kernel
theorem dX9_withExits_20 : decode cX9_withExits 20 = .ok (.iconst 0, 1) := by decide +kernel
theorem dX9_withExits_21 : decode cX9_withExits 21 = .ok (.istore 6, 2) := by decide +kernel
theorem dX9_withExits_23 : decode cX9_withExits 23 = .ok (.iload 6, 2) := by decide +kernel
theorem dX9_withExits_25 : decode cX9_withExits 25 = .ok (.iconst 4, 1) := by decide +kernel
theorem dX9_withExits_26 : decode cX9_withExits 26 = .ok (.if_icmp .gt 23, 3) := by decide +kernel
theorem dX9_withExits_29 : decode cX9_withExits 29 = .ok (.lload_n 3, 1) := by decide +kernel
theorem dX9_withExits_30 : decode cX9_withExits 30 = .ok (.aload_n 0, 1) := by decide +kernel
theorem dX9_withExits_31 : decode cX9_withExits 31 = .ok (.iload 5, 2) := by decide +kernel
theorem dX9_withExits_33 : decode cX9_withExits 33 = .ok (.iload 6, 2) := by decide +kernel
theorem dX9_withExits_35 : decode cX9_withExits 35 = .ok (.invokevirtual 406, 3) := by decide +kernel
theorem dX9_withExits_38 : decode cX9_withExits 38 = .ok (.i2l, 1) := by decide +kernel
theorem dX9_withExits_39 : decode cX9_withExits 39 = .ok (.invokestatic 309, 3) := by decide +kernel
theorem dX9_withExits_42 : decode cX9_withExits 42 = .ok (.lstore_n 3, 1) := by decide +kernel
theorem dX9_withExits_43 : decode cX9_withExits 43 = .ok (.iinc 6 1, 3) := by decide +kernel
theorem dX9_withExits_46 : decode cX9_withExits 46 = .ok (.goto (-23), 3) := by decide +kernel
theorem dX9_withExits_49 : decode cX9_withExits 49 = .ok (.iinc 5 1, 3) := by decide +kernel
theorem dX9_withExits_52 : decode cX9_withExits 52 = .ok (.goto (-47), 3) := by decide +kernel
theorem dX9_withExits_55 : decode cX9_withExits 55 = .ok (.lload_n 3, 1) := by decide +kernel
theorem dX9_withExits_56 : decode cX9_withExits 56 = .ok (.lreturn, 1) := by decide +kernel
theorem dX9_withNeighbours_0 : decode cX9_withNeighbours 0 = .ok (.lload_n 1, 1) := by decide +kernel
theorem dX9_withNeighbours_1 : decode cX9_withNeighbours 1 = .ok (.lstore_n 3, 1) := by decide +kernel
theorem dX9_withNeighbours_2 : decode cX9_withNeighbours 2 = .ok (.iconst 0, 1) := by decide +kernel
theorem dX9_withNeighbours_3 : decode cX9_withNeighbours 3 = .ok (.istore 5, 2) := by decide +kernel
theorem dX9_withNeighbours_5 : decode cX9_withNeighbours 5 = .ok (.iload 5, 2) := by decide +kernel
theorem dX9_withNeighbours_7 : decode cX9_withNeighbours 7 = .ok (.iconst 4, 1) := by decide +kernel
theorem dX9_withNeighbours_8 : decode cX9_withNeighbours 8 = .ok (.if_icmp .ge 39, 3) := by decide +kernel
theorem dX9_withNeighbours_11 : decode cX9_withNeighbours 11 = .ok (.iconst 0, 1) := by decide +kernel
theorem dX9_withNeighbours_12 : decode cX9_withNeighbours 12 = .ok (.istore 6, 2) := by decide +kernel
theorem dX9_withNeighbours_14 : decode cX9_withNeighbours 14 = .ok (.iload 6, 2) := by decide +kernel
theorem dX9_withNeighbours_16 : decode cX9_withNeighbours 16 = .ok (.bipush 7, 2) := by decide +kernel
theorem dX9_withNeighbours_18 : decode cX9_withNeighbours 18 = .ok (.if_icmp .gt 23, 3) := by decide +kernel
theorem dX9_withNeighbours_21 : decode cX9_withNeighbours 21 = .ok (.lload_n 3, 1) := by decide +kernel
theorem dX9_withNeighbours_22 : decode cX9_withNeighbours 22 = .ok (.aload_n 0, 1) := by decide +kernel
theorem dX9_withNeighbours_23 : decode cX9_withNeighbours 23 = .ok (.iload 5, 2) := by decide +kernel
theorem dX9_withNeighbours_25 : decode cX9_withNeighbours 25 = .ok (.iload 6, 2) := by decide +kernel
theorem dX9_withNeighbours_27 : decode cX9_withNeighbours 27 = .ok (.invokevirtual 409, 3) := by decide +kernel
theorem dX9_withNeighbours_30 : decode cX9_withNeighbours 30 = .ok (.i2l, 1) := by decide +kernel
theorem dX9_withNeighbours_31 : decode cX9_withNeighbours 31 = .ok (.invokestatic 309, 3) := by decide +kernel
theorem dX9_withNeighbours_34 : decode cX9_withNeighbours 34 = .ok (.lstore_n 3, 1) := by decide +kernel
theorem dX9_withNeighbours_35 : decode cX9_withNeighbours 35 = .ok (.iinc 6 1, 3) := by decide +kernel
theorem dX9_withNeighbours_38 : decode cX9_withNeighbours 38 = .ok (.goto (-24), 3) := by decide +kernel
theorem dX9_withNeighbours_41 : decode cX9_withNeighbours 41 = .ok (.iinc 5 1, 3) := by decide +kernel
theorem dX9_withNeighbours_44 : decode cX9_withNeighbours 44 = .ok (.goto (-39), 3) := by decide +kernel
theorem dX9_withNeighbours_47 : decode cX9_withNeighbours 47 = .ok (.lload_n 3, 1) := by decide +kernel
theorem dX9_withNeighbours_48 : decode cX9_withNeighbours 48 = .ok (.lreturn, 1) := by decide +kernel
theorem dX9_withChoices_0 : decode cX9_withChoices 0 = .ok (.lload_n 1, 1) := by decide +kernel
theorem dX9_withChoices_1 : decode cX9_withChoices 1 = .ok (.lstore_n 3, 1) := by decide +kernel
theorem dX9_withChoices_2 : decode cX9_withChoices 2 = .ok (.iconst 0, 1) := by decide +kernel
theorem dX9_withChoices_3 : decode cX9_withChoices 3 = .ok (.istore 5, 2) := by decide +kernel
theorem dX9_withChoices_5 : decode cX9_withChoices 5 = .ok (.iload 5, 2) := by decide +kernel
theorem dX9_withChoices_7 : decode cX9_withChoices 7 = .ok (.bipush 8, 2) := by decide +kernel
theorem dX9_withChoices_9 : decode cX9_withChoices 9 = .ok (.if_icmp .ge 55, 3) := by decide +kernel
theorem dX9_withChoices_12 : decode cX9_withChoices 12 = .ok (.iconst 0, 1) := by decide +kernel
theorem dX9_withChoices_13 : decode cX9_withChoices 13 = .ok (.istore 6, 2) := by decide +kernel
theorem dX9_withChoices_15 : decode cX9_withChoices 15 = .ok (.iload 6, 2) := by decide +kernel
theorem dX9_withChoices_17 : decode cX9_withChoices 17 = .ok (.iconst 4, 1) := by decide +kernel
theorem dX9_withChoices_18 : decode cX9_withChoices 18 = .ok (.if_icmp .ge 40, 3) := by decide +kernel
theorem dX9_withChoices_21 : decode cX9_withChoices 21 = .ok (.iconst 0, 1) := by decide +kernel
theorem dX9_withChoices_22 : decode cX9_withChoices 22 = .ok (.istore 7, 2) := by decide +kernel
theorem dX9_withChoices_24 : decode cX9_withChoices 24 = .ok (.iload 7, 2) := by decide +kernel
theorem dX9_withChoices_26 : decode cX9_withChoices 26 = .ok (.iconst 5, 1) := by decide +kernel
theorem dX9_withChoices_27 : decode cX9_withChoices 27 = .ok (.if_icmp .gt 25, 3) := by decide +kernel
theorem dX9_withChoices_30 : decode cX9_withChoices 30 = .ok (.lload_n 3, 1) := by decide +kernel
theorem dX9_withChoices_31 : decode cX9_withChoices 31 = .ok (.aload_n 0, 1) := by decide +kernel
theorem dX9_withChoices_32 : decode cX9_withChoices 32 = .ok (.iload 5, 2) := by decide +kernel
theorem dX9_withChoices_34 : decode cX9_withChoices 34 = .ok (.iload 6, 2) := by decide +kernel
theorem dX9_withChoices_36 : decode cX9_withChoices 36 = .ok (.iload 7, 2) := by decide +kernel
theorem dX9_withChoices_38 : decode cX9_withChoices 38 = .ok (.invokevirtual 412, 3) := by decide +kernel
theorem dX9_withChoices_41 : decode cX9_withChoices 41 = .ok (.i2l, 1) := by decide +kernel
theorem dX9_withChoices_42 : decode cX9_withChoices 42 = .ok (.invokestatic 309, 3) := by decide +kernel
theorem dX9_withChoices_45 : decode cX9_withChoices 45 = .ok (.lstore_n 3, 1) := by decide +kernel
theorem dX9_withChoices_46 : decode cX9_withChoices 46 = .ok (.iinc 7 1, 3) := by decide +kernel
theorem dX9_withChoices_49 : decode cX9_withChoices 49 = .ok (.goto (-25), 3) := by decide +kernel
theorem dX9_withChoices_52 : decode cX9_withChoices 52 = .ok (.iinc 6 1, 3) := by decide +kernel
theorem dX9_withChoices_55 : decode cX9_withChoices 55 = .ok (.goto (-40), 3) := by decide +kernel
theorem dX9_withChoices_58 : decode cX9_withChoices 58 = .ok (.iinc 5 1, 3) := by decide +kernel
theorem dX9_withChoices_61 : decode cX9_withChoices 61 = .ok (.goto (-56), 3) := by decide +kernel
theorem dX9_withChoices_64 : decode cX9_withChoices 64 = .ok (.lload_n 3, 1) := by decide +kernel
theorem dX9_withChoices_65 : decode cX9_withChoices 65 = .ok (.lreturn, 1) := by decide +kernel
theorem dX9_withReasons_0 : decode cX9_withReasons 0 = .ok (.lload_n 1, 1) := by decide +kernel
theorem dX9_withReasons_1 : decode cX9_withReasons 1 = .ok (.lstore_n 3, 1) := by decide +kernel
theorem dX9_withReasons_2 : decode cX9_withReasons 2 = .ok (.iconst 0, 1) := by decide +kernel
theorem dX9_withReasons_3 : decode cX9_withReasons 3 = .ok (.istore 5, 2) := by decide +kernel
theorem dX9_withReasons_5 : decode cX9_withReasons 5 = .ok (.iload 5, 2) := by decide +kernel
theorem dX9_withReasons_7 : decode cX9_withReasons 7 = .ok (.aload_n 0, 1) := by decide +kernel
theorem dX9_withReasons_8 : decode cX9_withReasons 8 = .ok (.getfield 10, 3) := by decide +kernel
theorem dX9_withReasons_11 : decode cX9_withReasons 11 = .ok (.getfield 83, 3) := by decide +kernel
theorem dX9_withReasons_14 : decode cX9_withReasons 14 = .ok (.invokevirtual 270, 3) := by decide +kernel
theorem dX9_withReasons_17 : decode cX9_withReasons 17 = .ok (.if_icmp .ge 23, 3) := by decide +kernel
theorem dX9_withReasons_20 : decode cX9_withReasons 20 = .ok (.lload_n 3, 1) := by decide +kernel
theorem dX9_withReasons_21 : decode cX9_withReasons 21 = .ok (.aload_n 0, 1) := by decide +kernel
theorem dX9_withReasons_22 : decode cX9_withReasons 22 = .ok (.iconst 0, 1) := by decide +kernel
theorem dX9_withReasons_23 : decode cX9_withReasons 23 = .ok (.iconst 0, 1) := by decide +kernel
theorem dX9_withReasons_24 : decode cX9_withReasons 24 = .ok (.iload 5, 2) := by decide +kernel
theorem dX9_withReasons_26 : decode cX9_withReasons 26 = .ok (.invokevirtual 415, 3) := by decide +kernel
theorem dX9_withReasons_29 : decode cX9_withReasons 29 = .ok (.i2l, 1) := by decide +kernel
theorem dX9_withReasons_30 : decode cX9_withReasons 30 = .ok (.invokestatic 309, 3) := by decide +kernel
theorem dX9_withReasons_33 : decode cX9_withReasons 33 = .ok (.lstore_n 3, 1) := by decide +kernel
theorem dX9_withReasons_34 : decode cX9_withReasons 34 = .ok (.iinc 5 1, 3) := by decide +kernel
theorem dX9_withReasons_37 : decode cX9_withReasons 37 = .ok (.goto (-32), 3) := by decide +kernel
theorem dX9_withReasons_40 : decode cX9_withReasons 40 = .ok (.lload_n 3, 1) := by decide +kernel
theorem dX9_withReasons_41 : decode cX9_withReasons 41 = .ok (.lreturn, 1) := by decide +kernel
theorem dX9_withSlots_0 : decode cX9_withSlots 0 = .ok (.lload_n 1, 1) := by decide +kernel
theorem dX9_withSlots_1 : decode cX9_withSlots 1 = .ok (.lstore_n 3, 1) := by decide +kernel
theorem dX9_withSlots_2 : decode cX9_withSlots 2 = .ok (.iconst 0, 1) := by decide +kernel
theorem dX9_withSlots_3 : decode cX9_withSlots 3 = .ok (.istore 5, 2) := by decide +kernel
theorem dX9_withSlots_5 : decode cX9_withSlots 5 = .ok (.iload 5, 2) := by decide +kernel
theorem dX9_withSlots_7 : decode cX9_withSlots 7 = .ok (.iconst 2, 1) := by decide +kernel
theorem dX9_withSlots_8 : decode cX9_withSlots 8 = .ok (.if_icmp .ge 31, 3) := by decide +kernel
theorem dX9_withSlots_11 : decode cX9_withSlots 11 = .ok (.lload_n 3, 1) := by decide +kernel
theorem dX9_withSlots_12 : decode cX9_withSlots 12 = .ok (.aload_n 0, 1) := by decide +kernel
theorem dX9_withSlots_13 : decode cX9_withSlots 13 = .ok (.getfield 45, 3) := by decide +kernel
theorem dX9_withSlots_16 : decode cX9_withSlots 16 = .ok (.iload 5, 2) := by decide +kernel
theorem dX9_withSlots_18 : decode cX9_withSlots 18 = .ok (.invokevirtual 191, 3) := by decide +kernel
theorem dX9_withSlots_21 : decode cX9_withSlots 21 = .ok (.ifCond .eq 7, 3) := by decide +kernel
theorem dX9_withSlots_24 : decode cX9_withSlots 24 = .ok (.lconst 1, 1) := by decide +kernel
theorem dX9_withSlots_25 : decode cX9_withSlots 25 = .ok (.goto 4, 3) := by decide +kernel
theorem dX9_withSlots_28 : decode cX9_withSlots 28 = .ok (.lconst 0, 1) := by decide +kernel
theorem dX9_withSlots_29 : decode cX9_withSlots 29 = .ok (.invokestatic 309, 3) := by decide +kernel
theorem dX9_withSlots_32 : decode cX9_withSlots 32 = .ok (.lstore_n 3, 1) := by decide +kernel
theorem dX9_withSlots_33 : decode cX9_withSlots 33 = .ok (.iinc 5 1, 3) := by decide +kernel
theorem dX9_withSlots_36 : decode cX9_withSlots 36 = .ok (.goto (-31), 3) := by decide +kernel
theorem dX9_withSlots_39 : decode cX9_withSlots 39 = .ok (.lload_n 3, 1) := by decide +kernel
theorem dX9_withSlots_40 : decode cX9_withSlots 40 = .ok (.lreturn, 1) := by decide +kernel
theorem dX9_withText_0 : decode cX9_withText 0 = .ok (.lload_n 1, 1) := by decide +kernel
theorem dX9_withText_1 : decode cX9_withText 1 = .ok (.aload_n 0, 1) := by decide +kernel
theorem dX9_withText_2 : decode cX9_withText 2 = .ok (.getfield 36, 3) := by decide +kernel
theorem dX9_withText_5 : decode cX9_withText 5 = .ok (.invokevirtual 175, 3) := by decide +kernel
theorem dX9_withText_8 : decode cX9_withText 8 = .ok (.i2l, 1) := by decide +kernel
theorem dX9_withText_9 : decode cX9_withText 9 = .ok (.invokestatic 309, 3) := by decide +kernel
theorem dX9_withText_12 : decode cX9_withText 12 = .ok (.lstore_n 3, 1) := by decide +kernel
theorem dX9_withText_13 : decode cX9_withText 13 = .ok (.iconst 0, 1) := by decide +kernel
theorem dX9_withText_14 : decode cX9_withText 14 = .ok (.istore 5, 2) := by decide +kernel
theorem dX9_withText_16 : decode cX9_withText 16 = .ok (.iload 5, 2) := by decide +kernel
theorem dX9_withText_18 : decode cX9_withText 18 = .ok (.aload_n 0, 1) := by decide +kernel
theorem dX9_withText_19 : decode cX9_withText 19 = .ok (.getfield 36, 3) := by decide +kernel
theorem dX9_withText_22 : decode cX9_withText 22 = .ok (.invokevirtual 175, 3) := by decide +kernel
theorem dX9_withText_25 : decode cX9_withText 25 = .ok (.if_icmp .ge 24, 3) := by decide +kernel
theorem dX9_withText_28 : decode cX9_withText 28 = .ok (.lload_n 3, 1) := by decide +kernel
theorem dX9_withText_29 : decode cX9_withText 29 = .ok (.aload_n 0, 1) := by decide +kernel
theorem dX9_withText_30 : decode cX9_withText 30 = .ok (.getfield 36, 3) := by decide +kernel
theorem dX9_withText_33 : decode cX9_withText 33 = .ok (.iload 5, 2) := by decide +kernel
theorem dX9_withText_35 : decode cX9_withText 35 = .ok (.invokevirtual 379, 3) := by decide +kernel
theorem dX9_withText_38 : decode cX9_withText 38 = .ok (.i2l, 1) := by decide +kernel
theorem dX9_withText_39 : decode cX9_withText 39 = .ok (.invokestatic 309, 3) := by decide +kernel
theorem dX9_withText_42 : decode cX9_withText 42 = .ok (.lstore_n 3, 1) := by decide +kernel
theorem dX9_withText_43 : decode cX9_withText 43 = .ok (.iinc 5 1, 3) := by decide +kernel
theorem dX9_withText_46 : decode cX9_withText 46 = .ok (.goto (-30), 3) := by decide +kernel
theorem dX9_withText_49 : decode cX9_withText 49 = .ok (.lload_n 3, 1) := by decide +kernel
theorem dX9_withText_50 : decode cX9_withText 50 = .ok (.lreturn, 1) := by decide +kernel
theorem dX9_bitsOfShare_0 : decode cX9_bitsOfShare 0 = .ok (.dload_n 0, 1) := by decide +kernel
theorem dX9_bitsOfShare_1 : decode cX9_bitsOfShare 1 = .ok (.dconst 0, 1) := by decide +kernel
theorem dX9_bitsOfShare_2 : decode cX9_bitsOfShare 2 = .ok (.dcmp .g, 1) := by decide +kernel
theorem dX9_bitsOfShare_3 : decode cX9_bitsOfShare 3 = .ok (.ifCond .gt 5, 3) := by decide +kernel
theorem dX9_bitsOfShare_6 : decode cX9_bitsOfShare 6 = .ok (.lconst 0, 1) := by decide +kernel
theorem dX9_bitsOfShare_7 : decode cX9_bitsOfShare 7 = .ok (.lreturn, 1) := by decide +kernel
theorem dX9_bitsOfShare_8 : decode cX9_bitsOfShare 8 = .ok (.dload_n 0, 1) := by decide +kernel
theorem dX9_bitsOfShare_9 : decode cX9_bitsOfShare 9 = .ok (.dstore_n 2, 1) := by decide +kernel
theorem dX9_bitsOfShare_10 : decode cX9_bitsOfShare 10 = .ok (.ldc2_w 418, 3) := by decide +kernel
theorem dX9_bitsOfShare_13 : decode cX9_bitsOfShare 13 = .ok (.lstore 4, 2) := by decide +kernel
theorem dX9_bitsOfShare_15 : decode cX9_bitsOfShare 15 = .ok (.iconst 0, 1) := by decide +kernel
theorem dX9_bitsOfShare_16 : decode cX9_bitsOfShare 16 = .ok (.istore 6, 2) := by decide +kernel
theorem dX9_bitsOfShare_18 : decode cX9_bitsOfShare 18 = .ok (.iload 6, 2) := by decide +kernel
theorem dX9_bitsOfShare_20 : decode cX9_bitsOfShare 20 = .ok (.bipush 64, 2) := by decide +kernel
theorem dX9_bitsOfShare_22 : decode cX9_bitsOfShare 22 = .ok (.if_icmp .ge 27, 3) := by decide +kernel
theorem dX9_bitsOfShare_25 : decode cX9_bitsOfShare 25 = .ok (.dload_n 2, 1) := by decide +kernel
theorem dX9_bitsOfShare_26 : decode cX9_bitsOfShare 26 = .ok (.dconst 1, 1) := by decide +kernel
theorem dX9_bitsOfShare_27 : decode cX9_bitsOfShare 27 = .ok (.dcmp .g, 1) := by decide +kernel
theorem dX9_bitsOfShare_28 : decode cX9_bitsOfShare 28 = .ok (.ifCond .ge 21, 3) := by decide +kernel
theorem dX9_bitsOfShare_31 : decode cX9_bitsOfShare 31 = .ok (.dload_n 2, 1) := by decide +kernel
theorem dX9_bitsOfShare_32 : decode cX9_bitsOfShare 32 = .ok (.ldc2_w 420, 3) := by decide +kernel
theorem dX9_bitsOfShare_35 : decode cX9_bitsOfShare 35 = .ok (.dmul, 1) := by decide +kernel
theorem dX9_bitsOfShare_36 : decode cX9_bitsOfShare 36 = .ok (.dstore_n 2, 1) := by decide +kernel
theorem dX9_bitsOfShare_37 : decode cX9_bitsOfShare 37 = .ok (.lload 4, 2) := by decide +kernel
theorem dX9_bitsOfShare_39 : decode cX9_bitsOfShare 39 = .ok (.lconst 1, 1) := by decide +kernel
theorem dX9_bitsOfShare_40 : decode cX9_bitsOfShare 40 = .ok (.lsub, 1) := by decide +kernel
theorem dX9_bitsOfShare_41 : decode cX9_bitsOfShare 41 = .ok (.lstore 4, 2) := by decide +kernel
theorem dX9_bitsOfShare_43 : decode cX9_bitsOfShare 43 = .ok (.iinc 6 1, 3) := by decide +kernel
theorem dX9_bitsOfShare_46 : decode cX9_bitsOfShare 46 = .ok (.goto (-28), 3) := by decide +kernel
theorem dX9_bitsOfShare_49 : decode cX9_bitsOfShare 49 = .ok (.ldc2_w 422, 3) := by decide +kernel
theorem dX9_bitsOfShare_52 : decode cX9_bitsOfShare 52 = .ok (.lstore 6, 2) := by decide +kernel
theorem dX9_bitsOfShare_54 : decode cX9_bitsOfShare 54 = .ok (.lload 4, 2) := by decide +kernel
theorem dX9_bitsOfShare_56 : decode cX9_bitsOfShare 56 = .ok (.lload 6, 2) := by decide +kernel
theorem dX9_bitsOfShare_58 : decode cX9_bitsOfShare 58 = .ok (.lmul, 1) := by decide +kernel
theorem dX9_bitsOfShare_59 : decode cX9_bitsOfShare 59 = .ok (.dload_n 2, 1) := by decide +kernel
theorem dX9_bitsOfShare_60 : decode cX9_bitsOfShare 60 = .ok (.dconst 1, 1) := by decide +kernel
theorem dX9_bitsOfShare_61 : decode cX9_bitsOfShare 61 = .ok (.dsub, 1) := by decide +kernel
theorem dX9_bitsOfShare_62 : decode cX9_bitsOfShare 62 = .ok (.lload 6, 2) := by decide +kernel
theorem dX9_bitsOfShare_64 : decode cX9_bitsOfShare 64 = .ok (.l2d, 1) := by decide +kernel
theorem dX9_bitsOfShare_65 : decode cX9_bitsOfShare 65 = .ok (.dmul, 1) := by decide +kernel
theorem dX9_bitsOfShare_66 : decode cX9_bitsOfShare 66 = .ok (.d2l, 1) := by decide +kernel
theorem dX9_bitsOfShare_67 : decode cX9_bitsOfShare 67 = .ok (.ladd, 1) := by decide +kernel
theorem dX9_bitsOfShare_68 : decode cX9_bitsOfShare 68 = .ok (.lreturn, 1) := by decide +kernel
theorem dX9_copyRow_0 : decode cX9_copyRow 0 = .ok (.aload_n 0, 1) := by decide +kernel
theorem dX9_copyRow_1 : decode cX9_copyRow 1 = .ok (.iconst 0, 1) := by decide +kernel
theorem dX9_copyRow_2 : decode cX9_copyRow 2 = .ok (.aload_n 1, 1) := by decide +kernel
theorem dX9_copyRow_3 : decode cX9_copyRow 3 = .ok (.iconst 0, 1) := by decide +kernel
theorem dX9_copyRow_4 : decode cX9_copyRow 4 = .ok (.aload_n 0, 1) := by decide +kernel
theorem dX9_copyRow_5 : decode cX9_copyRow 5 = .ok (.arraylength, 1) := by decide +kernel
theorem dX9_copyRow_6 : decode cX9_copyRow 6 = .ok (.aload_n 1, 1) := by decide +kernel
theorem dX9_copyRow_7 : decode cX9_copyRow 7 = .ok (.arraylength, 1) := by decide +kernel
theorem dX9_copyRow_8 : decode cX9_copyRow 8 = .ok (.invokestatic 424, 3) := by decide +kernel
theorem dX9_copyRow_11 : decode cX9_copyRow 11 = .ok (.invokestatic 429, 3) := by decide +kernel
theorem dX9_copyRow_14 : decode cX9_copyRow 14 = .ok (.return_, 1) := by decide +kernel
theorem dX10_init_0 : decode cX10_init 0 = .ok (.aload_n 0, 1) := by decide +kernel
theorem dX10_init_1 : decode cX10_init 1 = .ok (.invokespecial 1, 3) := by decide +kernel
theorem dX10_init_4 : decode cX10_init 4 = .ok (.aload_n 0, 1) := by decide +kernel
theorem dX10_init_5 : decode cX10_init 5 = .ok (.sipush 1740, 3) := by decide +kernel
theorem dX10_init_8 : decode cX10_init 8 = .ok (.newarray .int, 2) := by decide +kernel
theorem dX10_init_10 : decode cX10_init 10 = .ok (.putfield 7, 3) := by decide +kernel
theorem dX10_init_13 : decode cX10_init 13 = .ok (.aload_n 0, 1) := by decide +kernel
theorem dX10_init_14 : decode cX10_init 14 = .ok (.iconst 2, 1) := by decide +kernel
theorem dX10_init_15 : decode cX10_init 15 = .ok (.newarray .boolean, 2) := by decide +kernel
theorem dX10_init_17 : decode cX10_init 17 = .ok (.putfield 13, 3) := by decide +kernel
theorem dX10_init_20 : decode cX10_init 20 = .ok (.aload_n 0, 1) := by decide +kernel
theorem dX10_init_21 : decode cX10_init 21 = .ok (.bipush 60, 2) := by decide +kernel
theorem dX10_init_23 : decode cX10_init 23 = .ok (.newarray .char, 2) := by decide +kernel
theorem dX10_init_25 : decode cX10_init 25 = .ok (.putfield 17, 3) := by decide +kernel
theorem dX10_init_28 : decode cX10_init 28 = .ok (.aload_n 0, 1) := by decide +kernel
theorem dX10_init_29 : decode cX10_init 29 = .ok (.bipush 64, 2) := by decide +kernel
theorem dX10_init_31 : decode cX10_init 31 = .ok (.newarray .int, 2) := by decide +kernel
theorem dX10_init_33 : decode cX10_init 33 = .ok (.putfield 21, 3) := by decide +kernel
theorem dX10_init_36 : decode cX10_init 36 = .ok (.aload_n 0, 1) := by decide +kernel
theorem dX10_init_37 : decode cX10_init 37 = .ok (.bipush 32, 2) := by decide +kernel
theorem dX10_init_39 : decode cX10_init 39 = .ok (.newarray .int, 2) := by decide +kernel
theorem dX10_init_41 : decode cX10_init 41 = .ok (.putfield 24, 3) := by decide +kernel
theorem dX10_init_44 : decode cX10_init 44 = .ok (.aload_n 0, 1) := by decide +kernel
theorem dX10_init_45 : decode cX10_init 45 = .ok (.bipush 32, 2) := by decide +kernel
theorem dX10_init_47 : decode cX10_init 47 = .ok (.newarray .int, 2) := by decide +kernel
theorem dX10_init_49 : decode cX10_init 49 = .ok (.putfield 27, 3) := by decide +kernel
theorem dX10_init_52 : decode cX10_init 52 = .ok (.iconst 0, 1) := by decide +kernel
theorem dX10_init_53 : decode cX10_init 53 = .ok (.istore_n 1, 1) := by decide +kernel
theorem dX10_init_54 : decode cX10_init 54 = .ok (.iload_n 1, 1) := by decide +kernel
theorem dX10_init_55 : decode cX10_init 55 = .ok (.iconst 1, 1) := by decide +kernel
theorem dX10_init_56 : decode cX10_init 56 = .ok (.iadd, 1) := by decide +kernel
theorem dX10_init_57 : decode cX10_init 57 = .ok (.bipush 8, 2) := by decide +kernel
theorem dX10_init_59 : decode cX10_init 59 = .ok (.if_icmp .ge 20, 3) := by decide +kernel
theorem dX10_init_62 : decode cX10_init 62 = .ok (.aload_n 0, 1) := by decide +kernel
theorem dX10_init_63 : decode cX10_init 63 = .ok (.iconst 0, 1) := by decide +kernel
theorem dX10_init_64 : decode cX10_init 64 = .ok (.iload_n 1, 1) := by decide +kernel
theorem dX10_init_65 : decode cX10_init 65 = .ok (.iload_n 1, 1) := by decide +kernel
theorem dX10_init_66 : decode cX10_init 66 = .ok (.iconst 1, 1) := by decide +kernel
theorem dX10_init_67 : decode cX10_init 67 = .ok (.iadd, 1) := by decide +kernel
theorem dX10_init_68 : decode cX10_init 68 = .ok (.bipush 10, 2) := by decide +kernel
theorem dX10_init_70 : decode cX10_init 70 = .ok (.invokevirtual 30, 3) := by decide +kernel
theorem dX10_init_73 : decode cX10_init 73 = .ok (.iinc 1 1, 3) := by decide +kernel
theorem dX10_init_76 : decode cX10_init 76 = .ok (.goto (-22), 3) := by decide +kernel
theorem dX10_init_79 : decode cX10_init 79 = .ok (.iconst 0, 1) := by decide +kernel
theorem dX10_init_80 : decode cX10_init 80 = .ok (.istore_n 1, 1) := by decide +kernel
theorem dX10_init_81 : decode cX10_init 81 = .ok (.iload_n 1, 1) := by decide +kernel
theorem dX10_init_82 : decode cX10_init 82 = .ok (.iconst 4, 1) := by decide +kernel
theorem dX10_init_83 : decode cX10_init 83 = .ok (.if_icmp .ge 20, 3) := by decide +kernel
theorem dX10_init_86 : decode cX10_init 86 = .ok (.aload_n 0, 1) := by decide +kernel
theorem dX10_init_87 : decode cX10_init 87 = .ok (.getfield 7, 3) := by decide +kernel
theorem dX10_init_90 : decode cX10_init 90 = .ok (.bipush 123, 2) := by decide +kernel
theorem dX10_init_92 : decode cX10_init 92 = .ok (.iload_n 1, 1) := by decide +kernel
theorem dX10_init_93 : decode cX10_init 93 = .ok (.iadd, 1) := by decide +kernel
theorem dX10_init_94 : decode cX10_init 94 = .ok (.bipush 20, 2) := by decide +kernel
theorem dX10_init_96 : decode cX10_init 96 = .ok (.iastore, 1) := by decide +kernel
theorem dX10_init_97 : decode cX10_init 97 = .ok (.iinc 1 1, 3) := by decide +kernel
theorem dX10_init_100 : decode cX10_init 100 = .ok (.goto (-19), 3) := by decide +kernel
theorem dX10_init_103 : decode cX10_init 103 = .ok (.return_, 1) := by decide +kernel
theorem dX10_thrown_0 : decode cX10_thrown 0 = .ok (.aload_n 0, 1) := by decide +kernel
theorem dX10_thrown_1 : decode cX10_thrown 1 = .ok (.getfield 34, 3) := by decide +kernel
theorem dX10_thrown_4 : decode cX10_thrown 4 = .ok (.ireturn, 1) := by decide +kernel
theorem dX10_in_0 : decode cX10_in 0 = .ok (.iload_n 0, 1) := by decide +kernel
theorem dX10_in_1 : decode cX10_in 1 = .ok (.iload_n 1, 1) := by decide +kernel
theorem dX10_in_2 : decode cX10_in 2 = .ok (.if_icmp .lt 12, 3) := by decide +kernel
theorem dX10_in_5 : decode cX10_in 5 = .ok (.iload_n 0, 1) := by decide +kernel
theorem dX10_in_6 : decode cX10_in 6 = .ok (.iload_n 2, 1) := by decide +kernel
theorem dX10_in_7 : decode cX10_in 7 = .ok (.if_icmp .gt 7, 3) := by decide +kernel
theorem dX10_in_10 : decode cX10_in 10 = .ok (.iconst 1, 1) := by decide +kernel
theorem dX10_in_11 : decode cX10_in 11 = .ok (.goto 4, 3) := by decide +kernel
theorem dX10_in_14 : decode cX10_in 14 = .ok (.iconst 0, 1) := by decide +kernel
theorem dX10_in_15 : decode cX10_in 15 = .ok (.ireturn, 1) := by decide +kernel
theorem dX10_goes_0 : decode cX10_goes 0 = .ok (.aload_n 0, 1) := by decide +kernel
theorem dX10_goes_1 : decode cX10_goes 1 = .ok (.iload_n 1, 1) := by decide +kernel
theorem dX10_goes_2 : decode cX10_goes 2 = .ok (.ifCond .ne 7, 3) := by decide +kernel
theorem dX10_goes_5 : decode cX10_goes 5 = .ok (.iconst 1, 1) := by decide +kernel
theorem dX10_goes_6 : decode cX10_goes 6 = .ok (.goto 12, 3) := by decide +kernel
theorem dX10_goes_9 : decode cX10_goes 9 = .ok (.iload_n 2, 1) := by decide +kernel
theorem dX10_goes_10 : decode cX10_goes 10 = .ok (.ifCond .ne 7, 3) := by decide +kernel
theorem dX10_goes_13 : decode cX10_goes 13 = .ok (.iconst 2, 1) := by decide +kernel
theorem dX10_goes_14 : decode cX10_goes 14 = .ok (.goto 4, 3) := by decide +kernel
theorem dX10_goes_17 : decode cX10_goes 17 = .ok (.iconst 0, 1) := by decide +kernel
theorem dX10_goes_18 : decode cX10_goes 18 = .ok (.putfield 34, 3) := by decide +kernel
theorem dX10_goes_21 : decode cX10_goes 21 = .ok (.aload_n 0, 1) := by decide +kernel
theorem dX10_goes_22 : decode cX10_goes 22 = .ok (.getfield 34, 3) := by decide +kernel
theorem dX10_goes_25 : decode cX10_goes 25 = .ok (.ifCond .ne 7, 3) := by decide +kernel
theorem dX10_goes_28 : decode cX10_goes 28 = .ok (.iconst 1, 1) := by decide +kernel
theorem dX10_goes_29 : decode cX10_goes 29 = .ok (.goto 4, 3) := by decide +kernel
theorem dX10_goes_32 : decode cX10_goes 32 = .ok (.iconst 0, 1) := by decide +kernel
theorem dX10_goes_33 : decode cX10_goes 33 = .ok (.ireturn, 1) := by decide +kernel
theorem dX10_copies_0 : decode cX10_copies 0 = .ok (.iconst 0, 1) := by decide +kernel
theorem dX10_copies_1 : decode cX10_copies 1 = .ok (.istore_n 3, 1) := by decide +kernel
theorem dX10_copies_2 : decode cX10_copies 2 = .ok (.iload_n 3, 1) := by decide +kernel
theorem dX10_copies_3 : decode cX10_copies 3 = .ok (.sipush 174, 3) := by decide +kernel
theorem dX10_copies_6 : decode cX10_copies 6 = .ok (.if_icmp .ge 33, 3) := by decide +kernel
theorem dX10_copies_9 : decode cX10_copies 9 = .ok (.aload_n 0, 1) := by decide +kernel
theorem dX10_copies_10 : decode cX10_copies 10 = .ok (.getfield 7, 3) := by decide +kernel
theorem dX10_copies_13 : decode cX10_copies 13 = .ok (.sipush 174, 3) := by decide +kernel
theorem dX10_copies_16 : decode cX10_copies 16 = .ok (.iload_n 2, 1) := by decide +kernel
theorem dX10_copies_17 : decode cX10_copies 17 = .ok (.imul, 1) := by decide +kernel
theorem dX10_copies_18 : decode cX10_copies 18 = .ok (.iload_n 3, 1) := by decide +kernel
theorem dX10_copies_19 : decode cX10_copies 19 = .ok (.iadd, 1) := by decide +kernel
theorem dX10_copies_20 : decode cX10_copies 20 = .ok (.aload_n 0, 1) := by decide +kernel
theorem dX10_copies_21 : decode cX10_copies 21 = .ok (.getfield 7, 3) := by decide +kernel
theorem dX10_copies_24 : decode cX10_copies 24 = .ok (.sipush 174, 3) := by decide +kernel
theorem dX10_copies_27 : decode cX10_copies 27 = .ok (.iload_n 1, 1) := by decide +kernel
theorem dX10_copies_28 : decode cX10_copies 28 = .ok (.imul, 1) := by decide +kernel
theorem dX10_copies_29 : decode cX10_copies 29 = .ok (.iload_n 3, 1) := by decide +kernel
theorem dX10_copies_30 : decode cX10_copies 30 = .ok (.iadd, 1) := by decide +kernel
theorem dX10_copies_31 : decode cX10_copies 31 = .ok (.iaload, 1) := by decide +kernel
theorem dX10_copies_32 : decode cX10_copies 32 = .ok (.iastore, 1) := by decide +kernel
theorem dX10_copies_33 : decode cX10_copies 33 = .ok (.iinc 3 1, 3) := by decide +kernel
theorem dX10_copies_36 : decode cX10_copies 36 = .ok (.goto (-34), 3) := by decide +kernel
theorem dX10_copies_39 : decode cX10_copies 39 = .ok (.return_, 1) := by decide +kernel
theorem dX10_saves_0 : decode cX10_saves 0 = .ok (.aload_n 0, 1) := by decide +kernel
theorem dX10_saves_1 : decode cX10_saves 1 = .ok (.getfield 38, 3) := by decide +kernel
theorem dX10_saves_4 : decode cX10_saves 4 = .ok (.bipush 6, 2) := by decide +kernel
theorem dX10_saves_6 : decode cX10_saves 6 = .ok (.if_icmp .ne 35, 3) := by decide +kernel
theorem dX10_saves_9 : decode cX10_saves 9 = .ok (.iconst 1, 1) := by decide +kernel
theorem dX10_saves_10 : decode cX10_saves 10 = .ok (.istore_n 1, 1) := by decide +kernel
theorem dX10_saves_11 : decode cX10_saves 11 = .ok (.iload_n 1, 1) := by decide +kernel
theorem dX10_saves_12 : decode cX10_saves 12 = .ok (.bipush 6, 2) := by decide +kernel
theorem dX10_saves_14 : decode cX10_saves 14 = .ok (.if_icmp .ge 17, 3) := by decide +kernel
theorem dX10_saves_17 : decode cX10_saves 17 = .ok (.aload_n 0, 1) := by decide +kernel
theorem dX10_saves_18 : decode cX10_saves 18 = .ok (.iload_n 1, 1) := by decide +kernel
theorem dX10_saves_19 : decode cX10_saves 19 = .ok (.iconst 1, 1) := by decide +kernel
theorem dX10_saves_20 : decode cX10_saves 20 = .ok (.iadd, 1) := by decide +kernel
theorem dX10_saves_21 : decode cX10_saves 21 = .ok (.iload_n 1, 1) := by decide +kernel
theorem dX10_saves_22 : decode cX10_saves 22 = .ok (.invokevirtual 41, 3) := by decide +kernel
theorem dX10_saves_25 : decode cX10_saves 25 = .ok (.iinc 1 1, 3) := by decide +kernel
theorem dX10_saves_28 : decode cX10_saves 28 = .ok (.goto (-17), 3) := by decide +kernel
theorem dX10_saves_31 : decode cX10_saves 31 = .ok (.aload_n 0, 1) := by decide +kernel
theorem dX10_saves_32 : decode cX10_saves 32 = .ok (.dup, 1) := by decide +kernel
theorem dX10_saves_33 : decode cX10_saves 33 = .ok (.getfield 38, 3) := by decide +kernel
theorem dX10_saves_36 : decode cX10_saves 36 = .ok (.iconst 1, 1) := by decide +kernel
theorem dX10_saves_37 : decode cX10_saves 37 = .ok (.isub, 1) := by decide +kernel
theorem dX10_saves_38 : decode cX10_saves 38 = .ok (.putfield 38, 3) := by decide +kernel
theorem dX10_saves_41 : decode cX10_saves 41 = .ok (.aload_n 0, 1) := by decide +kernel
theorem dX10_saves_42 : decode cX10_saves 42 = .ok (.dup, 1) := by decide +kernel
theorem dX10_saves_43 : decode cX10_saves 43 = .ok (.getfield 38, 3) := by decide +kernel
theorem dX10_saves_46 : decode cX10_saves 46 = .ok (.iconst 1, 1) := by decide +kernel
theorem dX10_saves_47 : decode cX10_saves 47 = .ok (.iadd, 1) := by decide +kernel
theorem dX10_saves_48 : decode cX10_saves 48 = .ok (.putfield 38, 3) := by decide +kernel
theorem dX10_saves_51 : decode cX10_saves 51 = .ok (.aload_n 0, 1) := by decide +kernel
theorem dX10_saves_52 : decode cX10_saves 52 = .ok (.iconst 0, 1) := by decide +kernel
theorem dX10_saves_53 : decode cX10_saves 53 = .ok (.aload_n 0, 1) := by decide +kernel
theorem dX10_saves_54 : decode cX10_saves 54 = .ok (.getfield 38, 3) := by decide +kernel
theorem dX10_saves_57 : decode cX10_saves 57 = .ok (.invokevirtual 41, 3) := by decide +kernel
theorem dX10_saves_60 : decode cX10_saves 60 = .ok (.return_, 1) := by decide +kernel
theorem dX10_isTown_0 : decode cX10_isTown 0 = .ok (.iload_n 0, 1) := by decide +kernel
theorem dX10_isTown_1 : decode cX10_isTown 1 = .ok (.iconst 0, 1) := by decide +kernel
theorem dX10_isTown_2 : decode cX10_isTown 2 = .ok (.bipush 7, 2) := by decide +kernel
theorem dX10_isTown_4 : decode cX10_isTown 4 = .ok (.invokestatic 45, 3) := by decide +kernel
theorem dX10_isTown_7 : decode cX10_isTown 7 = .ok (.ireturn, 1) := by decide +kernel
theorem dX10_isHouse_0 : decode cX10_isHouse 0 = .ok (.iload_n 0, 1) := by decide +kernel
theorem dX10_isHouse_1 : decode cX10_isHouse 1 = .ok (.iconst 0, 1) := by decide +kernel
theorem dX10_isHouse_2 : decode cX10_isHouse 2 = .ok (.iconst 3, 1) := by decide +kernel
theorem dX10_isHouse_3 : decode cX10_isHouse 3 = .ok (.invokestatic 45, 3) := by decide +kernel
theorem dX10_isHouse_6 : decode cX10_isHouse 6 = .ok (.ireturn, 1) := by decide +kernel
theorem dX10_isExit_0 : decode cX10_isExit 0 = .ok (.iload_n 1, 1) := by decide +kernel
theorem dX10_isExit_1 : decode cX10_isExit 1 = .ok (.iconst 0, 1) := by decide +kernel
theorem dX10_isExit_2 : decode cX10_isExit 2 = .ok (.aload_n 0, 1) := by decide +kernel
theorem dX10_isExit_3 : decode cX10_isExit 3 = .ok (.getfield 7, 3) := by decide +kernel
theorem dX10_isExit_6 : decode cX10_isExit 6 = .ok (.bipush 66, 2) := by decide +kernel
theorem dX10_isExit_8 : decode cX10_isExit 8 = .ok (.iaload, 1) := by decide +kernel
theorem dX10_isExit_9 : decode cX10_isExit 9 = .ok (.iconst 1, 1) := by decide +kernel
theorem dX10_isExit_10 : decode cX10_isExit 10 = .ok (.isub, 1) := by decide +kernel
theorem dX10_isExit_11 : decode cX10_isExit 11 = .ok (.invokestatic 45, 3) := by decide +kernel
theorem dX10_isExit_14 : decode cX10_isExit 14 = .ok (.ireturn, 1) := by decide +kernel
theorem dX10_lays_0 : decode cX10_lays 0 = .ok (.aload_n 0, 1) := by decide +kernel
theorem dX10_lays_1 : decode cX10_lays 1 = .ok (.getfield 7, 3) := by decide +kernel
theorem dX10_lays_4 : decode cX10_lays 4 = .ok (.iload_n 1, 1) := by decide +kernel
theorem dX10_lays_5 : decode cX10_lays 5 = .ok (.iconst 2, 1) := by decide +kernel
theorem dX10_lays_6 : decode cX10_lays 6 = .ok (.iadd, 1) := by decide +kernel
theorem dX10_lays_7 : decode cX10_lays 7 = .ok (.bipush 8, 2) := by decide +kernel
theorem dX10_lays_9 : decode cX10_lays 9 = .ok (.iload_n 2, 1) := by decide +kernel
theorem dX10_lays_10 : decode cX10_lays 10 = .ok (.imul, 1) := by decide +kernel
theorem dX10_lays_11 : decode cX10_lays 11 = .ok (.iadd, 1) := by decide +kernel
theorem dX10_lays_12 : decode cX10_lays 12 = .ok (.iload_n 3, 1) := by decide +kernel
theorem dX10_lays_13 : decode cX10_lays 13 = .ok (.iadd, 1) := by decide +kernel
theorem dX10_lays_14 : decode cX10_lays 14 = .ok (.iload 4, 2) := by decide +kernel
theorem dX10_lays_16 : decode cX10_lays 16 = .ok (.iastore, 1) := by decide +kernel
theorem dX10_lays_17 : decode cX10_lays 17 = .ok (.aload_n 0, 1) := by decide +kernel
theorem dX10_lays_18 : decode cX10_lays 18 = .ok (.getfield 7, 3) := by decide +kernel
theorem dX10_lays_21 : decode cX10_lays 21 = .ok (.iload_n 1, 1) := by decide +kernel
theorem dX10_lays_22 : decode cX10_lays 22 = .ok (.iconst 2, 1) := by decide +kernel
theorem dX10_lays_23 : decode cX10_lays 23 = .ok (.iadd, 1) := by decide +kernel
theorem dX10_lays_24 : decode cX10_lays 24 = .ok (.bipush 8, 2) := by decide +kernel
theorem dX10_lays_26 : decode cX10_lays 26 = .ok (.iload_n 3, 1) := by decide +kernel
theorem dX10_lays_27 : decode cX10_lays 27 = .ok (.imul, 1) := by decide +kernel
theorem dX10_lays_28 : decode cX10_lays 28 = .ok (.iadd, 1) := by decide +kernel
theorem dX10_lays_29 : decode cX10_lays 29 = .ok (.iload_n 2, 1) := by decide +kernel
theorem dX10_lays_30 : decode cX10_lays 30 = .ok (.iadd, 1) := by decide +kernel
theorem dX10_lays_31 : decode cX10_lays 31 = .ok (.iload 4, 2) := by decide +kernel
theorem dX10_lays_33 : decode cX10_lays 33 = .ok (.iastore, 1) := by decide +kernel
theorem dX10_lays_34 : decode cX10_lays 34 = .ok (.return_, 1) := by decide +kernel
theorem dX10_exitAt_0 : decode cX10_exitAt 0 = .ok (.iload_n 0, 1) := by decide +kernel
theorem dX10_exitAt_1 : decode cX10_exitAt 1 = .ok (.bipush 67, 2) := by decide +kernel
theorem dX10_exitAt_3 : decode cX10_exitAt 3 = .ok (.iadd, 1) := by decide +kernel
theorem dX10_exitAt_4 : decode cX10_exitAt 4 = .ok (.iconst 5, 1) := by decide +kernel
theorem dX10_exitAt_5 : decode cX10_exitAt 5 = .ok (.iload_n 1, 1) := by decide +kernel
theorem dX10_exitAt_6 : decode cX10_exitAt 6 = .ok (.imul, 1) := by decide +kernel
theorem dX10_exitAt_7 : decode cX10_exitAt 7 = .ok (.iadd, 1) := by decide +kernel
theorem dX10_exitAt_8 : decode cX10_exitAt 8 = .ok (.ireturn, 1) := by decide +kernel
theorem dX10_measures_0 : decode cX10_measures 0 = .ok (.iconst 0, 1) := by decide +kernel
theorem dX10_measures_1 : decode cX10_measures 1 = .ok (.istore_n 2, 1) := by decide +kernel
theorem dX10_measures_2 : decode cX10_measures 2 = .ok (.iload_n 2, 1) := by decide +kernel
theorem dX10_measures_3 : decode cX10_measures 3 = .ok (.bipush 64, 2) := by decide +kernel
theorem dX10_measures_5 : decode cX10_measures 5 = .ok (.if_icmp .ge 51, 3) := by decide +kernel
theorem dX10_measures_8 : decode cX10_measures 8 = .ok (.aload_n 0, 1) := by decide +kernel
theorem dX10_measures_9 : decode cX10_measures 9 = .ok (.getfield 7, 3) := by decide +kernel
theorem dX10_measures_12 : decode cX10_measures 12 = .ok (.iload_n 1, 1) := by decide +kernel
theorem dX10_measures_13 : decode cX10_measures 13 = .ok (.iconst 2, 1) := by decide +kernel
theorem dX10_measures_14 : decode cX10_measures 14 = .ok (.iadd, 1) := by decide +kernel
theorem dX10_measures_15 : decode cX10_measures 15 = .ok (.iload_n 2, 1) := by decide +kernel
theorem dX10_measures_16 : decode cX10_measures 16 = .ok (.iadd, 1) := by decide +kernel
theorem dX10_measures_17 : decode cX10_measures 17 = .ok (.iaload, 1) := by decide +kernel
theorem dX10_measures_18 : decode cX10_measures 18 = .ok (.istore_n 3, 1) := by decide +kernel
theorem dX10_measures_19 : decode cX10_measures 19 = .ok (.aload_n 0, 1) := by decide +kernel
theorem dX10_measures_20 : decode cX10_measures 20 = .ok (.getfield 21, 3) := by decide +kernel
theorem dX10_measures_23 : decode cX10_measures 23 = .ok (.iload_n 2, 1) := by decide +kernel
theorem dX10_measures_24 : decode cX10_measures 24 = .ok (.iload_n 2, 1) := by decide +kernel
theorem dX10_measures_25 : decode cX10_measures 25 = .ok (.bipush 8, 2) := by decide +kernel
theorem dX10_measures_27 : decode cX10_measures 27 = .ok (.idiv, 1) := by decide +kernel
theorem dX10_measures_28 : decode cX10_measures 28 = .ok (.iload_n 2, 1) := by decide +kernel
theorem dX10_measures_29 : decode cX10_measures 29 = .ok (.bipush 8, 2) := by decide +kernel
theorem dX10_measures_31 : decode cX10_measures 31 = .ok (.irem, 1) := by decide +kernel
theorem dX10_measures_32 : decode cX10_measures 32 = .ok (.if_icmp .ne 7, 3) := by decide +kernel
theorem dX10_measures_35 : decode cX10_measures 35 = .ok (.iconst 0, 1) := by decide +kernel
theorem dX10_measures_36 : decode cX10_measures 36 = .ok (.goto 13, 3) := by decide +kernel
theorem dX10_measures_39 : decode cX10_measures 39 = .ok (.iload_n 3, 1) := by decide +kernel
theorem dX10_measures_40 : decode cX10_measures 40 = .ok (.ifCond .ne 8, 3) := by decide +kernel
theorem dX10_measures_43 : decode cX10_measures 43 = .ok (.ldc 49, 2) := by decide +kernel
theorem dX10_measures_45 : decode cX10_measures 45 = .ok (.goto 4, 3) := by decide +kernel
theorem dX10_measures_48 : decode cX10_measures 48 = .ok (.iload_n 3, 1) := by decide +kernel
theorem dX10_measures_49 : decode cX10_measures 49 = .ok (.iastore, 1) := by decide +kernel
theorem dX10_measures_50 : decode cX10_measures 50 = .ok (.iinc 2 1, 3) := by decide +kernel
theorem dX10_measures_53 : decode cX10_measures 53 = .ok (.goto (-51), 3) := by decide +kernel
theorem dX10_measures_56 : decode cX10_measures 56 = .ok (.iconst 0, 1) := by decide +kernel
theorem dX10_measures_57 : decode cX10_measures 57 = .ok (.istore_n 2, 1) := by decide +kernel
theorem dX10_measures_58 : decode cX10_measures 58 = .ok (.iload_n 2, 1) := by decide +kernel
theorem dX10_measures_59 : decode cX10_measures 59 = .ok (.bipush 8, 2) := by decide +kernel
theorem dX10_measures_61 : decode cX10_measures 61 = .ok (.if_icmp .ge 82, 3) := by decide +kernel
theorem dX10_measures_64 : decode cX10_measures 64 = .ok (.iconst 0, 1) := by decide +kernel
theorem dX10_measures_65 : decode cX10_measures 65 = .ok (.istore_n 3, 1) := by decide +kernel
theorem dX10_measures_66 : decode cX10_measures 66 = .ok (.iload_n 3, 1) := by decide +kernel
theorem dX10_measures_67 : decode cX10_measures 67 = .ok (.bipush 64, 2) := by decide +kernel
theorem dX10_measures_69 : decode cX10_measures 69 = .ok (.if_icmp .ge 68, 3) := by decide +kernel
theorem dX10_measures_72 : decode cX10_measures 72 = .ok (.aload_n 0, 1) := by decide +kernel
theorem dX10_measures_73 : decode cX10_measures 73 = .ok (.getfield 21, 3) := by decide +kernel
theorem dX10_measures_76 : decode cX10_measures 76 = .ok (.bipush 8, 2) := by decide +kernel
theorem dX10_measures_78 : decode cX10_measures 78 = .ok (.iload_n 3, 1) := by decide +kernel
theorem dX10_measures_79 : decode cX10_measures 79 = .ok (.bipush 8, 2) := by decide +kernel
theorem dX10_measures_81 : decode cX10_measures 81 = .ok (.idiv, 1) := by decide +kernel
theorem dX10_measures_82 : decode cX10_measures 82 = .ok (.imul, 1) := by decide +kernel
theorem dX10_measures_83 : decode cX10_measures 83 = .ok (.iload_n 2, 1) := by decide +kernel
theorem dX10_measures_84 : decode cX10_measures 84 = .ok (.iadd, 1) := by decide +kernel
theorem dX10_measures_85 : decode cX10_measures 85 = .ok (.iaload, 1) := by decide +kernel
theorem dX10_measures_86 : decode cX10_measures 86 = .ok (.aload_n 0, 1) := by decide +kernel
theorem dX10_measures_87 : decode cX10_measures 87 = .ok (.getfield 21, 3) := by decide +kernel
theorem dX10_measures_90 : decode cX10_measures 90 = .ok (.bipush 8, 2) := by decide +kernel
theorem dX10_measures_92 : decode cX10_measures 92 = .ok (.iload_n 2, 1) := by decide +kernel
theorem dX10_measures_93 : decode cX10_measures 93 = .ok (.imul, 1) := by decide +kernel
theorem dX10_measures_94 : decode cX10_measures 94 = .ok (.iload_n 3, 1) := by decide +kernel
theorem dX10_measures_95 : decode cX10_measures 95 = .ok (.bipush 8, 2) := by decide +kernel
theorem dX10_measures_97 : decode cX10_measures 97 = .ok (.irem, 1) := by decide +kernel
theorem dX10_measures_98 : decode cX10_measures 98 = .ok (.iadd, 1) := by decide +kernel
theorem dX10_measures_99 : decode cX10_measures 99 = .ok (.iaload, 1) := by decide +kernel
theorem dX10_measures_100 : decode cX10_measures 100 = .ok (.iadd, 1) := by decide +kernel
theorem dX10_measures_101 : decode cX10_measures 101 = .ok (.istore 4, 2) := by decide +kernel
theorem dX10_measures_103 : decode cX10_measures 103 = .ok (.aload_n 0, 1) := by decide +kernel
theorem dX10_measures_104 : decode cX10_measures 104 = .ok (.getfield 21, 3) := by decide +kernel
theorem dX10_measures_107 : decode cX10_measures 107 = .ok (.iload_n 3, 1) := by decide +kernel
theorem dX10_measures_108 : decode cX10_measures 108 = .ok (.iload 4, 2) := by decide +kernel
theorem dX10_measures_110 : decode cX10_measures 110 = .ok (.aload_n 0, 1) := by decide +kernel
theorem dX10_measures_111 : decode cX10_measures 111 = .ok (.getfield 21, 3) := by decide +kernel
theorem dX10_measures_114 : decode cX10_measures 114 = .ok (.iload_n 3, 1) := by decide +kernel
theorem dX10_measures_115 : decode cX10_measures 115 = .ok (.iaload, 1) := by decide +kernel
theorem dX10_measures_116 : decode cX10_measures 116 = .ok (.if_icmp .ge 8, 3) := by decide +kernel
theorem dX10_measures_119 : decode cX10_measures 119 = .ok (.iload 4, 2) := by decide +kernel
theorem dX10_measures_121 : decode cX10_measures 121 = .ok (.goto 9, 3) := by decide +kernel
theorem dX10_measures_124 : decode cX10_measures 124 = .ok (.aload_n 0, 1) := by decide +kernel
theorem dX10_measures_125 : decode cX10_measures 125 = .ok (.getfield 21, 3) := by decide +kernel
theorem dX10_measures_128 : decode cX10_measures 128 = .ok (.iload_n 3, 1) := by decide +kernel
theorem dX10_measures_129 : decode cX10_measures 129 = .ok (.iaload, 1) := by decide +kernel
theorem dX10_measures_130 : decode cX10_measures 130 = .ok (.iastore, 1) := by decide +kernel
theorem dX10_measures_131 : decode cX10_measures 131 = .ok (.iinc 3 1, 3) := by decide +kernel
theorem dX10_measures_134 : decode cX10_measures 134 = .ok (.goto (-68), 3) := by decide +kernel
theorem dX10_measures_137 : decode cX10_measures 137 = .ok (.iinc 2 1, 3) := by decide +kernel
theorem dX10_measures_140 : decode cX10_measures 140 = .ok (.goto (-82), 3) := by decide +kernel
theorem dX10_measures_143 : decode cX10_measures 143 = .ok (.return_, 1) := by decide +kernel
theorem dX10_lengthOf_0 : decode cX10_lengthOf 0 = .ok (.aload_n 0, 1) := by decide +kernel
theorem dX10_lengthOf_1 : decode cX10_lengthOf 1 = .ok (.getfield 7, 3) := by decide +kernel
theorem dX10_lengthOf_4 : decode cX10_lengthOf 4 = .ok (.iload_n 1, 1) := by decide +kernel
theorem dX10_lengthOf_5 : decode cX10_lengthOf 5 = .ok (.bipush 107, 2) := by decide +kernel
theorem dX10_lengthOf_7 : decode cX10_lengthOf 7 = .ok (.iadd, 1) := by decide +kernel
theorem dX10_lengthOf_8 : decode cX10_lengthOf 8 = .ok (.iconst 4, 1) := by decide +kernel
theorem dX10_lengthOf_9 : decode cX10_lengthOf 9 = .ok (.aload_n 0, 1) := by decide +kernel
theorem dX10_lengthOf_10 : decode cX10_lengthOf 10 = .ok (.getfield 7, 3) := by decide +kernel
theorem dX10_lengthOf_13 : decode cX10_lengthOf 13 = .ok (.iload_n 1, 1) := by decide +kernel
theorem dX10_lengthOf_14 : decode cX10_lengthOf 14 = .ok (.iload_n 2, 1) := by decide +kernel
theorem dX10_lengthOf_15 : decode cX10_lengthOf 15 = .ok (.invokestatic 50, 3) := by decide +kernel
theorem dX10_lengthOf_18 : decode cX10_lengthOf 18 = .ok (.iconst 1, 1) := by decide +kernel
theorem dX10_lengthOf_19 : decode cX10_lengthOf 19 = .ok (.iadd, 1) := by decide +kernel
theorem dX10_lengthOf_20 : decode cX10_lengthOf 20 = .ok (.iaload, 1) := by decide +kernel
theorem dX10_lengthOf_21 : decode cX10_lengthOf 21 = .ok (.imul, 1) := by decide +kernel
theorem dX10_lengthOf_22 : decode cX10_lengthOf 22 = .ok (.iadd, 1) := by decide +kernel
theorem dX10_lengthOf_23 : decode cX10_lengthOf 23 = .ok (.iload_n 3, 1) := by decide +kernel
theorem dX10_lengthOf_24 : decode cX10_lengthOf 24 = .ok (.iadd, 1) := by decide +kernel
theorem dX10_lengthOf_25 : decode cX10_lengthOf 25 = .ok (.iaload, 1) := by decide +kernel
theorem dX10_lengthOf_26 : decode cX10_lengthOf 26 = .ok (.ireturn, 1) := by decide +kernel
theorem dX10_farOf_0 : decode cX10_farOf 0 = .ok (.aload_n 0, 1) := by decide +kernel
theorem dX10_farOf_1 : decode cX10_farOf 1 = .ok (.getfield 21, 3) := by decide +kernel
theorem dX10_farOf_4 : decode cX10_farOf 4 = .ok (.bipush 8, 2) := by decide +kernel
theorem dX10_farOf_6 : decode cX10_farOf 6 = .ok (.iload_n 2, 1) := by decide +kernel
theorem dX10_farOf_7 : decode cX10_farOf 7 = .ok (.imul, 1) := by decide +kernel
theorem dX10_farOf_8 : decode cX10_farOf 8 = .ok (.aload_n 0, 1) := by decide +kernel
theorem dX10_farOf_9 : decode cX10_farOf 9 = .ok (.getfield 7, 3) := by decide +kernel
theorem dX10_farOf_12 : decode cX10_farOf 12 = .ok (.iload_n 1, 1) := by decide +kernel
theorem dX10_farOf_13 : decode cX10_farOf 13 = .ok (.iload_n 3, 1) := by decide +kernel
theorem dX10_farOf_14 : decode cX10_farOf 14 = .ok (.invokestatic 50, 3) := by decide +kernel
theorem dX10_farOf_17 : decode cX10_farOf 17 = .ok (.iaload, 1) := by decide +kernel
theorem dX10_farOf_18 : decode cX10_farOf 18 = .ok (.iadd, 1) := by decide +kernel
theorem dX10_farOf_19 : decode cX10_farOf 19 = .ok (.iaload, 1) := by decide +kernel
theorem dX10_farOf_20 : decode cX10_farOf 20 = .ok (.ireturn, 1) := by decide +kernel
theorem dX10_canTake_0 : decode cX10_canTake 0 = .ok (.aload_n 0, 1) := by decide +kernel
theorem dX10_canTake_1 : decode cX10_canTake 1 = .ok (.getfield 7, 3) := by decide +kernel
theorem dX10_canTake_4 : decode cX10_canTake 4 = .ok (.iload_n 1, 1) := by decide +kernel
theorem dX10_canTake_5 : decode cX10_canTake 5 = .ok (.iload 4, 2) := by decide +kernel
theorem dX10_canTake_7 : decode cX10_canTake 7 = .ok (.invokestatic 50, 3) := by decide +kernel
theorem dX10_canTake_10 : decode cX10_canTake 10 = .ok (.iconst 2, 1) := by decide +kernel
theorem dX10_canTake_11 : decode cX10_canTake 11 = .ok (.iadd, 1) := by decide +kernel
theorem dX10_canTake_12 : decode cX10_canTake 12 = .ok (.iaload, 1) := by decide +kernel
theorem dX10_canTake_13 : decode cX10_canTake 13 = .ok (.iconst 1, 1) := by decide +kernel
theorem dX10_canTake_14 : decode cX10_canTake 14 = .ok (.if_icmp .ne 31, 3) := by decide +kernel
theorem dX10_canTake_17 : decode cX10_canTake 17 = .ok (.aload_n 0, 1) := by decide +kernel
theorem dX10_canTake_18 : decode cX10_canTake 18 = .ok (.iload_n 1, 1) := by decide +kernel
theorem dX10_canTake_19 : decode cX10_canTake 19 = .ok (.iload 4, 2) := by decide +kernel
theorem dX10_canTake_21 : decode cX10_canTake 21 = .ok (.iload_n 3, 1) := by decide +kernel
theorem dX10_canTake_22 : decode cX10_canTake 22 = .ok (.invokevirtual 54, 3) := by decide +kernel
theorem dX10_canTake_25 : decode cX10_canTake 25 = .ok (.ifCond .le 20, 3) := by decide +kernel
theorem dX10_canTake_28 : decode cX10_canTake 28 = .ok (.aload_n 0, 1) := by decide +kernel
theorem dX10_canTake_29 : decode cX10_canTake 29 = .ok (.iload_n 1, 1) := by decide +kernel
theorem dX10_canTake_30 : decode cX10_canTake 30 = .ok (.iload_n 2, 1) := by decide +kernel
theorem dX10_canTake_31 : decode cX10_canTake 31 = .ok (.iload 4, 2) := by decide +kernel
theorem dX10_canTake_33 : decode cX10_canTake 33 = .ok (.invokevirtual 58, 3) := by decide +kernel
theorem dX10_canTake_36 : decode cX10_canTake 36 = .ok (.ldc 49, 2) := by decide +kernel
theorem dX10_canTake_38 : decode cX10_canTake 38 = .ok (.if_icmp .ge 7, 3) := by decide +kernel
theorem dX10_canTake_41 : decode cX10_canTake 41 = .ok (.iconst 1, 1) := by decide +kernel
theorem dX10_canTake_42 : decode cX10_canTake 42 = .ok (.goto 4, 3) := by decide +kernel
theorem dX10_canTake_45 : decode cX10_canTake 45 = .ok (.iconst 0, 1) := by decide +kernel
theorem dX10_canTake_46 : decode cX10_canTake 46 = .ok (.ireturn, 1) := by decide +kernel
theorem dX10_mark_0 : decode cX10_mark 0 = .ok (.aload_n 0, 1) := by decide +kernel
theorem dX10_mark_1 : decode cX10_mark 1 = .ok (.getfield 7, 3) := by decide +kernel
theorem dX10_mark_4 : decode cX10_mark 4 = .ok (.iload_n 1, 1) := by decide +kernel
theorem dX10_mark_5 : decode cX10_mark 5 = .ok (.iaload, 1) := by decide +kernel
theorem dX10_mark_6 : decode cX10_mark 6 = .ok (.iload 5, 2) := by decide +kernel
theorem dX10_mark_8 : decode cX10_mark 8 = .ok (.if_icmp .ne 14, 3) := by decide +kernel
theorem dX10_mark_11 : decode cX10_mark 11 = .ok (.aload_n 0, 1) := by decide +kernel
theorem dX10_mark_12 : decode cX10_mark 12 = .ok (.iload_n 1, 1) := by decide +kernel
theorem dX10_mark_13 : decode cX10_mark 13 = .ok (.iload 4, 2) := by decide +kernel
theorem dX10_mark_15 : decode cX10_mark 15 = .ok (.iload_n 3, 1) := by decide +kernel
theorem dX10_mark_16 : decode cX10_mark 16 = .ok (.invokevirtual 54, 3) := by decide +kernel
theorem dX10_mark_19 : decode cX10_mark 19 = .ok (.goto 11, 3) := by decide +kernel
theorem dX10_mark_22 : decode cX10_mark 22 = .ok (.aload_n 0, 1) := by decide +kernel
theorem dX10_mark_23 : decode cX10_mark 23 = .ok (.iload_n 1, 1) := by decide +kernel
theorem dX10_mark_24 : decode cX10_mark 24 = .ok (.iload_n 2, 1) := by decide +kernel
theorem dX10_mark_25 : decode cX10_mark 25 = .ok (.iload 4, 2) := by decide +kernel
theorem dX10_mark_27 : decode cX10_mark 27 = .ok (.invokevirtual 58, 3) := by decide +kernel
theorem dX10_mark_30 : decode cX10_mark 30 = .ok (.ireturn, 1) := by decide +kernel
theorem dX10_grade_0 : decode cX10_grade 0 = .ok (.aload_n 0, 1) := by decide +kernel
theorem dX10_grade_1 : decode cX10_grade 1 = .ok (.iload_n 1, 1) := by decide +kernel
theorem dX10_grade_2 : decode cX10_grade 2 = .ok (.iload_n 2, 1) := by decide +kernel
theorem dX10_grade_3 : decode cX10_grade 3 = .ok (.iload_n 3, 1) := by decide +kernel
theorem dX10_grade_4 : decode cX10_grade 4 = .ok (.iload 4, 2) := by decide +kernel
theorem dX10_grade_6 : decode cX10_grade 6 = .ok (.invokevirtual 61, 3) := by decide +kernel
theorem dX10_grade_9 : decode cX10_grade 9 = .ok (.ifCond .ne 5, 3) := by decide +kernel
theorem dX10_grade_12 : decode cX10_grade 12 = .ok (.iconst 0, 1) := by decide +kernel
theorem dX10_grade_13 : decode cX10_grade 13 = .ok (.ireturn, 1) := by decide +kernel
theorem dX10_grade_14 : decode cX10_grade 14 = .ok (.iconst 3, 1) := by decide +kernel
theorem dX10_grade_15 : decode cX10_grade 15 = .ok (.istore 5, 2) := by decide +kernel
theorem dX10_grade_17 : decode cX10_grade 17 = .ok (.iconst 0, 1) := by decide +kernel
theorem dX10_grade_18 : decode cX10_grade 18 = .ok (.istore 6, 2) := by decide +kernel
theorem dX10_grade_20 : decode cX10_grade 20 = .ok (.iload 6, 2) := by decide +kernel
theorem dX10_grade_22 : decode cX10_grade 22 = .ok (.aload_n 0, 1) := by decide +kernel
theorem dX10_grade_23 : decode cX10_grade 23 = .ok (.getfield 7, 3) := by decide +kernel
theorem dX10_grade_26 : decode cX10_grade 26 = .ok (.iload_n 1, 1) := by decide +kernel
theorem dX10_grade_27 : decode cX10_grade 27 = .ok (.bipush 66, 2) := by decide +kernel
theorem dX10_grade_29 : decode cX10_grade 29 = .ok (.iadd, 1) := by decide +kernel
theorem dX10_grade_30 : decode cX10_grade 30 = .ok (.iaload, 1) := by decide +kernel
theorem dX10_grade_31 : decode cX10_grade 31 = .ok (.if_icmp .ge 109, 3) := by decide +kernel
theorem dX10_grade_34 : decode cX10_grade 34 = .ok (.aload_n 0, 1) := by decide +kernel
theorem dX10_grade_35 : decode cX10_grade 35 = .ok (.iload_n 1, 1) := by decide +kernel
theorem dX10_grade_36 : decode cX10_grade 36 = .ok (.iload_n 2, 1) := by decide +kernel
theorem dX10_grade_37 : decode cX10_grade 37 = .ok (.iload_n 3, 1) := by decide +kernel
theorem dX10_grade_38 : decode cX10_grade 38 = .ok (.iload 6, 2) := by decide +kernel
theorem dX10_grade_40 : decode cX10_grade 40 = .ok (.invokevirtual 61, 3) := by decide +kernel
theorem dX10_grade_43 : decode cX10_grade 43 = .ok (.ifCond .eq 91, 3) := by decide +kernel
theorem dX10_grade_46 : decode cX10_grade 46 = .ok (.aload_n 0, 1) := by decide +kernel
theorem dX10_grade_47 : decode cX10_grade 47 = .ok (.iload_n 1, 1) := by decide +kernel
theorem dX10_grade_48 : decode cX10_grade 48 = .ok (.iload_n 2, 1) := by decide +kernel
theorem dX10_grade_49 : decode cX10_grade 49 = .ok (.iload_n 3, 1) := by decide +kernel
theorem dX10_grade_50 : decode cX10_grade 50 = .ok (.iload 6, 2) := by decide +kernel
theorem dX10_grade_52 : decode cX10_grade 52 = .ok (.iconst 0, 1) := by decide +kernel
theorem dX10_grade_53 : decode cX10_grade 53 = .ok (.invokevirtual 65, 3) := by decide +kernel
theorem dX10_grade_56 : decode cX10_grade 56 = .ok (.aload_n 0, 1) := by decide +kernel
theorem dX10_grade_57 : decode cX10_grade 57 = .ok (.iload_n 1, 1) := by decide +kernel
theorem dX10_grade_58 : decode cX10_grade 58 = .ok (.iload_n 2, 1) := by decide +kernel
theorem dX10_grade_59 : decode cX10_grade 59 = .ok (.iload_n 3, 1) := by decide +kernel
theorem dX10_grade_60 : decode cX10_grade 60 = .ok (.iload 4, 2) := by decide +kernel
theorem dX10_grade_62 : decode cX10_grade 62 = .ok (.iconst 0, 1) := by decide +kernel
theorem dX10_grade_63 : decode cX10_grade 63 = .ok (.invokevirtual 65, 3) := by decide +kernel
theorem dX10_grade_66 : decode cX10_grade 66 = .ok (.isub, 1) := by decide +kernel
theorem dX10_grade_67 : decode cX10_grade 67 = .ok (.istore 7, 2) := by decide +kernel
theorem dX10_grade_69 : decode cX10_grade 69 = .ok (.aload_n 0, 1) := by decide +kernel
theorem dX10_grade_70 : decode cX10_grade 70 = .ok (.iload_n 1, 1) := by decide +kernel
theorem dX10_grade_71 : decode cX10_grade 71 = .ok (.iload_n 2, 1) := by decide +kernel
theorem dX10_grade_72 : decode cX10_grade 72 = .ok (.iload_n 3, 1) := by decide +kernel
theorem dX10_grade_73 : decode cX10_grade 73 = .ok (.iload 6, 2) := by decide +kernel
theorem dX10_grade_75 : decode cX10_grade 75 = .ok (.iconst 1, 1) := by decide +kernel
theorem dX10_grade_76 : decode cX10_grade 76 = .ok (.invokevirtual 65, 3) := by decide +kernel
theorem dX10_grade_79 : decode cX10_grade 79 = .ok (.aload_n 0, 1) := by decide +kernel
theorem dX10_grade_80 : decode cX10_grade 80 = .ok (.iload_n 1, 1) := by decide +kernel
theorem dX10_grade_81 : decode cX10_grade 81 = .ok (.iload_n 2, 1) := by decide +kernel
theorem dX10_grade_82 : decode cX10_grade 82 = .ok (.iload_n 3, 1) := by decide +kernel
theorem dX10_grade_83 : decode cX10_grade 83 = .ok (.iload 4, 2) := by decide +kernel
theorem dX10_grade_85 : decode cX10_grade 85 = .ok (.iconst 1, 1) := by decide +kernel
theorem dX10_grade_86 : decode cX10_grade 86 = .ok (.invokevirtual 65, 3) := by decide +kernel
theorem dX10_grade_89 : decode cX10_grade 89 = .ok (.isub, 1) := by decide +kernel
theorem dX10_grade_90 : decode cX10_grade 90 = .ok (.istore 8, 2) := by decide +kernel
theorem dX10_grade_92 : decode cX10_grade 92 = .ok (.iload 7, 2) := by decide +kernel
theorem dX10_grade_94 : decode cX10_grade 94 = .ok (.ifCond .ge 7, 3) := by decide +kernel
theorem dX10_grade_97 : decode cX10_grade 97 = .ok (.iconst 1, 1) := by decide +kernel
theorem dX10_grade_98 : decode cX10_grade 98 = .ok (.goto 18, 3) := by decide +kernel
theorem dX10_grade_101 : decode cX10_grade 101 = .ok (.iload 7, 2) := by decide +kernel
theorem dX10_grade_103 : decode cX10_grade 103 = .ok (.ifCond .ne 12, 3) := by decide +kernel
theorem dX10_grade_106 : decode cX10_grade 106 = .ok (.iload 8, 2) := by decide +kernel
theorem dX10_grade_108 : decode cX10_grade 108 = .ok (.ifCond .ge 7, 3) := by decide +kernel
theorem dX10_grade_111 : decode cX10_grade 111 = .ok (.iconst 2, 1) := by decide +kernel
theorem dX10_grade_112 : decode cX10_grade 112 = .ok (.goto 4, 3) := by decide +kernel
theorem dX10_grade_115 : decode cX10_grade 115 = .ok (.iconst 3, 1) := by decide +kernel
theorem dX10_grade_116 : decode cX10_grade 116 = .ok (.istore 9, 2) := by decide +kernel
theorem dX10_grade_118 : decode cX10_grade 118 = .ok (.iload 9, 2) := by decide +kernel
theorem dX10_grade_120 : decode cX10_grade 120 = .ok (.iload 5, 2) := by decide +kernel
theorem dX10_grade_122 : decode cX10_grade 122 = .ok (.if_icmp .ge 8, 3) := by decide +kernel
theorem dX10_grade_125 : decode cX10_grade 125 = .ok (.iload 9, 2) := by decide +kernel
theorem dX10_grade_127 : decode cX10_grade 127 = .ok (.goto 5, 3) := by decide +kernel
theorem dX10_grade_130 : decode cX10_grade 130 = .ok (.iload 5, 2) := by decide +kernel
theorem dX10_grade_132 : decode cX10_grade 132 = .ok (.istore 5, 2) := by decide +kernel
theorem dX10_grade_134 : decode cX10_grade 134 = .ok (.iinc 6 1, 3) := by decide +kernel
theorem dX10_grade_137 : decode cX10_grade 137 = .ok (.goto (-117), 3) := by decide +kernel
theorem dX10_grade_140 : decode cX10_grade 140 = .ok (.iload 5, 2) := by decide +kernel
theorem dX10_grade_142 : decode cX10_grade 142 = .ok (.ireturn, 1) := by decide +kernel
theorem dX10_graded_0 : decode cX10_graded 0 = .ok (.iconst 0, 1) := by decide +kernel
theorem dX10_graded_1 : decode cX10_graded 1 = .ok (.istore 5, 2) := by decide +kernel
theorem dX10_graded_3 : decode cX10_graded 3 = .ok (.iconst 0, 1) := by decide +kernel
theorem dX10_graded_4 : decode cX10_graded 4 = .ok (.istore 6, 2) := by decide +kernel
theorem dX10_graded_6 : decode cX10_graded 6 = .ok (.iload 6, 2) := by decide +kernel
theorem dX10_graded_8 : decode cX10_graded 8 = .ok (.aload_n 0, 1) := by decide +kernel
theorem dX10_graded_9 : decode cX10_graded 9 = .ok (.getfield 7, 3) := by decide +kernel
theorem dX10_graded_12 : decode cX10_graded 12 = .ok (.iload_n 1, 1) := by decide +kernel
theorem dX10_graded_13 : decode cX10_graded 13 = .ok (.bipush 66, 2) := by decide +kernel
theorem dX10_graded_15 : decode cX10_graded 15 = .ok (.iadd, 1) := by decide +kernel
theorem dX10_graded_16 : decode cX10_graded 16 = .ok (.iaload, 1) := by decide +kernel
theorem dX10_graded_17 : decode cX10_graded 17 = .ok (.if_icmp .ge 33, 3) := by decide +kernel
theorem dX10_graded_20 : decode cX10_graded 20 = .ok (.iload 5, 2) := by decide +kernel
theorem dX10_graded_22 : decode cX10_graded 22 = .ok (.aload_n 0, 1) := by decide +kernel
theorem dX10_graded_23 : decode cX10_graded 23 = .ok (.iload_n 1, 1) := by decide +kernel
theorem dX10_graded_24 : decode cX10_graded 24 = .ok (.iload_n 2, 1) := by decide +kernel
theorem dX10_graded_25 : decode cX10_graded 25 = .ok (.iload_n 3, 1) := by decide +kernel
theorem dX10_graded_26 : decode cX10_graded 26 = .ok (.iload 6, 2) := by decide +kernel
theorem dX10_graded_28 : decode cX10_graded 28 = .ok (.invokevirtual 69, 3) := by decide +kernel
theorem dX10_graded_31 : decode cX10_graded 31 = .ok (.iload 4, 2) := by decide +kernel
theorem dX10_graded_33 : decode cX10_graded 33 = .ok (.if_icmp .lt 7, 3) := by decide +kernel
theorem dX10_graded_36 : decode cX10_graded 36 = .ok (.iconst 1, 1) := by decide +kernel
theorem dX10_graded_37 : decode cX10_graded 37 = .ok (.goto 4, 3) := by decide +kernel
theorem dX10_graded_40 : decode cX10_graded 40 = .ok (.iconst 0, 1) := by decide +kernel
theorem dX10_graded_41 : decode cX10_graded 41 = .ok (.iadd, 1) := by decide +kernel
theorem dX10_graded_42 : decode cX10_graded 42 = .ok (.istore 5, 2) := by decide +kernel
theorem dX10_graded_44 : decode cX10_graded 44 = .ok (.iinc 6 1, 3) := by decide +kernel
theorem dX10_graded_47 : decode cX10_graded 47 = .ok (.goto (-41), 3) := by decide +kernel
theorem dX10_graded_50 : decode cX10_graded 50 = .ok (.iload 5, 2) := by decide +kernel
theorem dX10_graded_52 : decode cX10_graded 52 = .ok (.ireturn, 1) := by decide +kernel
theorem dX10_chooses_0 : decode cX10_chooses 0 = .ok (.aload_n 0, 1) := by decide +kernel
theorem dX10_chooses_1 : decode cX10_chooses 1 = .ok (.iload_n 1, 1) := by decide +kernel
theorem dX10_chooses_2 : decode cX10_chooses 2 = .ok (.iload_n 2, 1) := by decide +kernel
theorem dX10_chooses_3 : decode cX10_chooses 3 = .ok (.iload_n 3, 1) := by decide +kernel
theorem dX10_chooses_4 : decode cX10_chooses 4 = .ok (.iconst 3, 1) := by decide +kernel
theorem dX10_chooses_5 : decode cX10_chooses 5 = .ok (.invokevirtual 73, 3) := by decide +kernel
theorem dX10_chooses_8 : decode cX10_chooses 8 = .ok (.istore 4, 2) := by decide +kernel
theorem dX10_chooses_10 : decode cX10_chooses 10 = .ok (.iload 4, 2) := by decide +kernel
theorem dX10_chooses_12 : decode cX10_chooses 12 = .ok (.ifCond .ne 5, 3) := by decide +kernel
theorem dX10_chooses_15 : decode cX10_chooses 15 = .ok (.iconst (-1), 1) := by decide +kernel
theorem dX10_chooses_16 : decode cX10_chooses 16 = .ok (.ireturn, 1) := by decide +kernel
theorem dX10_chooses_17 : decode cX10_chooses 17 = .ok (.aload_n 0, 1) := by decide +kernel
theorem dX10_chooses_18 : decode cX10_chooses 18 = .ok (.getfield 7, 3) := by decide +kernel
theorem dX10_chooses_21 : decode cX10_chooses 21 = .ok (.iload_n 1, 1) := by decide +kernel
theorem dX10_chooses_22 : decode cX10_chooses 22 = .ok (.iconst 1, 1) := by decide +kernel
theorem dX10_chooses_23 : decode cX10_chooses 23 = .ok (.iadd, 1) := by decide +kernel
theorem dX10_chooses_24 : decode cX10_chooses 24 = .ok (.iaload, 1) := by decide +kernel
theorem dX10_chooses_25 : decode cX10_chooses 25 = .ok (.ifCond .ne 7, 3) := by decide +kernel
theorem dX10_chooses_28 : decode cX10_chooses 28 = .ok (.iconst 0, 1) := by decide +kernel
theorem dX10_chooses_29 : decode cX10_chooses 29 = .ok (.goto 22, 3) := by decide +kernel
theorem dX10_chooses_32 : decode cX10_chooses 32 = .ok (.aload_n 0, 1) := by decide +kernel
theorem dX10_chooses_33 : decode cX10_chooses 33 = .ok (.getfield 7, 3) := by decide +kernel
theorem dX10_chooses_36 : decode cX10_chooses 36 = .ok (.iload_n 1, 1) := by decide +kernel
theorem dX10_chooses_37 : decode cX10_chooses 37 = .ok (.sipush 139, 3) := by decide +kernel
theorem dX10_chooses_40 : decode cX10_chooses 40 = .ok (.iadd, 1) := by decide +kernel
theorem dX10_chooses_41 : decode cX10_chooses 41 = .ok (.iconst 4, 1) := by decide +kernel
theorem dX10_chooses_42 : decode cX10_chooses 42 = .ok (.iload_n 2, 1) := by decide +kernel
theorem dX10_chooses_43 : decode cX10_chooses 43 = .ok (.imul, 1) := by decide +kernel
theorem dX10_chooses_44 : decode cX10_chooses 44 = .ok (.iadd, 1) := by decide +kernel
theorem dX10_chooses_45 : decode cX10_chooses 45 = .ok (.iload_n 3, 1) := by decide +kernel
theorem dX10_chooses_46 : decode cX10_chooses 46 = .ok (.iadd, 1) := by decide +kernel
theorem dX10_chooses_47 : decode cX10_chooses 47 = .ok (.iaload, 1) := by decide +kernel
theorem dX10_chooses_48 : decode cX10_chooses 48 = .ok (.iload 4, 2) := by decide +kernel
theorem dX10_chooses_50 : decode cX10_chooses 50 = .ok (.irem, 1) := by decide +kernel
theorem dX10_chooses_51 : decode cX10_chooses 51 = .ok (.istore 5, 2) := by decide +kernel
theorem dX10_chooses_53 : decode cX10_chooses 53 = .ok (.iconst (-1), 1) := by decide +kernel
theorem dX10_chooses_54 : decode cX10_chooses 54 = .ok (.istore 6, 2) := by decide +kernel
theorem dX10_chooses_56 : decode cX10_chooses 56 = .ok (.iconst 0, 1) := by decide +kernel
theorem dX10_chooses_57 : decode cX10_chooses 57 = .ok (.istore 7, 2) := by decide +kernel
theorem dX10_chooses_59 : decode cX10_chooses 59 = .ok (.iload 7, 2) := by decide +kernel
theorem dX10_chooses_61 : decode cX10_chooses 61 = .ok (.aload_n 0, 1) := by decide +kernel
theorem dX10_chooses_62 : decode cX10_chooses 62 = .ok (.getfield 7, 3) := by decide +kernel
theorem dX10_chooses_65 : decode cX10_chooses 65 = .ok (.iload_n 1, 1) := by decide +kernel
theorem dX10_chooses_66 : decode cX10_chooses 66 = .ok (.bipush 66, 2) := by decide +kernel
theorem dX10_chooses_68 : decode cX10_chooses 68 = .ok (.iadd, 1) := by decide +kernel
theorem dX10_chooses_69 : decode cX10_chooses 69 = .ok (.iaload, 1) := by decide +kernel
theorem dX10_chooses_70 : decode cX10_chooses 70 = .ok (.if_icmp .ge 63, 3) := by decide +kernel
theorem dX10_chooses_73 : decode cX10_chooses 73 = .ok (.aload_n 0, 1) := by decide +kernel
theorem dX10_chooses_74 : decode cX10_chooses 74 = .ok (.iload_n 1, 1) := by decide +kernel
theorem dX10_chooses_75 : decode cX10_chooses 75 = .ok (.iload_n 2, 1) := by decide +kernel
theorem dX10_chooses_76 : decode cX10_chooses 76 = .ok (.iload_n 3, 1) := by decide +kernel
theorem dX10_chooses_77 : decode cX10_chooses 77 = .ok (.iload 7, 2) := by decide +kernel
theorem dX10_chooses_79 : decode cX10_chooses 79 = .ok (.invokevirtual 69, 3) := by decide +kernel
theorem dX10_chooses_82 : decode cX10_chooses 82 = .ok (.iconst 3, 1) := by decide +kernel
theorem dX10_chooses_83 : decode cX10_chooses 83 = .ok (.if_icmp .ne 7, 3) := by decide +kernel
theorem dX10_chooses_86 : decode cX10_chooses 86 = .ok (.iconst 1, 1) := by decide +kernel
theorem dX10_chooses_87 : decode cX10_chooses 87 = .ok (.goto 4, 3) := by decide +kernel
theorem dX10_chooses_90 : decode cX10_chooses 90 = .ok (.iconst 0, 1) := by decide +kernel
theorem dX10_chooses_91 : decode cX10_chooses 91 = .ok (.istore 8, 2) := by decide +kernel
theorem dX10_chooses_93 : decode cX10_chooses 93 = .ok (.iload 8, 2) := by decide +kernel
theorem dX10_chooses_95 : decode cX10_chooses 95 = .ok (.ifCond .eq 13, 3) := by decide +kernel
theorem dX10_chooses_98 : decode cX10_chooses 98 = .ok (.iload 5, 2) := by decide +kernel
theorem dX10_chooses_100 : decode cX10_chooses 100 = .ok (.ifCond .ne 8, 3) := by decide +kernel
theorem dX10_chooses_103 : decode cX10_chooses 103 = .ok (.iload 7, 2) := by decide +kernel
theorem dX10_chooses_105 : decode cX10_chooses 105 = .ok (.goto 5, 3) := by decide +kernel
theorem dX10_chooses_108 : decode cX10_chooses 108 = .ok (.iload 6, 2) := by decide +kernel
theorem dX10_chooses_110 : decode cX10_chooses 110 = .ok (.istore 6, 2) := by decide +kernel
theorem dX10_chooses_112 : decode cX10_chooses 112 = .ok (.iload 5, 2) := by decide +kernel
theorem dX10_chooses_114 : decode cX10_chooses 114 = .ok (.iload 8, 2) := by decide +kernel
theorem dX10_chooses_116 : decode cX10_chooses 116 = .ok (.ifCond .eq 7, 3) := by decide +kernel
theorem dX10_chooses_119 : decode cX10_chooses 119 = .ok (.iconst 1, 1) := by decide +kernel
theorem dX10_chooses_120 : decode cX10_chooses 120 = .ok (.goto 4, 3) := by decide +kernel
theorem dX10_chooses_123 : decode cX10_chooses 123 = .ok (.iconst 0, 1) := by decide +kernel
theorem dX10_chooses_124 : decode cX10_chooses 124 = .ok (.isub, 1) := by decide +kernel
theorem dX10_chooses_125 : decode cX10_chooses 125 = .ok (.istore 5, 2) := by decide +kernel
theorem dX10_chooses_127 : decode cX10_chooses 127 = .ok (.iinc 7 1, 3) := by decide +kernel
theorem dX10_chooses_130 : decode cX10_chooses 130 = .ok (.goto (-71), 3) := by decide +kernel
theorem dX10_chooses_133 : decode cX10_chooses 133 = .ok (.iload 6, 2) := by decide +kernel
theorem dX10_chooses_135 : decode cX10_chooses 135 = .ok (.ireturn, 1) := by decide +kernel
theorem dX10_choosesAll_0 : decode cX10_choosesAll 0 = .ok (.aload_n 0, 1) := by decide +kernel
theorem dX10_choosesAll_1 : decode cX10_choosesAll 1 = .ok (.iconst 0, 1) := by decide +kernel
theorem dX10_choosesAll_2 : decode cX10_choosesAll 2 = .ok (.invokevirtual 76, 3) := by decide +kernel
theorem dX10_choosesAll_5 : decode cX10_choosesAll 5 = .ok (.iconst 0, 1) := by decide +kernel
theorem dX10_choosesAll_6 : decode cX10_choosesAll 6 = .ok (.istore_n 1, 1) := by decide +kernel
theorem dX10_choosesAll_7 : decode cX10_choosesAll 7 = .ok (.iload_n 1, 1) := by decide +kernel
theorem dX10_choosesAll_8 : decode cX10_choosesAll 8 = .ok (.bipush 32, 2) := by decide +kernel
theorem dX10_choosesAll_10 : decode cX10_choosesAll 10 = .ok (.if_icmp .ge 59, 3) := by decide +kernel
theorem dX10_choosesAll_13 : decode cX10_choosesAll 13 = .ok (.aload_n 0, 1) := by decide +kernel
theorem dX10_choosesAll_14 : decode cX10_choosesAll 14 = .ok (.getfield 24, 3) := by decide +kernel
theorem dX10_choosesAll_17 : decode cX10_choosesAll 17 = .ok (.iload_n 1, 1) := by decide +kernel
theorem dX10_choosesAll_18 : decode cX10_choosesAll 18 = .ok (.aload_n 0, 1) := by decide +kernel
theorem dX10_choosesAll_19 : decode cX10_choosesAll 19 = .ok (.iconst 0, 1) := by decide +kernel
theorem dX10_choosesAll_20 : decode cX10_choosesAll 20 = .ok (.iload_n 1, 1) := by decide +kernel
theorem dX10_choosesAll_21 : decode cX10_choosesAll 21 = .ok (.iconst 4, 1) := by decide +kernel
theorem dX10_choosesAll_22 : decode cX10_choosesAll 22 = .ok (.idiv, 1) := by decide +kernel
theorem dX10_choosesAll_23 : decode cX10_choosesAll 23 = .ok (.iload_n 1, 1) := by decide +kernel
theorem dX10_choosesAll_24 : decode cX10_choosesAll 24 = .ok (.iconst 4, 1) := by decide +kernel
theorem dX10_choosesAll_25 : decode cX10_choosesAll 25 = .ok (.irem, 1) := by decide +kernel
theorem dX10_choosesAll_26 : decode cX10_choosesAll 26 = .ok (.invokevirtual 80, 3) := by decide +kernel
theorem dX10_choosesAll_29 : decode cX10_choosesAll 29 = .ok (.iastore, 1) := by decide +kernel
theorem dX10_choosesAll_30 : decode cX10_choosesAll 30 = .ok (.aload_n 0, 1) := by decide +kernel
theorem dX10_choosesAll_31 : decode cX10_choosesAll 31 = .ok (.getfield 27, 3) := by decide +kernel
theorem dX10_choosesAll_34 : decode cX10_choosesAll 34 = .ok (.iload_n 1, 1) := by decide +kernel
theorem dX10_choosesAll_35 : decode cX10_choosesAll 35 = .ok (.aload_n 0, 1) := by decide +kernel
theorem dX10_choosesAll_36 : decode cX10_choosesAll 36 = .ok (.getfield 24, 3) := by decide +kernel
theorem dX10_choosesAll_39 : decode cX10_choosesAll 39 = .ok (.iload_n 1, 1) := by decide +kernel
theorem dX10_choosesAll_40 : decode cX10_choosesAll 40 = .ok (.iaload, 1) := by decide +kernel
theorem dX10_choosesAll_41 : decode cX10_choosesAll 41 = .ok (.ifCond .ge 7, 3) := by decide +kernel
theorem dX10_choosesAll_44 : decode cX10_choosesAll 44 = .ok (.iconst (-1), 1) := by decide +kernel
theorem dX10_choosesAll_45 : decode cX10_choosesAll 45 = .ok (.goto 17, 3) := by decide +kernel
theorem dX10_choosesAll_48 : decode cX10_choosesAll 48 = .ok (.aload_n 0, 1) := by decide +kernel
theorem dX10_choosesAll_49 : decode cX10_choosesAll 49 = .ok (.iconst 0, 1) := by decide +kernel
theorem dX10_choosesAll_50 : decode cX10_choosesAll 50 = .ok (.iload_n 1, 1) := by decide +kernel
theorem dX10_choosesAll_51 : decode cX10_choosesAll 51 = .ok (.iconst 4, 1) := by decide +kernel
theorem dX10_choosesAll_52 : decode cX10_choosesAll 52 = .ok (.idiv, 1) := by decide +kernel
theorem dX10_choosesAll_53 : decode cX10_choosesAll 53 = .ok (.aload_n 0, 1) := by decide +kernel
theorem dX10_choosesAll_54 : decode cX10_choosesAll 54 = .ok (.getfield 24, 3) := by decide +kernel
theorem dX10_choosesAll_57 : decode cX10_choosesAll 57 = .ok (.iload_n 1, 1) := by decide +kernel
theorem dX10_choosesAll_58 : decode cX10_choosesAll 58 = .ok (.iaload, 1) := by decide +kernel
theorem dX10_choosesAll_59 : decode cX10_choosesAll 59 = .ok (.invokevirtual 58, 3) := by decide +kernel
theorem dX10_choosesAll_62 : decode cX10_choosesAll 62 = .ok (.iastore, 1) := by decide +kernel
theorem dX10_choosesAll_63 : decode cX10_choosesAll 63 = .ok (.iinc 1 1, 3) := by decide +kernel
theorem dX10_choosesAll_66 : decode cX10_choosesAll 66 = .ok (.goto (-59), 3) := by decide +kernel
theorem dX10_choosesAll_69 : decode cX10_choosesAll 69 = .ok (.return_, 1) := by decide +kernel
theorem dX10_road_0 : decode cX10_road 0 = .ok (.aload_n 0, 1) := by decide +kernel
theorem dX10_road_1 : decode cX10_road 1 = .ok (.iload_n 1, 1) := by decide +kernel
theorem dX10_road_2 : decode cX10_road 2 = .ok (.invokestatic 83, 3) := by decide +kernel
theorem dX10_road_5 : decode cX10_road 5 = .ok (.ifCond .eq 14, 3) := by decide +kernel
theorem dX10_road_8 : decode cX10_road 8 = .ok (.iload_n 2, 1) := by decide +kernel
theorem dX10_road_9 : decode cX10_road 9 = .ok (.invokestatic 83, 3) := by decide +kernel
theorem dX10_road_12 : decode cX10_road 12 = .ok (.ifCond .eq 7, 3) := by decide +kernel
theorem dX10_road_15 : decode cX10_road 15 = .ok (.iconst 1, 1) := by decide +kernel
theorem dX10_road_16 : decode cX10_road 16 = .ok (.goto 4, 3) := by decide +kernel
theorem dX10_road_19 : decode cX10_road 19 = .ok (.iconst 0, 1) := by decide +kernel
theorem dX10_road_20 : decode cX10_road 20 = .ok (.iload_n 1, 1) := by decide +kernel
theorem dX10_road_21 : decode cX10_road 21 = .ok (.iload_n 2, 1) := by decide +kernel
theorem dX10_road_22 : decode cX10_road 22 = .ok (.if_icmp .eq 17, 3) := by decide +kernel
theorem dX10_road_25 : decode cX10_road 25 = .ok (.iload_n 3, 1) := by decide +kernel
theorem dX10_road_26 : decode cX10_road 26 = .ok (.iconst 0, 1) := by decide +kernel
theorem dX10_road_27 : decode cX10_road 27 = .ok (.bipush 99, 2) := by decide +kernel
theorem dX10_road_29 : decode cX10_road 29 = .ok (.invokestatic 45, 3) := by decide +kernel
theorem dX10_road_32 : decode cX10_road 32 = .ok (.ifCond .eq 7, 3) := by decide +kernel
theorem dX10_road_35 : decode cX10_road 35 = .ok (.iconst 1, 1) := by decide +kernel
theorem dX10_road_36 : decode cX10_road 36 = .ok (.goto 4, 3) := by decide +kernel
theorem dX10_road_39 : decode cX10_road 39 = .ok (.iconst 0, 1) := by decide +kernel
theorem dX10_road_40 : decode cX10_road 40 = .ok (.invokevirtual 87, 3) := by decide +kernel
theorem dX10_road_43 : decode cX10_road 43 = .ok (.ifCond .ne 5, 3) := by decide +kernel
theorem dX10_road_46 : decode cX10_road 46 = .ok (.iconst 0, 1) := by decide +kernel
theorem dX10_road_47 : decode cX10_road 47 = .ok (.ireturn, 1) := by decide +kernel
theorem dX10_road_48 : decode cX10_road 48 = .ok (.aload_n 0, 1) := by decide +kernel
theorem dX10_road_49 : decode cX10_road 49 = .ok (.invokevirtual 91, 3) := by decide +kernel
theorem dX10_road_52 : decode cX10_road 52 = .ok (.aload_n 0, 1) := by decide +kernel
theorem dX10_road_53 : decode cX10_road 53 = .ok (.getfield 7, 3) := by decide +kernel
theorem dX10_road_56 : decode cX10_road 56 = .ok (.iconst 2, 1) := by decide +kernel
theorem dX10_road_57 : decode cX10_road 57 = .ok (.bipush 8, 2) := by decide +kernel
theorem dX10_road_59 : decode cX10_road 59 = .ok (.iload_n 1, 1) := by decide +kernel
theorem dX10_road_60 : decode cX10_road 60 = .ok (.imul, 1) := by decide +kernel
theorem dX10_road_61 : decode cX10_road 61 = .ok (.iadd, 1) := by decide +kernel
theorem dX10_road_62 : decode cX10_road 62 = .ok (.iload_n 2, 1) := by decide +kernel
theorem dX10_road_63 : decode cX10_road 63 = .ok (.iadd, 1) := by decide +kernel
theorem dX10_road_64 : decode cX10_road 64 = .ok (.iaload, 1) := by decide +kernel
theorem dX10_road_65 : decode cX10_road 65 = .ok (.istore 4, 2) := by decide +kernel
theorem dX10_road_67 : decode cX10_road 67 = .ok (.aload_n 0, 1) := by decide +kernel
theorem dX10_road_68 : decode cX10_road 68 = .ok (.iconst 0, 1) := by decide +kernel
theorem dX10_road_69 : decode cX10_road 69 = .ok (.iload_n 1, 1) := by decide +kernel
theorem dX10_road_70 : decode cX10_road 70 = .ok (.iload_n 2, 1) := by decide +kernel
theorem dX10_road_71 : decode cX10_road 71 = .ok (.iload_n 3, 1) := by decide +kernel
theorem dX10_road_72 : decode cX10_road 72 = .ok (.invokevirtual 30, 3) := by decide +kernel
theorem dX10_road_75 : decode cX10_road 75 = .ok (.iload 4, 2) := by decide +kernel
theorem dX10_road_77 : decode cX10_road 77 = .ok (.ireturn, 1) := by decide +kernel
theorem dX10_exit_0 : decode cX10_exit 0 = .ok (.aload_n 0, 1) := by decide +kernel
theorem dX10_exit_1 : decode cX10_exit 1 = .ok (.iload_n 1, 1) := by decide +kernel
theorem dX10_exit_2 : decode cX10_exit 2 = .ok (.invokestatic 83, 3) := by decide +kernel
theorem dX10_exit_5 : decode cX10_exit 5 = .ok (.ifCond .eq 16, 3) := by decide +kernel
theorem dX10_exit_8 : decode cX10_exit 8 = .ok (.iload_n 2, 1) := by decide +kernel
theorem dX10_exit_9 : decode cX10_exit 9 = .ok (.iconst 0, 1) := by decide +kernel
theorem dX10_exit_10 : decode cX10_exit 10 = .ok (.iconst 3, 1) := by decide +kernel
theorem dX10_exit_11 : decode cX10_exit 11 = .ok (.invokestatic 45, 3) := by decide +kernel
theorem dX10_exit_14 : decode cX10_exit 14 = .ok (.ifCond .eq 7, 3) := by decide +kernel
theorem dX10_exit_17 : decode cX10_exit 17 = .ok (.iconst 1, 1) := by decide +kernel
theorem dX10_exit_18 : decode cX10_exit 18 = .ok (.goto 4, 3) := by decide +kernel
theorem dX10_exit_21 : decode cX10_exit 21 = .ok (.iconst 0, 1) := by decide +kernel
theorem dX10_exit_22 : decode cX10_exit 22 = .ok (.aload_n 0, 1) := by decide +kernel
theorem dX10_exit_23 : decode cX10_exit 23 = .ok (.getfield 7, 3) := by decide +kernel
theorem dX10_exit_26 : decode cX10_exit 26 = .ok (.bipush 66, 2) := by decide +kernel
theorem dX10_exit_28 : decode cX10_exit 28 = .ok (.iaload, 1) := by decide +kernel
theorem dX10_exit_29 : decode cX10_exit 29 = .ok (.bipush 8, 2) := by decide +kernel
theorem dX10_exit_31 : decode cX10_exit 31 = .ok (.if_icmp .ge 7, 3) := by decide +kernel
theorem dX10_exit_34 : decode cX10_exit 34 = .ok (.iconst 1, 1) := by decide +kernel
theorem dX10_exit_35 : decode cX10_exit 35 = .ok (.goto 4, 3) := by decide +kernel
theorem dX10_exit_38 : decode cX10_exit 38 = .ok (.iconst 0, 1) := by decide +kernel
theorem dX10_exit_39 : decode cX10_exit 39 = .ok (.invokevirtual 87, 3) := by decide +kernel
theorem dX10_exit_42 : decode cX10_exit 42 = .ok (.ifCond .ne 5, 3) := by decide +kernel
theorem dX10_exit_45 : decode cX10_exit 45 = .ok (.iconst 0, 1) := by decide +kernel
theorem dX10_exit_46 : decode cX10_exit 46 = .ok (.ireturn, 1) := by decide +kernel
theorem dX10_exit_47 : decode cX10_exit 47 = .ok (.aload_n 0, 1) := by decide +kernel
theorem dX10_exit_48 : decode cX10_exit 48 = .ok (.invokevirtual 91, 3) := by decide +kernel
theorem dX10_exit_51 : decode cX10_exit 51 = .ok (.iconst 0, 1) := by decide +kernel
theorem dX10_exit_52 : decode cX10_exit 52 = .ok (.aload_n 0, 1) := by decide +kernel
theorem dX10_exit_53 : decode cX10_exit 53 = .ok (.getfield 7, 3) := by decide +kernel
theorem dX10_exit_56 : decode cX10_exit 56 = .ok (.bipush 66, 2) := by decide +kernel
theorem dX10_exit_58 : decode cX10_exit 58 = .ok (.iaload, 1) := by decide +kernel
theorem dX10_exit_59 : decode cX10_exit 59 = .ok (.invokestatic 50, 3) := by decide +kernel
theorem dX10_exit_62 : decode cX10_exit 62 = .ok (.istore_n 3, 1) := by decide +kernel
theorem dX10_exit_63 : decode cX10_exit 63 = .ok (.aload_n 0, 1) := by decide +kernel
theorem dX10_exit_64 : decode cX10_exit 64 = .ok (.getfield 7, 3) := by decide +kernel
theorem dX10_exit_67 : decode cX10_exit 67 = .ok (.iload_n 3, 1) := by decide +kernel
theorem dX10_exit_68 : decode cX10_exit 68 = .ok (.iload_n 1, 1) := by decide +kernel
theorem dX10_exit_69 : decode cX10_exit 69 = .ok (.iastore, 1) := by decide +kernel
theorem dX10_exit_70 : decode cX10_exit 70 = .ok (.aload_n 0, 1) := by decide +kernel
theorem dX10_exit_71 : decode cX10_exit 71 = .ok (.getfield 7, 3) := by decide +kernel
theorem dX10_exit_74 : decode cX10_exit 74 = .ok (.iload_n 3, 1) := by decide +kernel
theorem dX10_exit_75 : decode cX10_exit 75 = .ok (.iconst 1, 1) := by decide +kernel
theorem dX10_exit_76 : decode cX10_exit 76 = .ok (.iadd, 1) := by decide +kernel
theorem dX10_exit_77 : decode cX10_exit 77 = .ok (.iload_n 2, 1) := by decide +kernel
theorem dX10_exit_78 : decode cX10_exit 78 = .ok (.iastore, 1) := by decide +kernel
theorem dX10_exit_79 : decode cX10_exit 79 = .ok (.aload_n 0, 1) := by decide +kernel
theorem dX10_exit_80 : decode cX10_exit 80 = .ok (.getfield 7, 3) := by decide +kernel
theorem dX10_exit_83 : decode cX10_exit 83 = .ok (.iload_n 3, 1) := by decide +kernel
theorem dX10_exit_84 : decode cX10_exit 84 = .ok (.iconst 2, 1) := by decide +kernel
theorem dX10_exit_85 : decode cX10_exit 85 = .ok (.iadd, 1) := by decide +kernel
theorem dX10_exit_86 : decode cX10_exit 86 = .ok (.iconst 1, 1) := by decide +kernel
theorem dX10_exit_87 : decode cX10_exit 87 = .ok (.iastore, 1) := by decide +kernel
theorem dX10_exit_88 : decode cX10_exit 88 = .ok (.aload_n 0, 1) := by decide +kernel
theorem dX10_exit_89 : decode cX10_exit 89 = .ok (.getfield 7, 3) := by decide +kernel
theorem dX10_exit_92 : decode cX10_exit 92 = .ok (.iload_n 3, 1) := by decide +kernel
theorem dX10_exit_93 : decode cX10_exit 93 = .ok (.iconst 3, 1) := by decide +kernel
theorem dX10_exit_94 : decode cX10_exit 94 = .ok (.iadd, 1) := by decide +kernel
theorem dX10_exit_95 : decode cX10_exit 95 = .ok (.iconst 0, 1) := by decide +kernel
theorem dX10_exit_96 : decode cX10_exit 96 = .ok (.iastore, 1) := by decide +kernel
theorem dX10_exit_97 : decode cX10_exit 97 = .ok (.aload_n 0, 1) := by decide +kernel
theorem dX10_exit_98 : decode cX10_exit 98 = .ok (.getfield 7, 3) := by decide +kernel
theorem dX10_exit_101 : decode cX10_exit 101 = .ok (.iload_n 3, 1) := by decide +kernel
theorem dX10_exit_102 : decode cX10_exit 102 = .ok (.iconst 4, 1) := by decide +kernel
theorem dX10_exit_103 : decode cX10_exit 103 = .ok (.iadd, 1) := by decide +kernel
theorem dX10_exit_104 : decode cX10_exit 104 = .ok (.iconst 0, 1) := by decide +kernel
theorem dX10_exit_105 : decode cX10_exit 105 = .ok (.iastore, 1) := by decide +kernel
theorem dX10_exit_106 : decode cX10_exit 106 = .ok (.aload_n 0, 1) := by decide +kernel
theorem dX10_exit_107 : decode cX10_exit 107 = .ok (.getfield 7, 3) := by decide +kernel
theorem dX10_exit_110 : decode cX10_exit 110 = .ok (.bipush 66, 2) := by decide +kernel
theorem dX10_exit_112 : decode cX10_exit 112 = .ok (.dup2, 1) := by decide +kernel
theorem dX10_exit_113 : decode cX10_exit 113 = .ok (.iaload, 1) := by decide +kernel
theorem dX10_exit_114 : decode cX10_exit 114 = .ok (.iconst 1, 1) := by decide +kernel
theorem dX10_exit_115 : decode cX10_exit 115 = .ok (.iadd, 1) := by decide +kernel
theorem dX10_exit_116 : decode cX10_exit 116 = .ok (.iastore, 1) := by decide +kernel
theorem dX10_exit_117 : decode cX10_exit 117 = .ok (.aload_n 0, 1) := by decide +kernel
theorem dX10_exit_118 : decode cX10_exit 118 = .ok (.getfield 7, 3) := by decide +kernel
theorem dX10_exit_121 : decode cX10_exit 121 = .ok (.bipush 66, 2) := by decide +kernel
theorem dX10_exit_123 : decode cX10_exit 123 = .ok (.iaload, 1) := by decide +kernel
theorem dX10_exit_124 : decode cX10_exit 124 = .ok (.iconst 1, 1) := by decide +kernel
theorem dX10_exit_125 : decode cX10_exit 125 = .ok (.isub, 1) := by decide +kernel
theorem dX10_exit_126 : decode cX10_exit 126 = .ok (.ireturn, 1) := by decide +kernel
theorem dX10_turns_0 : decode cX10_turns 0 = .ok (.iconst 0, 1) := by decide +kernel
theorem dX10_turns_1 : decode cX10_turns 1 = .ok (.iload_n 1, 1) := by decide +kernel
theorem dX10_turns_2 : decode cX10_turns 2 = .ok (.invokestatic 50, 3) := by decide +kernel
theorem dX10_turns_5 : decode cX10_turns 5 = .ok (.iconst 2, 1) := by decide +kernel
theorem dX10_turns_6 : decode cX10_turns 6 = .ok (.iadd, 1) := by decide +kernel
theorem dX10_turns_7 : decode cX10_turns 7 = .ok (.istore_n 2, 1) := by decide +kernel
theorem dX10_turns_8 : decode cX10_turns 8 = .ok (.aload_n 0, 1) := by decide +kernel
theorem dX10_turns_9 : decode cX10_turns 9 = .ok (.getfield 7, 3) := by decide +kernel
theorem dX10_turns_12 : decode cX10_turns 12 = .ok (.iload_n 2, 1) := by decide +kernel
theorem dX10_turns_13 : decode cX10_turns 13 = .ok (.iconst 1, 1) := by decide +kernel
theorem dX10_turns_14 : decode cX10_turns 14 = .ok (.aload_n 0, 1) := by decide +kernel
theorem dX10_turns_15 : decode cX10_turns 15 = .ok (.getfield 7, 3) := by decide +kernel
theorem dX10_turns_18 : decode cX10_turns 18 = .ok (.iload_n 2, 1) := by decide +kernel
theorem dX10_turns_19 : decode cX10_turns 19 = .ok (.iaload, 1) := by decide +kernel
theorem dX10_turns_20 : decode cX10_turns 20 = .ok (.isub, 1) := by decide +kernel
theorem dX10_turns_21 : decode cX10_turns 21 = .ok (.iastore, 1) := by decide +kernel
theorem dX10_turns_22 : decode cX10_turns 22 = .ok (.aload_n 0, 1) := by decide +kernel
theorem dX10_turns_23 : decode cX10_turns 23 = .ok (.getfield 7, 3) := by decide +kernel
theorem dX10_turns_26 : decode cX10_turns 26 = .ok (.iload_n 2, 1) := by decide +kernel
theorem dX10_turns_27 : decode cX10_turns 27 = .ok (.iaload, 1) := by decide +kernel
theorem dX10_turns_28 : decode cX10_turns 28 = .ok (.ireturn, 1) := by decide +kernel
theorem dX10_turn_0 : decode cX10_turn 0 = .ok (.aload_n 0, 1) := by decide +kernel
theorem dX10_turn_1 : decode cX10_turn 1 = .ok (.aload_n 0, 1) := by decide +kernel
theorem dX10_turn_2 : decode cX10_turn 2 = .ok (.iload_n 1, 1) := by decide +kernel
theorem dX10_turn_3 : decode cX10_turn 3 = .ok (.invokevirtual 94, 3) := by decide +kernel
theorem dX10_turn_6 : decode cX10_turn 6 = .ok (.iconst 1, 1) := by decide +kernel
theorem dX10_turn_7 : decode cX10_turn 7 = .ok (.invokevirtual 87, 3) := by decide +kernel
theorem dX10_turn_10 : decode cX10_turn 10 = .ok (.ifCond .ne 5, 3) := by decide +kernel
theorem dX10_turn_13 : decode cX10_turn 13 = .ok (.iconst 0, 1) := by decide +kernel
theorem dX10_turn_14 : decode cX10_turn 14 = .ok (.ireturn, 1) := by decide +kernel
theorem dX10_turn_15 : decode cX10_turn 15 = .ok (.aload_n 0, 1) := by decide +kernel
theorem dX10_turn_16 : decode cX10_turn 16 = .ok (.invokevirtual 91, 3) := by decide +kernel
theorem dX10_turn_19 : decode cX10_turn 19 = .ok (.aload_n 0, 1) := by decide +kernel
theorem dX10_turn_20 : decode cX10_turn 20 = .ok (.iload_n 1, 1) := by decide +kernel
theorem dX10_turn_21 : decode cX10_turn 21 = .ok (.invokevirtual 97, 3) := by decide +kernel
theorem dX10_turn_24 : decode cX10_turn 24 = .ok (.ireturn, 1) := by decide +kernel
theorem dX10_changes_0 : decode cX10_changes 0 = .ok (.aload_n 0, 1) := by decide +kernel
theorem dX10_changes_1 : decode cX10_changes 1 = .ok (.getfield 7, 3) := by decide +kernel
theorem dX10_changes_4 : decode cX10_changes 4 = .ok (.iload_n 1, 1) := by decide +kernel
theorem dX10_changes_5 : decode cX10_changes 5 = .ok (.iaload, 1) := by decide +kernel
theorem dX10_changes_6 : decode cX10_changes 6 = .ok (.istore_n 3, 1) := by decide +kernel
theorem dX10_changes_7 : decode cX10_changes 7 = .ok (.aload_n 0, 1) := by decide +kernel
theorem dX10_changes_8 : decode cX10_changes 8 = .ok (.getfield 7, 3) := by decide +kernel
theorem dX10_changes_11 : decode cX10_changes 11 = .ok (.iload_n 1, 1) := by decide +kernel
theorem dX10_changes_12 : decode cX10_changes 12 = .ok (.iload_n 2, 1) := by decide +kernel
theorem dX10_changes_13 : decode cX10_changes 13 = .ok (.iastore, 1) := by decide +kernel
theorem dX10_changes_14 : decode cX10_changes 14 = .ok (.iload_n 3, 1) := by decide +kernel
theorem dX10_changes_15 : decode cX10_changes 15 = .ok (.ireturn, 1) := by decide +kernel
theorem dX10_offer_0 : decode cX10_offer 0 = .ok (.aload_n 0, 1) := by decide +kernel
theorem dX10_offer_1 : decode cX10_offer 1 = .ok (.iload_n 1, 1) := by decide +kernel
theorem dX10_offer_2 : decode cX10_offer 2 = .ok (.iconst 0, 1) := by decide +kernel
theorem dX10_offer_3 : decode cX10_offer 3 = .ok (.iconst 3, 1) := by decide +kernel
theorem dX10_offer_4 : decode cX10_offer 4 = .ok (.invokestatic 45, 3) := by decide +kernel
theorem dX10_offer_7 : decode cX10_offer 7 = .ok (.ifCond .eq 14, 3) := by decide +kernel
theorem dX10_offer_10 : decode cX10_offer 10 = .ok (.iload_n 2, 1) := by decide +kernel
theorem dX10_offer_11 : decode cX10_offer 11 = .ok (.invokestatic 101, 3) := by decide +kernel
theorem dX10_offer_14 : decode cX10_offer 14 = .ok (.ifCond .eq 7, 3) := by decide +kernel
theorem dX10_offer_17 : decode cX10_offer 17 = .ok (.iconst 1, 1) := by decide +kernel
theorem dX10_offer_18 : decode cX10_offer 18 = .ok (.goto 4, 3) := by decide +kernel
theorem dX10_offer_21 : decode cX10_offer 21 = .ok (.iconst 0, 1) := by decide +kernel
theorem dX10_offer_22 : decode cX10_offer 22 = .ok (.iload_n 3, 1) := by decide +kernel
theorem dX10_offer_23 : decode cX10_offer 23 = .ok (.iconst 0, 1) := by decide +kernel
theorem dX10_offer_24 : decode cX10_offer 24 = .ok (.bipush 9, 2) := by decide +kernel
theorem dX10_offer_26 : decode cX10_offer 26 = .ok (.invokestatic 45, 3) := by decide +kernel
theorem dX10_offer_29 : decode cX10_offer 29 = .ok (.invokevirtual 87, 3) := by decide +kernel
theorem dX10_offer_32 : decode cX10_offer 32 = .ok (.ifCond .ne 5, 3) := by decide +kernel
theorem dX10_offer_35 : decode cX10_offer 35 = .ok (.iconst 0, 1) := by decide +kernel
theorem dX10_offer_36 : decode cX10_offer 36 = .ok (.ireturn, 1) := by decide +kernel
theorem dX10_offer_37 : decode cX10_offer 37 = .ok (.aload_n 0, 1) := by decide +kernel
theorem dX10_offer_38 : decode cX10_offer 38 = .ok (.invokevirtual 91, 3) := by decide +kernel
theorem dX10_offer_41 : decode cX10_offer 41 = .ok (.aload_n 0, 1) := by decide +kernel
theorem dX10_offer_42 : decode cX10_offer 42 = .ok (.bipush 107, 2) := by decide +kernel
theorem dX10_offer_44 : decode cX10_offer 44 = .ok (.iconst 4, 1) := by decide +kernel
theorem dX10_offer_45 : decode cX10_offer 45 = .ok (.iload_n 1, 1) := by decide +kernel
theorem dX10_offer_46 : decode cX10_offer 46 = .ok (.imul, 1) := by decide +kernel
theorem dX10_offer_47 : decode cX10_offer 47 = .ok (.iadd, 1) := by decide +kernel
theorem dX10_offer_48 : decode cX10_offer 48 = .ok (.iload_n 2, 1) := by decide +kernel
theorem dX10_offer_49 : decode cX10_offer 49 = .ok (.iadd, 1) := by decide +kernel
theorem dX10_offer_50 : decode cX10_offer 50 = .ok (.iload_n 3, 1) := by decide +kernel
theorem dX10_offer_51 : decode cX10_offer 51 = .ok (.invokevirtual 104, 3) := by decide +kernel
theorem dX10_offer_54 : decode cX10_offer 54 = .ok (.ireturn, 1) := by decide +kernel
theorem dX10_bound_0 : decode cX10_bound 0 = .ok (.aload_n 0, 1) := by decide +kernel
theorem dX10_bound_1 : decode cX10_bound 1 = .ok (.iload_n 1, 1) := by decide +kernel
theorem dX10_bound_2 : decode cX10_bound 2 = .ok (.iconst 0, 1) := by decide +kernel
theorem dX10_bound_3 : decode cX10_bound 3 = .ok (.iconst 3, 1) := by decide +kernel
theorem dX10_bound_4 : decode cX10_bound 4 = .ok (.invokestatic 45, 3) := by decide +kernel
theorem dX10_bound_7 : decode cX10_bound 7 = .ok (.iload_n 2, 1) := by decide +kernel
theorem dX10_bound_8 : decode cX10_bound 8 = .ok (.iconst 0, 1) := by decide +kernel
theorem dX10_bound_9 : decode cX10_bound 9 = .ok (.bipush 99, 2) := by decide +kernel
theorem dX10_bound_11 : decode cX10_bound 11 = .ok (.invokestatic 45, 3) := by decide +kernel
theorem dX10_bound_14 : decode cX10_bound 14 = .ok (.invokevirtual 87, 3) := by decide +kernel
theorem dX10_bound_17 : decode cX10_bound 17 = .ok (.ifCond .ne 5, 3) := by decide +kernel
theorem dX10_bound_20 : decode cX10_bound 20 = .ok (.iconst 0, 1) := by decide +kernel
theorem dX10_bound_21 : decode cX10_bound 21 = .ok (.ireturn, 1) := by decide +kernel
theorem dX10_bound_22 : decode cX10_bound 22 = .ok (.aload_n 0, 1) := by decide +kernel
theorem dX10_bound_23 : decode cX10_bound 23 = .ok (.invokevirtual 91, 3) := by decide +kernel
theorem dX10_bound_26 : decode cX10_bound 26 = .ok (.aload_n 0, 1) := by decide +kernel
theorem dX10_bound_27 : decode cX10_bound 27 = .ok (.bipush 123, 2) := by decide +kernel
theorem dX10_bound_29 : decode cX10_bound 29 = .ok (.iload_n 1, 1) := by decide +kernel
theorem dX10_bound_30 : decode cX10_bound 30 = .ok (.iadd, 1) := by decide +kernel
theorem dX10_bound_31 : decode cX10_bound 31 = .ok (.iload_n 2, 1) := by decide +kernel
theorem dX10_bound_32 : decode cX10_bound 32 = .ok (.invokevirtual 104, 3) := by decide +kernel
theorem dX10_bound_35 : decode cX10_bound 35 = .ok (.ireturn, 1) := by decide +kernel
theorem dX10_set_0 : decode cX10_set 0 = .ok (.aload_n 0, 1) := by decide +kernel
theorem dX10_set_1 : decode cX10_set 1 = .ok (.iload_n 1, 1) := by decide +kernel
theorem dX10_set_2 : decode cX10_set 2 = .ok (.iconst 0, 1) := by decide +kernel
theorem dX10_set_3 : decode cX10_set 3 = .ok (.iconst 1, 1) := by decide +kernel
theorem dX10_set_4 : decode cX10_set 4 = .ok (.invokestatic 45, 3) := by decide +kernel
theorem dX10_set_7 : decode cX10_set 7 = .ok (.iload_n 2, 1) := by decide +kernel
theorem dX10_set_8 : decode cX10_set 8 = .ok (.iconst 0, 1) := by decide +kernel
theorem dX10_set_9 : decode cX10_set 9 = .ok (.iconst 1, 1) := by decide +kernel
theorem dX10_set_10 : decode cX10_set 10 = .ok (.invokestatic 45, 3) := by decide +kernel
theorem dX10_set_13 : decode cX10_set 13 = .ok (.invokevirtual 87, 3) := by decide +kernel
theorem dX10_set_16 : decode cX10_set 16 = .ok (.ifCond .ne 5, 3) := by decide +kernel
theorem dX10_set_19 : decode cX10_set 19 = .ok (.iconst 0, 1) := by decide +kernel
theorem dX10_set_20 : decode cX10_set 20 = .ok (.ireturn, 1) := by decide +kernel
theorem dX10_set_21 : decode cX10_set 21 = .ok (.aload_n 0, 1) := by decide +kernel
theorem dX10_set_22 : decode cX10_set 22 = .ok (.invokevirtual 91, 3) := by decide +kernel
theorem dX10_set_25 : decode cX10_set 25 = .ok (.aload_n 0, 1) := by decide +kernel
theorem dX10_set_26 : decode cX10_set 26 = .ok (.iload_n 1, 1) := by decide +kernel
theorem dX10_set_27 : decode cX10_set 27 = .ok (.iload_n 2, 1) := by decide +kernel
theorem dX10_set_28 : decode cX10_set 28 = .ok (.invokevirtual 104, 3) := by decide +kernel
theorem dX10_set_31 : decode cX10_set 31 = .ok (.ireturn, 1) := by decide +kernel
theorem dX10_sends_0 : decode cX10_sends 0 = .ok (.aload_n 0, 1) := by decide +kernel
theorem dX10_sends_1 : decode cX10_sends 1 = .ok (.iconst 0, 1) := by decide +kernel
theorem dX10_sends_2 : decode cX10_sends 2 = .ok (.invokevirtual 76, 3) := by decide +kernel
theorem dX10_sends_5 : decode cX10_sends 5 = .ok (.aload_n 0, 1) := by decide +kernel
theorem dX10_sends_6 : decode cX10_sends 6 = .ok (.iconst 0, 1) := by decide +kernel
theorem dX10_sends_7 : decode cX10_sends 7 = .ok (.iload_n 1, 1) := by decide +kernel
theorem dX10_sends_8 : decode cX10_sends 8 = .ok (.iload_n 2, 1) := by decide +kernel
theorem dX10_sends_9 : decode cX10_sends 9 = .ok (.invokevirtual 80, 3) := by decide +kernel
theorem dX10_sends_12 : decode cX10_sends 12 = .ok (.istore_n 3, 1) := by decide +kernel
theorem dX10_sends_13 : decode cX10_sends 13 = .ok (.aload_n 0, 1) := by decide +kernel
theorem dX10_sends_14 : decode cX10_sends 14 = .ok (.getfield 7, 3) := by decide +kernel
theorem dX10_sends_17 : decode cX10_sends 17 = .ok (.sipush 171, 3) := by decide +kernel
theorem dX10_sends_20 : decode cX10_sends 20 = .ok (.dup2, 1) := by decide +kernel
theorem dX10_sends_21 : decode cX10_sends 21 = .ok (.iaload, 1) := by decide +kernel
theorem dX10_sends_22 : decode cX10_sends 22 = .ok (.iconst 1, 1) := by decide +kernel
theorem dX10_sends_23 : decode cX10_sends 23 = .ok (.iadd, 1) := by decide +kernel
theorem dX10_sends_24 : decode cX10_sends 24 = .ok (.iastore, 1) := by decide +kernel
theorem dX10_sends_25 : decode cX10_sends 25 = .ok (.iload_n 3, 1) := by decide +kernel
theorem dX10_sends_26 : decode cX10_sends 26 = .ok (.ifCond .ge 17, 3) := by decide +kernel
theorem dX10_sends_29 : decode cX10_sends 29 = .ok (.aload_n 0, 1) := by decide +kernel
theorem dX10_sends_30 : decode cX10_sends 30 = .ok (.getfield 7, 3) := by decide +kernel
theorem dX10_sends_33 : decode cX10_sends 33 = .ok (.sipush 172, 3) := by decide +kernel
theorem dX10_sends_36 : decode cX10_sends 36 = .ok (.dup2, 1) := by decide +kernel
theorem dX10_sends_37 : decode cX10_sends 37 = .ok (.iaload, 1) := by decide +kernel
theorem dX10_sends_38 : decode cX10_sends 38 = .ok (.iconst 1, 1) := by decide +kernel
theorem dX10_sends_39 : decode cX10_sends 39 = .ok (.iadd, 1) := by decide +kernel
theorem dX10_sends_40 : decode cX10_sends 40 = .ok (.iastore, 1) := by decide +kernel
theorem dX10_sends_41 : decode cX10_sends 41 = .ok (.iconst (-1), 1) := by decide +kernel
theorem dX10_sends_42 : decode cX10_sends 42 = .ok (.ireturn, 1) := by decide +kernel
theorem dX10_sends_43 : decode cX10_sends 43 = .ok (.iconst 0, 1) := by decide +kernel
theorem dX10_sends_44 : decode cX10_sends 44 = .ok (.iload_n 3, 1) := by decide +kernel
theorem dX10_sends_45 : decode cX10_sends 45 = .ok (.invokestatic 50, 3) := by decide +kernel
theorem dX10_sends_48 : decode cX10_sends 48 = .ok (.istore 4, 2) := by decide +kernel
theorem dX10_sends_50 : decode cX10_sends 50 = .ok (.aload_n 0, 1) := by decide +kernel
theorem dX10_sends_51 : decode cX10_sends 51 = .ok (.iconst 0, 1) := by decide +kernel
theorem dX10_sends_52 : decode cX10_sends 52 = .ok (.iload_n 1, 1) := by decide +kernel
theorem dX10_sends_53 : decode cX10_sends 53 = .ok (.iload_n 3, 1) := by decide +kernel
theorem dX10_sends_54 : decode cX10_sends 54 = .ok (.invokevirtual 58, 3) := by decide +kernel
theorem dX10_sends_57 : decode cX10_sends 57 = .ok (.istore 5, 2) := by decide +kernel
theorem dX10_sends_59 : decode cX10_sends 59 = .ok (.aload_n 0, 1) := by decide +kernel
theorem dX10_sends_60 : decode cX10_sends 60 = .ok (.getfield 7, 3) := by decide +kernel
theorem dX10_sends_63 : decode cX10_sends 63 = .ok (.iload 4, 2) := by decide +kernel
theorem dX10_sends_65 : decode cX10_sends 65 = .ok (.iconst 1, 1) := by decide +kernel
theorem dX10_sends_66 : decode cX10_sends 66 = .ok (.iadd, 1) := by decide +kernel
theorem dX10_sends_67 : decode cX10_sends 67 = .ok (.iaload, 1) := by decide +kernel
theorem dX10_sends_68 : decode cX10_sends 68 = .ok (.istore 6, 2) := by decide +kernel
theorem dX10_sends_70 : decode cX10_sends 70 = .ok (.aload_n 0, 1) := by decide +kernel
theorem dX10_sends_71 : decode cX10_sends 71 = .ok (.getfield 7, 3) := by decide +kernel
theorem dX10_sends_74 : decode cX10_sends 74 = .ok (.iload 4, 2) := by decide +kernel
theorem dX10_sends_76 : decode cX10_sends 76 = .ok (.iconst 3, 1) := by decide +kernel
theorem dX10_sends_77 : decode cX10_sends 77 = .ok (.iadd, 1) := by decide +kernel
theorem dX10_sends_78 : decode cX10_sends 78 = .ok (.dup2, 1) := by decide +kernel
theorem dX10_sends_79 : decode cX10_sends 79 = .ok (.iaload, 1) := by decide +kernel
theorem dX10_sends_80 : decode cX10_sends 80 = .ok (.iconst 1, 1) := by decide +kernel
theorem dX10_sends_81 : decode cX10_sends 81 = .ok (.iadd, 1) := by decide +kernel
theorem dX10_sends_82 : decode cX10_sends 82 = .ok (.iastore, 1) := by decide +kernel
theorem dX10_sends_83 : decode cX10_sends 83 = .ok (.aload_n 0, 1) := by decide +kernel
theorem dX10_sends_84 : decode cX10_sends 84 = .ok (.getfield 7, 3) := by decide +kernel
theorem dX10_sends_87 : decode cX10_sends 87 = .ok (.iload 4, 2) := by decide +kernel
theorem dX10_sends_89 : decode cX10_sends 89 = .ok (.iconst 4, 1) := by decide +kernel
theorem dX10_sends_90 : decode cX10_sends 90 = .ok (.iadd, 1) := by decide +kernel
theorem dX10_sends_91 : decode cX10_sends 91 = .ok (.dup2, 1) := by decide +kernel
theorem dX10_sends_92 : decode cX10_sends 92 = .ok (.iaload, 1) := by decide +kernel
theorem dX10_sends_93 : decode cX10_sends 93 = .ok (.iload 5, 2) := by decide +kernel
theorem dX10_sends_95 : decode cX10_sends 95 = .ok (.iadd, 1) := by decide +kernel
theorem dX10_sends_96 : decode cX10_sends 96 = .ok (.iastore, 1) := by decide +kernel
theorem dX10_sends_97 : decode cX10_sends 97 = .ok (.aload_n 0, 1) := by decide +kernel
theorem dX10_sends_98 : decode cX10_sends 98 = .ok (.getfield 7, 3) := by decide +kernel
theorem dX10_sends_101 : decode cX10_sends 101 = .ok (.sipush 173, 3) := by decide +kernel
theorem dX10_sends_104 : decode cX10_sends 104 = .ok (.dup2, 1) := by decide +kernel
theorem dX10_sends_105 : decode cX10_sends 105 = .ok (.iaload, 1) := by decide +kernel
theorem dX10_sends_106 : decode cX10_sends 106 = .ok (.iload 5, 2) := by decide +kernel
theorem dX10_sends_108 : decode cX10_sends 108 = .ok (.iadd, 1) := by decide +kernel
theorem dX10_sends_109 : decode cX10_sends 109 = .ok (.iastore, 1) := by decide +kernel
theorem dX10_sends_110 : decode cX10_sends 110 = .ok (.aload_n 0, 1) := by decide +kernel
theorem dX10_sends_111 : decode cX10_sends 111 = .ok (.getfield 7, 3) := by decide +kernel
theorem dX10_sends_114 : decode cX10_sends 114 = .ok (.sipush 139, 3) := by decide +kernel
theorem dX10_sends_117 : decode cX10_sends 117 = .ok (.iconst 4, 1) := by decide +kernel
theorem dX10_sends_118 : decode cX10_sends 118 = .ok (.iload_n 1, 1) := by decide +kernel
theorem dX10_sends_119 : decode cX10_sends 119 = .ok (.imul, 1) := by decide +kernel
theorem dX10_sends_120 : decode cX10_sends 120 = .ok (.iadd, 1) := by decide +kernel
theorem dX10_sends_121 : decode cX10_sends 121 = .ok (.iload_n 2, 1) := by decide +kernel
theorem dX10_sends_122 : decode cX10_sends 122 = .ok (.iadd, 1) := by decide +kernel
theorem dX10_sends_123 : decode cX10_sends 123 = .ok (.dup2, 1) := by decide +kernel
theorem dX10_sends_124 : decode cX10_sends 124 = .ok (.iaload, 1) := by decide +kernel
theorem dX10_sends_125 : decode cX10_sends 125 = .ok (.iconst 1, 1) := by decide +kernel
theorem dX10_sends_126 : decode cX10_sends 126 = .ok (.iadd, 1) := by decide +kernel
theorem dX10_sends_127 : decode cX10_sends 127 = .ok (.iastore, 1) := by decide +kernel
theorem dX10_sends_128 : decode cX10_sends 128 = .ok (.aload_n 0, 1) := by decide +kernel
theorem dX10_sends_129 : decode cX10_sends 129 = .ok (.getfield 7, 3) := by decide +kernel
theorem dX10_sends_132 : decode cX10_sends 132 = .ok (.bipush 127, 2) := by decide +kernel
theorem dX10_sends_134 : decode cX10_sends 134 = .ok (.iload 6, 2) := by decide +kernel
theorem dX10_sends_136 : decode cX10_sends 136 = .ok (.iadd, 1) := by decide +kernel
theorem dX10_sends_137 : decode cX10_sends 137 = .ok (.dup2, 1) := by decide +kernel
theorem dX10_sends_138 : decode cX10_sends 138 = .ok (.iaload, 1) := by decide +kernel
theorem dX10_sends_139 : decode cX10_sends 139 = .ok (.iconst 1, 1) := by decide +kernel
theorem dX10_sends_140 : decode cX10_sends 140 = .ok (.iadd, 1) := by decide +kernel
theorem dX10_sends_141 : decode cX10_sends 141 = .ok (.iastore, 1) := by decide +kernel
theorem dX10_sends_142 : decode cX10_sends 142 = .ok (.aload_n 0, 1) := by decide +kernel
theorem dX10_sends_143 : decode cX10_sends 143 = .ok (.getfield 7, 3) := by decide +kernel
theorem dX10_sends_146 : decode cX10_sends 146 = .ok (.bipush 127, 2) := by decide +kernel
theorem dX10_sends_148 : decode cX10_sends 148 = .ok (.iload 6, 2) := by decide +kernel
theorem dX10_sends_150 : decode cX10_sends 150 = .ok (.iadd, 1) := by decide +kernel
theorem dX10_sends_151 : decode cX10_sends 151 = .ok (.iaload, 1) := by decide +kernel
theorem dX10_sends_152 : decode cX10_sends 152 = .ok (.aload_n 0, 1) := by decide +kernel
theorem dX10_sends_153 : decode cX10_sends 153 = .ok (.getfield 7, 3) := by decide +kernel
theorem dX10_sends_156 : decode cX10_sends 156 = .ok (.bipush 123, 2) := by decide +kernel
theorem dX10_sends_158 : decode cX10_sends 158 = .ok (.iload 6, 2) := by decide +kernel
theorem dX10_sends_160 : decode cX10_sends 160 = .ok (.iadd, 1) := by decide +kernel
theorem dX10_sends_161 : decode cX10_sends 161 = .ok (.iaload, 1) := by decide +kernel
theorem dX10_sends_162 : decode cX10_sends 162 = .ok (.if_icmp .le 7, 3) := by decide +kernel
theorem dX10_sends_165 : decode cX10_sends 165 = .ok (.iconst 1, 1) := by decide +kernel
theorem dX10_sends_166 : decode cX10_sends 166 = .ok (.goto 4, 3) := by decide +kernel
theorem dX10_sends_169 : decode cX10_sends 169 = .ok (.iconst 0, 1) := by decide +kernel
theorem dX10_sends_170 : decode cX10_sends 170 = .ok (.istore 7, 2) := by decide +kernel
theorem dX10_sends_172 : decode cX10_sends 172 = .ok (.aload_n 0, 1) := by decide +kernel
theorem dX10_sends_173 : decode cX10_sends 173 = .ok (.getfield 7, 3) := by decide +kernel
theorem dX10_sends_176 : decode cX10_sends 176 = .ok (.sipush 131, 3) := by decide +kernel
theorem dX10_sends_179 : decode cX10_sends 179 = .ok (.iload 6, 2) := by decide +kernel
theorem dX10_sends_181 : decode cX10_sends 181 = .ok (.iadd, 1) := by decide +kernel
theorem dX10_sends_182 : decode cX10_sends 182 = .ok (.dup2, 1) := by decide +kernel
theorem dX10_sends_183 : decode cX10_sends 183 = .ok (.iaload, 1) := by decide +kernel
theorem dX10_sends_184 : decode cX10_sends 184 = .ok (.iload 7, 2) := by decide +kernel
theorem dX10_sends_186 : decode cX10_sends 186 = .ok (.iadd, 1) := by decide +kernel
theorem dX10_sends_187 : decode cX10_sends 187 = .ok (.iastore, 1) := by decide +kernel
theorem dX10_sends_188 : decode cX10_sends 188 = .ok (.aload_n 0, 1) := by decide +kernel
theorem dX10_sends_189 : decode cX10_sends 189 = .ok (.getfield 7, 3) := by decide +kernel
theorem dX10_sends_192 : decode cX10_sends 192 = .ok (.sipush 135, 3) := by decide +kernel
theorem dX10_sends_195 : decode cX10_sends 195 = .ok (.iload 6, 2) := by decide +kernel
theorem dX10_sends_197 : decode cX10_sends 197 = .ok (.iadd, 1) := by decide +kernel
theorem dX10_sends_198 : decode cX10_sends 198 = .ok (.dup2, 1) := by decide +kernel
theorem dX10_sends_199 : decode cX10_sends 199 = .ok (.iaload, 1) := by decide +kernel
theorem dX10_sends_200 : decode cX10_sends 200 = .ok (.iload 7, 2) := by decide +kernel
theorem dX10_sends_202 : decode cX10_sends 202 = .ok (.iadd, 1) := by decide +kernel
theorem dX10_sends_203 : decode cX10_sends 203 = .ok (.iastore, 1) := by decide +kernel
theorem dX10_sends_204 : decode cX10_sends 204 = .ok (.iload_n 3, 1) := by decide +kernel
theorem dX10_sends_205 : decode cX10_sends 205 = .ok (.ireturn, 1) := by decide +kernel
theorem dX10_send_0 : decode cX10_send 0 = .ok (.aload_n 0, 1) := by decide +kernel
theorem dX10_send_1 : decode cX10_send 1 = .ok (.iload_n 1, 1) := by decide +kernel
theorem dX10_send_2 : decode cX10_send 2 = .ok (.invokestatic 83, 3) := by decide +kernel
theorem dX10_send_5 : decode cX10_send 5 = .ok (.ifCond .eq 14, 3) := by decide +kernel
theorem dX10_send_8 : decode cX10_send 8 = .ok (.iload_n 2, 1) := by decide +kernel
theorem dX10_send_9 : decode cX10_send 9 = .ok (.invokestatic 101, 3) := by decide +kernel
theorem dX10_send_12 : decode cX10_send 12 = .ok (.ifCond .eq 7, 3) := by decide +kernel
theorem dX10_send_15 : decode cX10_send 15 = .ok (.iconst 1, 1) := by decide +kernel
theorem dX10_send_16 : decode cX10_send 16 = .ok (.goto 4, 3) := by decide +kernel
theorem dX10_send_19 : decode cX10_send 19 = .ok (.iconst 0, 1) := by decide +kernel
theorem dX10_send_20 : decode cX10_send 20 = .ok (.aload_n 0, 1) := by decide +kernel
theorem dX10_send_21 : decode cX10_send 21 = .ok (.getfield 7, 3) := by decide +kernel
theorem dX10_send_24 : decode cX10_send 24 = .ok (.sipush 171, 3) := by decide +kernel
theorem dX10_send_27 : decode cX10_send 27 = .ok (.iaload, 1) := by decide +kernel
theorem dX10_send_28 : decode cX10_send 28 = .ok (.sipush 9999, 3) := by decide +kernel
theorem dX10_send_31 : decode cX10_send 31 = .ok (.if_icmp .ge 7, 3) := by decide +kernel
theorem dX10_send_34 : decode cX10_send 34 = .ok (.iconst 1, 1) := by decide +kernel
theorem dX10_send_35 : decode cX10_send 35 = .ok (.goto 4, 3) := by decide +kernel
theorem dX10_send_38 : decode cX10_send 38 = .ok (.iconst 0, 1) := by decide +kernel
theorem dX10_send_39 : decode cX10_send 39 = .ok (.invokevirtual 87, 3) := by decide +kernel
theorem dX10_send_42 : decode cX10_send 42 = .ok (.ifCond .ne 5, 3) := by decide +kernel
theorem dX10_send_45 : decode cX10_send 45 = .ok (.iconst 0, 1) := by decide +kernel
theorem dX10_send_46 : decode cX10_send 46 = .ok (.ireturn, 1) := by decide +kernel
theorem dX10_send_47 : decode cX10_send 47 = .ok (.aload_n 0, 1) := by decide +kernel
theorem dX10_send_48 : decode cX10_send 48 = .ok (.invokevirtual 91, 3) := by decide +kernel
theorem dX10_send_51 : decode cX10_send 51 = .ok (.aload_n 0, 1) := by decide +kernel
theorem dX10_send_52 : decode cX10_send 52 = .ok (.iload_n 1, 1) := by decide +kernel
theorem dX10_send_53 : decode cX10_send 53 = .ok (.iload_n 2, 1) := by decide +kernel
theorem dX10_send_54 : decode cX10_send 54 = .ok (.invokevirtual 107, 3) := by decide +kernel
theorem dX10_send_57 : decode cX10_send 57 = .ok (.ireturn, 1) := by decide +kernel
theorem dX10_sum_0 : decode cX10_sum 0 = .ok (.iconst 0, 1) := by decide +kernel
theorem dX10_sum_1 : decode cX10_sum 1 = .ok (.istore_n 3, 1) := by decide +kernel
theorem dX10_sum_2 : decode cX10_sum 2 = .ok (.iconst 0, 1) := by decide +kernel
theorem dX10_sum_3 : decode cX10_sum 3 = .ok (.istore 4, 2) := by decide +kernel
theorem dX10_sum_5 : decode cX10_sum 5 = .ok (.iload 4, 2) := by decide +kernel
theorem dX10_sum_7 : decode cX10_sum 7 = .ok (.iload_n 2, 1) := by decide +kernel
theorem dX10_sum_8 : decode cX10_sum 8 = .ok (.if_icmp .ge 21, 3) := by decide +kernel
theorem dX10_sum_11 : decode cX10_sum 11 = .ok (.iload_n 3, 1) := by decide +kernel
theorem dX10_sum_12 : decode cX10_sum 12 = .ok (.aload_n 0, 1) := by decide +kernel
theorem dX10_sum_13 : decode cX10_sum 13 = .ok (.getfield 7, 3) := by decide +kernel
theorem dX10_sum_16 : decode cX10_sum 16 = .ok (.iload_n 1, 1) := by decide +kernel
theorem dX10_sum_17 : decode cX10_sum 17 = .ok (.iload 4, 2) := by decide +kernel
theorem dX10_sum_19 : decode cX10_sum 19 = .ok (.iadd, 1) := by decide +kernel
theorem dX10_sum_20 : decode cX10_sum 20 = .ok (.iaload, 1) := by decide +kernel
theorem dX10_sum_21 : decode cX10_sum 21 = .ok (.iadd, 1) := by decide +kernel
theorem dX10_sum_22 : decode cX10_sum 22 = .ok (.istore_n 3, 1) := by decide +kernel
theorem dX10_sum_23 : decode cX10_sum 23 = .ok (.iinc 4 1, 3) := by decide +kernel
theorem dX10_sum_26 : decode cX10_sum 26 = .ok (.goto (-21), 3) := by decide +kernel
theorem dX10_sum_29 : decode cX10_sum 29 = .ok (.iload_n 3, 1) := by decide +kernel
theorem dX10_sum_30 : decode cX10_sum 30 = .ok (.ireturn, 1) := by decide +kernel
theorem dX10_settle_0 : decode cX10_settle 0 = .ok (.aload_n 0, 1) := by decide +kernel
theorem dX10_settle_1 : decode cX10_settle 1 = .ok (.iconst 0, 1) := by decide +kernel
theorem dX10_settle_2 : decode cX10_settle 2 = .ok (.putfield 34, 3) := by decide +kernel
theorem dX10_settle_5 : decode cX10_settle 5 = .ok (.aload_n 0, 1) := by decide +kernel
theorem dX10_settle_6 : decode cX10_settle 6 = .ok (.invokevirtual 91, 3) := by decide +kernel
theorem dX10_settle_9 : decode cX10_settle 9 = .ok (.aload_n 0, 1) := by decide +kernel
theorem dX10_settle_10 : decode cX10_settle 10 = .ok (.sipush 131, 3) := by decide +kernel
theorem dX10_settle_13 : decode cX10_settle 13 = .ok (.iconst 4, 1) := by decide +kernel
theorem dX10_settle_14 : decode cX10_settle 14 = .ok (.invokevirtual 110, 3) := by decide +kernel
theorem dX10_settle_17 : decode cX10_settle 17 = .ok (.istore_n 1, 1) := by decide +kernel
theorem dX10_settle_18 : decode cX10_settle 18 = .ok (.iconst 0, 1) := by decide +kernel
theorem dX10_settle_19 : decode cX10_settle 19 = .ok (.istore_n 2, 1) := by decide +kernel
theorem dX10_settle_20 : decode cX10_settle 20 = .ok (.iload_n 2, 1) := by decide +kernel
theorem dX10_settle_21 : decode cX10_settle 21 = .ok (.iconst 4, 1) := by decide +kernel
theorem dX10_settle_22 : decode cX10_settle 22 = .ok (.if_icmp .ge 30, 3) := by decide +kernel
theorem dX10_settle_25 : decode cX10_settle 25 = .ok (.aload_n 0, 1) := by decide +kernel
theorem dX10_settle_26 : decode cX10_settle 26 = .ok (.getfield 7, 3) := by decide +kernel
theorem dX10_settle_29 : decode cX10_settle 29 = .ok (.bipush 127, 2) := by decide +kernel
theorem dX10_settle_31 : decode cX10_settle 31 = .ok (.iload_n 2, 1) := by decide +kernel
theorem dX10_settle_32 : decode cX10_settle 32 = .ok (.iadd, 1) := by decide +kernel
theorem dX10_settle_33 : decode cX10_settle 33 = .ok (.iconst 0, 1) := by decide +kernel
theorem dX10_settle_34 : decode cX10_settle 34 = .ok (.iastore, 1) := by decide +kernel
theorem dX10_settle_35 : decode cX10_settle 35 = .ok (.aload_n 0, 1) := by decide +kernel
theorem dX10_settle_36 : decode cX10_settle 36 = .ok (.getfield 7, 3) := by decide +kernel
theorem dX10_settle_39 : decode cX10_settle 39 = .ok (.sipush 131, 3) := by decide +kernel
theorem dX10_settle_42 : decode cX10_settle 42 = .ok (.iload_n 2, 1) := by decide +kernel
theorem dX10_settle_43 : decode cX10_settle 43 = .ok (.iadd, 1) := by decide +kernel
theorem dX10_settle_44 : decode cX10_settle 44 = .ok (.iconst 0, 1) := by decide +kernel
theorem dX10_settle_45 : decode cX10_settle 45 = .ok (.iastore, 1) := by decide +kernel
theorem dX10_settle_46 : decode cX10_settle 46 = .ok (.iinc 2 1, 3) := by decide +kernel
theorem dX10_settle_49 : decode cX10_settle 49 = .ok (.goto (-29), 3) := by decide +kernel
theorem dX10_settle_52 : decode cX10_settle 52 = .ok (.iload_n 1, 1) := by decide +kernel
theorem dX10_settle_53 : decode cX10_settle 53 = .ok (.ireturn, 1) := by decide +kernel
theorem dX10_append_0 : decode cX10_append 0 = .ok (.aload_n 0, 1) := by decide +kernel
theorem dX10_append_1 : decode cX10_append 1 = .ok (.iload_n 1, 1) := by decide +kernel
theorem dX10_append_2 : decode cX10_append 2 = .ok (.bipush 33, 2) := by decide +kernel
theorem dX10_append_4 : decode cX10_append 4 = .ok (.bipush 126, 2) := by decide +kernel
theorem dX10_append_6 : decode cX10_append 6 = .ok (.invokestatic 45, 3) := by decide +kernel
theorem dX10_append_9 : decode cX10_append 9 = .ok (.aload_n 0, 1) := by decide +kernel
theorem dX10_append_10 : decode cX10_append 10 = .ok (.getfield 113, 3) := by decide +kernel
theorem dX10_append_13 : decode cX10_append 13 = .ok (.bipush 60, 2) := by decide +kernel
theorem dX10_append_15 : decode cX10_append 15 = .ok (.if_icmp .ge 7, 3) := by decide +kernel
theorem dX10_append_18 : decode cX10_append 18 = .ok (.iconst 1, 1) := by decide +kernel
theorem dX10_append_19 : decode cX10_append 19 = .ok (.goto 4, 3) := by decide +kernel
theorem dX10_append_22 : decode cX10_append 22 = .ok (.iconst 0, 1) := by decide +kernel
theorem dX10_append_23 : decode cX10_append 23 = .ok (.invokevirtual 87, 3) := by decide +kernel
theorem dX10_append_26 : decode cX10_append 26 = .ok (.ifCond .ne 5, 3) := by decide +kernel
theorem dX10_append_29 : decode cX10_append 29 = .ok (.iconst 0, 1) := by decide +kernel
theorem dX10_append_30 : decode cX10_append 30 = .ok (.ireturn, 1) := by decide +kernel
theorem dX10_append_31 : decode cX10_append 31 = .ok (.aload_n 0, 1) := by decide +kernel
theorem dX10_append_32 : decode cX10_append 32 = .ok (.getfield 17, 3) := by decide +kernel
theorem dX10_append_35 : decode cX10_append 35 = .ok (.aload_n 0, 1) := by decide +kernel
theorem dX10_append_36 : decode cX10_append 36 = .ok (.getfield 113, 3) := by decide +kernel
theorem dX10_append_39 : decode cX10_append 39 = .ok (.iload_n 1, 1) := by decide +kernel
theorem dX10_append_40 : decode cX10_append 40 = .ok (.i2c, 1) := by decide +kernel
theorem dX10_append_41 : decode cX10_append 41 = .ok (.castore, 1) := by decide +kernel
theorem dX10_append_42 : decode cX10_append 42 = .ok (.aload_n 0, 1) := by decide +kernel
theorem dX10_append_43 : decode cX10_append 43 = .ok (.dup, 1) := by decide +kernel
theorem dX10_append_44 : decode cX10_append 44 = .ok (.getfield 113, 3) := by decide +kernel
theorem dX10_append_47 : decode cX10_append 47 = .ok (.iconst 1, 1) := by decide +kernel
theorem dX10_append_48 : decode cX10_append 48 = .ok (.iadd, 1) := by decide +kernel
theorem dX10_append_49 : decode cX10_append 49 = .ok (.putfield 113, 3) := by decide +kernel
theorem dX10_append_52 : decode cX10_append 52 = .ok (.aload_n 0, 1) := by decide +kernel
theorem dX10_append_53 : decode cX10_append 53 = .ok (.getfield 113, 3) := by decide +kernel
theorem dX10_append_56 : decode cX10_append 56 = .ok (.ireturn, 1) := by decide +kernel
theorem dX10_clearBuffer_0 : decode cX10_clearBuffer 0 = .ok (.aload_n 0, 1) := by decide +kernel
theorem dX10_clearBuffer_1 : decode cX10_clearBuffer 1 = .ok (.iconst 0, 1) := by decide +kernel
theorem dX10_clearBuffer_2 : decode cX10_clearBuffer 2 = .ok (.putfield 34, 3) := by decide +kernel
theorem dX10_clearBuffer_5 : decode cX10_clearBuffer 5 = .ok (.aload_n 0, 1) := by decide +kernel
theorem dX10_clearBuffer_6 : decode cX10_clearBuffer 6 = .ok (.getfield 113, 3) := by decide +kernel
theorem dX10_clearBuffer_9 : decode cX10_clearBuffer 9 = .ok (.istore_n 1, 1) := by decide +kernel
theorem dX10_clearBuffer_10 : decode cX10_clearBuffer 10 = .ok (.aload_n 0, 1) := by decide +kernel
theorem dX10_clearBuffer_11 : decode cX10_clearBuffer 11 = .ok (.iconst 0, 1) := by decide +kernel
theorem dX10_clearBuffer_12 : decode cX10_clearBuffer 12 = .ok (.putfield 113, 3) := by decide +kernel
theorem dX10_clearBuffer_15 : decode cX10_clearBuffer 15 = .ok (.iload_n 1, 1) := by decide +kernel
theorem dX10_clearBuffer_16 : decode cX10_clearBuffer 16 = .ok (.ireturn, 1) := by decide +kernel
theorem dX10_takes_0 : decode cX10_takes 0 = .ok (.aload_n 0, 1) := by decide +kernel
theorem dX10_takes_1 : decode cX10_takes 1 = .ok (.getfield 116, 3) := by decide +kernel
theorem dX10_takes_4 : decode cX10_takes 4 = .ok (.aload_n 0, 1) := by decide +kernel
theorem dX10_takes_5 : decode cX10_takes 5 = .ok (.getfield 113, 3) := by decide +kernel
theorem dX10_takes_8 : decode cX10_takes 8 = .ok (.if_icmp .ge 20, 3) := by decide +kernel
theorem dX10_takes_11 : decode cX10_takes 11 = .ok (.aload_n 0, 1) := by decide +kernel
theorem dX10_takes_12 : decode cX10_takes 12 = .ok (.getfield 17, 3) := by decide +kernel
theorem dX10_takes_15 : decode cX10_takes 15 = .ok (.aload_n 0, 1) := by decide +kernel
theorem dX10_takes_16 : decode cX10_takes 16 = .ok (.getfield 116, 3) := by decide +kernel
theorem dX10_takes_19 : decode cX10_takes 19 = .ok (.caload, 1) := by decide +kernel
theorem dX10_takes_20 : decode cX10_takes 20 = .ok (.iload_n 1, 1) := by decide +kernel
theorem dX10_takes_21 : decode cX10_takes 21 = .ok (.if_icmp .ne 7, 3) := by decide +kernel
theorem dX10_takes_24 : decode cX10_takes 24 = .ok (.iconst 1, 1) := by decide +kernel
theorem dX10_takes_25 : decode cX10_takes 25 = .ok (.goto 4, 3) := by decide +kernel
theorem dX10_takes_28 : decode cX10_takes 28 = .ok (.iconst 0, 1) := by decide +kernel
theorem dX10_takes_29 : decode cX10_takes 29 = .ok (.istore_n 2, 1) := by decide +kernel
theorem dX10_takes_30 : decode cX10_takes 30 = .ok (.aload_n 0, 1) := by decide +kernel
theorem dX10_takes_31 : decode cX10_takes 31 = .ok (.dup, 1) := by decide +kernel
theorem dX10_takes_32 : decode cX10_takes 32 = .ok (.getfield 116, 3) := by decide +kernel
theorem dX10_takes_35 : decode cX10_takes 35 = .ok (.iload_n 2, 1) := by decide +kernel
theorem dX10_takes_36 : decode cX10_takes 36 = .ok (.ifCond .eq 7, 3) := by decide +kernel
theorem dX10_takes_39 : decode cX10_takes 39 = .ok (.iconst 1, 1) := by decide +kernel
theorem dX10_takes_40 : decode cX10_takes 40 = .ok (.goto 4, 3) := by decide +kernel
theorem dX10_takes_43 : decode cX10_takes 43 = .ok (.iconst 0, 1) := by decide +kernel
theorem dX10_takes_44 : decode cX10_takes 44 = .ok (.iadd, 1) := by decide +kernel
theorem dX10_takes_45 : decode cX10_takes 45 = .ok (.putfield 116, 3) := by decide +kernel
theorem dX10_takes_48 : decode cX10_takes 48 = .ok (.iload_n 2, 1) := by decide +kernel
theorem dX10_takes_49 : decode cX10_takes 49 = .ok (.ireturn, 1) := by decide +kernel
theorem dX10_digit_0 : decode cX10_digit 0 = .ok (.aload_n 0, 1) := by decide +kernel
theorem dX10_digit_1 : decode cX10_digit 1 = .ok (.getfield 116, 3) := by decide +kernel
theorem dX10_digit_4 : decode cX10_digit 4 = .ok (.aload_n 0, 1) := by decide +kernel
theorem dX10_digit_5 : decode cX10_digit 5 = .ok (.getfield 113, 3) := by decide +kernel
theorem dX10_digit_8 : decode cX10_digit 8 = .ok (.if_icmp .ge 35, 3) := by decide +kernel
theorem dX10_digit_11 : decode cX10_digit 11 = .ok (.aload_n 0, 1) := by decide +kernel
theorem dX10_digit_12 : decode cX10_digit 12 = .ok (.getfield 17, 3) := by decide +kernel
theorem dX10_digit_15 : decode cX10_digit 15 = .ok (.aload_n 0, 1) := by decide +kernel
theorem dX10_digit_16 : decode cX10_digit 16 = .ok (.getfield 116, 3) := by decide +kernel
theorem dX10_digit_19 : decode cX10_digit 19 = .ok (.caload, 1) := by decide +kernel
theorem dX10_digit_20 : decode cX10_digit 20 = .ok (.iload_n 1, 1) := by decide +kernel
theorem dX10_digit_21 : decode cX10_digit 21 = .ok (.iload_n 2, 1) := by decide +kernel
theorem dX10_digit_22 : decode cX10_digit 22 = .ok (.invokestatic 45, 3) := by decide +kernel
theorem dX10_digit_25 : decode cX10_digit 25 = .ok (.ifCond .eq 18, 3) := by decide +kernel
theorem dX10_digit_28 : decode cX10_digit 28 = .ok (.aload_n 0, 1) := by decide +kernel
theorem dX10_digit_29 : decode cX10_digit 29 = .ok (.getfield 17, 3) := by decide +kernel
theorem dX10_digit_32 : decode cX10_digit 32 = .ok (.aload_n 0, 1) := by decide +kernel
theorem dX10_digit_33 : decode cX10_digit 33 = .ok (.getfield 116, 3) := by decide +kernel
theorem dX10_digit_36 : decode cX10_digit 36 = .ok (.caload, 1) := by decide +kernel
theorem dX10_digit_37 : decode cX10_digit 37 = .ok (.bipush 48, 2) := by decide +kernel
theorem dX10_digit_39 : decode cX10_digit 39 = .ok (.isub, 1) := by decide +kernel
theorem dX10_digit_40 : decode cX10_digit 40 = .ok (.goto 4, 3) := by decide +kernel
theorem dX10_digit_43 : decode cX10_digit 43 = .ok (.iconst (-1), 1) := by decide +kernel
theorem dX10_digit_44 : decode cX10_digit 44 = .ok (.istore_n 3, 1) := by decide +kernel
theorem dX10_digit_45 : decode cX10_digit 45 = .ok (.aload_n 0, 1) := by decide +kernel
theorem dX10_digit_46 : decode cX10_digit 46 = .ok (.dup, 1) := by decide +kernel
theorem dX10_digit_47 : decode cX10_digit 47 = .ok (.getfield 116, 3) := by decide +kernel
theorem dX10_digit_50 : decode cX10_digit 50 = .ok (.iload_n 3, 1) := by decide +kernel
theorem dX10_digit_51 : decode cX10_digit 51 = .ok (.ifCond .ge 7, 3) := by decide +kernel
theorem dX10_digit_54 : decode cX10_digit 54 = .ok (.iconst 0, 1) := by decide +kernel
theorem dX10_digit_55 : decode cX10_digit 55 = .ok (.goto 4, 3) := by decide +kernel
theorem dX10_digit_58 : decode cX10_digit 58 = .ok (.iconst 1, 1) := by decide +kernel
theorem dX10_digit_59 : decode cX10_digit 59 = .ok (.iadd, 1) := by decide +kernel
theorem dX10_digit_60 : decode cX10_digit 60 = .ok (.putfield 116, 3) := by decide +kernel
theorem dX10_digit_63 : decode cX10_digit 63 = .ok (.iload_n 3, 1) := by decide +kernel
theorem dX10_digit_64 : decode cX10_digit 64 = .ok (.ireturn, 1) := by decide +kernel
theorem dX10_sending_0 : decode cX10_sending 0 = .ok (.aload_n 0, 1) := by decide +kernel
theorem dX10_sending_1 : decode cX10_sending 1 = .ok (.aload_n 0, 1) := by decide +kernel
theorem dX10_sending_2 : decode cX10_sending 2 = .ok (.bipush 48, 2) := by decide +kernel
theorem dX10_sending_4 : decode cX10_sending 4 = .ok (.bipush 55, 2) := by decide +kernel
theorem dX10_sending_6 : decode cX10_sending 6 = .ok (.invokevirtual 119, 3) := by decide +kernel
theorem dX10_sending_9 : decode cX10_sending 9 = .ok (.putfield 123, 3) := by decide +kernel
theorem dX10_sending_12 : decode cX10_sending 12 = .ok (.aload_n 0, 1) := by decide +kernel
theorem dX10_sending_13 : decode cX10_sending 13 = .ok (.getfield 123, 3) := by decide +kernel
theorem dX10_sending_16 : decode cX10_sending 16 = .ok (.ifCond .lt 12, 3) := by decide +kernel
theorem dX10_sending_19 : decode cX10_sending 19 = .ok (.aload_n 0, 1) := by decide +kernel
theorem dX10_sending_20 : decode cX10_sending 20 = .ok (.bipush 62, 2) := by decide +kernel
theorem dX10_sending_22 : decode cX10_sending 22 = .ok (.invokevirtual 126, 3) := by decide +kernel
theorem dX10_sending_25 : decode cX10_sending 25 = .ok (.ifCond .ne 5, 3) := by decide +kernel
theorem dX10_sending_28 : decode cX10_sending 28 = .ok (.iconst 0, 1) := by decide +kernel
theorem dX10_sending_29 : decode cX10_sending 29 = .ok (.ireturn, 1) := by decide +kernel
theorem dX10_sending_30 : decode cX10_sending 30 = .ok (.aload_n 0, 1) := by decide +kernel
theorem dX10_sending_31 : decode cX10_sending 31 = .ok (.aload_n 0, 1) := by decide +kernel
theorem dX10_sending_32 : decode cX10_sending 32 = .ok (.bipush 48, 2) := by decide +kernel
theorem dX10_sending_34 : decode cX10_sending 34 = .ok (.bipush 51, 2) := by decide +kernel
theorem dX10_sending_36 : decode cX10_sending 36 = .ok (.invokevirtual 119, 3) := by decide +kernel
theorem dX10_sending_39 : decode cX10_sending 39 = .ok (.putfield 130, 3) := by decide +kernel
theorem dX10_sending_42 : decode cX10_sending 42 = .ok (.aload_n 0, 1) := by decide +kernel
theorem dX10_sending_43 : decode cX10_sending 43 = .ok (.iconst 1, 1) := by decide +kernel
theorem dX10_sending_44 : decode cX10_sending 44 = .ok (.putfield 133, 3) := by decide +kernel
theorem dX10_sending_47 : decode cX10_sending 47 = .ok (.aload_n 0, 1) := by decide +kernel
theorem dX10_sending_48 : decode cX10_sending 48 = .ok (.getfield 130, 3) := by decide +kernel
theorem dX10_sending_51 : decode cX10_sending 51 = .ok (.ifCond .lt 24, 3) := by decide +kernel
theorem dX10_sending_54 : decode cX10_sending 54 = .ok (.aload_n 0, 1) := by decide +kernel
theorem dX10_sending_55 : decode cX10_sending 55 = .ok (.bipush 42, 2) := by decide +kernel
theorem dX10_sending_57 : decode cX10_sending 57 = .ok (.invokevirtual 126, 3) := by decide +kernel
theorem dX10_sending_60 : decode cX10_sending 60 = .ok (.ifCond .eq 15, 3) := by decide +kernel
theorem dX10_sending_63 : decode cX10_sending 63 = .ok (.aload_n 0, 1) := by decide +kernel
theorem dX10_sending_64 : decode cX10_sending 64 = .ok (.aload_n 0, 1) := by decide +kernel
theorem dX10_sending_65 : decode cX10_sending 65 = .ok (.bipush 50, 2) := by decide +kernel
theorem dX10_sending_67 : decode cX10_sending 67 = .ok (.bipush 57, 2) := by decide +kernel
theorem dX10_sending_69 : decode cX10_sending 69 = .ok (.invokevirtual 119, 3) := by decide +kernel
theorem dX10_sending_72 : decode cX10_sending 72 = .ok (.putfield 133, 3) := by decide +kernel
theorem dX10_sending_75 : decode cX10_sending 75 = .ok (.aload_n 0, 1) := by decide +kernel
theorem dX10_sending_76 : decode cX10_sending 76 = .ok (.getfield 130, 3) := by decide +kernel
theorem dX10_sending_79 : decode cX10_sending 79 = .ok (.ifCond .lt 14, 3) := by decide +kernel
theorem dX10_sending_82 : decode cX10_sending 82 = .ok (.aload_n 0, 1) := by decide +kernel
theorem dX10_sending_83 : decode cX10_sending 83 = .ok (.getfield 133, 3) := by decide +kernel
theorem dX10_sending_86 : decode cX10_sending 86 = .ok (.ifCond .le 7, 3) := by decide +kernel
theorem dX10_sending_89 : decode cX10_sending 89 = .ok (.iconst 1, 1) := by decide +kernel
theorem dX10_sending_90 : decode cX10_sending 90 = .ok (.goto 4, 3) := by decide +kernel
theorem dX10_sending_93 : decode cX10_sending 93 = .ok (.iconst 0, 1) := by decide +kernel
theorem dX10_sending_94 : decode cX10_sending 94 = .ok (.ireturn, 1) := by decide +kernel
theorem dX10_roading_0 : decode cX10_roading 0 = .ok (.aload_n 0, 1) := by decide +kernel
theorem dX10_roading_1 : decode cX10_roading 1 = .ok (.aload_n 0, 1) := by decide +kernel
theorem dX10_roading_2 : decode cX10_roading 2 = .ok (.bipush 48, 2) := by decide +kernel
theorem dX10_roading_4 : decode cX10_roading 4 = .ok (.bipush 55, 2) := by decide +kernel
theorem dX10_roading_6 : decode cX10_roading 6 = .ok (.invokevirtual 119, 3) := by decide +kernel
theorem dX10_roading_9 : decode cX10_roading 9 = .ok (.putfield 123, 3) := by decide +kernel
theorem dX10_roading_12 : decode cX10_roading 12 = .ok (.aload_n 0, 1) := by decide +kernel
theorem dX10_roading_13 : decode cX10_roading 13 = .ok (.getfield 123, 3) := by decide +kernel
theorem dX10_roading_16 : decode cX10_roading 16 = .ok (.ifCond .lt 33, 3) := by decide +kernel
theorem dX10_roading_19 : decode cX10_roading 19 = .ok (.aload_n 0, 1) := by decide +kernel
theorem dX10_roading_20 : decode cX10_roading 20 = .ok (.getfield 116, 3) := by decide +kernel
theorem dX10_roading_23 : decode cX10_roading 23 = .ok (.aload_n 0, 1) := by decide +kernel
theorem dX10_roading_24 : decode cX10_roading 24 = .ok (.getfield 113, 3) := by decide +kernel
theorem dX10_roading_27 : decode cX10_roading 27 = .ok (.if_icmp .ge 24, 3) := by decide +kernel
theorem dX10_roading_30 : decode cX10_roading 30 = .ok (.aload_n 0, 1) := by decide +kernel
theorem dX10_roading_31 : decode cX10_roading 31 = .ok (.getfield 17, 3) := by decide +kernel
theorem dX10_roading_34 : decode cX10_roading 34 = .ok (.aload_n 0, 1) := by decide +kernel
theorem dX10_roading_35 : decode cX10_roading 35 = .ok (.getfield 116, 3) := by decide +kernel
theorem dX10_roading_38 : decode cX10_roading 38 = .ok (.caload, 1) := by decide +kernel
theorem dX10_roading_39 : decode cX10_roading 39 = .ok (.bipush 48, 2) := by decide +kernel
theorem dX10_roading_41 : decode cX10_roading 41 = .ok (.aload_n 0, 1) := by decide +kernel
theorem dX10_roading_42 : decode cX10_roading 42 = .ok (.getfield 123, 3) := by decide +kernel
theorem dX10_roading_45 : decode cX10_roading 45 = .ok (.iadd, 1) := by decide +kernel
theorem dX10_roading_46 : decode cX10_roading 46 = .ok (.if_icmp .ne 5, 3) := by decide +kernel
theorem dX10_roading_49 : decode cX10_roading 49 = .ok (.iconst 0, 1) := by decide +kernel
theorem dX10_roading_50 : decode cX10_roading 50 = .ok (.ireturn, 1) := by decide +kernel
theorem dX10_roading_51 : decode cX10_roading 51 = .ok (.aload_n 0, 1) := by decide +kernel
theorem dX10_roading_52 : decode cX10_roading 52 = .ok (.aload_n 0, 1) := by decide +kernel
theorem dX10_roading_53 : decode cX10_roading 53 = .ok (.bipush 48, 2) := by decide +kernel
theorem dX10_roading_55 : decode cX10_roading 55 = .ok (.bipush 55, 2) := by decide +kernel
theorem dX10_roading_57 : decode cX10_roading 57 = .ok (.invokevirtual 119, 3) := by decide +kernel
theorem dX10_roading_60 : decode cX10_roading 60 = .ok (.putfield 130, 3) := by decide +kernel
theorem dX10_roading_63 : decode cX10_roading 63 = .ok (.aload_n 0, 1) := by decide +kernel
theorem dX10_roading_64 : decode cX10_roading 64 = .ok (.getfield 130, 3) := by decide +kernel
theorem dX10_roading_67 : decode cX10_roading 67 = .ok (.ifCond .lt 12, 3) := by decide +kernel
theorem dX10_roading_70 : decode cX10_roading 70 = .ok (.aload_n 0, 1) := by decide +kernel
theorem dX10_roading_71 : decode cX10_roading 71 = .ok (.bipush 61, 2) := by decide +kernel
theorem dX10_roading_73 : decode cX10_roading 73 = .ok (.invokevirtual 126, 3) := by decide +kernel
theorem dX10_roading_76 : decode cX10_roading 76 = .ok (.ifCond .ne 5, 3) := by decide +kernel
theorem dX10_roading_79 : decode cX10_roading 79 = .ok (.iconst 0, 1) := by decide +kernel
theorem dX10_roading_80 : decode cX10_roading 80 = .ok (.ireturn, 1) := by decide +kernel
theorem dX10_roading_81 : decode cX10_roading 81 = .ok (.aload_n 0, 1) := by decide +kernel
theorem dX10_roading_82 : decode cX10_roading 82 = .ok (.aload_n 0, 1) := by decide +kernel
theorem dX10_roading_83 : decode cX10_roading 83 = .ok (.bipush 48, 2) := by decide +kernel
theorem dX10_roading_85 : decode cX10_roading 85 = .ok (.bipush 57, 2) := by decide +kernel
theorem dX10_roading_87 : decode cX10_roading 87 = .ok (.invokevirtual 119, 3) := by decide +kernel
theorem dX10_roading_90 : decode cX10_roading 90 = .ok (.putfield 133, 3) := by decide +kernel
theorem dX10_roading_93 : decode cX10_roading 93 = .ok (.aload_n 0, 1) := by decide +kernel
theorem dX10_roading_94 : decode cX10_roading 94 = .ok (.getfield 133, 3) := by decide +kernel
theorem dX10_roading_97 : decode cX10_roading 97 = .ok (.ifCond .le 14, 3) := by decide +kernel
theorem dX10_roading_100 : decode cX10_roading 100 = .ok (.aload_n 0, 1) := by decide +kernel
theorem dX10_roading_101 : decode cX10_roading 101 = .ok (.bipush 48, 2) := by decide +kernel
theorem dX10_roading_103 : decode cX10_roading 103 = .ok (.bipush 57, 2) := by decide +kernel
theorem dX10_roading_105 : decode cX10_roading 105 = .ok (.invokevirtual 119, 3) := by decide +kernel
theorem dX10_roading_108 : decode cX10_roading 108 = .ok (.goto 4, 3) := by decide +kernel
theorem dX10_roading_111 : decode cX10_roading 111 = .ok (.iconst (-1), 1) := by decide +kernel
theorem dX10_roading_112 : decode cX10_roading 112 = .ok (.istore_n 1, 1) := by decide +kernel
theorem dX10_roading_113 : decode cX10_roading 113 = .ok (.aload_n 0, 1) := by decide +kernel
theorem dX10_roading_114 : decode cX10_roading 114 = .ok (.iload_n 1, 1) := by decide +kernel
theorem dX10_roading_115 : decode cX10_roading 115 = .ok (.ifCond .ge 10, 3) := by decide +kernel
theorem dX10_roading_118 : decode cX10_roading 118 = .ok (.aload_n 0, 1) := by decide +kernel
theorem dX10_roading_119 : decode cX10_roading 119 = .ok (.getfield 133, 3) := by decide +kernel
theorem dX10_roading_122 : decode cX10_roading 122 = .ok (.goto 12, 3) := by decide +kernel
theorem dX10_roading_125 : decode cX10_roading 125 = .ok (.bipush 10, 2) := by decide +kernel
theorem dX10_roading_127 : decode cX10_roading 127 = .ok (.aload_n 0, 1) := by decide +kernel
theorem dX10_roading_128 : decode cX10_roading 128 = .ok (.getfield 133, 3) := by decide +kernel
theorem dX10_roading_131 : decode cX10_roading 131 = .ok (.imul, 1) := by decide +kernel
theorem dX10_roading_132 : decode cX10_roading 132 = .ok (.iload_n 1, 1) := by decide +kernel
theorem dX10_roading_133 : decode cX10_roading 133 = .ok (.iadd, 1) := by decide +kernel
theorem dX10_roading_134 : decode cX10_roading 134 = .ok (.putfield 133, 3) := by decide +kernel
theorem dX10_roading_137 : decode cX10_roading 137 = .ok (.aload_n 0, 1) := by decide +kernel
theorem dX10_roading_138 : decode cX10_roading 138 = .ok (.getfield 133, 3) := by decide +kernel
theorem dX10_roading_141 : decode cX10_roading 141 = .ok (.ifCond .lt 7, 3) := by decide +kernel
theorem dX10_roading_144 : decode cX10_roading 144 = .ok (.iconst 1, 1) := by decide +kernel
theorem dX10_roading_145 : decode cX10_roading 145 = .ok (.goto 4, 3) := by decide +kernel
theorem dX10_roading_148 : decode cX10_roading 148 = .ok (.iconst 0, 1) := by decide +kernel
theorem dX10_roading_149 : decode cX10_roading 149 = .ok (.ireturn, 1) := by decide +kernel
theorem dX10_order_0 : decode cX10_order 0 = .ok (.aload_n 0, 1) := by decide +kernel
theorem dX10_order_1 : decode cX10_order 1 = .ok (.bipush 115, 2) := by decide +kernel
theorem dX10_order_3 : decode cX10_order 3 = .ok (.invokevirtual 126, 3) := by decide +kernel
theorem dX10_order_6 : decode cX10_order 6 = .ok (.ifCond .eq 18, 3) := by decide +kernel
theorem dX10_order_9 : decode cX10_order 9 = .ok (.aload_n 0, 1) := by decide +kernel
theorem dX10_order_10 : decode cX10_order 10 = .ok (.invokevirtual 136, 3) := by decide +kernel
theorem dX10_order_13 : decode cX10_order 13 = .ok (.ifCond .eq 8, 3) := by decide +kernel
theorem dX10_order_16 : decode cX10_order 16 = .ok (.bipush 115, 2) := by decide +kernel
theorem dX10_order_18 : decode cX10_order 18 = .ok (.goto 5, 3) := by decide +kernel
theorem dX10_order_21 : decode cX10_order 21 = .ok (.bipush 32, 2) := by decide +kernel
theorem dX10_order_23 : decode cX10_order 23 = .ok (.ireturn, 1) := by decide +kernel
theorem dX10_order_24 : decode cX10_order 24 = .ok (.aload_n 0, 1) := by decide +kernel
theorem dX10_order_25 : decode cX10_order 25 = .ok (.bipush 114, 2) := by decide +kernel
theorem dX10_order_27 : decode cX10_order 27 = .ok (.invokevirtual 126, 3) := by decide +kernel
theorem dX10_order_30 : decode cX10_order 30 = .ok (.ifCond .eq 18, 3) := by decide +kernel
theorem dX10_order_33 : decode cX10_order 33 = .ok (.aload_n 0, 1) := by decide +kernel
theorem dX10_order_34 : decode cX10_order 34 = .ok (.invokevirtual 140, 3) := by decide +kernel
theorem dX10_order_37 : decode cX10_order 37 = .ok (.ifCond .eq 8, 3) := by decide +kernel
theorem dX10_order_40 : decode cX10_order 40 = .ok (.bipush 114, 2) := by decide +kernel
theorem dX10_order_42 : decode cX10_order 42 = .ok (.goto 5, 3) := by decide +kernel
theorem dX10_order_45 : decode cX10_order 45 = .ok (.bipush 32, 2) := by decide +kernel
theorem dX10_order_47 : decode cX10_order 47 = .ok (.ireturn, 1) := by decide +kernel
theorem dX10_order_48 : decode cX10_order 48 = .ok (.aload_n 0, 1) := by decide +kernel
theorem dX10_order_49 : decode cX10_order 49 = .ok (.bipush 120, 2) := by decide +kernel
theorem dX10_order_51 : decode cX10_order 51 = .ok (.invokevirtual 126, 3) := by decide +kernel
theorem dX10_order_54 : decode cX10_order 54 = .ok (.ifCond .eq 30, 3) := by decide +kernel
theorem dX10_order_57 : decode cX10_order 57 = .ok (.aload_n 0, 1) := by decide +kernel
theorem dX10_order_58 : decode cX10_order 58 = .ok (.aload_n 0, 1) := by decide +kernel
theorem dX10_order_59 : decode cX10_order 59 = .ok (.bipush 48, 2) := by decide +kernel
theorem dX10_order_61 : decode cX10_order 61 = .ok (.bipush 55, 2) := by decide +kernel
theorem dX10_order_63 : decode cX10_order 63 = .ok (.invokevirtual 119, 3) := by decide +kernel
theorem dX10_order_66 : decode cX10_order 66 = .ok (.putfield 123, 3) := by decide +kernel
theorem dX10_order_69 : decode cX10_order 69 = .ok (.aload_n 0, 1) := by decide +kernel
theorem dX10_order_70 : decode cX10_order 70 = .ok (.getfield 123, 3) := by decide +kernel
theorem dX10_order_73 : decode cX10_order 73 = .ok (.ifCond .ge 8, 3) := by decide +kernel
theorem dX10_order_76 : decode cX10_order 76 = .ok (.bipush 32, 2) := by decide +kernel
theorem dX10_order_78 : decode cX10_order 78 = .ok (.goto 5, 3) := by decide +kernel
theorem dX10_order_81 : decode cX10_order 81 = .ok (.bipush 120, 2) := by decide +kernel
theorem dX10_order_83 : decode cX10_order 83 = .ok (.ireturn, 1) := by decide +kernel
theorem dX10_order_84 : decode cX10_order 84 = .ok (.bipush 32, 2) := by decide +kernel
theorem dX10_order_86 : decode cX10_order 86 = .ok (.ireturn, 1) := by decide +kernel
theorem dX10_error_0 : decode cX10_error 0 = .ok (.aload_n 0, 1) := by decide +kernel
theorem dX10_error_1 : decode cX10_error 1 = .ok (.iconst 0, 1) := by decide +kernel
theorem dX10_error_2 : decode cX10_error 2 = .ok (.putfield 116, 3) := by decide +kernel
theorem dX10_error_5 : decode cX10_error 5 = .ok (.aload_n 0, 1) := by decide +kernel
theorem dX10_error_6 : decode cX10_error 6 = .ok (.invokevirtual 143, 3) := by decide +kernel
theorem dX10_error_9 : decode cX10_error 9 = .ok (.bipush 32, 2) := by decide +kernel
theorem dX10_error_11 : decode cX10_error 11 = .ok (.if_icmp .eq 30, 3) := by decide +kernel
theorem dX10_error_14 : decode cX10_error 14 = .ok (.aload_n 0, 1) := by decide +kernel
theorem dX10_error_15 : decode cX10_error 15 = .ok (.getfield 116, 3) := by decide +kernel
theorem dX10_error_18 : decode cX10_error 18 = .ok (.aload_n 0, 1) := by decide +kernel
theorem dX10_error_19 : decode cX10_error 19 = .ok (.getfield 113, 3) := by decide +kernel
theorem dX10_error_22 : decode cX10_error 22 = .ok (.if_icmp .ne 5, 3) := by decide +kernel
theorem dX10_error_25 : decode cX10_error 25 = .ok (.iconst (-1), 1) := by decide +kernel
theorem dX10_error_26 : decode cX10_error 26 = .ok (.ireturn, 1) := by decide +kernel
theorem dX10_error_27 : decode cX10_error 27 = .ok (.aload_n 0, 1) := by decide +kernel
theorem dX10_error_28 : decode cX10_error 28 = .ok (.bipush 59, 2) := by decide +kernel
theorem dX10_error_30 : decode cX10_error 30 = .ok (.invokevirtual 126, 3) := by decide +kernel
theorem dX10_error_33 : decode cX10_error 33 = .ok (.ifCond .ne (-28), 3) := by decide +kernel
theorem dX10_error_36 : decode cX10_error 36 = .ok (.aload_n 0, 1) := by decide +kernel
theorem dX10_error_37 : decode cX10_error 37 = .ok (.getfield 116, 3) := by decide +kernel
theorem dX10_error_40 : decode cX10_error 40 = .ok (.ireturn, 1) := by decide +kernel
theorem dX10_error_41 : decode cX10_error 41 = .ok (.aload_n 0, 1) := by decide +kernel
theorem dX10_error_42 : decode cX10_error 42 = .ok (.getfield 116, 3) := by decide +kernel
theorem dX10_error_45 : decode cX10_error 45 = .ok (.ireturn, 1) := by decide +kernel
theorem dX10_firstError_0 : decode cX10_firstError 0 = .ok (.aload_n 0, 1) := by decide +kernel
theorem dX10_firstError_1 : decode cX10_firstError 1 = .ok (.iconst 0, 1) := by decide +kernel
theorem dX10_firstError_2 : decode cX10_firstError 2 = .ok (.putfield 34, 3) := by decide +kernel
theorem dX10_firstError_5 : decode cX10_firstError 5 = .ok (.aload_n 0, 1) := by decide +kernel
theorem dX10_firstError_6 : decode cX10_firstError 6 = .ok (.invokevirtual 147, 3) := by decide +kernel
theorem dX10_firstError_9 : decode cX10_firstError 9 = .ok (.istore_n 1, 1) := by decide +kernel
theorem dX10_firstError_10 : decode cX10_firstError 10 = .ok (.iload_n 1, 1) := by decide +kernel
theorem dX10_firstError_11 : decode cX10_firstError 11 = .ok (.ifCond .ge 10, 3) := by decide +kernel
theorem dX10_firstError_14 : decode cX10_firstError 14 = .ok (.aload_n 0, 1) := by decide +kernel
theorem dX10_firstError_15 : decode cX10_firstError 15 = .ok (.getfield 113, 3) := by decide +kernel
theorem dX10_firstError_18 : decode cX10_firstError 18 = .ok (.goto 4, 3) := by decide +kernel
theorem dX10_firstError_21 : decode cX10_firstError 21 = .ok (.iload_n 1, 1) := by decide +kernel
theorem dX10_firstError_22 : decode cX10_firstError 22 = .ok (.ireturn, 1) := by decide +kernel
theorem dX10_does_0 : decode cX10_does 0 = .ok (.iload_n 1, 1) := by decide +kernel
theorem dX10_does_1 : decode cX10_does 1 = .ok (.bipush 120, 2) := by decide +kernel
theorem dX10_does_3 : decode cX10_does 3 = .ok (.if_icmp .ne 31, 3) := by decide +kernel
theorem dX10_does_6 : decode cX10_does 6 = .ok (.aload_n 0, 1) := by decide +kernel
theorem dX10_does_7 : decode cX10_does 7 = .ok (.aload_n 0, 1) := by decide +kernel
theorem dX10_does_8 : decode cX10_does 8 = .ok (.getfield 123, 3) := by decide +kernel
theorem dX10_does_11 : decode cX10_does 11 = .ok (.invokevirtual 94, 3) := by decide +kernel
theorem dX10_does_14 : decode cX10_does 14 = .ok (.ifCond .eq 18, 3) := by decide +kernel
theorem dX10_does_17 : decode cX10_does 17 = .ok (.aload_n 0, 1) := by decide +kernel
theorem dX10_does_18 : decode cX10_does 18 = .ok (.aload_n 0, 1) := by decide +kernel
theorem dX10_does_19 : decode cX10_does 19 = .ok (.getfield 123, 3) := by decide +kernel
theorem dX10_does_22 : decode cX10_does 22 = .ok (.invokevirtual 97, 3) := by decide +kernel
theorem dX10_does_25 : decode cX10_does 25 = .ok (.ifCond .lt 7, 3) := by decide +kernel
theorem dX10_does_28 : decode cX10_does 28 = .ok (.iconst 1, 1) := by decide +kernel
theorem dX10_does_29 : decode cX10_does 29 = .ok (.goto 4, 3) := by decide +kernel
theorem dX10_does_32 : decode cX10_does 32 = .ok (.iconst 0, 1) := by decide +kernel
theorem dX10_does_33 : decode cX10_does 33 = .ok (.ireturn, 1) := by decide +kernel
theorem dX10_does_34 : decode cX10_does 34 = .ok (.iload_n 1, 1) := by decide +kernel
theorem dX10_does_35 : decode cX10_does 35 = .ok (.bipush 114, 2) := by decide +kernel
theorem dX10_does_37 : decode cX10_does 37 = .ok (.if_icmp .ne 22, 3) := by decide +kernel
theorem dX10_does_40 : decode cX10_does 40 = .ok (.aload_n 0, 1) := by decide +kernel
theorem dX10_does_41 : decode cX10_does 41 = .ok (.iconst 0, 1) := by decide +kernel
theorem dX10_does_42 : decode cX10_does 42 = .ok (.aload_n 0, 1) := by decide +kernel
theorem dX10_does_43 : decode cX10_does 43 = .ok (.getfield 123, 3) := by decide +kernel
theorem dX10_does_46 : decode cX10_does 46 = .ok (.aload_n 0, 1) := by decide +kernel
theorem dX10_does_47 : decode cX10_does 47 = .ok (.getfield 130, 3) := by decide +kernel
theorem dX10_does_50 : decode cX10_does 50 = .ok (.aload_n 0, 1) := by decide +kernel
theorem dX10_does_51 : decode cX10_does 51 = .ok (.getfield 133, 3) := by decide +kernel
theorem dX10_does_54 : decode cX10_does 54 = .ok (.invokevirtual 30, 3) := by decide +kernel
theorem dX10_does_57 : decode cX10_does 57 = .ok (.iconst 1, 1) := by decide +kernel
theorem dX10_does_58 : decode cX10_does 58 = .ok (.ireturn, 1) := by decide +kernel
theorem dX10_does_59 : decode cX10_does 59 = .ok (.iconst 0, 1) := by decide +kernel
theorem dX10_does_60 : decode cX10_does 60 = .ok (.istore_n 2, 1) := by decide +kernel
theorem dX10_does_61 : decode cX10_does 61 = .ok (.iload_n 2, 1) := by decide +kernel
theorem dX10_does_62 : decode cX10_does 62 = .ok (.aload_n 0, 1) := by decide +kernel
theorem dX10_does_63 : decode cX10_does 63 = .ok (.getfield 133, 3) := by decide +kernel
theorem dX10_does_66 : decode cX10_does 66 = .ok (.if_icmp .ge 44, 3) := by decide +kernel
theorem dX10_does_69 : decode cX10_does 69 = .ok (.aload_n 0, 1) := by decide +kernel
theorem dX10_does_70 : decode cX10_does 70 = .ok (.getfield 7, 3) := by decide +kernel
theorem dX10_does_73 : decode cX10_does 73 = .ok (.sipush 171, 3) := by decide +kernel
theorem dX10_does_76 : decode cX10_does 76 = .ok (.iaload, 1) := by decide +kernel
theorem dX10_does_77 : decode cX10_does 77 = .ok (.sipush 9999, 3) := by decide +kernel
theorem dX10_does_80 : decode cX10_does 80 = .ok (.if_icmp .ge 30, 3) := by decide +kernel
theorem dX10_does_83 : decode cX10_does 83 = .ok (.iload_n 2, 1) := by decide +kernel
theorem dX10_does_84 : decode cX10_does 84 = .ok (.aload_n 0, 1) := by decide +kernel
theorem dX10_does_85 : decode cX10_does 85 = .ok (.aload_n 0, 1) := by decide +kernel
theorem dX10_does_86 : decode cX10_does 86 = .ok (.getfield 123, 3) := by decide +kernel
theorem dX10_does_89 : decode cX10_does 89 = .ok (.aload_n 0, 1) := by decide +kernel
theorem dX10_does_90 : decode cX10_does 90 = .ok (.getfield 130, 3) := by decide +kernel
theorem dX10_does_93 : decode cX10_does 93 = .ok (.invokevirtual 107, 3) := by decide +kernel
theorem dX10_does_96 : decode cX10_does 96 = .ok (.iconst (-1), 1) := by decide +kernel
theorem dX10_does_97 : decode cX10_does 97 = .ok (.if_icmp .lt 7, 3) := by decide +kernel
theorem dX10_does_100 : decode cX10_does 100 = .ok (.iconst 1, 1) := by decide +kernel
theorem dX10_does_101 : decode cX10_does 101 = .ok (.goto 4, 3) := by decide +kernel
theorem dX10_does_104 : decode cX10_does 104 = .ok (.iconst 0, 1) := by decide +kernel
theorem dX10_does_105 : decode cX10_does 105 = .ok (.iadd, 1) := by decide +kernel
theorem dX10_does_106 : decode cX10_does 106 = .ok (.istore_n 2, 1) := by decide +kernel
theorem dX10_does_107 : decode cX10_does 107 = .ok (.goto (-46), 3) := by decide +kernel
theorem dX10_does_110 : decode cX10_does 110 = .ok (.iload_n 2, 1) := by decide +kernel
theorem dX10_does_111 : decode cX10_does 111 = .ok (.aload_n 0, 1) := by decide +kernel
theorem dX10_does_112 : decode cX10_does 112 = .ok (.getfield 133, 3) := by decide +kernel
theorem dX10_does_115 : decode cX10_does 115 = .ok (.if_icmp .ne 7, 3) := by decide +kernel
theorem dX10_does_118 : decode cX10_does 118 = .ok (.iconst 1, 1) := by decide +kernel
theorem dX10_does_119 : decode cX10_does 119 = .ok (.goto 4, 3) := by decide +kernel
theorem dX10_does_122 : decode cX10_does 122 = .ok (.iconst 0, 1) := by decide +kernel
theorem dX10_does_123 : decode cX10_does 123 = .ok (.ireturn, 1) := by decide +kernel
theorem dX10_run_0 : decode cX10_run 0 = .ok (.aload_n 0, 1) := by decide +kernel
theorem dX10_run_1 : decode cX10_run 1 = .ok (.aload_n 0, 1) := by decide +kernel
theorem dX10_run_2 : decode cX10_run 2 = .ok (.invokevirtual 147, 3) := by decide +kernel
theorem dX10_run_5 : decode cX10_run 5 = .ok (.ifCond .ge 7, 3) := by decide +kernel
theorem dX10_run_8 : decode cX10_run 8 = .ok (.iconst 1, 1) := by decide +kernel
theorem dX10_run_9 : decode cX10_run 9 = .ok (.goto 4, 3) := by decide +kernel
theorem dX10_run_12 : decode cX10_run 12 = .ok (.iconst 0, 1) := by decide +kernel
theorem dX10_run_13 : decode cX10_run 13 = .ok (.iconst 1, 1) := by decide +kernel
theorem dX10_run_14 : decode cX10_run 14 = .ok (.invokevirtual 87, 3) := by decide +kernel
theorem dX10_run_17 : decode cX10_run 17 = .ok (.ifCond .ne 5, 3) := by decide +kernel
theorem dX10_run_20 : decode cX10_run 20 = .ok (.iconst 0, 1) := by decide +kernel
theorem dX10_run_21 : decode cX10_run 21 = .ok (.ireturn, 1) := by decide +kernel
theorem dX10_run_22 : decode cX10_run 22 = .ok (.aload_n 0, 1) := by decide +kernel
theorem dX10_run_23 : decode cX10_run 23 = .ok (.invokevirtual 91, 3) := by decide +kernel
theorem dX10_run_26 : decode cX10_run 26 = .ok (.aload_n 0, 1) := by decide +kernel
theorem dX10_run_27 : decode cX10_run 27 = .ok (.iconst 0, 1) := by decide +kernel
theorem dX10_run_28 : decode cX10_run 28 = .ok (.putfield 116, 3) := by decide +kernel
theorem dX10_run_31 : decode cX10_run 31 = .ok (.iconst 0, 1) := by decide +kernel
theorem dX10_run_32 : decode cX10_run 32 = .ok (.istore_n 1, 1) := by decide +kernel
theorem dX10_run_33 : decode cX10_run 33 = .ok (.iconst 1, 1) := by decide +kernel
theorem dX10_run_34 : decode cX10_run 34 = .ok (.istore_n 2, 1) := by decide +kernel
theorem dX10_run_35 : decode cX10_run 35 = .ok (.aload_n 0, 1) := by decide +kernel
theorem dX10_run_36 : decode cX10_run 36 = .ok (.getfield 116, 3) := by decide +kernel
theorem dX10_run_39 : decode cX10_run 39 = .ok (.aload_n 0, 1) := by decide +kernel
theorem dX10_run_40 : decode cX10_run 40 = .ok (.getfield 113, 3) := by decide +kernel
theorem dX10_run_43 : decode cX10_run 43 = .ok (.if_icmp .ge 38, 3) := by decide +kernel
theorem dX10_run_46 : decode cX10_run 46 = .ok (.iload_n 2, 1) := by decide +kernel
theorem dX10_run_47 : decode cX10_run 47 = .ok (.ifCond .eq 34, 3) := by decide +kernel
theorem dX10_run_50 : decode cX10_run 50 = .ok (.aload_n 0, 1) := by decide +kernel
theorem dX10_run_51 : decode cX10_run 51 = .ok (.aload_n 0, 1) := by decide +kernel
theorem dX10_run_52 : decode cX10_run 52 = .ok (.invokevirtual 143, 3) := by decide +kernel
theorem dX10_run_55 : decode cX10_run 55 = .ok (.invokevirtual 151, 3) := by decide +kernel
theorem dX10_run_58 : decode cX10_run 58 = .ok (.istore_n 2, 1) := by decide +kernel
theorem dX10_run_59 : decode cX10_run 59 = .ok (.iload_n 1, 1) := by decide +kernel
theorem dX10_run_60 : decode cX10_run 60 = .ok (.iload_n 2, 1) := by decide +kernel
theorem dX10_run_61 : decode cX10_run 61 = .ok (.ifCond .eq 7, 3) := by decide +kernel
theorem dX10_run_64 : decode cX10_run 64 = .ok (.iconst 1, 1) := by decide +kernel
theorem dX10_run_65 : decode cX10_run 65 = .ok (.goto 4, 3) := by decide +kernel
theorem dX10_run_68 : decode cX10_run 68 = .ok (.iconst 0, 1) := by decide +kernel
theorem dX10_run_69 : decode cX10_run 69 = .ok (.iadd, 1) := by decide +kernel
theorem dX10_run_70 : decode cX10_run 70 = .ok (.istore_n 1, 1) := by decide +kernel
theorem dX10_run_71 : decode cX10_run 71 = .ok (.aload_n 0, 1) := by decide +kernel
theorem dX10_run_72 : decode cX10_run 72 = .ok (.bipush 59, 2) := by decide +kernel
theorem dX10_run_74 : decode cX10_run 74 = .ok (.invokevirtual 126, 3) := by decide +kernel
theorem dX10_run_77 : decode cX10_run 77 = .ok (.pop, 1) := by decide +kernel
theorem dX10_run_78 : decode cX10_run 78 = .ok (.goto (-43), 3) := by decide +kernel
theorem dX10_run_81 : decode cX10_run 81 = .ok (.aload_n 0, 1) := by decide +kernel
theorem dX10_run_82 : decode cX10_run 82 = .ok (.iconst 0, 1) := by decide +kernel
theorem dX10_run_83 : decode cX10_run 83 = .ok (.putfield 113, 3) := by decide +kernel
theorem dX10_run_86 : decode cX10_run 86 = .ok (.iload_n 1, 1) := by decide +kernel
theorem dX10_run_87 : decode cX10_run 87 = .ok (.ireturn, 1) := by decide +kernel
theorem dX10_keep_0 : decode cX10_keep 0 = .ok (.aload_n 0, 1) := by decide +kernel
theorem dX10_keep_1 : decode cX10_keep 1 = .ok (.iload_n 1, 1) := by decide +kernel
theorem dX10_keep_2 : decode cX10_keep 2 = .ok (.iconst 0, 1) := by decide +kernel
theorem dX10_keep_3 : decode cX10_keep 3 = .ok (.iconst 1, 1) := by decide +kernel
theorem dX10_keep_4 : decode cX10_keep 4 = .ok (.invokestatic 45, 3) := by decide +kernel
theorem dX10_keep_7 : decode cX10_keep 7 = .ok (.iconst 1, 1) := by decide +kernel
theorem dX10_keep_8 : decode cX10_keep 8 = .ok (.invokevirtual 87, 3) := by decide +kernel
theorem dX10_keep_11 : decode cX10_keep 11 = .ok (.ifCond .ne 5, 3) := by decide +kernel
theorem dX10_keep_14 : decode cX10_keep 14 = .ok (.iconst 0, 1) := by decide +kernel
theorem dX10_keep_15 : decode cX10_keep 15 = .ok (.ireturn, 1) := by decide +kernel
theorem dX10_keep_16 : decode cX10_keep 16 = .ok (.aload_n 0, 1) := by decide +kernel
theorem dX10_keep_17 : decode cX10_keep 17 = .ok (.iconst 0, 1) := by decide +kernel
theorem dX10_keep_18 : decode cX10_keep 18 = .ok (.bipush 7, 2) := by decide +kernel
theorem dX10_keep_20 : decode cX10_keep 20 = .ok (.iload_n 1, 1) := by decide +kernel
theorem dX10_keep_21 : decode cX10_keep 21 = .ok (.iadd, 1) := by decide +kernel
theorem dX10_keep_22 : decode cX10_keep 22 = .ok (.invokevirtual 41, 3) := by decide +kernel
theorem dX10_keep_25 : decode cX10_keep 25 = .ok (.aload_n 0, 1) := by decide +kernel
theorem dX10_keep_26 : decode cX10_keep 26 = .ok (.getfield 13, 3) := by decide +kernel
theorem dX10_keep_29 : decode cX10_keep 29 = .ok (.iload_n 1, 1) := by decide +kernel
theorem dX10_keep_30 : decode cX10_keep 30 = .ok (.iconst 1, 1) := by decide +kernel
theorem dX10_keep_31 : decode cX10_keep 31 = .ok (.bastore, 1) := by decide +kernel
theorem dX10_keep_32 : decode cX10_keep 32 = .ok (.aload_n 0, 1) := by decide +kernel
theorem dX10_keep_33 : decode cX10_keep 33 = .ok (.getfield 7, 3) := by decide +kernel
theorem dX10_keep_36 : decode cX10_keep 36 = .ok (.sipush 171, 3) := by decide +kernel
theorem dX10_keep_39 : decode cX10_keep 39 = .ok (.iaload, 1) := by decide +kernel
theorem dX10_keep_40 : decode cX10_keep 40 = .ok (.ireturn, 1) := by decide +kernel
theorem dX10_goBack_0 : decode cX10_goBack 0 = .ok (.aload_n 0, 1) := by decide +kernel
theorem dX10_goBack_1 : decode cX10_goBack 1 = .ok (.iload_n 1, 1) := by decide +kernel
theorem dX10_goBack_2 : decode cX10_goBack 2 = .ok (.iconst 0, 1) := by decide +kernel
theorem dX10_goBack_3 : decode cX10_goBack 3 = .ok (.iconst 1, 1) := by decide +kernel
theorem dX10_goBack_4 : decode cX10_goBack 4 = .ok (.invokestatic 45, 3) := by decide +kernel
theorem dX10_goBack_7 : decode cX10_goBack 7 = .ok (.iload_n 1, 1) := by decide +kernel
theorem dX10_goBack_8 : decode cX10_goBack 8 = .ok (.iconst 0, 1) := by decide +kernel
theorem dX10_goBack_9 : decode cX10_goBack 9 = .ok (.iconst 1, 1) := by decide +kernel
theorem dX10_goBack_10 : decode cX10_goBack 10 = .ok (.invokestatic 45, 3) := by decide +kernel
theorem dX10_goBack_13 : decode cX10_goBack 13 = .ok (.ifCond .eq 16, 3) := by decide +kernel
theorem dX10_goBack_16 : decode cX10_goBack 16 = .ok (.aload_n 0, 1) := by decide +kernel
theorem dX10_goBack_17 : decode cX10_goBack 17 = .ok (.getfield 13, 3) := by decide +kernel
theorem dX10_goBack_20 : decode cX10_goBack 20 = .ok (.iload_n 1, 1) := by decide +kernel
theorem dX10_goBack_21 : decode cX10_goBack 21 = .ok (.baload, 1) := by decide +kernel
theorem dX10_goBack_22 : decode cX10_goBack 22 = .ok (.ifCond .eq 7, 3) := by decide +kernel
theorem dX10_goBack_25 : decode cX10_goBack 25 = .ok (.iconst 1, 1) := by decide +kernel
theorem dX10_goBack_26 : decode cX10_goBack 26 = .ok (.goto 4, 3) := by decide +kernel
theorem dX10_goBack_29 : decode cX10_goBack 29 = .ok (.iconst 0, 1) := by decide +kernel
theorem dX10_goBack_30 : decode cX10_goBack 30 = .ok (.invokevirtual 87, 3) := by decide +kernel
theorem dX10_goBack_33 : decode cX10_goBack 33 = .ok (.ifCond .ne 5, 3) := by decide +kernel
theorem dX10_goBack_36 : decode cX10_goBack 36 = .ok (.iconst 0, 1) := by decide +kernel
theorem dX10_goBack_37 : decode cX10_goBack 37 = .ok (.ireturn, 1) := by decide +kernel
theorem dX10_goBack_38 : decode cX10_goBack 38 = .ok (.aload_n 0, 1) := by decide +kernel
theorem dX10_goBack_39 : decode cX10_goBack 39 = .ok (.invokevirtual 91, 3) := by decide +kernel
theorem dX10_goBack_42 : decode cX10_goBack 42 = .ok (.aload_n 0, 1) := by decide +kernel
theorem dX10_goBack_43 : decode cX10_goBack 43 = .ok (.bipush 7, 2) := by decide +kernel
theorem dX10_goBack_45 : decode cX10_goBack 45 = .ok (.iload_n 1, 1) := by decide +kernel
theorem dX10_goBack_46 : decode cX10_goBack 46 = .ok (.iadd, 1) := by decide +kernel
theorem dX10_goBack_47 : decode cX10_goBack 47 = .ok (.iconst 0, 1) := by decide +kernel
theorem dX10_goBack_48 : decode cX10_goBack 48 = .ok (.invokevirtual 41, 3) := by decide +kernel
theorem dX10_goBack_51 : decode cX10_goBack 51 = .ok (.aload_n 0, 1) := by decide +kernel
theorem dX10_goBack_52 : decode cX10_goBack 52 = .ok (.getfield 7, 3) := by decide +kernel
theorem dX10_goBack_55 : decode cX10_goBack 55 = .ok (.sipush 171, 3) := by decide +kernel
theorem dX10_goBack_58 : decode cX10_goBack 58 = .ok (.iaload, 1) := by decide +kernel
theorem dX10_goBack_59 : decode cX10_goBack 59 = .ok (.ireturn, 1) := by decide +kernel
theorem dX10_undo_0 : decode cX10_undo 0 = .ok (.aload_n 0, 1) := by decide +kernel
theorem dX10_undo_1 : decode cX10_undo 1 = .ok (.aload_n 0, 1) := by decide +kernel
theorem dX10_undo_2 : decode cX10_undo 2 = .ok (.getfield 38, 3) := by decide +kernel
theorem dX10_undo_5 : decode cX10_undo 5 = .ok (.ifCond .le 7, 3) := by decide +kernel
theorem dX10_undo_8 : decode cX10_undo 8 = .ok (.iconst 1, 1) := by decide +kernel
theorem dX10_undo_9 : decode cX10_undo 9 = .ok (.goto 4, 3) := by decide +kernel
theorem dX10_undo_12 : decode cX10_undo 12 = .ok (.iconst 0, 1) := by decide +kernel
theorem dX10_undo_13 : decode cX10_undo 13 = .ok (.iconst 1, 1) := by decide +kernel
theorem dX10_undo_14 : decode cX10_undo 14 = .ok (.invokevirtual 87, 3) := by decide +kernel
theorem dX10_undo_17 : decode cX10_undo 17 = .ok (.ifCond .ne 5, 3) := by decide +kernel
theorem dX10_undo_20 : decode cX10_undo 20 = .ok (.iconst 0, 1) := by decide +kernel
theorem dX10_undo_21 : decode cX10_undo 21 = .ok (.ireturn, 1) := by decide +kernel
theorem dX10_undo_22 : decode cX10_undo 22 = .ok (.aload_n 0, 1) := by decide +kernel
theorem dX10_undo_23 : decode cX10_undo 23 = .ok (.aload_n 0, 1) := by decide +kernel
theorem dX10_undo_24 : decode cX10_undo 24 = .ok (.getfield 38, 3) := by decide +kernel
theorem dX10_undo_27 : decode cX10_undo 27 = .ok (.iconst 0, 1) := by decide +kernel
theorem dX10_undo_28 : decode cX10_undo 28 = .ok (.invokevirtual 41, 3) := by decide +kernel
theorem dX10_undo_31 : decode cX10_undo 31 = .ok (.aload_n 0, 1) := by decide +kernel
theorem dX10_undo_32 : decode cX10_undo 32 = .ok (.dup, 1) := by decide +kernel
theorem dX10_undo_33 : decode cX10_undo 33 = .ok (.getfield 38, 3) := by decide +kernel
theorem dX10_undo_36 : decode cX10_undo 36 = .ok (.iconst 1, 1) := by decide +kernel
theorem dX10_undo_37 : decode cX10_undo 37 = .ok (.isub, 1) := by decide +kernel
theorem dX10_undo_38 : decode cX10_undo 38 = .ok (.putfield 38, 3) := by decide +kernel
theorem dX10_undo_41 : decode cX10_undo 41 = .ok (.aload_n 0, 1) := by decide +kernel
theorem dX10_undo_42 : decode cX10_undo 42 = .ok (.getfield 38, 3) := by decide +kernel
theorem dX10_undo_45 : decode cX10_undo 45 = .ok (.ireturn, 1) := by decide +kernel
theorem dX10_roadOf_0 : decode cX10_roadOf 0 = .ok (.aload_n 0, 1) := by decide +kernel
theorem dX10_roadOf_1 : decode cX10_roadOf 1 = .ok (.iload_n 1, 1) := by decide +kernel
theorem dX10_roadOf_2 : decode cX10_roadOf 2 = .ok (.invokestatic 83, 3) := by decide +kernel
theorem dX10_roadOf_5 : decode cX10_roadOf 5 = .ok (.ifCond .eq 14, 3) := by decide +kernel
theorem dX10_roadOf_8 : decode cX10_roadOf 8 = .ok (.iload_n 2, 1) := by decide +kernel
theorem dX10_roadOf_9 : decode cX10_roadOf 9 = .ok (.invokestatic 83, 3) := by decide +kernel
theorem dX10_roadOf_12 : decode cX10_roadOf 12 = .ok (.ifCond .eq 7, 3) := by decide +kernel
theorem dX10_roadOf_15 : decode cX10_roadOf 15 = .ok (.iconst 1, 1) := by decide +kernel
theorem dX10_roadOf_16 : decode cX10_roadOf 16 = .ok (.goto 4, 3) := by decide +kernel
theorem dX10_roadOf_19 : decode cX10_roadOf 19 = .ok (.iconst 0, 1) := by decide +kernel
theorem dX10_roadOf_20 : decode cX10_roadOf 20 = .ok (.iconst 1, 1) := by decide +kernel
theorem dX10_roadOf_21 : decode cX10_roadOf 21 = .ok (.invokevirtual 87, 3) := by decide +kernel
theorem dX10_roadOf_24 : decode cX10_roadOf 24 = .ok (.ifCond .eq 19, 3) := by decide +kernel
theorem dX10_roadOf_27 : decode cX10_roadOf 27 = .ok (.aload_n 0, 1) := by decide +kernel
theorem dX10_roadOf_28 : decode cX10_roadOf 28 = .ok (.getfield 7, 3) := by decide +kernel
theorem dX10_roadOf_31 : decode cX10_roadOf 31 = .ok (.iconst 2, 1) := by decide +kernel
theorem dX10_roadOf_32 : decode cX10_roadOf 32 = .ok (.bipush 8, 2) := by decide +kernel
theorem dX10_roadOf_34 : decode cX10_roadOf 34 = .ok (.iload_n 1, 1) := by decide +kernel
theorem dX10_roadOf_35 : decode cX10_roadOf 35 = .ok (.imul, 1) := by decide +kernel
theorem dX10_roadOf_36 : decode cX10_roadOf 36 = .ok (.iadd, 1) := by decide +kernel
theorem dX10_roadOf_37 : decode cX10_roadOf 37 = .ok (.iload_n 2, 1) := by decide +kernel
theorem dX10_roadOf_38 : decode cX10_roadOf 38 = .ok (.iadd, 1) := by decide +kernel
theorem dX10_roadOf_39 : decode cX10_roadOf 39 = .ok (.iaload, 1) := by decide +kernel
theorem dX10_roadOf_40 : decode cX10_roadOf 40 = .ok (.goto 4, 3) := by decide +kernel
theorem dX10_roadOf_43 : decode cX10_roadOf 43 = .ok (.iconst 0, 1) := by decide +kernel
theorem dX10_roadOf_44 : decode cX10_roadOf 44 = .ok (.ireturn, 1) := by decide +kernel
theorem dX10_distances_0 : decode cX10_distances 0 = .ok (.aload_n 0, 1) := by decide +kernel
theorem dX10_distances_1 : decode cX10_distances 1 = .ok (.iconst 0, 1) := by decide +kernel
theorem dX10_distances_2 : decode cX10_distances 2 = .ok (.invokevirtual 76, 3) := by decide +kernel
theorem dX10_distances_5 : decode cX10_distances 5 = .ok (.aload_n 0, 1) := by decide +kernel
theorem dX10_distances_6 : decode cX10_distances 6 = .ok (.getfield 21, 3) := by decide +kernel
theorem dX10_distances_9 : decode cX10_distances 9 = .ok (.bipush 8, 2) := by decide +kernel
theorem dX10_distances_11 : decode cX10_distances 11 = .ok (.iload_n 1, 1) := by decide +kernel
theorem dX10_distances_12 : decode cX10_distances 12 = .ok (.imul, 1) := by decide +kernel
theorem dX10_distances_13 : decode cX10_distances 13 = .ok (.iload_n 2, 1) := by decide +kernel
theorem dX10_distances_14 : decode cX10_distances 14 = .ok (.iadd, 1) := by decide +kernel
theorem dX10_distances_15 : decode cX10_distances 15 = .ok (.iaload, 1) := by decide +kernel
theorem dX10_distances_16 : decode cX10_distances 16 = .ok (.istore_n 3, 1) := by decide +kernel
theorem dX10_distances_17 : decode cX10_distances 17 = .ok (.iload_n 3, 1) := by decide +kernel
theorem dX10_distances_18 : decode cX10_distances 18 = .ok (.ldc 49, 2) := by decide +kernel
theorem dX10_distances_20 : decode cX10_distances 20 = .ok (.if_icmp .lt 7, 3) := by decide +kernel
theorem dX10_distances_23 : decode cX10_distances 23 = .ok (.iconst (-1), 1) := by decide +kernel
theorem dX10_distances_24 : decode cX10_distances 24 = .ok (.goto 4, 3) := by decide +kernel
theorem dX10_distances_27 : decode cX10_distances 27 = .ok (.iload_n 3, 1) := by decide +kernel
theorem dX10_distances_28 : decode cX10_distances 28 = .ok (.ireturn, 1) := by decide +kernel
theorem dX10_distance_0 : decode cX10_distance 0 = .ok (.aload_n 0, 1) := by decide +kernel
theorem dX10_distance_1 : decode cX10_distance 1 = .ok (.iload_n 1, 1) := by decide +kernel
theorem dX10_distance_2 : decode cX10_distance 2 = .ok (.invokestatic 83, 3) := by decide +kernel
theorem dX10_distance_5 : decode cX10_distance 5 = .ok (.ifCond .eq 14, 3) := by decide +kernel
theorem dX10_distance_8 : decode cX10_distance 8 = .ok (.iload_n 2, 1) := by decide +kernel
theorem dX10_distance_9 : decode cX10_distance 9 = .ok (.invokestatic 83, 3) := by decide +kernel
theorem dX10_distance_12 : decode cX10_distance 12 = .ok (.ifCond .eq 7, 3) := by decide +kernel
theorem dX10_distance_15 : decode cX10_distance 15 = .ok (.iconst 1, 1) := by decide +kernel
theorem dX10_distance_16 : decode cX10_distance 16 = .ok (.goto 4, 3) := by decide +kernel
theorem dX10_distance_19 : decode cX10_distance 19 = .ok (.iconst 0, 1) := by decide +kernel
theorem dX10_distance_20 : decode cX10_distance 20 = .ok (.iload_n 3, 1) := by decide +kernel
theorem dX10_distance_21 : decode cX10_distance 21 = .ok (.iconst 0, 1) := by decide +kernel
theorem dX10_distance_22 : decode cX10_distance 22 = .ok (.iconst 1, 1) := by decide +kernel
theorem dX10_distance_23 : decode cX10_distance 23 = .ok (.invokestatic 45, 3) := by decide +kernel
theorem dX10_distance_26 : decode cX10_distance 26 = .ok (.invokevirtual 87, 3) := by decide +kernel
theorem dX10_distance_29 : decode cX10_distance 29 = .ok (.ifCond .eq 12, 3) := by decide +kernel
theorem dX10_distance_32 : decode cX10_distance 32 = .ok (.aload_n 0, 1) := by decide +kernel
theorem dX10_distance_33 : decode cX10_distance 33 = .ok (.iload_n 1, 1) := by decide +kernel
theorem dX10_distance_34 : decode cX10_distance 34 = .ok (.iload_n 2, 1) := by decide +kernel
theorem dX10_distance_35 : decode cX10_distance 35 = .ok (.invokevirtual 154, 3) := by decide +kernel
theorem dX10_distance_38 : decode cX10_distance 38 = .ok (.goto 4, 3) := by decide +kernel
theorem dX10_distance_41 : decode cX10_distance 41 = .ok (.iconst 0, 1) := by decide +kernel
theorem dX10_distance_42 : decode cX10_distance 42 = .ok (.ireturn, 1) := by decide +kernel
theorem dX10_exitOf_0 : decode cX10_exitOf 0 = .ok (.aload_n 0, 1) := by decide +kernel
theorem dX10_exitOf_1 : decode cX10_exitOf 1 = .ok (.aload_n 0, 1) := by decide +kernel
theorem dX10_exitOf_2 : decode cX10_exitOf 2 = .ok (.iload_n 1, 1) := by decide +kernel
theorem dX10_exitOf_3 : decode cX10_exitOf 3 = .ok (.invokevirtual 94, 3) := by decide +kernel
theorem dX10_exitOf_6 : decode cX10_exitOf 6 = .ok (.iload_n 2, 1) := by decide +kernel
theorem dX10_exitOf_7 : decode cX10_exitOf 7 = .ok (.iconst 0, 1) := by decide +kernel
theorem dX10_exitOf_8 : decode cX10_exitOf 8 = .ok (.iconst 4, 1) := by decide +kernel
theorem dX10_exitOf_9 : decode cX10_exitOf 9 = .ok (.invokestatic 45, 3) := by decide +kernel
theorem dX10_exitOf_12 : decode cX10_exitOf 12 = .ok (.invokevirtual 87, 3) := by decide +kernel
theorem dX10_exitOf_15 : decode cX10_exitOf 15 = .ok (.ifCond .eq 18, 3) := by decide +kernel
theorem dX10_exitOf_18 : decode cX10_exitOf 18 = .ok (.aload_n 0, 1) := by decide +kernel
theorem dX10_exitOf_19 : decode cX10_exitOf 19 = .ok (.getfield 7, 3) := by decide +kernel
theorem dX10_exitOf_22 : decode cX10_exitOf 22 = .ok (.iconst 0, 1) := by decide +kernel
theorem dX10_exitOf_23 : decode cX10_exitOf 23 = .ok (.iload_n 1, 1) := by decide +kernel
theorem dX10_exitOf_24 : decode cX10_exitOf 24 = .ok (.invokestatic 50, 3) := by decide +kernel
theorem dX10_exitOf_27 : decode cX10_exitOf 27 = .ok (.iload_n 2, 1) := by decide +kernel
theorem dX10_exitOf_28 : decode cX10_exitOf 28 = .ok (.iadd, 1) := by decide +kernel
theorem dX10_exitOf_29 : decode cX10_exitOf 29 = .ok (.iaload, 1) := by decide +kernel
theorem dX10_exitOf_30 : decode cX10_exitOf 30 = .ok (.goto 4, 3) := by decide +kernel
theorem dX10_exitOf_33 : decode cX10_exitOf 33 = .ok (.iconst 0, 1) := by decide +kernel
theorem dX10_exitOf_34 : decode cX10_exitOf 34 = .ok (.ireturn, 1) := by decide +kernel
theorem dX10_neighbours_0 : decode cX10_neighbours 0 = .ok (.iload_n 2, 1) := by decide +kernel
theorem dX10_neighbours_1 : decode cX10_neighbours 1 = .ok (.iconst 4, 1) := by decide +kernel
theorem dX10_neighbours_2 : decode cX10_neighbours 2 = .ok (.if_icmp .ge 19, 3) := by decide +kernel
theorem dX10_neighbours_5 : decode cX10_neighbours 5 = .ok (.aload_n 0, 1) := by decide +kernel
theorem dX10_neighbours_6 : decode cX10_neighbours 6 = .ok (.getfield 7, 3) := by decide +kernel
theorem dX10_neighbours_9 : decode cX10_neighbours 9 = .ok (.bipush 107, 2) := by decide +kernel
theorem dX10_neighbours_11 : decode cX10_neighbours 11 = .ok (.iconst 4, 1) := by decide +kernel
theorem dX10_neighbours_12 : decode cX10_neighbours 12 = .ok (.iload_n 1, 1) := by decide +kernel
theorem dX10_neighbours_13 : decode cX10_neighbours 13 = .ok (.imul, 1) := by decide +kernel
theorem dX10_neighbours_14 : decode cX10_neighbours 14 = .ok (.iadd, 1) := by decide +kernel
theorem dX10_neighbours_15 : decode cX10_neighbours 15 = .ok (.iload_n 2, 1) := by decide +kernel
theorem dX10_neighbours_16 : decode cX10_neighbours 16 = .ok (.iadd, 1) := by decide +kernel
theorem dX10_neighbours_17 : decode cX10_neighbours 17 = .ok (.iaload, 1) := by decide +kernel
theorem dX10_neighbours_18 : decode cX10_neighbours 18 = .ok (.goto 18, 3) := by decide +kernel
theorem dX10_neighbours_21 : decode cX10_neighbours 21 = .ok (.aload_n 0, 1) := by decide +kernel
theorem dX10_neighbours_22 : decode cX10_neighbours 22 = .ok (.getfield 7, 3) := by decide +kernel
theorem dX10_neighbours_25 : decode cX10_neighbours 25 = .ok (.bipush 123, 2) := by decide +kernel
theorem dX10_neighbours_27 : decode cX10_neighbours 27 = .ok (.iconst 4, 1) := by decide +kernel
theorem dX10_neighbours_28 : decode cX10_neighbours 28 = .ok (.iload_n 2, 1) := by decide +kernel
theorem dX10_neighbours_29 : decode cX10_neighbours 29 = .ok (.iconst 4, 1) := by decide +kernel
theorem dX10_neighbours_30 : decode cX10_neighbours 30 = .ok (.isub, 1) := by decide +kernel
theorem dX10_neighbours_31 : decode cX10_neighbours 31 = .ok (.imul, 1) := by decide +kernel
theorem dX10_neighbours_32 : decode cX10_neighbours 32 = .ok (.iadd, 1) := by decide +kernel
theorem dX10_neighbours_33 : decode cX10_neighbours 33 = .ok (.iload_n 1, 1) := by decide +kernel
theorem dX10_neighbours_34 : decode cX10_neighbours 34 = .ok (.iadd, 1) := by decide +kernel
theorem dX10_neighbours_35 : decode cX10_neighbours 35 = .ok (.iaload, 1) := by decide +kernel
theorem dX10_neighbours_36 : decode cX10_neighbours 36 = .ok (.ireturn, 1) := by decide +kernel
theorem dX10_neighbourOf_0 : decode cX10_neighbourOf 0 = .ok (.aload_n 0, 1) := by decide +kernel
theorem dX10_neighbourOf_1 : decode cX10_neighbourOf 1 = .ok (.iload_n 1, 1) := by decide +kernel
theorem dX10_neighbourOf_2 : decode cX10_neighbourOf 2 = .ok (.iconst 0, 1) := by decide +kernel
theorem dX10_neighbourOf_3 : decode cX10_neighbourOf 3 = .ok (.iconst 3, 1) := by decide +kernel
theorem dX10_neighbourOf_4 : decode cX10_neighbourOf 4 = .ok (.invokestatic 45, 3) := by decide +kernel
theorem dX10_neighbourOf_7 : decode cX10_neighbourOf 7 = .ok (.iload_n 2, 1) := by decide +kernel
theorem dX10_neighbourOf_8 : decode cX10_neighbourOf 8 = .ok (.iconst 0, 1) := by decide +kernel
theorem dX10_neighbourOf_9 : decode cX10_neighbourOf 9 = .ok (.bipush 7, 2) := by decide +kernel
theorem dX10_neighbourOf_11 : decode cX10_neighbourOf 11 = .ok (.invokestatic 45, 3) := by decide +kernel
theorem dX10_neighbourOf_14 : decode cX10_neighbourOf 14 = .ok (.invokevirtual 87, 3) := by decide +kernel
theorem dX10_neighbourOf_17 : decode cX10_neighbourOf 17 = .ok (.ifCond .eq 12, 3) := by decide +kernel
theorem dX10_neighbourOf_20 : decode cX10_neighbourOf 20 = .ok (.aload_n 0, 1) := by decide +kernel
theorem dX10_neighbourOf_21 : decode cX10_neighbourOf 21 = .ok (.iload_n 1, 1) := by decide +kernel
theorem dX10_neighbourOf_22 : decode cX10_neighbourOf 22 = .ok (.iload_n 2, 1) := by decide +kernel
theorem dX10_neighbourOf_23 : decode cX10_neighbourOf 23 = .ok (.invokevirtual 157, 3) := by decide +kernel
theorem dX10_neighbourOf_26 : decode cX10_neighbourOf 26 = .ok (.goto 4, 3) := by decide +kernel
theorem dX10_neighbourOf_29 : decode cX10_neighbourOf 29 = .ok (.iconst 0, 1) := by decide +kernel
