theorem dX10_neighbourOf_30 : decode cX10_neighbourOf 30 = .ok (.ireturn, 1) := by decide +kernel
theorem dX10_next_0 : decode cX10_next 0 = .ok (.aload_n 0, 1) := by decide +kernel
theorem dX10_next_1 : decode cX10_next 1 = .ok (.getfield 7, 3) := by decide +kernel
theorem dX10_next_4 : decode cX10_next 4 = .ok (.iconst 0, 1) := by decide +kernel
theorem dX10_next_5 : decode cX10_next 5 = .ok (.iload_n 2, 1) := by decide +kernel
theorem dX10_next_6 : decode cX10_next 6 = .ok (.invokestatic 50, 3) := by decide +kernel
theorem dX10_next_9 : decode cX10_next 9 = .ok (.iaload, 1) := by decide +kernel
theorem dX10_next_10 : decode cX10_next 10 = .ok (.istore_n 3, 1) := by decide +kernel
theorem dX10_next_11 : decode cX10_next 11 = .ok (.iload_n 1, 1) := by decide +kernel
theorem dX10_next_12 : decode cX10_next 12 = .ok (.istore 4, 2) := by decide +kernel
theorem dX10_next_14 : decode cX10_next 14 = .ok (.bipush 7, 2) := by decide +kernel
theorem dX10_next_16 : decode cX10_next 16 = .ok (.istore 5, 2) := by decide +kernel
theorem dX10_next_18 : decode cX10_next 18 = .ok (.iload 5, 2) := by decide +kernel
theorem dX10_next_20 : decode cX10_next 20 = .ok (.ifCond .lt 73, 3) := by decide +kernel
theorem dX10_next_23 : decode cX10_next 23 = .ok (.iload_n 1, 1) := by decide +kernel
theorem dX10_next_24 : decode cX10_next 24 = .ok (.iload_n 3, 1) := by decide +kernel
theorem dX10_next_25 : decode cX10_next 25 = .ok (.if_icmp .eq 68, 3) := by decide +kernel
theorem dX10_next_28 : decode cX10_next 28 = .ok (.aload_n 0, 1) := by decide +kernel
theorem dX10_next_29 : decode cX10_next 29 = .ok (.getfield 7, 3) := by decide +kernel
theorem dX10_next_32 : decode cX10_next 32 = .ok (.iconst 2, 1) := by decide +kernel
theorem dX10_next_33 : decode cX10_next 33 = .ok (.bipush 8, 2) := by decide +kernel
theorem dX10_next_35 : decode cX10_next 35 = .ok (.iload_n 1, 1) := by decide +kernel
theorem dX10_next_36 : decode cX10_next 36 = .ok (.imul, 1) := by decide +kernel
theorem dX10_next_37 : decode cX10_next 37 = .ok (.iadd, 1) := by decide +kernel
theorem dX10_next_38 : decode cX10_next 38 = .ok (.iload 5, 2) := by decide +kernel
theorem dX10_next_40 : decode cX10_next 40 = .ok (.iadd, 1) := by decide +kernel
theorem dX10_next_41 : decode cX10_next 41 = .ok (.iaload, 1) := by decide +kernel
theorem dX10_next_42 : decode cX10_next 42 = .ok (.istore 6, 2) := by decide +kernel
theorem dX10_next_44 : decode cX10_next 44 = .ok (.iload 6, 2) := by decide +kernel
theorem dX10_next_46 : decode cX10_next 46 = .ok (.ifCond .le 37, 3) := by decide +kernel
theorem dX10_next_49 : decode cX10_next 49 = .ok (.iload 6, 2) := by decide +kernel
theorem dX10_next_51 : decode cX10_next 51 = .ok (.aload_n 0, 1) := by decide +kernel
theorem dX10_next_52 : decode cX10_next 52 = .ok (.getfield 21, 3) := by decide +kernel
theorem dX10_next_55 : decode cX10_next 55 = .ok (.bipush 8, 2) := by decide +kernel
theorem dX10_next_57 : decode cX10_next 57 = .ok (.iload 5, 2) := by decide +kernel
theorem dX10_next_59 : decode cX10_next 59 = .ok (.imul, 1) := by decide +kernel
theorem dX10_next_60 : decode cX10_next 60 = .ok (.iload_n 3, 1) := by decide +kernel
theorem dX10_next_61 : decode cX10_next 61 = .ok (.iadd, 1) := by decide +kernel
theorem dX10_next_62 : decode cX10_next 62 = .ok (.iaload, 1) := by decide +kernel
theorem dX10_next_63 : decode cX10_next 63 = .ok (.iadd, 1) := by decide +kernel
theorem dX10_next_64 : decode cX10_next 64 = .ok (.aload_n 0, 1) := by decide +kernel
theorem dX10_next_65 : decode cX10_next 65 = .ok (.getfield 21, 3) := by decide +kernel
theorem dX10_next_68 : decode cX10_next 68 = .ok (.bipush 8, 2) := by decide +kernel
theorem dX10_next_70 : decode cX10_next 70 = .ok (.iload_n 1, 1) := by decide +kernel
theorem dX10_next_71 : decode cX10_next 71 = .ok (.imul, 1) := by decide +kernel
theorem dX10_next_72 : decode cX10_next 72 = .ok (.iload_n 3, 1) := by decide +kernel
theorem dX10_next_73 : decode cX10_next 73 = .ok (.iadd, 1) := by decide +kernel
theorem dX10_next_74 : decode cX10_next 74 = .ok (.iaload, 1) := by decide +kernel
theorem dX10_next_75 : decode cX10_next 75 = .ok (.if_icmp .ne 8, 3) := by decide +kernel
theorem dX10_next_78 : decode cX10_next 78 = .ok (.iload 5, 2) := by decide +kernel
theorem dX10_next_80 : decode cX10_next 80 = .ok (.goto 5, 3) := by decide +kernel
theorem dX10_next_83 : decode cX10_next 83 = .ok (.iload 4, 2) := by decide +kernel
theorem dX10_next_85 : decode cX10_next 85 = .ok (.istore 4, 2) := by decide +kernel
theorem dX10_next_87 : decode cX10_next 87 = .ok (.iinc 5 (-1), 3) := by decide +kernel
theorem dX10_next_90 : decode cX10_next 90 = .ok (.goto (-72), 3) := by decide +kernel
theorem dX10_next_93 : decode cX10_next 93 = .ok (.iload 4, 2) := by decide +kernel
theorem dX10_next_95 : decode cX10_next 95 = .ok (.ireturn, 1) := by decide +kernel
theorem dX10_choices_0 : decode cX10_choices 0 = .ok (.aload_n 0, 1) := by decide +kernel
theorem dX10_choices_1 : decode cX10_choices 1 = .ok (.iconst 0, 1) := by decide +kernel
theorem dX10_choices_2 : decode cX10_choices 2 = .ok (.invokevirtual 76, 3) := by decide +kernel
theorem dX10_choices_5 : decode cX10_choices 5 = .ok (.aload_n 0, 1) := by decide +kernel
theorem dX10_choices_6 : decode cX10_choices 6 = .ok (.iconst 0, 1) := by decide +kernel
theorem dX10_choices_7 : decode cX10_choices 7 = .ok (.iload_n 1, 1) := by decide +kernel
theorem dX10_choices_8 : decode cX10_choices 8 = .ok (.iload_n 2, 1) := by decide +kernel
theorem dX10_choices_9 : decode cX10_choices 9 = .ok (.invokevirtual 80, 3) := by decide +kernel
theorem dX10_choices_12 : decode cX10_choices 12 = .ok (.istore 4, 2) := by decide +kernel
theorem dX10_choices_14 : decode cX10_choices 14 = .ok (.iload_n 3, 1) := by decide +kernel
theorem dX10_choices_15 : decode cX10_choices 15 = .ok (.tableswitch 87 0 4 #[33, 36, 54, 63, 72], 33) := by decide +kernel
theorem dX10_choices_48 : decode cX10_choices 48 = .ok (.iload 4, 2) := by decide +kernel
theorem dX10_choices_50 : decode cX10_choices 50 = .ok (.ireturn, 1) := by decide +kernel
theorem dX10_choices_51 : decode cX10_choices 51 = .ok (.iload 4, 2) := by decide +kernel
theorem dX10_choices_53 : decode cX10_choices 53 = .ok (.ifCond .ge 7, 3) := by decide +kernel
theorem dX10_choices_56 : decode cX10_choices 56 = .ok (.iconst (-1), 1) := by decide +kernel
theorem dX10_choices_57 : decode cX10_choices 57 = .ok (.goto 11, 3) := by decide +kernel
theorem dX10_choices_60 : decode cX10_choices 60 = .ok (.aload_n 0, 1) := by decide +kernel
theorem dX10_choices_61 : decode cX10_choices 61 = .ok (.iconst 0, 1) := by decide +kernel
theorem dX10_choices_62 : decode cX10_choices 62 = .ok (.iload_n 1, 1) := by decide +kernel
theorem dX10_choices_63 : decode cX10_choices 63 = .ok (.iload 4, 2) := by decide +kernel
theorem dX10_choices_65 : decode cX10_choices 65 = .ok (.invokevirtual 58, 3) := by decide +kernel
theorem dX10_choices_68 : decode cX10_choices 68 = .ok (.ireturn, 1) := by decide +kernel
theorem dX10_choices_69 : decode cX10_choices 69 = .ok (.aload_n 0, 1) := by decide +kernel
theorem dX10_choices_70 : decode cX10_choices 70 = .ok (.iconst 0, 1) := by decide +kernel
theorem dX10_choices_71 : decode cX10_choices 71 = .ok (.iload_n 1, 1) := by decide +kernel
theorem dX10_choices_72 : decode cX10_choices 72 = .ok (.iload_n 2, 1) := by decide +kernel
theorem dX10_choices_73 : decode cX10_choices 73 = .ok (.iconst 3, 1) := by decide +kernel
theorem dX10_choices_74 : decode cX10_choices 74 = .ok (.invokevirtual 73, 3) := by decide +kernel
theorem dX10_choices_77 : decode cX10_choices 77 = .ok (.ireturn, 1) := by decide +kernel
theorem dX10_choices_78 : decode cX10_choices 78 = .ok (.aload_n 0, 1) := by decide +kernel
theorem dX10_choices_79 : decode cX10_choices 79 = .ok (.iconst 0, 1) := by decide +kernel
theorem dX10_choices_80 : decode cX10_choices 80 = .ok (.iload_n 1, 1) := by decide +kernel
theorem dX10_choices_81 : decode cX10_choices 81 = .ok (.iload_n 2, 1) := by decide +kernel
theorem dX10_choices_82 : decode cX10_choices 82 = .ok (.iconst 1, 1) := by decide +kernel
theorem dX10_choices_83 : decode cX10_choices 83 = .ok (.invokevirtual 73, 3) := by decide +kernel
theorem dX10_choices_86 : decode cX10_choices 86 = .ok (.ireturn, 1) := by decide +kernel
theorem dX10_choices_87 : decode cX10_choices 87 = .ok (.aload_n 0, 1) := by decide +kernel
theorem dX10_choices_88 : decode cX10_choices 88 = .ok (.getfield 7, 3) := by decide +kernel
theorem dX10_choices_91 : decode cX10_choices 91 = .ok (.sipush 139, 3) := by decide +kernel
theorem dX10_choices_94 : decode cX10_choices 94 = .ok (.iconst 4, 1) := by decide +kernel
theorem dX10_choices_95 : decode cX10_choices 95 = .ok (.iload_n 1, 1) := by decide +kernel
theorem dX10_choices_96 : decode cX10_choices 96 = .ok (.imul, 1) := by decide +kernel
theorem dX10_choices_97 : decode cX10_choices 97 = .ok (.iadd, 1) := by decide +kernel
theorem dX10_choices_98 : decode cX10_choices 98 = .ok (.iload_n 2, 1) := by decide +kernel
theorem dX10_choices_99 : decode cX10_choices 99 = .ok (.iadd, 1) := by decide +kernel
theorem dX10_choices_100 : decode cX10_choices 100 = .ok (.iaload, 1) := by decide +kernel
theorem dX10_choices_101 : decode cX10_choices 101 = .ok (.ireturn, 1) := by decide +kernel
theorem dX10_choices_102 : decode cX10_choices 102 = .ok (.iload 4, 2) := by decide +kernel
theorem dX10_choices_104 : decode cX10_choices 104 = .ok (.ifCond .ge 7, 3) := by decide +kernel
theorem dX10_choices_107 : decode cX10_choices 107 = .ok (.iconst (-1), 1) := by decide +kernel
theorem dX10_choices_108 : decode cX10_choices 108 = .ok (.goto 10, 3) := by decide +kernel
theorem dX10_choices_111 : decode cX10_choices 111 = .ok (.aload_n 0, 1) := by decide +kernel
theorem dX10_choices_112 : decode cX10_choices 112 = .ok (.iload_n 1, 1) := by decide +kernel
theorem dX10_choices_113 : decode cX10_choices 113 = .ok (.iload 4, 2) := by decide +kernel
theorem dX10_choices_115 : decode cX10_choices 115 = .ok (.invokevirtual 160, 3) := by decide +kernel
theorem dX10_choices_118 : decode cX10_choices 118 = .ok (.ireturn, 1) := by decide +kernel
theorem dX10_choice_0 : decode cX10_choice 0 = .ok (.aload_n 0, 1) := by decide +kernel
theorem dX10_choice_1 : decode cX10_choice 1 = .ok (.iload_n 1, 1) := by decide +kernel
theorem dX10_choice_2 : decode cX10_choice 2 = .ok (.invokestatic 83, 3) := by decide +kernel
theorem dX10_choice_5 : decode cX10_choice 5 = .ok (.ifCond .eq 14, 3) := by decide +kernel
theorem dX10_choice_8 : decode cX10_choice 8 = .ok (.iload_n 2, 1) := by decide +kernel
theorem dX10_choice_9 : decode cX10_choice 9 = .ok (.invokestatic 101, 3) := by decide +kernel
theorem dX10_choice_12 : decode cX10_choice 12 = .ok (.ifCond .eq 7, 3) := by decide +kernel
theorem dX10_choice_15 : decode cX10_choice 15 = .ok (.iconst 1, 1) := by decide +kernel
theorem dX10_choice_16 : decode cX10_choice 16 = .ok (.goto 4, 3) := by decide +kernel
theorem dX10_choice_19 : decode cX10_choice 19 = .ok (.iconst 0, 1) := by decide +kernel
theorem dX10_choice_20 : decode cX10_choice 20 = .ok (.iload_n 3, 1) := by decide +kernel
theorem dX10_choice_21 : decode cX10_choice 21 = .ok (.iconst 0, 1) := by decide +kernel
theorem dX10_choice_22 : decode cX10_choice 22 = .ok (.iconst 5, 1) := by decide +kernel
theorem dX10_choice_23 : decode cX10_choice 23 = .ok (.invokestatic 45, 3) := by decide +kernel
theorem dX10_choice_26 : decode cX10_choice 26 = .ok (.invokevirtual 87, 3) := by decide +kernel
theorem dX10_choice_29 : decode cX10_choice 29 = .ok (.ifCond .eq 13, 3) := by decide +kernel
theorem dX10_choice_32 : decode cX10_choice 32 = .ok (.aload_n 0, 1) := by decide +kernel
theorem dX10_choice_33 : decode cX10_choice 33 = .ok (.iload_n 1, 1) := by decide +kernel
theorem dX10_choice_34 : decode cX10_choice 34 = .ok (.iload_n 2, 1) := by decide +kernel
theorem dX10_choice_35 : decode cX10_choice 35 = .ok (.iload_n 3, 1) := by decide +kernel
theorem dX10_choice_36 : decode cX10_choice 36 = .ok (.invokevirtual 163, 3) := by decide +kernel
theorem dX10_choice_39 : decode cX10_choice 39 = .ok (.goto 4, 3) := by decide +kernel
theorem dX10_choice_42 : decode cX10_choice 42 = .ok (.iconst 0, 1) := by decide +kernel
theorem dX10_choice_43 : decode cX10_choice 43 = .ok (.ireturn, 1) := by decide +kernel
theorem dX10_reason_0 : decode cX10_reason 0 = .ok (.aload_n 0, 1) := by decide +kernel
theorem dX10_reason_1 : decode cX10_reason 1 = .ok (.iconst 0, 1) := by decide +kernel
theorem dX10_reason_2 : decode cX10_reason 2 = .ok (.invokevirtual 76, 3) := by decide +kernel
theorem dX10_reason_5 : decode cX10_reason 5 = .ok (.aload_n 0, 1) := by decide +kernel
theorem dX10_reason_6 : decode cX10_reason 6 = .ok (.iconst 0, 1) := by decide +kernel
theorem dX10_reason_7 : decode cX10_reason 7 = .ok (.iload_n 1, 1) := by decide +kernel
theorem dX10_reason_8 : decode cX10_reason 8 = .ok (.iload_n 2, 1) := by decide +kernel
theorem dX10_reason_9 : decode cX10_reason 9 = .ok (.invokevirtual 80, 3) := by decide +kernel
theorem dX10_reason_12 : decode cX10_reason 12 = .ok (.iload_n 3, 1) := by decide +kernel
theorem dX10_reason_13 : decode cX10_reason 13 = .ok (.if_icmp .ne 5, 3) := by decide +kernel
theorem dX10_reason_16 : decode cX10_reason 16 = .ok (.iconst 0, 1) := by decide +kernel
theorem dX10_reason_17 : decode cX10_reason 17 = .ok (.ireturn, 1) := by decide +kernel
theorem dX10_reason_18 : decode cX10_reason 18 = .ok (.aload_n 0, 1) := by decide +kernel
theorem dX10_reason_19 : decode cX10_reason 19 = .ok (.iconst 0, 1) := by decide +kernel
theorem dX10_reason_20 : decode cX10_reason 20 = .ok (.iload_n 1, 1) := by decide +kernel
theorem dX10_reason_21 : decode cX10_reason 21 = .ok (.iload_n 2, 1) := by decide +kernel
theorem dX10_reason_22 : decode cX10_reason 22 = .ok (.iload_n 3, 1) := by decide +kernel
theorem dX10_reason_23 : decode cX10_reason 23 = .ok (.invokevirtual 69, 3) := by decide +kernel
theorem dX10_reason_26 : decode cX10_reason 26 = .ok (.istore 4, 2) := by decide +kernel
theorem dX10_reason_28 : decode cX10_reason 28 = .ok (.aload_n 0, 1) := by decide +kernel
theorem dX10_reason_29 : decode cX10_reason 29 = .ok (.getfield 7, 3) := by decide +kernel
theorem dX10_reason_32 : decode cX10_reason 32 = .ok (.iconst 0, 1) := by decide +kernel
theorem dX10_reason_33 : decode cX10_reason 33 = .ok (.iload_n 3, 1) := by decide +kernel
theorem dX10_reason_34 : decode cX10_reason 34 = .ok (.invokestatic 50, 3) := by decide +kernel
theorem dX10_reason_37 : decode cX10_reason 37 = .ok (.iconst 2, 1) := by decide +kernel
theorem dX10_reason_38 : decode cX10_reason 38 = .ok (.iadd, 1) := by decide +kernel
theorem dX10_reason_39 : decode cX10_reason 39 = .ok (.iaload, 1) := by decide +kernel
theorem dX10_reason_40 : decode cX10_reason 40 = .ok (.ifCond .ne 7, 3) := by decide +kernel
theorem dX10_reason_43 : decode cX10_reason 43 = .ok (.iconst 1, 1) := by decide +kernel
theorem dX10_reason_44 : decode cX10_reason 44 = .ok (.goto 30, 3) := by decide +kernel
theorem dX10_reason_47 : decode cX10_reason 47 = .ok (.aload_n 0, 1) := by decide +kernel
theorem dX10_reason_48 : decode cX10_reason 48 = .ok (.iconst 0, 1) := by decide +kernel
theorem dX10_reason_49 : decode cX10_reason 49 = .ok (.iload_n 3, 1) := by decide +kernel
theorem dX10_reason_50 : decode cX10_reason 50 = .ok (.iload_n 2, 1) := by decide +kernel
theorem dX10_reason_51 : decode cX10_reason 51 = .ok (.invokevirtual 54, 3) := by decide +kernel
theorem dX10_reason_54 : decode cX10_reason 54 = .ok (.ifCond .ne 7, 3) := by decide +kernel
theorem dX10_reason_57 : decode cX10_reason 57 = .ok (.iconst 2, 1) := by decide +kernel
theorem dX10_reason_58 : decode cX10_reason 58 = .ok (.goto 16, 3) := by decide +kernel
theorem dX10_reason_61 : decode cX10_reason 61 = .ok (.iload 4, 2) := by decide +kernel
theorem dX10_reason_63 : decode cX10_reason 63 = .ok (.ifCond .ne 7, 3) := by decide +kernel
theorem dX10_reason_66 : decode cX10_reason 66 = .ok (.iconst 3, 1) := by decide +kernel
theorem dX10_reason_67 : decode cX10_reason 67 = .ok (.goto 7, 3) := by decide +kernel
theorem dX10_reason_70 : decode cX10_reason 70 = .ok (.iconst 3, 1) := by decide +kernel
theorem dX10_reason_71 : decode cX10_reason 71 = .ok (.iload 4, 2) := by decide +kernel
theorem dX10_reason_73 : decode cX10_reason 73 = .ok (.iadd, 1) := by decide +kernel
theorem dX10_reason_74 : decode cX10_reason 74 = .ok (.ireturn, 1) := by decide +kernel
theorem dX10_why_0 : decode cX10_why 0 = .ok (.aload_n 0, 1) := by decide +kernel
theorem dX10_why_1 : decode cX10_why 1 = .ok (.iload_n 1, 1) := by decide +kernel
theorem dX10_why_2 : decode cX10_why 2 = .ok (.invokestatic 83, 3) := by decide +kernel
theorem dX10_why_5 : decode cX10_why 5 = .ok (.ifCond .eq 22, 3) := by decide +kernel
theorem dX10_why_8 : decode cX10_why 8 = .ok (.iload_n 2, 1) := by decide +kernel
theorem dX10_why_9 : decode cX10_why 9 = .ok (.invokestatic 101, 3) := by decide +kernel
theorem dX10_why_12 : decode cX10_why 12 = .ok (.ifCond .eq 15, 3) := by decide +kernel
theorem dX10_why_15 : decode cX10_why 15 = .ok (.aload_n 0, 1) := by decide +kernel
theorem dX10_why_16 : decode cX10_why 16 = .ok (.iload_n 3, 1) := by decide +kernel
theorem dX10_why_17 : decode cX10_why 17 = .ok (.invokevirtual 94, 3) := by decide +kernel
theorem dX10_why_20 : decode cX10_why 20 = .ok (.ifCond .eq 7, 3) := by decide +kernel
theorem dX10_why_23 : decode cX10_why 23 = .ok (.iconst 1, 1) := by decide +kernel
theorem dX10_why_24 : decode cX10_why 24 = .ok (.goto 4, 3) := by decide +kernel
theorem dX10_why_27 : decode cX10_why 27 = .ok (.iconst 0, 1) := by decide +kernel
theorem dX10_why_28 : decode cX10_why 28 = .ok (.iconst 1, 1) := by decide +kernel
theorem dX10_why_29 : decode cX10_why 29 = .ok (.invokevirtual 87, 3) := by decide +kernel
theorem dX10_why_32 : decode cX10_why 32 = .ok (.ifCond .eq 13, 3) := by decide +kernel
theorem dX10_why_35 : decode cX10_why 35 = .ok (.aload_n 0, 1) := by decide +kernel
theorem dX10_why_36 : decode cX10_why 36 = .ok (.iload_n 1, 1) := by decide +kernel
theorem dX10_why_37 : decode cX10_why 37 = .ok (.iload_n 2, 1) := by decide +kernel
theorem dX10_why_38 : decode cX10_why 38 = .ok (.iload_n 3, 1) := by decide +kernel
theorem dX10_why_39 : decode cX10_why 39 = .ok (.invokevirtual 166, 3) := by decide +kernel
theorem dX10_why_42 : decode cX10_why 42 = .ok (.goto 4, 3) := by decide +kernel
theorem dX10_why_45 : decode cX10_why 45 = .ok (.iconst 0, 1) := by decide +kernel
theorem dX10_why_46 : decode cX10_why 46 = .ok (.ireturn, 1) := by decide +kernel
theorem dX10_above_0 : decode cX10_above 0 = .ok (.iconst 0, 1) := by decide +kernel
theorem dX10_above_1 : decode cX10_above 1 = .ok (.istore_n 3, 1) := by decide +kernel
theorem dX10_above_2 : decode cX10_above 2 = .ok (.iconst 0, 1) := by decide +kernel
theorem dX10_above_3 : decode cX10_above 3 = .ok (.istore 4, 2) := by decide +kernel
theorem dX10_above_5 : decode cX10_above 5 = .ok (.iload 4, 2) := by decide +kernel
theorem dX10_above_7 : decode cX10_above 7 = .ok (.iload_n 2, 1) := by decide +kernel
theorem dX10_above_8 : decode cX10_above 8 = .ok (.if_icmp .ge 29, 3) := by decide +kernel
theorem dX10_above_11 : decode cX10_above 11 = .ok (.iload_n 3, 1) := by decide +kernel
theorem dX10_above_12 : decode cX10_above 12 = .ok (.aload_n 0, 1) := by decide +kernel
theorem dX10_above_13 : decode cX10_above 13 = .ok (.getfield 7, 3) := by decide +kernel
theorem dX10_above_16 : decode cX10_above 16 = .ok (.iload_n 1, 1) := by decide +kernel
theorem dX10_above_17 : decode cX10_above 17 = .ok (.iload 4, 2) := by decide +kernel
theorem dX10_above_19 : decode cX10_above 19 = .ok (.iadd, 1) := by decide +kernel
theorem dX10_above_20 : decode cX10_above 20 = .ok (.iaload, 1) := by decide +kernel
theorem dX10_above_21 : decode cX10_above 21 = .ok (.ifCond .le 7, 3) := by decide +kernel
theorem dX10_above_24 : decode cX10_above 24 = .ok (.iconst 1, 1) := by decide +kernel
theorem dX10_above_25 : decode cX10_above 25 = .ok (.goto 4, 3) := by decide +kernel
theorem dX10_above_28 : decode cX10_above 28 = .ok (.iconst 0, 1) := by decide +kernel
theorem dX10_above_29 : decode cX10_above 29 = .ok (.iadd, 1) := by decide +kernel
theorem dX10_above_30 : decode cX10_above 30 = .ok (.istore_n 3, 1) := by decide +kernel
theorem dX10_above_31 : decode cX10_above 31 = .ok (.iinc 4 1, 3) := by decide +kernel
theorem dX10_above_34 : decode cX10_above 34 = .ok (.goto (-29), 3) := by decide +kernel
theorem dX10_above_37 : decode cX10_above 37 = .ok (.iload_n 3, 1) := by decide +kernel
theorem dX10_above_38 : decode cX10_above 38 = .ok (.ireturn, 1) := by decide +kernel
theorem dX10_open_0 : decode cX10_open 0 = .ok (.iconst 0, 1) := by decide +kernel
theorem dX10_open_1 : decode cX10_open 1 = .ok (.istore_n 1, 1) := by decide +kernel
theorem dX10_open_2 : decode cX10_open 2 = .ok (.iconst 0, 1) := by decide +kernel
theorem dX10_open_3 : decode cX10_open 3 = .ok (.istore_n 2, 1) := by decide +kernel
theorem dX10_open_4 : decode cX10_open 4 = .ok (.iload_n 2, 1) := by decide +kernel
theorem dX10_open_5 : decode cX10_open 5 = .ok (.aload_n 0, 1) := by decide +kernel
theorem dX10_open_6 : decode cX10_open 6 = .ok (.getfield 7, 3) := by decide +kernel
theorem dX10_open_9 : decode cX10_open 9 = .ok (.bipush 66, 2) := by decide +kernel
theorem dX10_open_11 : decode cX10_open 11 = .ok (.iaload, 1) := by decide +kernel
theorem dX10_open_12 : decode cX10_open 12 = .ok (.if_icmp .ge 24, 3) := by decide +kernel
theorem dX10_open_15 : decode cX10_open 15 = .ok (.iload_n 1, 1) := by decide +kernel
theorem dX10_open_16 : decode cX10_open 16 = .ok (.aload_n 0, 1) := by decide +kernel
theorem dX10_open_17 : decode cX10_open 17 = .ok (.getfield 7, 3) := by decide +kernel
theorem dX10_open_20 : decode cX10_open 20 = .ok (.iconst 0, 1) := by decide +kernel
theorem dX10_open_21 : decode cX10_open 21 = .ok (.iload_n 2, 1) := by decide +kernel
theorem dX10_open_22 : decode cX10_open 22 = .ok (.invokestatic 50, 3) := by decide +kernel
theorem dX10_open_25 : decode cX10_open 25 = .ok (.iconst 2, 1) := by decide +kernel
theorem dX10_open_26 : decode cX10_open 26 = .ok (.iadd, 1) := by decide +kernel
theorem dX10_open_27 : decode cX10_open 27 = .ok (.iaload, 1) := by decide +kernel
theorem dX10_open_28 : decode cX10_open 28 = .ok (.iadd, 1) := by decide +kernel
theorem dX10_open_29 : decode cX10_open 29 = .ok (.istore_n 1, 1) := by decide +kernel
theorem dX10_open_30 : decode cX10_open 30 = .ok (.iinc 2 1, 3) := by decide +kernel
theorem dX10_open_33 : decode cX10_open 33 = .ok (.goto (-29), 3) := by decide +kernel
theorem dX10_open_36 : decode cX10_open 36 = .ok (.iload_n 1, 1) := by decide +kernel
theorem dX10_open_37 : decode cX10_open 37 = .ok (.ireturn, 1) := by decide +kernel
theorem dX10_without_0 : decode cX10_without 0 = .ok (.aload_n 0, 1) := by decide +kernel
theorem dX10_without_1 : decode cX10_without 1 = .ok (.invokevirtual 169, 3) := by decide +kernel
theorem dX10_without_4 : decode cX10_without 4 = .ok (.iconst 0, 1) := by decide +kernel
theorem dX10_without_5 : decode cX10_without 5 = .ok (.istore_n 1, 1) := by decide +kernel
theorem dX10_without_6 : decode cX10_without 6 = .ok (.iconst 0, 1) := by decide +kernel
theorem dX10_without_7 : decode cX10_without 7 = .ok (.istore_n 2, 1) := by decide +kernel
theorem dX10_without_8 : decode cX10_without 8 = .ok (.iload_n 2, 1) := by decide +kernel
theorem dX10_without_9 : decode cX10_without 9 = .ok (.bipush 32, 2) := by decide +kernel
theorem dX10_without_11 : decode cX10_without 11 = .ok (.if_icmp .ge 26, 3) := by decide +kernel
theorem dX10_without_14 : decode cX10_without 14 = .ok (.iload_n 1, 1) := by decide +kernel
theorem dX10_without_15 : decode cX10_without 15 = .ok (.aload_n 0, 1) := by decide +kernel
theorem dX10_without_16 : decode cX10_without 16 = .ok (.getfield 24, 3) := by decide +kernel
theorem dX10_without_19 : decode cX10_without 19 = .ok (.iload_n 2, 1) := by decide +kernel
theorem dX10_without_20 : decode cX10_without 20 = .ok (.iaload, 1) := by decide +kernel
theorem dX10_without_21 : decode cX10_without 21 = .ok (.ifCond .ge 7, 3) := by decide +kernel
theorem dX10_without_24 : decode cX10_without 24 = .ok (.iconst 1, 1) := by decide +kernel
theorem dX10_without_25 : decode cX10_without 25 = .ok (.goto 4, 3) := by decide +kernel
theorem dX10_without_28 : decode cX10_without 28 = .ok (.iconst 0, 1) := by decide +kernel
theorem dX10_without_29 : decode cX10_without 29 = .ok (.iadd, 1) := by decide +kernel
theorem dX10_without_30 : decode cX10_without 30 = .ok (.istore_n 1, 1) := by decide +kernel
theorem dX10_without_31 : decode cX10_without 31 = .ok (.iinc 2 1, 3) := by decide +kernel
theorem dX10_without_34 : decode cX10_without 34 = .ok (.goto (-26), 3) := by decide +kernel
theorem dX10_without_37 : decode cX10_without 37 = .ok (.iload_n 1, 1) := by decide +kernel
theorem dX10_without_38 : decode cX10_without 38 = .ok (.ireturn, 1) := by decide +kernel
theorem dX10_counted_0 : decode cX10_counted 0 = .ok (.iload_n 1, 1) := by decide +kernel
theorem dX10_counted_1 : decode cX10_counted 1 = .ok (.tableswitch 110 0 8 #[51, 61, 69, 74, 83, 83, 83, 96, 105], 51) := by decide +kernel
theorem dX10_counted_52 : decode cX10_counted 52 = .ok (.aload_n 0, 1) := by decide +kernel
theorem dX10_counted_53 : decode cX10_counted 53 = .ok (.iconst 2, 1) := by decide +kernel
theorem dX10_counted_54 : decode cX10_counted 54 = .ok (.bipush 64, 2) := by decide +kernel
theorem dX10_counted_56 : decode cX10_counted 56 = .ok (.invokevirtual 172, 3) := by decide +kernel
theorem dX10_counted_59 : decode cX10_counted 59 = .ok (.iconst 2, 1) := by decide +kernel
theorem dX10_counted_60 : decode cX10_counted 60 = .ok (.idiv, 1) := by decide +kernel
theorem dX10_counted_61 : decode cX10_counted 61 = .ok (.ireturn, 1) := by decide +kernel
theorem dX10_counted_62 : decode cX10_counted 62 = .ok (.aload_n 0, 1) := by decide +kernel
theorem dX10_counted_63 : decode cX10_counted 63 = .ok (.getfield 7, 3) := by decide +kernel
theorem dX10_counted_66 : decode cX10_counted 66 = .ok (.bipush 66, 2) := by decide +kernel
theorem dX10_counted_68 : decode cX10_counted 68 = .ok (.iaload, 1) := by decide +kernel
theorem dX10_counted_69 : decode cX10_counted 69 = .ok (.ireturn, 1) := by decide +kernel
theorem dX10_counted_70 : decode cX10_counted 70 = .ok (.aload_n 0, 1) := by decide +kernel
theorem dX10_counted_71 : decode cX10_counted 71 = .ok (.invokevirtual 175, 3) := by decide +kernel
theorem dX10_counted_74 : decode cX10_counted 74 = .ok (.ireturn, 1) := by decide +kernel
theorem dX10_counted_75 : decode cX10_counted 75 = .ok (.aload_n 0, 1) := by decide +kernel
theorem dX10_counted_76 : decode cX10_counted 76 = .ok (.bipush 107, 2) := by decide +kernel
theorem dX10_counted_78 : decode cX10_counted 78 = .ok (.bipush 16, 2) := by decide +kernel
theorem dX10_counted_80 : decode cX10_counted 80 = .ok (.invokevirtual 172, 3) := by decide +kernel
theorem dX10_counted_83 : decode cX10_counted 83 = .ok (.ireturn, 1) := by decide +kernel
theorem dX10_counted_84 : decode cX10_counted 84 = .ok (.aload_n 0, 1) := by decide +kernel
theorem dX10_counted_85 : decode cX10_counted 85 = .ok (.getfield 7, 3) := by decide +kernel
theorem dX10_counted_88 : decode cX10_counted 88 = .ok (.sipush 171, 3) := by decide +kernel
theorem dX10_counted_91 : decode cX10_counted 91 = .ok (.iload_n 1, 1) := by decide +kernel
theorem dX10_counted_92 : decode cX10_counted 92 = .ok (.iadd, 1) := by decide +kernel
theorem dX10_counted_93 : decode cX10_counted 93 = .ok (.iconst 4, 1) := by decide +kernel
theorem dX10_counted_94 : decode cX10_counted 94 = .ok (.isub, 1) := by decide +kernel
theorem dX10_counted_95 : decode cX10_counted 95 = .ok (.iaload, 1) := by decide +kernel
theorem dX10_counted_96 : decode cX10_counted 96 = .ok (.ireturn, 1) := by decide +kernel
theorem dX10_counted_97 : decode cX10_counted 97 = .ok (.aload_n 0, 1) := by decide +kernel
theorem dX10_counted_98 : decode cX10_counted 98 = .ok (.sipush 135, 3) := by decide +kernel
theorem dX10_counted_101 : decode cX10_counted 101 = .ok (.iconst 4, 1) := by decide +kernel
theorem dX10_counted_102 : decode cX10_counted 102 = .ok (.invokevirtual 110, 3) := by decide +kernel
theorem dX10_counted_105 : decode cX10_counted 105 = .ok (.ireturn, 1) := by decide +kernel
theorem dX10_counted_106 : decode cX10_counted 106 = .ok (.aload_n 0, 1) := by decide +kernel
theorem dX10_counted_107 : decode cX10_counted 107 = .ok (.invokevirtual 178, 3) := by decide +kernel
theorem dX10_counted_110 : decode cX10_counted 110 = .ok (.ireturn, 1) := by decide +kernel
theorem dX10_counted_111 : decode cX10_counted 111 = .ok (.aload_n 0, 1) := by decide +kernel
theorem dX10_counted_112 : decode cX10_counted 112 = .ok (.getfield 38, 3) := by decide +kernel
theorem dX10_counted_115 : decode cX10_counted 115 = .ok (.ireturn, 1) := by decide +kernel
theorem dX10_count_0 : decode cX10_count 0 = .ok (.aload_n 0, 1) := by decide +kernel
theorem dX10_count_1 : decode cX10_count 1 = .ok (.iload_n 1, 1) := by decide +kernel
theorem dX10_count_2 : decode cX10_count 2 = .ok (.iconst 0, 1) := by decide +kernel
theorem dX10_count_3 : decode cX10_count 3 = .ok (.bipush 9, 2) := by decide +kernel
theorem dX10_count_5 : decode cX10_count 5 = .ok (.invokestatic 45, 3) := by decide +kernel
theorem dX10_count_8 : decode cX10_count 8 = .ok (.iconst 1, 1) := by decide +kernel
theorem dX10_count_9 : decode cX10_count 9 = .ok (.invokevirtual 87, 3) := by decide +kernel
theorem dX10_count_12 : decode cX10_count 12 = .ok (.ifCond .eq 11, 3) := by decide +kernel
theorem dX10_count_15 : decode cX10_count 15 = .ok (.aload_n 0, 1) := by decide +kernel
theorem dX10_count_16 : decode cX10_count 16 = .ok (.iload_n 1, 1) := by decide +kernel
theorem dX10_count_17 : decode cX10_count 17 = .ok (.invokevirtual 181, 3) := by decide +kernel
theorem dX10_count_20 : decode cX10_count 20 = .ok (.goto 4, 3) := by decide +kernel
theorem dX10_count_23 : decode cX10_count 23 = .ok (.iconst 0, 1) := by decide +kernel
theorem dX10_count_24 : decode cX10_count 24 = .ok (.ireturn, 1) := by decide +kernel
theorem dX10_changed_0 : decode cX10_changed 0 = .ok (.aload_n 0, 1) := by decide +kernel
theorem dX10_changed_1 : decode cX10_changed 1 = .ok (.invokevirtual 169, 3) := by decide +kernel
theorem dX10_changed_4 : decode cX10_changed 4 = .ok (.aload_n 0, 1) := by decide +kernel
theorem dX10_changed_5 : decode cX10_changed 5 = .ok (.iconst 0, 1) := by decide +kernel
theorem dX10_changed_6 : decode cX10_changed 6 = .ok (.bipush 9, 2) := by decide +kernel
theorem dX10_changed_8 : decode cX10_changed 8 = .ok (.invokevirtual 41, 3) := by decide +kernel
theorem dX10_changed_11 : decode cX10_changed 11 = .ok (.sipush 1566, 3) := by decide +kernel
theorem dX10_changed_14 : decode cX10_changed 14 = .ok (.istore 4, 2) := by decide +kernel
theorem dX10_changed_16 : decode cX10_changed 16 = .ok (.aload_n 0, 1) := by decide +kernel
theorem dX10_changed_17 : decode cX10_changed 17 = .ok (.iload 4, 2) := by decide +kernel
theorem dX10_changed_19 : decode cX10_changed 19 = .ok (.iload_n 1, 1) := by decide +kernel
theorem dX10_changed_20 : decode cX10_changed 20 = .ok (.iload_n 2, 1) := by decide +kernel
theorem dX10_changed_21 : decode cX10_changed 21 = .ok (.iload_n 3, 1) := by decide +kernel
theorem dX10_changed_22 : decode cX10_changed 22 = .ok (.invokevirtual 30, 3) := by decide +kernel
theorem dX10_changed_25 : decode cX10_changed 25 = .ok (.aload_n 0, 1) := by decide +kernel
theorem dX10_changed_26 : decode cX10_changed 26 = .ok (.iload 4, 2) := by decide +kernel
theorem dX10_changed_28 : decode cX10_changed 28 = .ok (.invokevirtual 76, 3) := by decide +kernel
theorem dX10_changed_31 : decode cX10_changed 31 = .ok (.iconst 0, 1) := by decide +kernel
theorem dX10_changed_32 : decode cX10_changed 32 = .ok (.istore 5, 2) := by decide +kernel
theorem dX10_changed_34 : decode cX10_changed 34 = .ok (.iconst 0, 1) := by decide +kernel
theorem dX10_changed_35 : decode cX10_changed 35 = .ok (.istore 6, 2) := by decide +kernel
theorem dX10_changed_37 : decode cX10_changed 37 = .ok (.iload 6, 2) := by decide +kernel
theorem dX10_changed_39 : decode cX10_changed 39 = .ok (.bipush 32, 2) := by decide +kernel
theorem dX10_changed_41 : decode cX10_changed 41 = .ok (.if_icmp .ge 43, 3) := by decide +kernel
theorem dX10_changed_44 : decode cX10_changed 44 = .ok (.iload 5, 2) := by decide +kernel
theorem dX10_changed_46 : decode cX10_changed 46 = .ok (.aload_n 0, 1) := by decide +kernel
theorem dX10_changed_47 : decode cX10_changed 47 = .ok (.iload 4, 2) := by decide +kernel
theorem dX10_changed_49 : decode cX10_changed 49 = .ok (.iload 6, 2) := by decide +kernel
theorem dX10_changed_51 : decode cX10_changed 51 = .ok (.iconst 4, 1) := by decide +kernel
theorem dX10_changed_52 : decode cX10_changed 52 = .ok (.idiv, 1) := by decide +kernel
theorem dX10_changed_53 : decode cX10_changed 53 = .ok (.iload 6, 2) := by decide +kernel
theorem dX10_changed_55 : decode cX10_changed 55 = .ok (.iconst 4, 1) := by decide +kernel
theorem dX10_changed_56 : decode cX10_changed 56 = .ok (.irem, 1) := by decide +kernel
theorem dX10_changed_57 : decode cX10_changed 57 = .ok (.invokevirtual 80, 3) := by decide +kernel
theorem dX10_changed_60 : decode cX10_changed 60 = .ok (.aload_n 0, 1) := by decide +kernel
theorem dX10_changed_61 : decode cX10_changed 61 = .ok (.getfield 24, 3) := by decide +kernel
theorem dX10_changed_64 : decode cX10_changed 64 = .ok (.iload 6, 2) := by decide +kernel
theorem dX10_changed_66 : decode cX10_changed 66 = .ok (.iaload, 1) := by decide +kernel
theorem dX10_changed_67 : decode cX10_changed 67 = .ok (.if_icmp .ne 7, 3) := by decide +kernel
theorem dX10_changed_70 : decode cX10_changed 70 = .ok (.iconst 0, 1) := by decide +kernel
theorem dX10_changed_71 : decode cX10_changed 71 = .ok (.goto 4, 3) := by decide +kernel
theorem dX10_changed_74 : decode cX10_changed 74 = .ok (.iconst 1, 1) := by decide +kernel
theorem dX10_changed_75 : decode cX10_changed 75 = .ok (.iadd, 1) := by decide +kernel
theorem dX10_changed_76 : decode cX10_changed 76 = .ok (.istore 5, 2) := by decide +kernel
theorem dX10_changed_78 : decode cX10_changed 78 = .ok (.iinc 6 1, 3) := by decide +kernel
theorem dX10_changed_81 : decode cX10_changed 81 = .ok (.goto (-44), 3) := by decide +kernel
theorem dX10_changed_84 : decode cX10_changed 84 = .ok (.iload 5, 2) := by decide +kernel
theorem dX10_changed_86 : decode cX10_changed 86 = .ok (.ireturn, 1) := by decide +kernel
theorem dX10_ifRoad_0 : decode cX10_ifRoad 0 = .ok (.aload_n 0, 1) := by decide +kernel
theorem dX10_ifRoad_1 : decode cX10_ifRoad 1 = .ok (.iload_n 1, 1) := by decide +kernel
theorem dX10_ifRoad_2 : decode cX10_ifRoad 2 = .ok (.invokestatic 83, 3) := by decide +kernel
theorem dX10_ifRoad_5 : decode cX10_ifRoad 5 = .ok (.ifCond .eq 14, 3) := by decide +kernel
theorem dX10_ifRoad_8 : decode cX10_ifRoad 8 = .ok (.iload_n 2, 1) := by decide +kernel
theorem dX10_ifRoad_9 : decode cX10_ifRoad 9 = .ok (.invokestatic 83, 3) := by decide +kernel
theorem dX10_ifRoad_12 : decode cX10_ifRoad 12 = .ok (.ifCond .eq 7, 3) := by decide +kernel
theorem dX10_ifRoad_15 : decode cX10_ifRoad 15 = .ok (.iconst 1, 1) := by decide +kernel
theorem dX10_ifRoad_16 : decode cX10_ifRoad 16 = .ok (.goto 4, 3) := by decide +kernel
theorem dX10_ifRoad_19 : decode cX10_ifRoad 19 = .ok (.iconst 0, 1) := by decide +kernel
theorem dX10_ifRoad_20 : decode cX10_ifRoad 20 = .ok (.iload_n 1, 1) := by decide +kernel
theorem dX10_ifRoad_21 : decode cX10_ifRoad 21 = .ok (.iload_n 2, 1) := by decide +kernel
theorem dX10_ifRoad_22 : decode cX10_ifRoad 22 = .ok (.if_icmp .eq 17, 3) := by decide +kernel
theorem dX10_ifRoad_25 : decode cX10_ifRoad 25 = .ok (.iload_n 3, 1) := by decide +kernel
theorem dX10_ifRoad_26 : decode cX10_ifRoad 26 = .ok (.iconst 0, 1) := by decide +kernel
theorem dX10_ifRoad_27 : decode cX10_ifRoad 27 = .ok (.bipush 99, 2) := by decide +kernel
theorem dX10_ifRoad_29 : decode cX10_ifRoad 29 = .ok (.invokestatic 45, 3) := by decide +kernel
theorem dX10_ifRoad_32 : decode cX10_ifRoad 32 = .ok (.ifCond .eq 7, 3) := by decide +kernel
theorem dX10_ifRoad_35 : decode cX10_ifRoad 35 = .ok (.iconst 1, 1) := by decide +kernel
theorem dX10_ifRoad_36 : decode cX10_ifRoad 36 = .ok (.goto 4, 3) := by decide +kernel
theorem dX10_ifRoad_39 : decode cX10_ifRoad 39 = .ok (.iconst 0, 1) := by decide +kernel
theorem dX10_ifRoad_40 : decode cX10_ifRoad 40 = .ok (.invokevirtual 87, 3) := by decide +kernel
theorem dX10_ifRoad_43 : decode cX10_ifRoad 43 = .ok (.ifCond .eq 13, 3) := by decide +kernel
theorem dX10_ifRoad_46 : decode cX10_ifRoad 46 = .ok (.aload_n 0, 1) := by decide +kernel
theorem dX10_ifRoad_47 : decode cX10_ifRoad 47 = .ok (.iload_n 1, 1) := by decide +kernel
theorem dX10_ifRoad_48 : decode cX10_ifRoad 48 = .ok (.iload_n 2, 1) := by decide +kernel
theorem dX10_ifRoad_49 : decode cX10_ifRoad 49 = .ok (.iload_n 3, 1) := by decide +kernel
theorem dX10_ifRoad_50 : decode cX10_ifRoad 50 = .ok (.invokevirtual 184, 3) := by decide +kernel
theorem dX10_ifRoad_53 : decode cX10_ifRoad 53 = .ok (.goto 4, 3) := by decide +kernel
theorem dX10_ifRoad_56 : decode cX10_ifRoad 56 = .ok (.iconst 0, 1) := by decide +kernel
theorem dX10_ifRoad_57 : decode cX10_ifRoad 57 = .ok (.ireturn, 1) := by decide +kernel
theorem dX10_dearestExit_0 : decode cX10_dearestExit 0 = .ok (.aload_n 0, 1) := by decide +kernel
theorem dX10_dearestExit_1 : decode cX10_dearestExit 1 = .ok (.invokevirtual 169, 3) := by decide +kernel
theorem dX10_dearestExit_4 : decode cX10_dearestExit 4 = .ok (.aload_n 0, 1) := by decide +kernel
theorem dX10_dearestExit_5 : decode cX10_dearestExit 5 = .ok (.iconst 0, 1) := by decide +kernel
theorem dX10_dearestExit_6 : decode cX10_dearestExit 6 = .ok (.bipush 9, 2) := by decide +kernel
theorem dX10_dearestExit_8 : decode cX10_dearestExit 8 = .ok (.invokevirtual 41, 3) := by decide +kernel
theorem dX10_dearestExit_11 : decode cX10_dearestExit 11 = .ok (.sipush 1566, 3) := by decide +kernel
theorem dX10_dearestExit_14 : decode cX10_dearestExit 14 = .ok (.istore_n 1, 1) := by decide +kernel
theorem dX10_dearestExit_15 : decode cX10_dearestExit 15 = .ok (.iconst (-1), 1) := by decide +kernel
theorem dX10_dearestExit_16 : decode cX10_dearestExit 16 = .ok (.istore_n 2, 1) := by decide +kernel
theorem dX10_dearestExit_17 : decode cX10_dearestExit 17 = .ok (.iconst (-1), 1) := by decide +kernel
theorem dX10_dearestExit_18 : decode cX10_dearestExit 18 = .ok (.istore_n 3, 1) := by decide +kernel
theorem dX10_dearestExit_19 : decode cX10_dearestExit 19 = .ok (.iconst 0, 1) := by decide +kernel
theorem dX10_dearestExit_20 : decode cX10_dearestExit 20 = .ok (.istore 4, 2) := by decide +kernel
theorem dX10_dearestExit_22 : decode cX10_dearestExit 22 = .ok (.iload 4, 2) := by decide +kernel
theorem dX10_dearestExit_24 : decode cX10_dearestExit 24 = .ok (.aload_n 0, 1) := by decide +kernel
theorem dX10_dearestExit_25 : decode cX10_dearestExit 25 = .ok (.getfield 7, 3) := by decide +kernel
theorem dX10_dearestExit_28 : decode cX10_dearestExit 28 = .ok (.bipush 66, 2) := by decide +kernel
theorem dX10_dearestExit_30 : decode cX10_dearestExit 30 = .ok (.iaload, 1) := by decide +kernel
theorem dX10_dearestExit_31 : decode cX10_dearestExit 31 = .ok (.if_icmp .ge 174, 3) := by decide +kernel
theorem dX10_dearestExit_34 : decode cX10_dearestExit 34 = .ok (.aload_n 0, 1) := by decide +kernel
theorem dX10_dearestExit_35 : decode cX10_dearestExit 35 = .ok (.getfield 7, 3) := by decide +kernel
theorem dX10_dearestExit_38 : decode cX10_dearestExit 38 = .ok (.iconst 0, 1) := by decide +kernel
theorem dX10_dearestExit_39 : decode cX10_dearestExit 39 = .ok (.iload 4, 2) := by decide +kernel
theorem dX10_dearestExit_41 : decode cX10_dearestExit 41 = .ok (.invokestatic 50, 3) := by decide +kernel
theorem dX10_dearestExit_44 : decode cX10_dearestExit 44 = .ok (.iconst 2, 1) := by decide +kernel
theorem dX10_dearestExit_45 : decode cX10_dearestExit 45 = .ok (.iadd, 1) := by decide +kernel
theorem dX10_dearestExit_46 : decode cX10_dearestExit 46 = .ok (.iaload, 1) := by decide +kernel
theorem dX10_dearestExit_47 : decode cX10_dearestExit 47 = .ok (.iconst 1, 1) := by decide +kernel
theorem dX10_dearestExit_48 : decode cX10_dearestExit 48 = .ok (.if_icmp .ne 151, 3) := by decide +kernel
theorem dX10_dearestExit_51 : decode cX10_dearestExit 51 = .ok (.aload_n 0, 1) := by decide +kernel
theorem dX10_dearestExit_52 : decode cX10_dearestExit 52 = .ok (.getfield 7, 3) := by decide +kernel
theorem dX10_dearestExit_55 : decode cX10_dearestExit 55 = .ok (.iload_n 1, 1) := by decide +kernel
theorem dX10_dearestExit_56 : decode cX10_dearestExit 56 = .ok (.iload 4, 2) := by decide +kernel
theorem dX10_dearestExit_58 : decode cX10_dearestExit 58 = .ok (.invokestatic 50, 3) := by decide +kernel
theorem dX10_dearestExit_61 : decode cX10_dearestExit 61 = .ok (.iconst 2, 1) := by decide +kernel
theorem dX10_dearestExit_62 : decode cX10_dearestExit 62 = .ok (.iadd, 1) := by decide +kernel
theorem dX10_dearestExit_63 : decode cX10_dearestExit 63 = .ok (.iconst 0, 1) := by decide +kernel
theorem dX10_dearestExit_64 : decode cX10_dearestExit 64 = .ok (.iastore, 1) := by decide +kernel
theorem dX10_dearestExit_65 : decode cX10_dearestExit 65 = .ok (.iconst 0, 1) := by decide +kernel
theorem dX10_dearestExit_66 : decode cX10_dearestExit 66 = .ok (.istore 5, 2) := by decide +kernel
theorem dX10_dearestExit_68 : decode cX10_dearestExit 68 = .ok (.iconst 0, 1) := by decide +kernel
theorem dX10_dearestExit_69 : decode cX10_dearestExit 69 = .ok (.istore 6, 2) := by decide +kernel
theorem dX10_dearestExit_71 : decode cX10_dearestExit 71 = .ok (.iload 6, 2) := by decide +kernel
theorem dX10_dearestExit_73 : decode cX10_dearestExit 73 = .ok (.bipush 32, 2) := by decide +kernel
theorem dX10_dearestExit_75 : decode cX10_dearestExit 75 = .ok (.if_icmp .ge 84, 3) := by decide +kernel
theorem dX10_dearestExit_78 : decode cX10_dearestExit 78 = .ok (.aload_n 0, 1) := by decide +kernel
theorem dX10_dearestExit_79 : decode cX10_dearestExit 79 = .ok (.getfield 24, 3) := by decide +kernel
theorem dX10_dearestExit_82 : decode cX10_dearestExit 82 = .ok (.iload 6, 2) := by decide +kernel
theorem dX10_dearestExit_84 : decode cX10_dearestExit 84 = .ok (.iaload, 1) := by decide +kernel
theorem dX10_dearestExit_85 : decode cX10_dearestExit 85 = .ok (.ifCond .ge 7, 3) := by decide +kernel
theorem dX10_dearestExit_88 : decode cX10_dearestExit 88 = .ok (.iconst (-1), 1) := by decide +kernel
theorem dX10_dearestExit_89 : decode cX10_dearestExit 89 = .ok (.goto 16, 3) := by decide +kernel
theorem dX10_dearestExit_92 : decode cX10_dearestExit 92 = .ok (.aload_n 0, 1) := by decide +kernel
theorem dX10_dearestExit_93 : decode cX10_dearestExit 93 = .ok (.iload_n 1, 1) := by decide +kernel
theorem dX10_dearestExit_94 : decode cX10_dearestExit 94 = .ok (.iload 6, 2) := by decide +kernel
theorem dX10_dearestExit_96 : decode cX10_dearestExit 96 = .ok (.iconst 4, 1) := by decide +kernel
theorem dX10_dearestExit_97 : decode cX10_dearestExit 97 = .ok (.idiv, 1) := by decide +kernel
theorem dX10_dearestExit_98 : decode cX10_dearestExit 98 = .ok (.iload 6, 2) := by decide +kernel
theorem dX10_dearestExit_100 : decode cX10_dearestExit 100 = .ok (.iconst 4, 1) := by decide +kernel
theorem dX10_dearestExit_101 : decode cX10_dearestExit 101 = .ok (.irem, 1) := by decide +kernel
theorem dX10_dearestExit_102 : decode cX10_dearestExit 102 = .ok (.invokevirtual 80, 3) := by decide +kernel
theorem dX10_dearestExit_105 : decode cX10_dearestExit 105 = .ok (.istore 7, 2) := by decide +kernel
theorem dX10_dearestExit_107 : decode cX10_dearestExit 107 = .ok (.iload 5, 2) := by decide +kernel
theorem dX10_dearestExit_109 : decode cX10_dearestExit 109 = .ok (.aload_n 0, 1) := by decide +kernel
theorem dX10_dearestExit_110 : decode cX10_dearestExit 110 = .ok (.getfield 24, 3) := by decide +kernel
theorem dX10_dearestExit_113 : decode cX10_dearestExit 113 = .ok (.iload 6, 2) := by decide +kernel
theorem dX10_dearestExit_115 : decode cX10_dearestExit 115 = .ok (.iaload, 1) := by decide +kernel
theorem dX10_dearestExit_116 : decode cX10_dearestExit 116 = .ok (.ifCond .lt 33, 3) := by decide +kernel
theorem dX10_dearestExit_119 : decode cX10_dearestExit 119 = .ok (.iload 7, 2) := by decide +kernel
theorem dX10_dearestExit_121 : decode cX10_dearestExit 121 = .ok (.ifCond .lt 24, 3) := by decide +kernel
theorem dX10_dearestExit_124 : decode cX10_dearestExit 124 = .ok (.aload_n 0, 1) := by decide +kernel
theorem dX10_dearestExit_125 : decode cX10_dearestExit 125 = .ok (.iload_n 1, 1) := by decide +kernel
theorem dX10_dearestExit_126 : decode cX10_dearestExit 126 = .ok (.iload 6, 2) := by decide +kernel
theorem dX10_dearestExit_128 : decode cX10_dearestExit 128 = .ok (.iconst 4, 1) := by decide +kernel
theorem dX10_dearestExit_129 : decode cX10_dearestExit 129 = .ok (.idiv, 1) := by decide +kernel
theorem dX10_dearestExit_130 : decode cX10_dearestExit 130 = .ok (.iload 7, 2) := by decide +kernel
theorem dX10_dearestExit_132 : decode cX10_dearestExit 132 = .ok (.invokevirtual 58, 3) := by decide +kernel
theorem dX10_dearestExit_135 : decode cX10_dearestExit 135 = .ok (.aload_n 0, 1) := by decide +kernel
theorem dX10_dearestExit_136 : decode cX10_dearestExit 136 = .ok (.getfield 27, 3) := by decide +kernel
theorem dX10_dearestExit_139 : decode cX10_dearestExit 139 = .ok (.iload 6, 2) := by decide +kernel
theorem dX10_dearestExit_141 : decode cX10_dearestExit 141 = .ok (.iaload, 1) := by decide +kernel
theorem dX10_dearestExit_142 : decode cX10_dearestExit 142 = .ok (.if_icmp .le 7, 3) := by decide +kernel
theorem dX10_dearestExit_145 : decode cX10_dearestExit 145 = .ok (.iconst 1, 1) := by decide +kernel
theorem dX10_dearestExit_146 : decode cX10_dearestExit 146 = .ok (.goto 4, 3) := by decide +kernel
theorem dX10_dearestExit_149 : decode cX10_dearestExit 149 = .ok (.iconst 0, 1) := by decide +kernel
theorem dX10_dearestExit_150 : decode cX10_dearestExit 150 = .ok (.iadd, 1) := by decide +kernel
theorem dX10_dearestExit_151 : decode cX10_dearestExit 151 = .ok (.istore 5, 2) := by decide +kernel
theorem dX10_dearestExit_153 : decode cX10_dearestExit 153 = .ok (.iinc 6 1, 3) := by decide +kernel
theorem dX10_dearestExit_156 : decode cX10_dearestExit 156 = .ok (.goto (-85), 3) := by decide +kernel
theorem dX10_dearestExit_159 : decode cX10_dearestExit 159 = .ok (.aload_n 0, 1) := by decide +kernel
theorem dX10_dearestExit_160 : decode cX10_dearestExit 160 = .ok (.getfield 7, 3) := by decide +kernel
theorem dX10_dearestExit_163 : decode cX10_dearestExit 163 = .ok (.iload_n 1, 1) := by decide +kernel
theorem dX10_dearestExit_164 : decode cX10_dearestExit 164 = .ok (.iload 4, 2) := by decide +kernel
theorem dX10_dearestExit_166 : decode cX10_dearestExit 166 = .ok (.invokestatic 50, 3) := by decide +kernel
theorem dX10_dearestExit_169 : decode cX10_dearestExit 169 = .ok (.iconst 2, 1) := by decide +kernel
theorem dX10_dearestExit_170 : decode cX10_dearestExit 170 = .ok (.iadd, 1) := by decide +kernel
theorem dX10_dearestExit_171 : decode cX10_dearestExit 171 = .ok (.iconst 1, 1) := by decide +kernel
theorem dX10_dearestExit_172 : decode cX10_dearestExit 172 = .ok (.iastore, 1) := by decide +kernel
theorem dX10_dearestExit_173 : decode cX10_dearestExit 173 = .ok (.iload 5, 2) := by decide +kernel
theorem dX10_dearestExit_175 : decode cX10_dearestExit 175 = .ok (.iload_n 3, 1) := by decide +kernel
theorem dX10_dearestExit_176 : decode cX10_dearestExit 176 = .ok (.if_icmp .le 8, 3) := by decide +kernel
theorem dX10_dearestExit_179 : decode cX10_dearestExit 179 = .ok (.iload 4, 2) := by decide +kernel
theorem dX10_dearestExit_181 : decode cX10_dearestExit 181 = .ok (.goto 4, 3) := by decide +kernel
theorem dX10_dearestExit_184 : decode cX10_dearestExit 184 = .ok (.iload_n 2, 1) := by decide +kernel
theorem dX10_dearestExit_185 : decode cX10_dearestExit 185 = .ok (.istore_n 2, 1) := by decide +kernel
theorem dX10_dearestExit_186 : decode cX10_dearestExit 186 = .ok (.iload 5, 2) := by decide +kernel
theorem dX10_dearestExit_188 : decode cX10_dearestExit 188 = .ok (.iload_n 3, 1) := by decide +kernel
theorem dX10_dearestExit_189 : decode cX10_dearestExit 189 = .ok (.if_icmp .le 8, 3) := by decide +kernel
theorem dX10_dearestExit_192 : decode cX10_dearestExit 192 = .ok (.iload 5, 2) := by decide +kernel
theorem dX10_dearestExit_194 : decode cX10_dearestExit 194 = .ok (.goto 4, 3) := by decide +kernel
theorem dX10_dearestExit_197 : decode cX10_dearestExit 197 = .ok (.iload_n 3, 1) := by decide +kernel
theorem dX10_dearestExit_198 : decode cX10_dearestExit 198 = .ok (.istore_n 3, 1) := by decide +kernel
theorem dX10_dearestExit_199 : decode cX10_dearestExit 199 = .ok (.iinc 4 1, 3) := by decide +kernel
theorem dX10_dearestExit_202 : decode cX10_dearestExit 202 = .ok (.goto (-180), 3) := by decide +kernel
theorem dX10_dearestExit_205 : decode cX10_dearestExit 205 = .ok (.iload_n 2, 1) := by decide +kernel
theorem dX10_dearestExit_206 : decode cX10_dearestExit 206 = .ok (.ireturn, 1) := by decide +kernel
theorem dX10_dearest_0 : decode cX10_dearest 0 = .ok (.aload_n 0, 1) := by decide +kernel
theorem dX10_dearest_1 : decode cX10_dearest 1 = .ok (.iconst 0, 1) := by decide +kernel
theorem dX10_dearest_2 : decode cX10_dearest 2 = .ok (.putfield 34, 3) := by decide +kernel
theorem dX10_dearest_5 : decode cX10_dearest 5 = .ok (.aload_n 0, 1) := by decide +kernel
theorem dX10_dearest_6 : decode cX10_dearest 6 = .ok (.invokevirtual 187, 3) := by decide +kernel
theorem dX10_dearest_9 : decode cX10_dearest 9 = .ok (.ireturn, 1) := by decide +kernel
theorem dX10_idles_0 : decode cX10_idles 0 = .ok (.aload_n 0, 1) := by decide +kernel
theorem dX10_idles_1 : decode cX10_idles 1 = .ok (.iconst 0, 1) := by decide +kernel
theorem dX10_idles_2 : decode cX10_idles 2 = .ok (.bipush 9, 2) := by decide +kernel
theorem dX10_idles_4 : decode cX10_idles 4 = .ok (.invokevirtual 41, 3) := by decide +kernel
theorem dX10_idles_7 : decode cX10_idles 7 = .ok (.sipush 1566, 3) := by decide +kernel
theorem dX10_idles_10 : decode cX10_idles 10 = .ok (.istore_n 3, 1) := by decide +kernel
theorem dX10_idles_11 : decode cX10_idles 11 = .ok (.aload_n 0, 1) := by decide +kernel
theorem dX10_idles_12 : decode cX10_idles 12 = .ok (.iload_n 3, 1) := by decide +kernel
theorem dX10_idles_13 : decode cX10_idles 13 = .ok (.iload_n 1, 1) := by decide +kernel
theorem dX10_idles_14 : decode cX10_idles 14 = .ok (.iload_n 2, 1) := by decide +kernel
theorem dX10_idles_15 : decode cX10_idles 15 = .ok (.iconst 0, 1) := by decide +kernel
theorem dX10_idles_16 : decode cX10_idles 16 = .ok (.invokevirtual 30, 3) := by decide +kernel
theorem dX10_idles_19 : decode cX10_idles 19 = .ok (.aload_n 0, 1) := by decide +kernel
theorem dX10_idles_20 : decode cX10_idles 20 = .ok (.iload_n 3, 1) := by decide +kernel
theorem dX10_idles_21 : decode cX10_idles 21 = .ok (.invokevirtual 76, 3) := by decide +kernel
theorem dX10_idles_24 : decode cX10_idles 24 = .ok (.aload_n 0, 1) := by decide +kernel
theorem dX10_idles_25 : decode cX10_idles 25 = .ok (.getfield 21, 3) := by decide +kernel
theorem dX10_idles_28 : decode cX10_idles 28 = .ok (.bipush 8, 2) := by decide +kernel
theorem dX10_idles_30 : decode cX10_idles 30 = .ok (.iload_n 1, 1) := by decide +kernel
theorem dX10_idles_31 : decode cX10_idles 31 = .ok (.imul, 1) := by decide +kernel
theorem dX10_idles_32 : decode cX10_idles 32 = .ok (.iload_n 2, 1) := by decide +kernel
theorem dX10_idles_33 : decode cX10_idles 33 = .ok (.iadd, 1) := by decide +kernel
theorem dX10_idles_34 : decode cX10_idles 34 = .ok (.iaload, 1) := by decide +kernel
theorem dX10_idles_35 : decode cX10_idles 35 = .ok (.iconst 1, 1) := by decide +kernel
theorem dX10_idles_36 : decode cX10_idles 36 = .ok (.iadd, 1) := by decide +kernel
theorem dX10_idles_37 : decode cX10_idles 37 = .ok (.istore 4, 2) := by decide +kernel
theorem dX10_idles_39 : decode cX10_idles 39 = .ok (.iload 4, 2) := by decide +kernel
theorem dX10_idles_41 : decode cX10_idles 41 = .ok (.bipush 99, 2) := by decide +kernel
theorem dX10_idles_43 : decode cX10_idles 43 = .ok (.if_icmp .le 7, 3) := by decide +kernel
theorem dX10_idles_46 : decode cX10_idles 46 = .ok (.iconst (-1), 1) := by decide +kernel
theorem dX10_idles_47 : decode cX10_idles 47 = .ok (.goto 5, 3) := by decide +kernel
theorem dX10_idles_50 : decode cX10_idles 50 = .ok (.iload 4, 2) := by decide +kernel
theorem dX10_idles_52 : decode cX10_idles 52 = .ok (.ireturn, 1) := by decide +kernel
theorem dX10_idle_0 : decode cX10_idle 0 = .ok (.aload_n 0, 1) := by decide +kernel
theorem dX10_idle_1 : decode cX10_idle 1 = .ok (.iload_n 1, 1) := by decide +kernel
theorem dX10_idle_2 : decode cX10_idle 2 = .ok (.invokestatic 83, 3) := by decide +kernel
theorem dX10_idle_5 : decode cX10_idle 5 = .ok (.ifCond .eq 14, 3) := by decide +kernel
theorem dX10_idle_8 : decode cX10_idle 8 = .ok (.iload_n 2, 1) := by decide +kernel
theorem dX10_idle_9 : decode cX10_idle 9 = .ok (.invokestatic 83, 3) := by decide +kernel
theorem dX10_idle_12 : decode cX10_idle 12 = .ok (.ifCond .eq 7, 3) := by decide +kernel
theorem dX10_idle_15 : decode cX10_idle 15 = .ok (.iconst 1, 1) := by decide +kernel
theorem dX10_idle_16 : decode cX10_idle 16 = .ok (.goto 4, 3) := by decide +kernel
theorem dX10_idle_19 : decode cX10_idle 19 = .ok (.iconst 0, 1) := by decide +kernel
theorem dX10_idle_20 : decode cX10_idle 20 = .ok (.iload_n 1, 1) := by decide +kernel
theorem dX10_idle_21 : decode cX10_idle 21 = .ok (.iload_n 2, 1) := by decide +kernel
theorem dX10_idle_22 : decode cX10_idle 22 = .ok (.if_icmp .eq 7, 3) := by decide +kernel
theorem dX10_idle_25 : decode cX10_idle 25 = .ok (.iconst 1, 1) := by decide +kernel
theorem dX10_idle_26 : decode cX10_idle 26 = .ok (.goto 4, 3) := by decide +kernel
theorem dX10_idle_29 : decode cX10_idle 29 = .ok (.iconst 0, 1) := by decide +kernel
theorem dX10_idle_30 : decode cX10_idle 30 = .ok (.invokevirtual 87, 3) := by decide +kernel
theorem dX10_idle_33 : decode cX10_idle 33 = .ok (.ifCond .eq 12, 3) := by decide +kernel
theorem dX10_idle_36 : decode cX10_idle 36 = .ok (.aload_n 0, 1) := by decide +kernel
theorem dX10_idle_37 : decode cX10_idle 37 = .ok (.iload_n 1, 1) := by decide +kernel
theorem dX10_idle_38 : decode cX10_idle 38 = .ok (.iload_n 2, 1) := by decide +kernel
theorem dX10_idle_39 : decode cX10_idle 39 = .ok (.invokevirtual 190, 3) := by decide +kernel
theorem dX10_idle_42 : decode cX10_idle 42 = .ok (.goto 4, 3) := by decide +kernel
theorem dX10_idle_45 : decode cX10_idle 45 = .ok (.iconst 0, 1) := by decide +kernel
theorem dX10_idle_46 : decode cX10_idle 46 = .ok (.ireturn, 1) := by decide +kernel
theorem dX10_share_0 : decode cX10_share 0 = .ok (.aload_n 0, 1) := by decide +kernel
theorem dX10_share_1 : decode cX10_share 1 = .ok (.getfield 7, 3) := by decide +kernel
theorem dX10_share_4 : decode cX10_share 4 = .ok (.sipush 171, 3) := by decide +kernel
theorem dX10_share_7 : decode cX10_share 7 = .ok (.iaload, 1) := by decide +kernel
theorem dX10_share_8 : decode cX10_share 8 = .ok (.ifCond .ne 7, 3) := by decide +kernel
theorem dX10_share_11 : decode cX10_share 11 = .ok (.dconst 1, 1) := by decide +kernel
theorem dX10_share_12 : decode cX10_share 12 = .ok (.goto 31, 3) := by decide +kernel
theorem dX10_share_15 : decode cX10_share 15 = .ok (.aload_n 0, 1) := by decide +kernel
theorem dX10_share_16 : decode cX10_share 16 = .ok (.getfield 7, 3) := by decide +kernel
theorem dX10_share_19 : decode cX10_share 19 = .ok (.sipush 171, 3) := by decide +kernel
theorem dX10_share_22 : decode cX10_share 22 = .ok (.iaload, 1) := by decide +kernel
theorem dX10_share_23 : decode cX10_share 23 = .ok (.aload_n 0, 1) := by decide +kernel
theorem dX10_share_24 : decode cX10_share 24 = .ok (.getfield 7, 3) := by decide +kernel
theorem dX10_share_27 : decode cX10_share 27 = .ok (.sipush 172, 3) := by decide +kernel
theorem dX10_share_30 : decode cX10_share 30 = .ok (.iaload, 1) := by decide +kernel
theorem dX10_share_31 : decode cX10_share 31 = .ok (.isub, 1) := by decide +kernel
theorem dX10_share_32 : decode cX10_share 32 = .ok (.i2d, 1) := by decide +kernel
theorem dX10_share_33 : decode cX10_share 33 = .ok (.aload_n 0, 1) := by decide +kernel
theorem dX10_share_34 : decode cX10_share 34 = .ok (.getfield 7, 3) := by decide +kernel
theorem dX10_share_37 : decode cX10_share 37 = .ok (.sipush 171, 3) := by decide +kernel
theorem dX10_share_40 : decode cX10_share 40 = .ok (.iaload, 1) := by decide +kernel
theorem dX10_share_41 : decode cX10_share 41 = .ok (.i2d, 1) := by decide +kernel
theorem dX10_share_42 : decode cX10_share 42 = .ok (.ddiv, 1) := by decide +kernel
theorem dX10_share_43 : decode cX10_share 43 = .ok (.dreturn, 1) := by decide +kernel
theorem dX10_hotShare_0 : decode cX10_hotShare 0 = .ok (.aload_n 0, 1) := by decide +kernel
theorem dX10_hotShare_1 : decode cX10_hotShare 1 = .ok (.iconst 0, 1) := by decide +kernel
theorem dX10_hotShare_2 : decode cX10_hotShare 2 = .ok (.putfield 34, 3) := by decide +kernel
theorem dX10_hotShare_5 : decode cX10_hotShare 5 = .ok (.aload_n 0, 1) := by decide +kernel
theorem dX10_hotShare_6 : decode cX10_hotShare 6 = .ok (.invokevirtual 193, 3) := by decide +kernel
theorem dX10_hotShare_9 : decode cX10_hotShare 9 = .ok (.dreturn, 1) := by decide +kernel
theorem dX10_digest_0 : decode cX10_digest 0 = .ok (.aload_n 0, 1) := by decide +kernel
theorem dX10_digest_1 : decode cX10_digest 1 = .ok (.iconst 0, 1) := by decide +kernel
theorem dX10_digest_2 : decode cX10_digest 2 = .ok (.putfield 34, 3) := by decide +kernel
theorem dX10_digest_5 : decode cX10_digest 5 = .ok (.ldc2_w 197, 3) := by decide +kernel
theorem dX10_digest_8 : decode cX10_digest 8 = .ok (.lstore_n 1, 1) := by decide +kernel
theorem dX10_digest_9 : decode cX10_digest 9 = .ok (.iconst 0, 1) := by decide +kernel
theorem dX10_digest_10 : decode cX10_digest 10 = .ok (.istore_n 3, 1) := by decide +kernel
theorem dX10_digest_11 : decode cX10_digest 11 = .ok (.iload_n 3, 1) := by decide +kernel
theorem dX10_digest_12 : decode cX10_digest 12 = .ok (.bipush 10, 2) := by decide +kernel
theorem dX10_digest_14 : decode cX10_digest 14 = .ok (.if_icmp .ge 22, 3) := by decide +kernel
theorem dX10_digest_17 : decode cX10_digest 17 = .ok (.ldc2_w 199, 3) := by decide +kernel
theorem dX10_digest_20 : decode cX10_digest 20 = .ok (.lload_n 1, 1) := by decide +kernel
theorem dX10_digest_21 : decode cX10_digest 21 = .ok (.lmul, 1) := by decide +kernel
theorem dX10_digest_22 : decode cX10_digest 22 = .ok (.aload_n 0, 1) := by decide +kernel
theorem dX10_digest_23 : decode cX10_digest 23 = .ok (.iload_n 3, 1) := by decide +kernel
theorem dX10_digest_24 : decode cX10_digest 24 = .ok (.invokevirtual 181, 3) := by decide +kernel
theorem dX10_digest_27 : decode cX10_digest 27 = .ok (.i2l, 1) := by decide +kernel
theorem dX10_digest_28 : decode cX10_digest 28 = .ok (.ladd, 1) := by decide +kernel
theorem dX10_digest_29 : decode cX10_digest 29 = .ok (.lstore_n 1, 1) := by decide +kernel
theorem dX10_digest_30 : decode cX10_digest 30 = .ok (.iinc 3 1, 3) := by decide +kernel
theorem dX10_digest_33 : decode cX10_digest 33 = .ok (.goto (-22), 3) := by decide +kernel
theorem dX10_digest_36 : decode cX10_digest 36 = .ok (.ldc2_w 199, 3) := by decide +kernel
theorem dX10_digest_39 : decode cX10_digest 39 = .ok (.lload_n 1, 1) := by decide +kernel
theorem dX10_digest_40 : decode cX10_digest 40 = .ok (.lmul, 1) := by decide +kernel
theorem dX10_digest_41 : decode cX10_digest 41 = .ok (.aload_n 0, 1) := by decide +kernel
theorem dX10_digest_42 : decode cX10_digest 42 = .ok (.getfield 7, 3) := by decide +kernel
theorem dX10_digest_45 : decode cX10_digest 45 = .ok (.iconst 0, 1) := by decide +kernel
theorem dX10_digest_46 : decode cX10_digest 46 = .ok (.iaload, 1) := by decide +kernel
theorem dX10_digest_47 : decode cX10_digest 47 = .ok (.i2l, 1) := by decide +kernel
theorem dX10_digest_48 : decode cX10_digest 48 = .ok (.ladd, 1) := by decide +kernel
theorem dX10_digest_49 : decode cX10_digest 49 = .ok (.lstore_n 1, 1) := by decide +kernel
theorem dX10_digest_50 : decode cX10_digest 50 = .ok (.ldc2_w 199, 3) := by decide +kernel
theorem dX10_digest_53 : decode cX10_digest 53 = .ok (.lload_n 1, 1) := by decide +kernel
theorem dX10_digest_54 : decode cX10_digest 54 = .ok (.lmul, 1) := by decide +kernel
theorem dX10_digest_55 : decode cX10_digest 55 = .ok (.aload_n 0, 1) := by decide +kernel
theorem dX10_digest_56 : decode cX10_digest 56 = .ok (.getfield 7, 3) := by decide +kernel
theorem dX10_digest_59 : decode cX10_digest 59 = .ok (.iconst 1, 1) := by decide +kernel
theorem dX10_digest_60 : decode cX10_digest 60 = .ok (.iaload, 1) := by decide +kernel
theorem dX10_digest_61 : decode cX10_digest 61 = .ok (.i2l, 1) := by decide +kernel
theorem dX10_digest_62 : decode cX10_digest 62 = .ok (.ladd, 1) := by decide +kernel
theorem dX10_digest_63 : decode cX10_digest 63 = .ok (.lstore_n 1, 1) := by decide +kernel
theorem dX10_digest_64 : decode cX10_digest 64 = .ok (.iconst 0, 1) := by decide +kernel
theorem dX10_digest_65 : decode cX10_digest 65 = .ok (.istore_n 3, 1) := by decide +kernel
theorem dX10_digest_66 : decode cX10_digest 66 = .ok (.iload_n 3, 1) := by decide +kernel
theorem dX10_digest_67 : decode cX10_digest 67 = .ok (.bipush 64, 2) := by decide +kernel
theorem dX10_digest_69 : decode cX10_digest 69 = .ok (.if_icmp .ge 45, 3) := by decide +kernel
theorem dX10_digest_72 : decode cX10_digest 72 = .ok (.ldc2_w 199, 3) := by decide +kernel
theorem dX10_digest_75 : decode cX10_digest 75 = .ok (.lload_n 1, 1) := by decide +kernel
theorem dX10_digest_76 : decode cX10_digest 76 = .ok (.lmul, 1) := by decide +kernel
theorem dX10_digest_77 : decode cX10_digest 77 = .ok (.aload_n 0, 1) := by decide +kernel
theorem dX10_digest_78 : decode cX10_digest 78 = .ok (.getfield 7, 3) := by decide +kernel
theorem dX10_digest_81 : decode cX10_digest 81 = .ok (.iconst 2, 1) := by decide +kernel
theorem dX10_digest_82 : decode cX10_digest 82 = .ok (.iload_n 3, 1) := by decide +kernel
theorem dX10_digest_83 : decode cX10_digest 83 = .ok (.iadd, 1) := by decide +kernel
theorem dX10_digest_84 : decode cX10_digest 84 = .ok (.iaload, 1) := by decide +kernel
theorem dX10_digest_85 : decode cX10_digest 85 = .ok (.i2l, 1) := by decide +kernel
theorem dX10_digest_86 : decode cX10_digest 86 = .ok (.ladd, 1) := by decide +kernel
theorem dX10_digest_87 : decode cX10_digest 87 = .ok (.lstore_n 1, 1) := by decide +kernel
theorem dX10_digest_88 : decode cX10_digest 88 = .ok (.ldc2_w 199, 3) := by decide +kernel
theorem dX10_digest_91 : decode cX10_digest 91 = .ok (.lload_n 1, 1) := by decide +kernel
theorem dX10_digest_92 : decode cX10_digest 92 = .ok (.lmul, 1) := by decide +kernel
theorem dX10_digest_93 : decode cX10_digest 93 = .ok (.aload_n 0, 1) := by decide +kernel
theorem dX10_digest_94 : decode cX10_digest 94 = .ok (.iload_n 3, 1) := by decide +kernel
theorem dX10_digest_95 : decode cX10_digest 95 = .ok (.bipush 8, 2) := by decide +kernel
theorem dX10_digest_97 : decode cX10_digest 97 = .ok (.idiv, 1) := by decide +kernel
theorem dX10_digest_98 : decode cX10_digest 98 = .ok (.iload_n 3, 1) := by decide +kernel
theorem dX10_digest_99 : decode cX10_digest 99 = .ok (.bipush 8, 2) := by decide +kernel
theorem dX10_digest_101 : decode cX10_digest 101 = .ok (.irem, 1) := by decide +kernel
theorem dX10_digest_102 : decode cX10_digest 102 = .ok (.invokevirtual 154, 3) := by decide +kernel
theorem dX10_digest_105 : decode cX10_digest 105 = .ok (.i2l, 1) := by decide +kernel
theorem dX10_digest_106 : decode cX10_digest 106 = .ok (.ladd, 1) := by decide +kernel
theorem dX10_digest_107 : decode cX10_digest 107 = .ok (.lstore_n 1, 1) := by decide +kernel
theorem dX10_digest_108 : decode cX10_digest 108 = .ok (.iinc 3 1, 3) := by decide +kernel
theorem dX10_digest_111 : decode cX10_digest 111 = .ok (.goto (-45), 3) := by decide +kernel
theorem dX10_digest_114 : decode cX10_digest 114 = .ok (.iconst 0, 1) := by decide +kernel
theorem dX10_digest_115 : decode cX10_digest 115 = .ok (.istore_n 3, 1) := by decide +kernel
theorem dX10_digest_116 : decode cX10_digest 116 = .ok (.iload_n 3, 1) := by decide +kernel
theorem dX10_digest_117 : decode cX10_digest 117 = .ok (.iconst 5, 1) := by decide +kernel
theorem dX10_digest_118 : decode cX10_digest 118 = .ok (.aload_n 0, 1) := by decide +kernel
theorem dX10_digest_119 : decode cX10_digest 119 = .ok (.getfield 7, 3) := by decide +kernel
theorem dX10_digest_122 : decode cX10_digest 122 = .ok (.bipush 66, 2) := by decide +kernel
theorem dX10_digest_124 : decode cX10_digest 124 = .ok (.iaload, 1) := by decide +kernel
theorem dX10_digest_125 : decode cX10_digest 125 = .ok (.imul, 1) := by decide +kernel
theorem dX10_digest_126 : decode cX10_digest 126 = .ok (.if_icmp .ge 33, 3) := by decide +kernel
theorem dX10_digest_129 : decode cX10_digest 129 = .ok (.ldc2_w 199, 3) := by decide +kernel
theorem dX10_digest_132 : decode cX10_digest 132 = .ok (.lload_n 1, 1) := by decide +kernel
theorem dX10_digest_133 : decode cX10_digest 133 = .ok (.lmul, 1) := by decide +kernel
theorem dX10_digest_134 : decode cX10_digest 134 = .ok (.aload_n 0, 1) := by decide +kernel
theorem dX10_digest_135 : decode cX10_digest 135 = .ok (.getfield 7, 3) := by decide +kernel
theorem dX10_digest_138 : decode cX10_digest 138 = .ok (.iconst 0, 1) := by decide +kernel
theorem dX10_digest_139 : decode cX10_digest 139 = .ok (.iload_n 3, 1) := by decide +kernel
theorem dX10_digest_140 : decode cX10_digest 140 = .ok (.iconst 5, 1) := by decide +kernel
theorem dX10_digest_141 : decode cX10_digest 141 = .ok (.idiv, 1) := by decide +kernel
theorem dX10_digest_142 : decode cX10_digest 142 = .ok (.invokestatic 50, 3) := by decide +kernel
theorem dX10_digest_145 : decode cX10_digest 145 = .ok (.iload_n 3, 1) := by decide +kernel
theorem dX10_digest_146 : decode cX10_digest 146 = .ok (.iconst 5, 1) := by decide +kernel
theorem dX10_digest_147 : decode cX10_digest 147 = .ok (.irem, 1) := by decide +kernel
theorem dX10_digest_148 : decode cX10_digest 148 = .ok (.iadd, 1) := by decide +kernel
theorem dX10_digest_149 : decode cX10_digest 149 = .ok (.iaload, 1) := by decide +kernel
theorem dX10_digest_150 : decode cX10_digest 150 = .ok (.i2l, 1) := by decide +kernel
theorem dX10_digest_151 : decode cX10_digest 151 = .ok (.ladd, 1) := by decide +kernel
theorem dX10_digest_152 : decode cX10_digest 152 = .ok (.lstore_n 1, 1) := by decide +kernel
theorem dX10_digest_153 : decode cX10_digest 153 = .ok (.iinc 3 1, 3) := by decide +kernel
theorem dX10_digest_156 : decode cX10_digest 156 = .ok (.goto (-40), 3) := by decide +kernel
theorem dX10_digest_159 : decode cX10_digest 159 = .ok (.iconst 0, 1) := by decide +kernel
theorem dX10_digest_160 : decode cX10_digest 160 = .ok (.istore_n 3, 1) := by decide +kernel
theorem dX10_digest_161 : decode cX10_digest 161 = .ok (.iload_n 3, 1) := by decide +kernel
theorem dX10_digest_162 : decode cX10_digest 162 = .ok (.bipush 32, 2) := by decide +kernel
theorem dX10_digest_164 : decode cX10_digest 164 = .ok (.if_icmp .ge 29, 3) := by decide +kernel
theorem dX10_digest_167 : decode cX10_digest 167 = .ok (.ldc2_w 199, 3) := by decide +kernel
theorem dX10_digest_170 : decode cX10_digest 170 = .ok (.lload_n 1, 1) := by decide +kernel
theorem dX10_digest_171 : decode cX10_digest 171 = .ok (.lmul, 1) := by decide +kernel
theorem dX10_digest_172 : decode cX10_digest 172 = .ok (.aload_n 0, 1) := by decide +kernel
theorem dX10_digest_173 : decode cX10_digest 173 = .ok (.iload_n 3, 1) := by decide +kernel
theorem dX10_digest_174 : decode cX10_digest 174 = .ok (.bipush 8, 2) := by decide +kernel
theorem dX10_digest_176 : decode cX10_digest 176 = .ok (.idiv, 1) := by decide +kernel
theorem dX10_digest_177 : decode cX10_digest 177 = .ok (.iload_n 3, 1) := by decide +kernel
theorem dX10_digest_178 : decode cX10_digest 178 = .ok (.bipush 8, 2) := by decide +kernel
theorem dX10_digest_180 : decode cX10_digest 180 = .ok (.irem, 1) := by decide +kernel
theorem dX10_digest_181 : decode cX10_digest 181 = .ok (.invokevirtual 157, 3) := by decide +kernel
theorem dX10_digest_184 : decode cX10_digest 184 = .ok (.i2l, 1) := by decide +kernel
theorem dX10_digest_185 : decode cX10_digest 185 = .ok (.ladd, 1) := by decide +kernel
theorem dX10_digest_186 : decode cX10_digest 186 = .ok (.lstore_n 1, 1) := by decide +kernel
theorem dX10_digest_187 : decode cX10_digest 187 = .ok (.iinc 3 1, 3) := by decide +kernel
theorem dX10_digest_190 : decode cX10_digest 190 = .ok (.goto (-29), 3) := by decide +kernel
theorem dX10_digest_193 : decode cX10_digest 193 = .ok (.iconst 0, 1) := by decide +kernel
theorem dX10_digest_194 : decode cX10_digest 194 = .ok (.istore_n 3, 1) := by decide +kernel
theorem dX10_digest_195 : decode cX10_digest 195 = .ok (.iload_n 3, 1) := by decide +kernel
theorem dX10_digest_196 : decode cX10_digest 196 = .ok (.sipush 192, 3) := by decide +kernel
theorem dX10_digest_199 : decode cX10_digest 199 = .ok (.if_icmp .ge 35, 3) := by decide +kernel
theorem dX10_digest_202 : decode cX10_digest 202 = .ok (.ldc2_w 199, 3) := by decide +kernel
theorem dX10_digest_205 : decode cX10_digest 205 = .ok (.lload_n 1, 1) := by decide +kernel
theorem dX10_digest_206 : decode cX10_digest 206 = .ok (.lmul, 1) := by decide +kernel
theorem dX10_digest_207 : decode cX10_digest 207 = .ok (.aload_n 0, 1) := by decide +kernel
theorem dX10_digest_208 : decode cX10_digest 208 = .ok (.iload_n 3, 1) := by decide +kernel
theorem dX10_digest_209 : decode cX10_digest 209 = .ok (.bipush 24, 2) := by decide +kernel
theorem dX10_digest_211 : decode cX10_digest 211 = .ok (.idiv, 1) := by decide +kernel
theorem dX10_digest_212 : decode cX10_digest 212 = .ok (.iload_n 3, 1) := by decide +kernel
theorem dX10_digest_213 : decode cX10_digest 213 = .ok (.bipush 6, 2) := by decide +kernel
theorem dX10_digest_215 : decode cX10_digest 215 = .ok (.idiv, 1) := by decide +kernel
theorem dX10_digest_216 : decode cX10_digest 216 = .ok (.iconst 4, 1) := by decide +kernel
theorem dX10_digest_217 : decode cX10_digest 217 = .ok (.irem, 1) := by decide +kernel
theorem dX10_digest_218 : decode cX10_digest 218 = .ok (.iload_n 3, 1) := by decide +kernel
theorem dX10_digest_219 : decode cX10_digest 219 = .ok (.bipush 6, 2) := by decide +kernel
theorem dX10_digest_221 : decode cX10_digest 221 = .ok (.irem, 1) := by decide +kernel
theorem dX10_digest_222 : decode cX10_digest 222 = .ok (.invokevirtual 163, 3) := by decide +kernel
theorem dX10_digest_225 : decode cX10_digest 225 = .ok (.i2l, 1) := by decide +kernel
theorem dX10_digest_226 : decode cX10_digest 226 = .ok (.ladd, 1) := by decide +kernel
theorem dX10_digest_227 : decode cX10_digest 227 = .ok (.lstore_n 1, 1) := by decide +kernel
theorem dX10_digest_228 : decode cX10_digest 228 = .ok (.iinc 3 1, 3) := by decide +kernel
theorem dX10_digest_231 : decode cX10_digest 231 = .ok (.goto (-36), 3) := by decide +kernel
theorem dX10_digest_234 : decode cX10_digest 234 = .ok (.iconst 0, 1) := by decide +kernel
theorem dX10_digest_235 : decode cX10_digest 235 = .ok (.istore_n 3, 1) := by decide +kernel
theorem dX10_digest_236 : decode cX10_digest 236 = .ok (.iload_n 3, 1) := by decide +kernel
theorem dX10_digest_237 : decode cX10_digest 237 = .ok (.aload_n 0, 1) := by decide +kernel
theorem dX10_digest_238 : decode cX10_digest 238 = .ok (.getfield 7, 3) := by decide +kernel
theorem dX10_digest_241 : decode cX10_digest 241 = .ok (.bipush 66, 2) := by decide +kernel
theorem dX10_digest_243 : decode cX10_digest 243 = .ok (.iaload, 1) := by decide +kernel
theorem dX10_digest_244 : decode cX10_digest 244 = .ok (.if_icmp .ge 24, 3) := by decide +kernel
theorem dX10_digest_247 : decode cX10_digest 247 = .ok (.ldc2_w 199, 3) := by decide +kernel
theorem dX10_digest_250 : decode cX10_digest 250 = .ok (.lload_n 1, 1) := by decide +kernel
theorem dX10_digest_251 : decode cX10_digest 251 = .ok (.lmul, 1) := by decide +kernel
theorem dX10_digest_252 : decode cX10_digest 252 = .ok (.aload_n 0, 1) := by decide +kernel
theorem dX10_digest_253 : decode cX10_digest 253 = .ok (.iconst 0, 1) := by decide +kernel
theorem dX10_digest_254 : decode cX10_digest 254 = .ok (.iconst 0, 1) := by decide +kernel
theorem dX10_digest_255 : decode cX10_digest 255 = .ok (.iload_n 3, 1) := by decide +kernel
theorem dX10_digest_256 : decode cX10_digest 256 = .ok (.invokevirtual 166, 3) := by decide +kernel
theorem dX10_digest_259 : decode cX10_digest 259 = .ok (.i2l, 1) := by decide +kernel
theorem dX10_digest_260 : decode cX10_digest 260 = .ok (.ladd, 1) := by decide +kernel
theorem dX10_digest_261 : decode cX10_digest 261 = .ok (.lstore_n 1, 1) := by decide +kernel
theorem dX10_digest_262 : decode cX10_digest 262 = .ok (.iinc 3 1, 3) := by decide +kernel
theorem dX10_digest_265 : decode cX10_digest 265 = .ok (.goto (-29), 3) := by decide +kernel
theorem dX10_digest_268 : decode cX10_digest 268 = .ok (.ldc2_w 199, 3) := by decide +kernel
theorem dX10_digest_271 : decode cX10_digest 271 = .ok (.lload_n 1, 1) := by decide +kernel
theorem dX10_digest_272 : decode cX10_digest 272 = .ok (.lmul, 1) := by decide +kernel
theorem dX10_digest_273 : decode cX10_digest 273 = .ok (.aload_n 0, 1) := by decide +kernel
theorem dX10_digest_274 : decode cX10_digest 274 = .ok (.iconst 0, 1) := by decide +kernel
theorem dX10_digest_275 : decode cX10_digest 275 = .ok (.bipush 7, 2) := by decide +kernel
theorem dX10_digest_277 : decode cX10_digest 277 = .ok (.iconst 5, 1) := by decide +kernel
theorem dX10_digest_278 : decode cX10_digest 278 = .ok (.invokevirtual 184, 3) := by decide +kernel
theorem dX10_digest_281 : decode cX10_digest 281 = .ok (.i2l, 1) := by decide +kernel
theorem dX10_digest_282 : decode cX10_digest 282 = .ok (.ladd, 1) := by decide +kernel
theorem dX10_digest_283 : decode cX10_digest 283 = .ok (.lstore_n 1, 1) := by decide +kernel
theorem dX10_digest_284 : decode cX10_digest 284 = .ok (.ldc2_w 199, 3) := by decide +kernel
theorem dX10_digest_287 : decode cX10_digest 287 = .ok (.lload_n 1, 1) := by decide +kernel
theorem dX10_digest_288 : decode cX10_digest 288 = .ok (.lmul, 1) := by decide +kernel
theorem dX10_digest_289 : decode cX10_digest 289 = .ok (.aload_n 0, 1) := by decide +kernel
theorem dX10_digest_290 : decode cX10_digest 290 = .ok (.invokevirtual 187, 3) := by decide +kernel
theorem dX10_digest_293 : decode cX10_digest 293 = .ok (.i2l, 1) := by decide +kernel
theorem dX10_digest_294 : decode cX10_digest 294 = .ok (.ladd, 1) := by decide +kernel
theorem dX10_digest_295 : decode cX10_digest 295 = .ok (.lstore_n 1, 1) := by decide +kernel
theorem dX10_digest_296 : decode cX10_digest 296 = .ok (.ldc2_w 199, 3) := by decide +kernel
theorem dX10_digest_299 : decode cX10_digest 299 = .ok (.lload_n 1, 1) := by decide +kernel
theorem dX10_digest_300 : decode cX10_digest 300 = .ok (.lmul, 1) := by decide +kernel
theorem dX10_digest_301 : decode cX10_digest 301 = .ok (.aload_n 0, 1) := by decide +kernel
theorem dX10_digest_302 : decode cX10_digest 302 = .ok (.iconst 0, 1) := by decide +kernel
theorem dX10_digest_303 : decode cX10_digest 303 = .ok (.bipush 7, 2) := by decide +kernel
theorem dX10_digest_305 : decode cX10_digest 305 = .ok (.invokevirtual 190, 3) := by decide +kernel
theorem dX10_digest_308 : decode cX10_digest 308 = .ok (.i2l, 1) := by decide +kernel
theorem dX10_digest_309 : decode cX10_digest 309 = .ok (.ladd, 1) := by decide +kernel
theorem dX10_digest_310 : decode cX10_digest 310 = .ok (.lstore_n 1, 1) := by decide +kernel
theorem dX10_digest_311 : decode cX10_digest 311 = .ok (.ldc2_w 199, 3) := by decide +kernel
theorem dX10_digest_314 : decode cX10_digest 314 = .ok (.lload_n 1, 1) := by decide +kernel
theorem dX10_digest_315 : decode cX10_digest 315 = .ok (.lmul, 1) := by decide +kernel
theorem dX10_digest_316 : decode cX10_digest 316 = .ok (.aload_n 0, 1) := by decide +kernel
theorem dX10_digest_317 : decode cX10_digest 317 = .ok (.invokevirtual 193, 3) := by decide +kernel
theorem dX10_digest_320 : decode cX10_digest 320 = .ok (.invokestatic 201, 3) := by decide +kernel
theorem dX10_digest_323 : decode cX10_digest 323 = .ok (.ladd, 1) := by decide +kernel
theorem dX10_digest_324 : decode cX10_digest 324 = .ok (.lstore_n 1, 1) := by decide +kernel
theorem dX10_digest_325 : decode cX10_digest 325 = .ok (.ldc2_w 199, 3) := by decide +kernel
theorem dX10_digest_328 : decode cX10_digest 328 = .ok (.lload_n 1, 1) := by decide +kernel
theorem dX10_digest_329 : decode cX10_digest 329 = .ok (.lmul, 1) := by decide +kernel
theorem dX10_digest_330 : decode cX10_digest 330 = .ok (.aload_n 0, 1) := by decide +kernel
theorem dX10_digest_331 : decode cX10_digest 331 = .ok (.getfield 13, 3) := by decide +kernel
theorem dX10_digest_334 : decode cX10_digest 334 = .ok (.iconst 0, 1) := by decide +kernel
theorem dX10_digest_335 : decode cX10_digest 335 = .ok (.baload, 1) := by decide +kernel
theorem dX10_digest_336 : decode cX10_digest 336 = .ok (.ifCond .eq 7, 3) := by decide +kernel
theorem dX10_digest_339 : decode cX10_digest 339 = .ok (.iconst 1, 1) := by decide +kernel
theorem dX10_digest_340 : decode cX10_digest 340 = .ok (.goto 4, 3) := by decide +kernel
theorem dX10_digest_343 : decode cX10_digest 343 = .ok (.iconst 0, 1) := by decide +kernel
theorem dX10_digest_344 : decode cX10_digest 344 = .ok (.i2l, 1) := by decide +kernel
theorem dX10_digest_345 : decode cX10_digest 345 = .ok (.ladd, 1) := by decide +kernel
theorem dX10_digest_346 : decode cX10_digest 346 = .ok (.lstore_n 1, 1) := by decide +kernel
theorem dX10_digest_347 : decode cX10_digest 347 = .ok (.ldc2_w 199, 3) := by decide +kernel
theorem dX10_digest_350 : decode cX10_digest 350 = .ok (.lload_n 1, 1) := by decide +kernel
theorem dX10_digest_351 : decode cX10_digest 351 = .ok (.lmul, 1) := by decide +kernel
theorem dX10_digest_352 : decode cX10_digest 352 = .ok (.aload_n 0, 1) := by decide +kernel
theorem dX10_digest_353 : decode cX10_digest 353 = .ok (.getfield 13, 3) := by decide +kernel
theorem dX10_digest_356 : decode cX10_digest 356 = .ok (.iconst 1, 1) := by decide +kernel
theorem dX10_digest_357 : decode cX10_digest 357 = .ok (.baload, 1) := by decide +kernel
theorem dX10_digest_358 : decode cX10_digest 358 = .ok (.ifCond .eq 7, 3) := by decide +kernel
theorem dX10_digest_361 : decode cX10_digest 361 = .ok (.iconst 1, 1) := by decide +kernel
theorem dX10_digest_362 : decode cX10_digest 362 = .ok (.goto 4, 3) := by decide +kernel
theorem dX10_digest_365 : decode cX10_digest 365 = .ok (.iconst 0, 1) := by decide +kernel
theorem dX10_digest_366 : decode cX10_digest 366 = .ok (.i2l, 1) := by decide +kernel
theorem dX10_digest_367 : decode cX10_digest 367 = .ok (.ladd, 1) := by decide +kernel
theorem dX10_digest_368 : decode cX10_digest 368 = .ok (.lstore_n 1, 1) := by decide +kernel
theorem dX10_digest_369 : decode cX10_digest 369 = .ok (.ldc2_w 199, 3) := by decide +kernel
theorem dX10_digest_372 : decode cX10_digest 372 = .ok (.lload_n 1, 1) := by decide +kernel
theorem dX10_digest_373 : decode cX10_digest 373 = .ok (.lmul, 1) := by decide +kernel
theorem dX10_digest_374 : decode cX10_digest 374 = .ok (.aload_n 0, 1) := by decide +kernel
theorem dX10_digest_375 : decode cX10_digest 375 = .ok (.getfield 113, 3) := by decide +kernel
theorem dX10_digest_378 : decode cX10_digest 378 = .ok (.i2l, 1) := by decide +kernel
theorem dX10_digest_379 : decode cX10_digest 379 = .ok (.ladd, 1) := by decide +kernel
theorem dX10_digest_380 : decode cX10_digest 380 = .ok (.lstore_n 1, 1) := by decide +kernel
theorem dX10_digest_381 : decode cX10_digest 381 = .ok (.iconst 0, 1) := by decide +kernel
theorem dX10_digest_382 : decode cX10_digest 382 = .ok (.istore_n 3, 1) := by decide +kernel
theorem dX10_digest_383 : decode cX10_digest 383 = .ok (.iload_n 3, 1) := by decide +kernel
theorem dX10_digest_384 : decode cX10_digest 384 = .ok (.aload_n 0, 1) := by decide +kernel
theorem dX10_digest_385 : decode cX10_digest 385 = .ok (.getfield 113, 3) := by decide +kernel
theorem dX10_digest_388 : decode cX10_digest 388 = .ok (.if_icmp .ge 23, 3) := by decide +kernel
theorem dX10_digest_391 : decode cX10_digest 391 = .ok (.ldc2_w 199, 3) := by decide +kernel
theorem dX10_digest_394 : decode cX10_digest 394 = .ok (.lload_n 1, 1) := by decide +kernel
theorem dX10_digest_395 : decode cX10_digest 395 = .ok (.lmul, 1) := by decide +kernel
theorem dX10_digest_396 : decode cX10_digest 396 = .ok (.aload_n 0, 1) := by decide +kernel
theorem dX10_digest_397 : decode cX10_digest 397 = .ok (.getfield 17, 3) := by decide +kernel
theorem dX10_digest_400 : decode cX10_digest 400 = .ok (.iload_n 3, 1) := by decide +kernel
theorem dX10_digest_401 : decode cX10_digest 401 = .ok (.caload, 1) := by decide +kernel
theorem dX10_digest_402 : decode cX10_digest 402 = .ok (.i2l, 1) := by decide +kernel
theorem dX10_digest_403 : decode cX10_digest 403 = .ok (.ladd, 1) := by decide +kernel
theorem dX10_digest_404 : decode cX10_digest 404 = .ok (.lstore_n 1, 1) := by decide +kernel
theorem dX10_digest_405 : decode cX10_digest 405 = .ok (.iinc 3 1, 3) := by decide +kernel
theorem dX10_digest_408 : decode cX10_digest 408 = .ok (.goto (-25), 3) := by decide +kernel
theorem dX10_digest_411 : decode cX10_digest 411 = .ok (.lload_n 1, 1) := by decide +kernel
theorem dX10_digest_412 : decode cX10_digest 412 = .ok (.lreturn, 1) := by decide +kernel
theorem dJxe99ae_isNaN_b9ae7_0 : decode cJxe99ae_isNaN_b9ae7 0 = .ok (.dload_n 0, 1) := by decide +kernel
theorem dJxe99ae_isNaN_b9ae7_1 : decode cJxe99ae_isNaN_b9ae7 1 = .ok (.dload_n 0, 1) := by decide +kernel
theorem dJxe99ae_isNaN_b9ae7_2 : decode cJxe99ae_isNaN_b9ae7 2 = .ok (.dcmp .l, 1) := by decide +kernel
theorem dJxe99ae_isNaN_b9ae7_3 : decode cJxe99ae_isNaN_b9ae7 3 = .ok (.ifCond .eq 7, 3) := by decide +kernel
theorem dJxe99ae_isNaN_b9ae7_6 : decode cJxe99ae_isNaN_b9ae7 6 = .ok (.iconst 1, 1) := by decide +kernel
theorem dJxe99ae_isNaN_b9ae7_7 : decode cJxe99ae_isNaN_b9ae7 7 = .ok (.goto 4, 3) := by decide +kernel
theorem dJxe99ae_isNaN_b9ae7_10 : decode cJxe99ae_isNaN_b9ae7 10 = .ok (.iconst 0, 1) := by decide +kernel
theorem dJxe99ae_isNaN_b9ae7_11 : decode cJxe99ae_isNaN_b9ae7 11 = .ok (.ireturn, 1) := by decide +kernel
theorem dJxe99ae_doubleToLongBits_ccdee_0 : decode cJxe99ae_doubleToLongBits_ccdee 0 = .ok (.dload_n 0, 1) := by decide +kernel
theorem dJxe99ae_doubleToLongBits_ccdee_1 : decode cJxe99ae_doubleToLongBits_ccdee 1 = .ok (.invokestatic 122, 3) := by decide +kernel
theorem dJxe99ae_doubleToLongBits_ccdee_4 : decode cJxe99ae_doubleToLongBits_ccdee 4 = .ok (.ifCond .ne 8, 3) := by decide +kernel
theorem dJxe99ae_doubleToLongBits_ccdee_7 : decode cJxe99ae_doubleToLongBits_ccdee 7 = .ok (.dload_n 0, 1) := by decide +kernel
theorem dJxe99ae_doubleToLongBits_ccdee_8 : decode cJxe99ae_doubleToLongBits_ccdee 8 = .ok (.invokestatic 134, 3) := by decide +kernel
theorem dJxe99ae_doubleToLongBits_ccdee_11 : decode cJxe99ae_doubleToLongBits_ccdee 11 = .ok (.lreturn, 1) := by decide +kernel
theorem dJxe99ae_doubleToLongBits_ccdee_12 : decode cJxe99ae_doubleToLongBits_ccdee 12 = .ok (.ldc2_w 137, 3) := by decide +kernel
theorem dJxe99ae_doubleToLongBits_ccdee_15 : decode cJxe99ae_doubleToLongBits_ccdee 15 = .ok (.lreturn, 1) := by decide +kernel
theorem dJ9_max_7cf53_0 : decode cJ9_max_7cf53 0 = .ok (.iload_n 0, 1) := by decide +kernel
theorem dJ9_max_7cf53_1 : decode cJ9_max_7cf53 1 = .ok (.iload_n 1, 1) := by decide +kernel
theorem dJ9_max_7cf53_2 : decode cJ9_max_7cf53 2 = .ok (.if_icmp .lt 7, 3) := by decide +kernel
theorem dJ9_max_7cf53_5 : decode cJ9_max_7cf53 5 = .ok (.iload_n 0, 1) := by decide +kernel
theorem dJ9_max_7cf53_6 : decode cJ9_max_7cf53 6 = .ok (.goto 4, 3) := by decide +kernel
theorem dJ9_max_7cf53_9 : decode cJ9_max_7cf53 9 = .ok (.iload_n 1, 1) := by decide +kernel
theorem dJ9_max_7cf53_10 : decode cJ9_max_7cf53 10 = .ok (.ireturn, 1) := by decide +kernel
theorem dJ9_min_7cf53_0 : decode cJ9_min_7cf53 0 = .ok (.iload_n 0, 1) := by decide +kernel
theorem dJ9_min_7cf53_1 : decode cJ9_min_7cf53 1 = .ok (.iload_n 1, 1) := by decide +kernel
theorem dJ9_min_7cf53_2 : decode cJ9_min_7cf53 2 = .ok (.if_icmp .gt 7, 3) := by decide +kernel
theorem dJ9_min_7cf53_5 : decode cJ9_min_7cf53 5 = .ok (.iload_n 0, 1) := by decide +kernel
theorem dJ9_min_7cf53_6 : decode cJ9_min_7cf53 6 = .ok (.goto 4, 3) := by decide +kernel
theorem dJ9_min_7cf53_9 : decode cJ9_min_7cf53 9 = .ok (.iload_n 1, 1) := by decide +kernel
theorem dJ9_min_7cf53_10 : decode cJ9_min_7cf53 10 = .ok (.ireturn, 1) := by decide +kernel
theorem dL_road_0 : decode cL_road 0 = .ok (.aload 4, 2) := by decide +kernel
theorem dL_road_2 : decode cL_road 2 = .ok (.iconst 0, 1) := by decide +kernel
theorem dL_road_3 : decode cL_road 3 = .ok (.aload_n 0, 1) := by decide +kernel
theorem dL_road_4 : decode cL_road 4 = .ok (.iload_n 1, 1) := by decide +kernel
theorem dL_road_5 : decode cL_road 5 = .ok (.iload_n 2, 1) := by decide +kernel
theorem dL_road_6 : decode cL_road 6 = .ok (.iload_n 3, 1) := by decide +kernel
theorem dL_road_7 : decode cL_road 7 = .ok (.invokevirtual 7, 3) := by decide +kernel
theorem dL_road_10 : decode cL_road 10 = .ok (.i2l, 1) := by decide +kernel
theorem dL_road_11 : decode cL_road 11 = .ok (.lastore, 1) := by decide +kernel
theorem dL_road_12 : decode cL_road 12 = .ok (.goto 11, 3) := by decide +kernel
theorem dL_road_15 : decode cL_road 15 = .ok (.astore 5, 2) := by decide +kernel
theorem dL_road_17 : decode cL_road 17 = .ok (.iconst 1, 1) := by decide +kernel
theorem dL_road_18 : decode cL_road 18 = .ok (.ireturn, 1) := by decide +kernel
theorem dL_road_19 : decode cL_road 19 = .ok (.astore 5, 2) := by decide +kernel
theorem dL_road_21 : decode cL_road 21 = .ok (.iconst 2, 1) := by decide +kernel
theorem dL_road_22 : decode cL_road 22 = .ok (.ireturn, 1) := by decide +kernel
theorem dL_road_23 : decode cL_road 23 = .ok (.iconst 0, 1) := by decide +kernel
theorem dL_road_24 : decode cL_road 24 = .ok (.ireturn, 1) := by decide +kernel
theorem dL_exit_0 : decode cL_exit 0 = .ok (.aload_n 3, 1) := by decide +kernel
theorem dL_exit_1 : decode cL_exit 1 = .ok (.iconst 0, 1) := by decide +kernel
theorem dL_exit_2 : decode cL_exit 2 = .ok (.aload_n 0, 1) := by decide +kernel
theorem dL_exit_3 : decode cL_exit 3 = .ok (.iload_n 1, 1) := by decide +kernel
theorem dL_exit_4 : decode cL_exit 4 = .ok (.iload_n 2, 1) := by decide +kernel
theorem dL_exit_5 : decode cL_exit 5 = .ok (.invokevirtual 17, 3) := by decide +kernel
theorem dL_exit_8 : decode cL_exit 8 = .ok (.i2l, 1) := by decide +kernel
theorem dL_exit_9 : decode cL_exit 9 = .ok (.lastore, 1) := by decide +kernel
theorem dL_exit_10 : decode cL_exit 10 = .ok (.goto 11, 3) := by decide +kernel
theorem dL_exit_13 : decode cL_exit 13 = .ok (.astore 4, 2) := by decide +kernel
theorem dL_exit_15 : decode cL_exit 15 = .ok (.iconst 1, 1) := by decide +kernel
theorem dL_exit_16 : decode cL_exit 16 = .ok (.ireturn, 1) := by decide +kernel
theorem dL_exit_17 : decode cL_exit 17 = .ok (.astore 4, 2) := by decide +kernel
theorem dL_exit_19 : decode cL_exit 19 = .ok (.iconst 2, 1) := by decide +kernel
theorem dL_exit_20 : decode cL_exit 20 = .ok (.ireturn, 1) := by decide +kernel
theorem dL_exit_21 : decode cL_exit 21 = .ok (.iconst 0, 1) := by decide +kernel
theorem dL_exit_22 : decode cL_exit 22 = .ok (.ireturn, 1) := by decide +kernel
theorem dL_turn_0 : decode cL_turn 0 = .ok (.aload_n 2, 1) := by decide +kernel
theorem dL_turn_1 : decode cL_turn 1 = .ok (.iconst 0, 1) := by decide +kernel
theorem dL_turn_2 : decode cL_turn 2 = .ok (.aload_n 0, 1) := by decide +kernel
theorem dL_turn_3 : decode cL_turn 3 = .ok (.iload_n 1, 1) := by decide +kernel
theorem dL_turn_4 : decode cL_turn 4 = .ok (.invokevirtual 23, 3) := by decide +kernel
theorem dL_turn_7 : decode cL_turn 7 = .ok (.i2l, 1) := by decide +kernel
theorem dL_turn_8 : decode cL_turn 8 = .ok (.lastore, 1) := by decide +kernel
theorem dL_turn_9 : decode cL_turn 9 = .ok (.goto 6, 3) := by decide +kernel
theorem dL_turn_12 : decode cL_turn 12 = .ok (.astore_n 3, 1) := by decide +kernel
theorem dL_turn_13 : decode cL_turn 13 = .ok (.iconst 1, 1) := by decide +kernel
theorem dL_turn_14 : decode cL_turn 14 = .ok (.ireturn, 1) := by decide +kernel
theorem dL_turn_15 : decode cL_turn 15 = .ok (.iconst 0, 1) := by decide +kernel
theorem dL_turn_16 : decode cL_turn 16 = .ok (.ireturn, 1) := by decide +kernel
theorem dL_offer_0 : decode cL_offer 0 = .ok (.aload 4, 2) := by decide +kernel
theorem dL_offer_2 : decode cL_offer 2 = .ok (.iconst 0, 1) := by decide +kernel
theorem dL_offer_3 : decode cL_offer 3 = .ok (.aload_n 0, 1) := by decide +kernel
theorem dL_offer_4 : decode cL_offer 4 = .ok (.iload_n 1, 1) := by decide +kernel
theorem dL_offer_5 : decode cL_offer 5 = .ok (.iload_n 2, 1) := by decide +kernel
theorem dL_offer_6 : decode cL_offer 6 = .ok (.iload_n 3, 1) := by decide +kernel
theorem dL_offer_7 : decode cL_offer 7 = .ok (.invokevirtual 27, 3) := by decide +kernel
theorem dL_offer_10 : decode cL_offer 10 = .ok (.i2l, 1) := by decide +kernel
theorem dL_offer_11 : decode cL_offer 11 = .ok (.lastore, 1) := by decide +kernel
theorem dL_offer_12 : decode cL_offer 12 = .ok (.goto 11, 3) := by decide +kernel
theorem dL_offer_15 : decode cL_offer 15 = .ok (.astore 5, 2) := by decide +kernel
theorem dL_offer_17 : decode cL_offer 17 = .ok (.iconst 1, 1) := by decide +kernel
theorem dL_offer_18 : decode cL_offer 18 = .ok (.ireturn, 1) := by decide +kernel
theorem dL_offer_19 : decode cL_offer 19 = .ok (.astore 5, 2) := by decide +kernel
theorem dL_offer_21 : decode cL_offer 21 = .ok (.iconst 2, 1) := by decide +kernel
theorem dL_offer_22 : decode cL_offer 22 = .ok (.ireturn, 1) := by decide +kernel
theorem dL_offer_23 : decode cL_offer 23 = .ok (.iconst 0, 1) := by decide +kernel
theorem dL_offer_24 : decode cL_offer 24 = .ok (.ireturn, 1) := by decide +kernel
theorem dL_bound_0 : decode cL_bound 0 = .ok (.aload_n 3, 1) := by decide +kernel
theorem dL_bound_1 : decode cL_bound 1 = .ok (.iconst 0, 1) := by decide +kernel
theorem dL_bound_2 : decode cL_bound 2 = .ok (.aload_n 0, 1) := by decide +kernel
theorem dL_bound_3 : decode cL_bound 3 = .ok (.iload_n 1, 1) := by decide +kernel
theorem dL_bound_4 : decode cL_bound 4 = .ok (.iload_n 2, 1) := by decide +kernel
theorem dL_bound_5 : decode cL_bound 5 = .ok (.invokevirtual 30, 3) := by decide +kernel
theorem dL_bound_8 : decode cL_bound 8 = .ok (.i2l, 1) := by decide +kernel
theorem dL_bound_9 : decode cL_bound 9 = .ok (.lastore, 1) := by decide +kernel
theorem dL_bound_10 : decode cL_bound 10 = .ok (.goto 11, 3) := by decide +kernel
theorem dL_bound_13 : decode cL_bound 13 = .ok (.astore 4, 2) := by decide +kernel
theorem dL_bound_15 : decode cL_bound 15 = .ok (.iconst 1, 1) := by decide +kernel
theorem dL_bound_16 : decode cL_bound 16 = .ok (.ireturn, 1) := by decide +kernel
theorem dL_bound_17 : decode cL_bound 17 = .ok (.astore 4, 2) := by decide +kernel
theorem dL_bound_19 : decode cL_bound 19 = .ok (.iconst 2, 1) := by decide +kernel
theorem dL_bound_20 : decode cL_bound 20 = .ok (.ireturn, 1) := by decide +kernel
theorem dL_bound_21 : decode cL_bound 21 = .ok (.iconst 0, 1) := by decide +kernel
theorem dL_bound_22 : decode cL_bound 22 = .ok (.ireturn, 1) := by decide +kernel
theorem dL_set_0 : decode cL_set 0 = .ok (.aload_n 3, 1) := by decide +kernel
theorem dL_set_1 : decode cL_set 1 = .ok (.iconst 0, 1) := by decide +kernel
theorem dL_set_2 : decode cL_set 2 = .ok (.aload_n 0, 1) := by decide +kernel
theorem dL_set_3 : decode cL_set 3 = .ok (.iload_n 1, 1) := by decide +kernel
theorem dL_set_4 : decode cL_set 4 = .ok (.iload_n 2, 1) := by decide +kernel
theorem dL_set_5 : decode cL_set 5 = .ok (.invokevirtual 33, 3) := by decide +kernel
theorem dL_set_8 : decode cL_set 8 = .ok (.i2l, 1) := by decide +kernel
theorem dL_set_9 : decode cL_set 9 = .ok (.lastore, 1) := by decide +kernel
theorem dL_set_10 : decode cL_set 10 = .ok (.goto 11, 3) := by decide +kernel
theorem dL_set_13 : decode cL_set 13 = .ok (.astore 4, 2) := by decide +kernel
theorem dL_set_15 : decode cL_set 15 = .ok (.iconst 1, 1) := by decide +kernel
theorem dL_set_16 : decode cL_set 16 = .ok (.ireturn, 1) := by decide +kernel
theorem dL_set_17 : decode cL_set 17 = .ok (.astore 4, 2) := by decide +kernel
theorem dL_set_19 : decode cL_set 19 = .ok (.iconst 2, 1) := by decide +kernel
theorem dL_set_20 : decode cL_set 20 = .ok (.ireturn, 1) := by decide +kernel
theorem dL_set_21 : decode cL_set 21 = .ok (.iconst 0, 1) := by decide +kernel
theorem dL_set_22 : decode cL_set 22 = .ok (.ireturn, 1) := by decide +kernel
theorem dL_send_0 : decode cL_send 0 = .ok (.aload_n 3, 1) := by decide +kernel
theorem dL_send_1 : decode cL_send 1 = .ok (.iconst 0, 1) := by decide +kernel
theorem dL_send_2 : decode cL_send 2 = .ok (.aload_n 0, 1) := by decide +kernel
theorem dL_send_3 : decode cL_send 3 = .ok (.iload_n 1, 1) := by decide +kernel
theorem dL_send_4 : decode cL_send 4 = .ok (.iload_n 2, 1) := by decide +kernel
theorem dL_send_5 : decode cL_send 5 = .ok (.invokevirtual 36, 3) := by decide +kernel
theorem dL_send_8 : decode cL_send 8 = .ok (.i2l, 1) := by decide +kernel
theorem dL_send_9 : decode cL_send 9 = .ok (.lastore, 1) := by decide +kernel
theorem dL_send_10 : decode cL_send 10 = .ok (.goto 11, 3) := by decide +kernel
theorem dL_send_13 : decode cL_send 13 = .ok (.astore 4, 2) := by decide +kernel
theorem dL_send_15 : decode cL_send 15 = .ok (.iconst 1, 1) := by decide +kernel
theorem dL_send_16 : decode cL_send 16 = .ok (.ireturn, 1) := by decide +kernel
theorem dL_send_17 : decode cL_send 17 = .ok (.astore 4, 2) := by decide +kernel
theorem dL_send_19 : decode cL_send 19 = .ok (.iconst 2, 1) := by decide +kernel
theorem dL_send_20 : decode cL_send 20 = .ok (.ireturn, 1) := by decide +kernel
theorem dL_send_21 : decode cL_send 21 = .ok (.iconst 0, 1) := by decide +kernel
theorem dL_send_22 : decode cL_send 22 = .ok (.ireturn, 1) := by decide +kernel
theorem dL_append_0 : decode cL_append 0 = .ok (.aload_n 2, 1) := by decide +kernel
theorem dL_append_1 : decode cL_append 1 = .ok (.iconst 0, 1) := by decide +kernel
theorem dL_append_2 : decode cL_append 2 = .ok (.aload_n 0, 1) := by decide +kernel
theorem dL_append_3 : decode cL_append 3 = .ok (.iload_n 1, 1) := by decide +kernel
theorem dL_append_4 : decode cL_append 4 = .ok (.invokevirtual 39, 3) := by decide +kernel
theorem dL_append_7 : decode cL_append 7 = .ok (.i2l, 1) := by decide +kernel
theorem dL_append_8 : decode cL_append 8 = .ok (.lastore, 1) := by decide +kernel
theorem dL_append_9 : decode cL_append 9 = .ok (.goto 9, 3) := by decide +kernel
theorem dL_append_12 : decode cL_append 12 = .ok (.astore_n 3, 1) := by decide +kernel
theorem dL_append_13 : decode cL_append 13 = .ok (.iconst 1, 1) := by decide +kernel
theorem dL_append_14 : decode cL_append 14 = .ok (.ireturn, 1) := by decide +kernel
theorem dL_append_15 : decode cL_append 15 = .ok (.astore_n 3, 1) := by decide +kernel
theorem dL_append_16 : decode cL_append 16 = .ok (.iconst 2, 1) := by decide +kernel
theorem dL_append_17 : decode cL_append 17 = .ok (.ireturn, 1) := by decide +kernel
theorem dL_append_18 : decode cL_append 18 = .ok (.iconst 0, 1) := by decide +kernel
theorem dL_append_19 : decode cL_append 19 = .ok (.ireturn, 1) := by decide +kernel
theorem dL_run_0 : decode cL_run 0 = .ok (.aload_n 1, 1) := by decide +kernel
theorem dL_run_1 : decode cL_run 1 = .ok (.iconst 0, 1) := by decide +kernel
theorem dL_run_2 : decode cL_run 2 = .ok (.aload_n 0, 1) := by decide +kernel
theorem dL_run_3 : decode cL_run 3 = .ok (.invokevirtual 42, 3) := by decide +kernel
theorem dL_run_6 : decode cL_run 6 = .ok (.i2l, 1) := by decide +kernel
theorem dL_run_7 : decode cL_run 7 = .ok (.lastore, 1) := by decide +kernel
theorem dL_run_8 : decode cL_run 8 = .ok (.goto 6, 3) := by decide +kernel
theorem dL_run_11 : decode cL_run 11 = .ok (.astore_n 2, 1) := by decide +kernel
theorem dL_run_12 : decode cL_run 12 = .ok (.iconst 1, 1) := by decide +kernel
theorem dL_run_13 : decode cL_run 13 = .ok (.ireturn, 1) := by decide +kernel
theorem dL_run_14 : decode cL_run 14 = .ok (.iconst 0, 1) := by decide +kernel
theorem dL_run_15 : decode cL_run 15 = .ok (.ireturn, 1) := by decide +kernel
theorem dL_keep_0 : decode cL_keep 0 = .ok (.aload_n 2, 1) := by decide +kernel
theorem dL_keep_1 : decode cL_keep 1 = .ok (.iconst 0, 1) := by decide +kernel
theorem dL_keep_2 : decode cL_keep 2 = .ok (.aload_n 0, 1) := by decide +kernel
theorem dL_keep_3 : decode cL_keep 3 = .ok (.iload_n 1, 1) := by decide +kernel
theorem dL_keep_4 : decode cL_keep 4 = .ok (.invokevirtual 46, 3) := by decide +kernel
theorem dL_keep_7 : decode cL_keep 7 = .ok (.i2l, 1) := by decide +kernel
theorem dL_keep_8 : decode cL_keep 8 = .ok (.lastore, 1) := by decide +kernel
theorem dL_keep_9 : decode cL_keep 9 = .ok (.goto 6, 3) := by decide +kernel
theorem dL_keep_12 : decode cL_keep 12 = .ok (.astore_n 3, 1) := by decide +kernel
theorem dL_keep_13 : decode cL_keep 13 = .ok (.iconst 1, 1) := by decide +kernel
theorem dL_keep_14 : decode cL_keep 14 = .ok (.ireturn, 1) := by decide +kernel
theorem dL_keep_15 : decode cL_keep 15 = .ok (.iconst 0, 1) := by decide +kernel
theorem dL_keep_16 : decode cL_keep 16 = .ok (.ireturn, 1) := by decide +kernel
theorem dL_goBack_0 : decode cL_goBack 0 = .ok (.aload_n 2, 1) := by decide +kernel
theorem dL_goBack_1 : decode cL_goBack 1 = .ok (.iconst 0, 1) := by decide +kernel
theorem dL_goBack_2 : decode cL_goBack 2 = .ok (.aload_n 0, 1) := by decide +kernel
theorem dL_goBack_3 : decode cL_goBack 3 = .ok (.iload_n 1, 1) := by decide +kernel
theorem dL_goBack_4 : decode cL_goBack 4 = .ok (.invokevirtual 49, 3) := by decide +kernel
theorem dL_goBack_7 : decode cL_goBack 7 = .ok (.i2l, 1) := by decide +kernel
theorem dL_goBack_8 : decode cL_goBack 8 = .ok (.lastore, 1) := by decide +kernel
theorem dL_goBack_9 : decode cL_goBack 9 = .ok (.goto 9, 3) := by decide +kernel
theorem dL_goBack_12 : decode cL_goBack 12 = .ok (.astore_n 3, 1) := by decide +kernel
theorem dL_goBack_13 : decode cL_goBack 13 = .ok (.iconst 1, 1) := by decide +kernel
theorem dL_goBack_14 : decode cL_goBack 14 = .ok (.ireturn, 1) := by decide +kernel
theorem dL_goBack_15 : decode cL_goBack 15 = .ok (.astore_n 3, 1) := by decide +kernel
theorem dL_goBack_16 : decode cL_goBack 16 = .ok (.iconst 2, 1) := by decide +kernel
theorem dL_goBack_17 : decode cL_goBack 17 = .ok (.ireturn, 1) := by decide +kernel
theorem dL_goBack_18 : decode cL_goBack 18 = .ok (.iconst 0, 1) := by decide +kernel
theorem dL_goBack_19 : decode cL_goBack 19 = .ok (.ireturn, 1) := by decide +kernel
theorem dL_undo_0 : decode cL_undo 0 = .ok (.aload_n 1, 1) := by decide +kernel
theorem dL_undo_1 : decode cL_undo 1 = .ok (.iconst 0, 1) := by decide +kernel
theorem dL_undo_2 : decode cL_undo 2 = .ok (.aload_n 0, 1) := by decide +kernel
theorem dL_undo_3 : decode cL_undo 3 = .ok (.invokevirtual 52, 3) := by decide +kernel
theorem dL_undo_6 : decode cL_undo 6 = .ok (.i2l, 1) := by decide +kernel
theorem dL_undo_7 : decode cL_undo 7 = .ok (.lastore, 1) := by decide +kernel
theorem dL_undo_8 : decode cL_undo 8 = .ok (.goto 6, 3) := by decide +kernel
theorem dL_undo_11 : decode cL_undo 11 = .ok (.astore_n 2, 1) := by decide +kernel
theorem dL_undo_12 : decode cL_undo 12 = .ok (.iconst 1, 1) := by decide +kernel
theorem dL_undo_13 : decode cL_undo 13 = .ok (.ireturn, 1) := by decide +kernel
theorem dL_undo_14 : decode cL_undo 14 = .ok (.iconst 0, 1) := by decide +kernel
theorem dL_undo_15 : decode cL_undo 15 = .ok (.ireturn, 1) := by decide +kernel
theorem dL_roadOf_0 : decode cL_roadOf 0 = .ok (.aload_n 3, 1) := by decide +kernel
theorem dL_roadOf_1 : decode cL_roadOf 1 = .ok (.iconst 0, 1) := by decide +kernel
theorem dL_roadOf_2 : decode cL_roadOf 2 = .ok (.aload_n 0, 1) := by decide +kernel
theorem dL_roadOf_3 : decode cL_roadOf 3 = .ok (.iload_n 1, 1) := by decide +kernel
theorem dL_roadOf_4 : decode cL_roadOf 4 = .ok (.iload_n 2, 1) := by decide +kernel
theorem dL_roadOf_5 : decode cL_roadOf 5 = .ok (.invokevirtual 55, 3) := by decide +kernel
theorem dL_roadOf_8 : decode cL_roadOf 8 = .ok (.i2l, 1) := by decide +kernel
theorem dL_roadOf_9 : decode cL_roadOf 9 = .ok (.lastore, 1) := by decide +kernel
theorem dL_roadOf_10 : decode cL_roadOf 10 = .ok (.goto 7, 3) := by decide +kernel
theorem dL_roadOf_13 : decode cL_roadOf 13 = .ok (.astore 4, 2) := by decide +kernel
theorem dL_roadOf_15 : decode cL_roadOf 15 = .ok (.iconst 1, 1) := by decide +kernel
theorem dL_roadOf_16 : decode cL_roadOf 16 = .ok (.ireturn, 1) := by decide +kernel
theorem dL_roadOf_17 : decode cL_roadOf 17 = .ok (.iconst 0, 1) := by decide +kernel
theorem dL_roadOf_18 : decode cL_roadOf 18 = .ok (.ireturn, 1) := by decide +kernel
theorem dL_distance_0 : decode cL_distance 0 = .ok (.aload 4, 2) := by decide +kernel
theorem dL_distance_2 : decode cL_distance 2 = .ok (.iconst 0, 1) := by decide +kernel
theorem dL_distance_3 : decode cL_distance 3 = .ok (.aload_n 0, 1) := by decide +kernel
theorem dL_distance_4 : decode cL_distance 4 = .ok (.iload_n 1, 1) := by decide +kernel
theorem dL_distance_5 : decode cL_distance 5 = .ok (.iload_n 2, 1) := by decide +kernel
theorem dL_distance_6 : decode cL_distance 6 = .ok (.iload_n 3, 1) := by decide +kernel
theorem dL_distance_7 : decode cL_distance 7 = .ok (.invokevirtual 58, 3) := by decide +kernel
theorem dL_distance_10 : decode cL_distance 10 = .ok (.i2l, 1) := by decide +kernel
theorem dL_distance_11 : decode cL_distance 11 = .ok (.lastore, 1) := by decide +kernel
theorem dL_distance_12 : decode cL_distance 12 = .ok (.goto 11, 3) := by decide +kernel
theorem dL_distance_15 : decode cL_distance 15 = .ok (.astore 5, 2) := by decide +kernel
theorem dL_distance_17 : decode cL_distance 17 = .ok (.iconst 1, 1) := by decide +kernel
theorem dL_distance_18 : decode cL_distance 18 = .ok (.ireturn, 1) := by decide +kernel
theorem dL_distance_19 : decode cL_distance 19 = .ok (.astore 5, 2) := by decide +kernel
theorem dL_distance_21 : decode cL_distance 21 = .ok (.iconst 2, 1) := by decide +kernel
theorem dL_distance_22 : decode cL_distance 22 = .ok (.ireturn, 1) := by decide +kernel
theorem dL_distance_23 : decode cL_distance 23 = .ok (.iconst 0, 1) := by decide +kernel
theorem dL_distance_24 : decode cL_distance 24 = .ok (.ireturn, 1) := by decide +kernel
theorem dL_exitOf_0 : decode cL_exitOf 0 = .ok (.aload_n 3, 1) := by decide +kernel
theorem dL_exitOf_1 : decode cL_exitOf 1 = .ok (.iconst 0, 1) := by decide +kernel
theorem dL_exitOf_2 : decode cL_exitOf 2 = .ok (.aload_n 0, 1) := by decide +kernel
theorem dL_exitOf_3 : decode cL_exitOf 3 = .ok (.iload_n 1, 1) := by decide +kernel
theorem dL_exitOf_4 : decode cL_exitOf 4 = .ok (.iload_n 2, 1) := by decide +kernel
theorem dL_exitOf_5 : decode cL_exitOf 5 = .ok (.invokevirtual 61, 3) := by decide +kernel
theorem dL_exitOf_8 : decode cL_exitOf 8 = .ok (.i2l, 1) := by decide +kernel
theorem dL_exitOf_9 : decode cL_exitOf 9 = .ok (.lastore, 1) := by decide +kernel
theorem dL_exitOf_10 : decode cL_exitOf 10 = .ok (.goto 11, 3) := by decide +kernel
theorem dL_exitOf_13 : decode cL_exitOf 13 = .ok (.astore 4, 2) := by decide +kernel
theorem dL_exitOf_15 : decode cL_exitOf 15 = .ok (.iconst 1, 1) := by decide +kernel
theorem dL_exitOf_16 : decode cL_exitOf 16 = .ok (.ireturn, 1) := by decide +kernel
theorem dL_exitOf_17 : decode cL_exitOf 17 = .ok (.astore 4, 2) := by decide +kernel
theorem dL_exitOf_19 : decode cL_exitOf 19 = .ok (.iconst 2, 1) := by decide +kernel
theorem dL_exitOf_20 : decode cL_exitOf 20 = .ok (.ireturn, 1) := by decide +kernel
theorem dL_exitOf_21 : decode cL_exitOf 21 = .ok (.iconst 0, 1) := by decide +kernel
theorem dL_exitOf_22 : decode cL_exitOf 22 = .ok (.ireturn, 1) := by decide +kernel
theorem dL_neighbourOf_0 : decode cL_neighbourOf 0 = .ok (.aload_n 3, 1) := by decide +kernel
theorem dL_neighbourOf_1 : decode cL_neighbourOf 1 = .ok (.iconst 0, 1) := by decide +kernel
theorem dL_neighbourOf_2 : decode cL_neighbourOf 2 = .ok (.aload_n 0, 1) := by decide +kernel
theorem dL_neighbourOf_3 : decode cL_neighbourOf 3 = .ok (.iload_n 1, 1) := by decide +kernel
theorem dL_neighbourOf_4 : decode cL_neighbourOf 4 = .ok (.iload_n 2, 1) := by decide +kernel
theorem dL_neighbourOf_5 : decode cL_neighbourOf 5 = .ok (.invokevirtual 64, 3) := by decide +kernel
theorem dL_neighbourOf_8 : decode cL_neighbourOf 8 = .ok (.i2l, 1) := by decide +kernel
theorem dL_neighbourOf_9 : decode cL_neighbourOf 9 = .ok (.lastore, 1) := by decide +kernel
theorem dL_neighbourOf_10 : decode cL_neighbourOf 10 = .ok (.goto 11, 3) := by decide +kernel
theorem dL_neighbourOf_13 : decode cL_neighbourOf 13 = .ok (.astore 4, 2) := by decide +kernel
theorem dL_neighbourOf_15 : decode cL_neighbourOf 15 = .ok (.iconst 1, 1) := by decide +kernel
theorem dL_neighbourOf_16 : decode cL_neighbourOf 16 = .ok (.ireturn, 1) := by decide +kernel
theorem dL_neighbourOf_17 : decode cL_neighbourOf 17 = .ok (.astore 4, 2) := by decide +kernel
theorem dL_neighbourOf_19 : decode cL_neighbourOf 19 = .ok (.iconst 2, 1) := by decide +kernel
theorem dL_neighbourOf_20 : decode cL_neighbourOf 20 = .ok (.ireturn, 1) := by decide +kernel
theorem dL_neighbourOf_21 : decode cL_neighbourOf 21 = .ok (.iconst 0, 1) := by decide +kernel
theorem dL_neighbourOf_22 : decode cL_neighbourOf 22 = .ok (.ireturn, 1) := by decide +kernel
theorem dL_choice_0 : decode cL_choice 0 = .ok (.aload 4, 2) := by decide +kernel
theorem dL_choice_2 : decode cL_choice 2 = .ok (.iconst 0, 1) := by decide +kernel
theorem dL_choice_3 : decode cL_choice 3 = .ok (.aload_n 0, 1) := by decide +kernel
theorem dL_choice_4 : decode cL_choice 4 = .ok (.iload_n 1, 1) := by decide +kernel
theorem dL_choice_5 : decode cL_choice 5 = .ok (.iload_n 2, 1) := by decide +kernel
theorem dL_choice_6 : decode cL_choice 6 = .ok (.iload_n 3, 1) := by decide +kernel
theorem dL_choice_7 : decode cL_choice 7 = .ok (.invokevirtual 67, 3) := by decide +kernel
theorem dL_choice_10 : decode cL_choice 10 = .ok (.i2l, 1) := by decide +kernel
theorem dL_choice_11 : decode cL_choice 11 = .ok (.lastore, 1) := by decide +kernel
theorem dL_choice_12 : decode cL_choice 12 = .ok (.goto 11, 3) := by decide +kernel
theorem dL_choice_15 : decode cL_choice 15 = .ok (.astore 5, 2) := by decide +kernel
theorem dL_choice_17 : decode cL_choice 17 = .ok (.iconst 1, 1) := by decide +kernel
theorem dL_choice_18 : decode cL_choice 18 = .ok (.ireturn, 1) := by decide +kernel
theorem dL_choice_19 : decode cL_choice 19 = .ok (.astore 5, 2) := by decide +kernel
theorem dL_choice_21 : decode cL_choice 21 = .ok (.iconst 2, 1) := by decide +kernel
theorem dL_choice_22 : decode cL_choice 22 = .ok (.ireturn, 1) := by decide +kernel
theorem dL_choice_23 : decode cL_choice 23 = .ok (.iconst 0, 1) := by decide +kernel
theorem dL_choice_24 : decode cL_choice 24 = .ok (.ireturn, 1) := by decide +kernel
theorem dL_why_0 : decode cL_why 0 = .ok (.aload 4, 2) := by decide +kernel
theorem dL_why_2 : decode cL_why 2 = .ok (.iconst 0, 1) := by decide +kernel
theorem dL_why_3 : decode cL_why 3 = .ok (.aload_n 0, 1) := by decide +kernel
theorem dL_why_4 : decode cL_why 4 = .ok (.iload_n 1, 1) := by decide +kernel
theorem dL_why_5 : decode cL_why 5 = .ok (.iload_n 2, 1) := by decide +kernel
theorem dL_why_6 : decode cL_why 6 = .ok (.iload_n 3, 1) := by decide +kernel
theorem dL_why_7 : decode cL_why 7 = .ok (.invokevirtual 70, 3) := by decide +kernel
theorem dL_why_10 : decode cL_why 10 = .ok (.i2l, 1) := by decide +kernel
theorem dL_why_11 : decode cL_why 11 = .ok (.lastore, 1) := by decide +kernel
theorem dL_why_12 : decode cL_why 12 = .ok (.goto 7, 3) := by decide +kernel
theorem dL_why_15 : decode cL_why 15 = .ok (.astore 5, 2) := by decide +kernel
theorem dL_why_17 : decode cL_why 17 = .ok (.iconst 1, 1) := by decide +kernel
theorem dL_why_18 : decode cL_why 18 = .ok (.ireturn, 1) := by decide +kernel
theorem dL_why_19 : decode cL_why 19 = .ok (.iconst 0, 1) := by decide +kernel
theorem dL_why_20 : decode cL_why 20 = .ok (.ireturn, 1) := by decide +kernel
theorem dL_count_0 : decode cL_count 0 = .ok (.aload_n 2, 1) := by decide +kernel
theorem dL_count_1 : decode cL_count 1 = .ok (.iconst 0, 1) := by decide +kernel
theorem dL_count_2 : decode cL_count 2 = .ok (.aload_n 0, 1) := by decide +kernel
theorem dL_count_3 : decode cL_count 3 = .ok (.iload_n 1, 1) := by decide +kernel
theorem dL_count_4 : decode cL_count 4 = .ok (.invokevirtual 73, 3) := by decide +kernel
theorem dL_count_7 : decode cL_count 7 = .ok (.i2l, 1) := by decide +kernel
theorem dL_count_8 : decode cL_count 8 = .ok (.lastore, 1) := by decide +kernel
theorem dL_count_9 : decode cL_count 9 = .ok (.goto 6, 3) := by decide +kernel
theorem dL_count_12 : decode cL_count 12 = .ok (.astore_n 3, 1) := by decide +kernel
theorem dL_count_13 : decode cL_count 13 = .ok (.iconst 1, 1) := by decide +kernel
theorem dL_count_14 : decode cL_count 14 = .ok (.ireturn, 1) := by decide +kernel
theorem dL_count_15 : decode cL_count 15 = .ok (.iconst 0, 1) := by decide +kernel
theorem dL_count_16 : decode cL_count 16 = .ok (.ireturn, 1) := by decide +kernel
theorem dL_ifRoad_0 : decode cL_ifRoad 0 = .ok (.aload 4, 2) := by decide +kernel
theorem dL_ifRoad_2 : decode cL_ifRoad 2 = .ok (.iconst 0, 1) := by decide +kernel
theorem dL_ifRoad_3 : decode cL_ifRoad 3 = .ok (.aload_n 0, 1) := by decide +kernel
theorem dL_ifRoad_4 : decode cL_ifRoad 4 = .ok (.iload_n 1, 1) := by decide +kernel
theorem dL_ifRoad_5 : decode cL_ifRoad 5 = .ok (.iload_n 2, 1) := by decide +kernel
theorem dL_ifRoad_6 : decode cL_ifRoad 6 = .ok (.iload_n 3, 1) := by decide +kernel
theorem dL_ifRoad_7 : decode cL_ifRoad 7 = .ok (.invokevirtual 76, 3) := by decide +kernel
theorem dL_ifRoad_10 : decode cL_ifRoad 10 = .ok (.i2l, 1) := by decide +kernel
theorem dL_ifRoad_11 : decode cL_ifRoad 11 = .ok (.lastore, 1) := by decide +kernel
theorem dL_ifRoad_12 : decode cL_ifRoad 12 = .ok (.goto 11, 3) := by decide +kernel
theorem dL_ifRoad_15 : decode cL_ifRoad 15 = .ok (.astore 5, 2) := by decide +kernel
theorem dL_ifRoad_17 : decode cL_ifRoad 17 = .ok (.iconst 1, 1) := by decide +kernel
theorem dL_ifRoad_18 : decode cL_ifRoad 18 = .ok (.ireturn, 1) := by decide +kernel
theorem dL_ifRoad_19 : decode cL_ifRoad 19 = .ok (.astore 5, 2) := by decide +kernel
theorem dL_ifRoad_21 : decode cL_ifRoad 21 = .ok (.iconst 2, 1) := by decide +kernel
theorem dL_ifRoad_22 : decode cL_ifRoad 22 = .ok (.ireturn, 1) := by decide +kernel
theorem dL_ifRoad_23 : decode cL_ifRoad 23 = .ok (.iconst 0, 1) := by decide +kernel
theorem dL_ifRoad_24 : decode cL_ifRoad 24 = .ok (.ireturn, 1) := by decide +kernel
theorem dL_idle_0 : decode cL_idle 0 = .ok (.aload_n 3, 1) := by decide +kernel
theorem dL_idle_1 : decode cL_idle 1 = .ok (.iconst 0, 1) := by decide +kernel
theorem dL_idle_2 : decode cL_idle 2 = .ok (.aload_n 0, 1) := by decide +kernel
theorem dL_idle_3 : decode cL_idle 3 = .ok (.iload_n 1, 1) := by decide +kernel
theorem dL_idle_4 : decode cL_idle 4 = .ok (.iload_n 2, 1) := by decide +kernel
theorem dL_idle_5 : decode cL_idle 5 = .ok (.invokevirtual 79, 3) := by decide +kernel
theorem dL_idle_8 : decode cL_idle 8 = .ok (.i2l, 1) := by decide +kernel
theorem dL_idle_9 : decode cL_idle 9 = .ok (.lastore, 1) := by decide +kernel
theorem dL_idle_10 : decode cL_idle 10 = .ok (.goto 11, 3) := by decide +kernel
theorem dL_idle_13 : decode cL_idle 13 = .ok (.astore 4, 2) := by decide +kernel
theorem dL_idle_15 : decode cL_idle 15 = .ok (.iconst 1, 1) := by decide +kernel
theorem dL_idle_16 : decode cL_idle 16 = .ok (.ireturn, 1) := by decide +kernel
theorem dL_idle_17 : decode cL_idle 17 = .ok (.astore 4, 2) := by decide +kernel
theorem dL_idle_19 : decode cL_idle 19 = .ok (.iconst 2, 1) := by decide +kernel
theorem dL_idle_20 : decode cL_idle 20 = .ok (.ireturn, 1) := by decide +kernel
theorem dL_idle_21 : decode cL_idle 21 = .ok (.iconst 0, 1) := by decide +kernel
theorem dL_idle_22 : decode cL_idle 22 = .ok (.ireturn, 1) := by decide +kernel
theorem dL_law_0 : decode cL_law 0 = .ok (.new 8, 3) := by decide +kernel
theorem dL_law_3 : decode cL_law 3 = .ok (.dup, 1) := by decide +kernel
theorem dL_law_4 : decode cL_law 4 = .ok (.invokespecial 82, 3) := by decide +kernel
theorem dL_law_7 : decode cL_law 7 = .ok (.astore_n 1, 1) := by decide +kernel
theorem dL_law_8 : decode cL_law 8 = .ok (.new 83, 3) := by decide +kernel
theorem dL_law_11 : decode cL_law 11 = .ok (.dup, 1) := by decide +kernel
theorem dL_law_12 : decode cL_law 12 = .ok (.invokespecial 85, 3) := by decide +kernel
theorem dL_law_15 : decode cL_law 15 = .ok (.astore_n 2, 1) := by decide +kernel
theorem dL_law_16 : decode cL_law 16 = .ok (.iconst 1, 1) := by decide +kernel
theorem dL_law_17 : decode cL_law 17 = .ok (.newarray .long, 2) := by decide +kernel
theorem dL_law_19 : decode cL_law 19 = .ok (.astore_n 3, 1) := by decide +kernel
theorem dL_law_20 : decode cL_law 20 = .ok (.iconst 0, 1) := by decide +kernel
theorem dL_law_21 : decode cL_law 21 = .ok (.istore 4, 2) := by decide +kernel
theorem dL_law_23 : decode cL_law 23 = .ok (.iload 4, 2) := by decide +kernel
theorem dL_law_25 : decode cL_law 25 = .ok (.aload_n 0, 1) := by decide +kernel
theorem dL_law_26 : decode cL_law 26 = .ok (.arraylength, 1) := by decide +kernel
theorem dL_law_27 : decode cL_law 27 = .ok (.iconst 4, 1) := by decide +kernel
theorem dL_law_28 : decode cL_law 28 = .ok (.isub, 1) := by decide +kernel
theorem dL_law_29 : decode cL_law 29 = .ok (.if_icmp .gt 1636, 3) := by decide +kernel
theorem dL_law_32 : decode cL_law 32 = .ok (.aload_n 0, 1) := by decide +kernel
theorem dL_law_33 : decode cL_law 33 = .ok (.iload 4, 2) := by decide +kernel
theorem dL_law_35 : decode cL_law 35 = .ok (.iaload, 1) := by decide +kernel
theorem dL_law_36 : decode cL_law 36 = .ok (.bipush 31, 2) := by decide +kernel
theorem dL_law_38 : decode cL_law 38 = .ok (.iand, 1) := by decide +kernel
theorem dL_law_39 : decode cL_law 39 = .ok (.tableswitch 1620 0 26 #[121, 201, 269, 325, 405, 473, 541, 609, 622, 678, 691, 704, 748, 804, 860, 904, 972, 1052, 1120, 1188, 1268, 1348, 1404, 1484, 1497, 1565, 1606], 121) := by decide +kernel
theorem dL_law_160 : decode cL_law 160 = .ok (.aload_n 1, 1) := by decide +kernel
theorem dL_law_161 : decode cL_law 161 = .ok (.aload_n 0, 1) := by decide +kernel
theorem dL_law_162 : decode cL_law 162 = .ok (.iload 4, 2) := by decide +kernel
theorem dL_law_164 : decode cL_law 164 = .ok (.iconst 1, 1) := by decide +kernel
theorem dL_law_165 : decode cL_law 165 = .ok (.iadd, 1) := by decide +kernel
theorem dL_law_166 : decode cL_law 166 = .ok (.iaload, 1) := by decide +kernel
theorem dL_law_167 : decode cL_law 167 = .ok (.aload_n 0, 1) := by decide +kernel
theorem dL_law_168 : decode cL_law 168 = .ok (.iload 4, 2) := by decide +kernel
theorem dL_law_170 : decode cL_law 170 = .ok (.iconst 2, 1) := by decide +kernel
theorem dL_law_171 : decode cL_law 171 = .ok (.iadd, 1) := by decide +kernel
theorem dL_law_172 : decode cL_law 172 = .ok (.iaload, 1) := by decide +kernel
theorem dL_law_173 : decode cL_law 173 = .ok (.aload_n 0, 1) := by decide +kernel
theorem dL_law_174 : decode cL_law 174 = .ok (.iload 4, 2) := by decide +kernel
theorem dL_law_176 : decode cL_law 176 = .ok (.iconst 3, 1) := by decide +kernel
theorem dL_law_177 : decode cL_law 177 = .ok (.iadd, 1) := by decide +kernel
theorem dL_law_178 : decode cL_law 178 = .ok (.iaload, 1) := by decide +kernel
theorem dL_law_179 : decode cL_law 179 = .ok (.aload_n 3, 1) := by decide +kernel
theorem dL_law_180 : decode cL_law 180 = .ok (.invokestatic 86, 3) := by decide +kernel
theorem dL_law_183 : decode cL_law 183 = .ok (.istore 5, 2) := by decide +kernel
theorem dL_law_185 : decode cL_law 185 = .ok (.aload_n 2, 1) := by decide +kernel
theorem dL_law_186 : decode cL_law 186 = .ok (.aload_n 0, 1) := by decide +kernel
theorem dL_law_187 : decode cL_law 187 = .ok (.iload 4, 2) := by decide +kernel
theorem dL_law_189 : decode cL_law 189 = .ok (.iconst 1, 1) := by decide +kernel
theorem dL_law_190 : decode cL_law 190 = .ok (.iadd, 1) := by decide +kernel
theorem dL_law_191 : decode cL_law 191 = .ok (.iaload, 1) := by decide +kernel
theorem dL_law_192 : decode cL_law 192 = .ok (.aload_n 0, 1) := by decide +kernel
theorem dL_law_193 : decode cL_law 193 = .ok (.iload 4, 2) := by decide +kernel
theorem dL_law_195 : decode cL_law 195 = .ok (.iconst 2, 1) := by decide +kernel
theorem dL_law_196 : decode cL_law 196 = .ok (.iadd, 1) := by decide +kernel
theorem dL_law_197 : decode cL_law 197 = .ok (.iaload, 1) := by decide +kernel
theorem dL_law_198 : decode cL_law 198 = .ok (.aload_n 0, 1) := by decide +kernel
theorem dL_law_199 : decode cL_law 199 = .ok (.iload 4, 2) := by decide +kernel
theorem dL_law_201 : decode cL_law 201 = .ok (.iconst 3, 1) := by decide +kernel
theorem dL_law_202 : decode cL_law 202 = .ok (.iadd, 1) := by decide +kernel
theorem dL_law_203 : decode cL_law 203 = .ok (.iaload, 1) := by decide +kernel
theorem dL_law_204 : decode cL_law 204 = .ok (.invokevirtual 91, 3) := by decide +kernel
theorem dL_law_207 : decode cL_law 207 = .ok (.istore 6, 2) := by decide +kernel
theorem dL_law_209 : decode cL_law 209 = .ok (.aload_n 2, 1) := by decide +kernel
theorem dL_law_210 : decode cL_law 210 = .ok (.invokevirtual 92, 3) := by decide +kernel
theorem dL_law_213 : decode cL_law 213 = .ok (.iload 5, 2) := by decide +kernel
theorem dL_law_215 : decode cL_law 215 = .ok (.if_icmp .eq 5, 3) := by decide +kernel
theorem dL_law_218 : decode cL_law 218 = .ok (.iconst 0, 1) := by decide +kernel
theorem dL_law_219 : decode cL_law 219 = .ok (.ireturn, 1) := by decide +kernel
theorem dL_law_220 : decode cL_law 220 = .ok (.iload 5, 2) := by decide +kernel
theorem dL_law_222 : decode cL_law 222 = .ok (.ifCond .ne 15, 3) := by decide +kernel
theorem dL_law_225 : decode cL_law 225 = .ok (.aload_n 3, 1) := by decide +kernel
theorem dL_law_226 : decode cL_law 226 = .ok (.iconst 0, 1) := by decide +kernel
theorem dL_law_227 : decode cL_law 227 = .ok (.laload, 1) := by decide +kernel
theorem dL_law_228 : decode cL_law 228 = .ok (.iload 6, 2) := by decide +kernel
theorem dL_law_230 : decode cL_law 230 = .ok (.i2l, 1) := by decide +kernel
theorem dL_law_231 : decode cL_law 231 = .ok (.lcmp, 1) := by decide +kernel
theorem dL_law_232 : decode cL_law 232 = .ok (.ifCond .eq 5, 3) := by decide +kernel
theorem dL_law_235 : decode cL_law 235 = .ok (.iconst 0, 1) := by decide +kernel
theorem dL_law_236 : decode cL_law 236 = .ok (.ireturn, 1) := by decide +kernel
theorem dL_law_237 : decode cL_law 237 = .ok (.goto 1422, 3) := by decide +kernel
theorem dL_law_240 : decode cL_law 240 = .ok (.aload_n 1, 1) := by decide +kernel
theorem dL_law_241 : decode cL_law 241 = .ok (.aload_n 0, 1) := by decide +kernel
theorem dL_law_242 : decode cL_law 242 = .ok (.iload 4, 2) := by decide +kernel
theorem dL_law_244 : decode cL_law 244 = .ok (.iconst 1, 1) := by decide +kernel
theorem dL_law_245 : decode cL_law 245 = .ok (.iadd, 1) := by decide +kernel
theorem dL_law_246 : decode cL_law 246 = .ok (.iaload, 1) := by decide +kernel
theorem dL_law_247 : decode cL_law 247 = .ok (.aload_n 0, 1) := by decide +kernel
theorem dL_law_248 : decode cL_law 248 = .ok (.iload 4, 2) := by decide +kernel
theorem dL_law_250 : decode cL_law 250 = .ok (.iconst 2, 1) := by decide +kernel
theorem dL_law_251 : decode cL_law 251 = .ok (.iadd, 1) := by decide +kernel
theorem dL_law_252 : decode cL_law 252 = .ok (.iaload, 1) := by decide +kernel
theorem dL_law_253 : decode cL_law 253 = .ok (.aload_n 3, 1) := by decide +kernel
theorem dL_law_254 : decode cL_law 254 = .ok (.invokestatic 95, 3) := by decide +kernel
theorem dL_law_257 : decode cL_law 257 = .ok (.istore 5, 2) := by decide +kernel
theorem dL_law_259 : decode cL_law 259 = .ok (.aload_n 2, 1) := by decide +kernel
theorem dL_law_260 : decode cL_law 260 = .ok (.aload_n 0, 1) := by decide +kernel
theorem dL_law_261 : decode cL_law 261 = .ok (.iload 4, 2) := by decide +kernel
theorem dL_law_263 : decode cL_law 263 = .ok (.iconst 1, 1) := by decide +kernel
theorem dL_law_264 : decode cL_law 264 = .ok (.iadd, 1) := by decide +kernel
theorem dL_law_265 : decode cL_law 265 = .ok (.iaload, 1) := by decide +kernel
theorem dL_law_266 : decode cL_law 266 = .ok (.aload_n 0, 1) := by decide +kernel
theorem dL_law_267 : decode cL_law 267 = .ok (.iload 4, 2) := by decide +kernel
theorem dL_law_269 : decode cL_law 269 = .ok (.iconst 2, 1) := by decide +kernel
theorem dL_law_270 : decode cL_law 270 = .ok (.iadd, 1) := by decide +kernel
theorem dL_law_271 : decode cL_law 271 = .ok (.iaload, 1) := by decide +kernel
theorem dL_law_272 : decode cL_law 272 = .ok (.invokevirtual 98, 3) := by decide +kernel
theorem dL_law_275 : decode cL_law 275 = .ok (.istore 6, 2) := by decide +kernel
theorem dL_law_277 : decode cL_law 277 = .ok (.aload_n 2, 1) := by decide +kernel
theorem dL_law_278 : decode cL_law 278 = .ok (.invokevirtual 92, 3) := by decide +kernel
theorem dL_law_281 : decode cL_law 281 = .ok (.iload 5, 2) := by decide +kernel
theorem dL_law_283 : decode cL_law 283 = .ok (.if_icmp .eq 5, 3) := by decide +kernel
theorem dL_law_286 : decode cL_law 286 = .ok (.iconst 0, 1) := by decide +kernel
theorem dL_law_287 : decode cL_law 287 = .ok (.ireturn, 1) := by decide +kernel
theorem dL_law_288 : decode cL_law 288 = .ok (.iload 5, 2) := by decide +kernel
theorem dL_law_290 : decode cL_law 290 = .ok (.ifCond .ne 15, 3) := by decide +kernel
theorem dL_law_293 : decode cL_law 293 = .ok (.aload_n 3, 1) := by decide +kernel
theorem dL_law_294 : decode cL_law 294 = .ok (.iconst 0, 1) := by decide +kernel
theorem dL_law_295 : decode cL_law 295 = .ok (.laload, 1) := by decide +kernel
theorem dL_law_296 : decode cL_law 296 = .ok (.iload 6, 2) := by decide +kernel
theorem dL_law_298 : decode cL_law 298 = .ok (.i2l, 1) := by decide +kernel
theorem dL_law_299 : decode cL_law 299 = .ok (.lcmp, 1) := by decide +kernel
theorem dL_law_300 : decode cL_law 300 = .ok (.ifCond .eq 5, 3) := by decide +kernel
theorem dL_law_303 : decode cL_law 303 = .ok (.iconst 0, 1) := by decide +kernel
theorem dL_law_304 : decode cL_law 304 = .ok (.ireturn, 1) := by decide +kernel
theorem dL_law_305 : decode cL_law 305 = .ok (.goto 1354, 3) := by decide +kernel
theorem dL_law_308 : decode cL_law 308 = .ok (.aload_n 1, 1) := by decide +kernel
theorem dL_law_309 : decode cL_law 309 = .ok (.aload_n 0, 1) := by decide +kernel
theorem dL_law_310 : decode cL_law 310 = .ok (.iload 4, 2) := by decide +kernel
theorem dL_law_312 : decode cL_law 312 = .ok (.iconst 1, 1) := by decide +kernel
theorem dL_law_313 : decode cL_law 313 = .ok (.iadd, 1) := by decide +kernel
theorem dL_law_314 : decode cL_law 314 = .ok (.iaload, 1) := by decide +kernel
theorem dL_law_315 : decode cL_law 315 = .ok (.aload_n 3, 1) := by decide +kernel
theorem dL_law_316 : decode cL_law 316 = .ok (.invokestatic 99, 3) := by decide +kernel
theorem dL_law_319 : decode cL_law 319 = .ok (.istore 5, 2) := by decide +kernel
theorem dL_law_321 : decode cL_law 321 = .ok (.aload_n 2, 1) := by decide +kernel
theorem dL_law_322 : decode cL_law 322 = .ok (.aload_n 0, 1) := by decide +kernel
theorem dL_law_323 : decode cL_law 323 = .ok (.iload 4, 2) := by decide +kernel
theorem dL_law_325 : decode cL_law 325 = .ok (.iconst 1, 1) := by decide +kernel
theorem dL_law_326 : decode cL_law 326 = .ok (.iadd, 1) := by decide +kernel
theorem dL_law_327 : decode cL_law 327 = .ok (.iaload, 1) := by decide +kernel
theorem dL_law_328 : decode cL_law 328 = .ok (.invokevirtual 102, 3) := by decide +kernel
theorem dL_law_331 : decode cL_law 331 = .ok (.istore 6, 2) := by decide +kernel
theorem dL_law_333 : decode cL_law 333 = .ok (.aload_n 2, 1) := by decide +kernel
theorem dL_law_334 : decode cL_law 334 = .ok (.invokevirtual 92, 3) := by decide +kernel
theorem dL_law_337 : decode cL_law 337 = .ok (.iload 5, 2) := by decide +kernel
theorem dL_law_339 : decode cL_law 339 = .ok (.if_icmp .eq 5, 3) := by decide +kernel
theorem dL_law_342 : decode cL_law 342 = .ok (.iconst 0, 1) := by decide +kernel
theorem dL_law_343 : decode cL_law 343 = .ok (.ireturn, 1) := by decide +kernel
theorem dL_law_344 : decode cL_law 344 = .ok (.iload 5, 2) := by decide +kernel
theorem dL_law_346 : decode cL_law 346 = .ok (.ifCond .ne 15, 3) := by decide +kernel
theorem dL_law_349 : decode cL_law 349 = .ok (.aload_n 3, 1) := by decide +kernel
theorem dL_law_350 : decode cL_law 350 = .ok (.iconst 0, 1) := by decide +kernel
theorem dL_law_351 : decode cL_law 351 = .ok (.laload, 1) := by decide +kernel
theorem dL_law_352 : decode cL_law 352 = .ok (.iload 6, 2) := by decide +kernel
theorem dL_law_354 : decode cL_law 354 = .ok (.i2l, 1) := by decide +kernel
theorem dL_law_355 : decode cL_law 355 = .ok (.lcmp, 1) := by decide +kernel
theorem dL_law_356 : decode cL_law 356 = .ok (.ifCond .eq 5, 3) := by decide +kernel
theorem dL_law_359 : decode cL_law 359 = .ok (.iconst 0, 1) := by decide +kernel
theorem dL_law_360 : decode cL_law 360 = .ok (.ireturn, 1) := by decide +kernel
theorem dL_law_361 : decode cL_law 361 = .ok (.goto 1298, 3) := by decide +kernel
theorem dL_law_364 : decode cL_law 364 = .ok (.aload_n 1, 1) := by decide +kernel
theorem dL_law_365 : decode cL_law 365 = .ok (.aload_n 0, 1) := by decide +kernel
theorem dL_law_366 : decode cL_law 366 = .ok (.iload 4, 2) := by decide +kernel
theorem dL_law_368 : decode cL_law 368 = .ok (.iconst 1, 1) := by decide +kernel
theorem dL_law_369 : decode cL_law 369 = .ok (.iadd, 1) := by decide +kernel
theorem dL_law_370 : decode cL_law 370 = .ok (.iaload, 1) := by decide +kernel
theorem dL_law_371 : decode cL_law 371 = .ok (.aload_n 0, 1) := by decide +kernel
theorem dL_law_372 : decode cL_law 372 = .ok (.iload 4, 2) := by decide +kernel
theorem dL_law_374 : decode cL_law 374 = .ok (.iconst 2, 1) := by decide +kernel
theorem dL_law_375 : decode cL_law 375 = .ok (.iadd, 1) := by decide +kernel
theorem dL_law_376 : decode cL_law 376 = .ok (.iaload, 1) := by decide +kernel
theorem dL_law_377 : decode cL_law 377 = .ok (.aload_n 0, 1) := by decide +kernel
theorem dL_law_378 : decode cL_law 378 = .ok (.iload 4, 2) := by decide +kernel
theorem dL_law_380 : decode cL_law 380 = .ok (.iconst 3, 1) := by decide +kernel
theorem dL_law_381 : decode cL_law 381 = .ok (.iadd, 1) := by decide +kernel
theorem dL_law_382 : decode cL_law 382 = .ok (.iaload, 1) := by decide +kernel
theorem dL_law_383 : decode cL_law 383 = .ok (.aload_n 3, 1) := by decide +kernel
theorem dL_law_384 : decode cL_law 384 = .ok (.invokestatic 103, 3) := by decide +kernel
theorem dL_law_387 : decode cL_law 387 = .ok (.istore 5, 2) := by decide +kernel
theorem dL_law_389 : decode cL_law 389 = .ok (.aload_n 2, 1) := by decide +kernel
theorem dL_law_390 : decode cL_law 390 = .ok (.aload_n 0, 1) := by decide +kernel
theorem dL_law_391 : decode cL_law 391 = .ok (.iload 4, 2) := by decide +kernel
theorem dL_law_393 : decode cL_law 393 = .ok (.iconst 1, 1) := by decide +kernel
theorem dL_law_394 : decode cL_law 394 = .ok (.iadd, 1) := by decide +kernel
theorem dL_law_395 : decode cL_law 395 = .ok (.iaload, 1) := by decide +kernel
theorem dL_law_396 : decode cL_law 396 = .ok (.aload_n 0, 1) := by decide +kernel
theorem dL_law_397 : decode cL_law 397 = .ok (.iload 4, 2) := by decide +kernel
theorem dL_law_399 : decode cL_law 399 = .ok (.iconst 2, 1) := by decide +kernel
theorem dL_law_400 : decode cL_law 400 = .ok (.iadd, 1) := by decide +kernel
theorem dL_law_401 : decode cL_law 401 = .ok (.iaload, 1) := by decide +kernel
theorem dL_law_402 : decode cL_law 402 = .ok (.aload_n 0, 1) := by decide +kernel
theorem dL_law_403 : decode cL_law 403 = .ok (.iload 4, 2) := by decide +kernel
theorem dL_law_405 : decode cL_law 405 = .ok (.iconst 3, 1) := by decide +kernel
theorem dL_law_406 : decode cL_law 406 = .ok (.iadd, 1) := by decide +kernel
theorem dL_law_407 : decode cL_law 407 = .ok (.iaload, 1) := by decide +kernel
theorem dL_law_408 : decode cL_law 408 = .ok (.invokevirtual 105, 3) := by decide +kernel
theorem dL_law_411 : decode cL_law 411 = .ok (.istore 6, 2) := by decide +kernel
theorem dL_law_413 : decode cL_law 413 = .ok (.aload_n 2, 1) := by decide +kernel
theorem dL_law_414 : decode cL_law 414 = .ok (.invokevirtual 92, 3) := by decide +kernel
theorem dL_law_417 : decode cL_law 417 = .ok (.iload 5, 2) := by decide +kernel
theorem dL_law_419 : decode cL_law 419 = .ok (.if_icmp .eq 5, 3) := by decide +kernel
theorem dL_law_422 : decode cL_law 422 = .ok (.iconst 0, 1) := by decide +kernel
theorem dL_law_423 : decode cL_law 423 = .ok (.ireturn, 1) := by decide +kernel
theorem dL_law_424 : decode cL_law 424 = .ok (.iload 5, 2) := by decide +kernel
theorem dL_law_426 : decode cL_law 426 = .ok (.ifCond .ne 15, 3) := by decide +kernel
theorem dL_law_429 : decode cL_law 429 = .ok (.aload_n 3, 1) := by decide +kernel
theorem dL_law_430 : decode cL_law 430 = .ok (.iconst 0, 1) := by decide +kernel
theorem dL_law_431 : decode cL_law 431 = .ok (.laload, 1) := by decide +kernel
theorem dL_law_432 : decode cL_law 432 = .ok (.iload 6, 2) := by decide +kernel
theorem dL_law_434 : decode cL_law 434 = .ok (.i2l, 1) := by decide +kernel
theorem dL_law_435 : decode cL_law 435 = .ok (.lcmp, 1) := by decide +kernel
theorem dL_law_436 : decode cL_law 436 = .ok (.ifCond .eq 5, 3) := by decide +kernel
theorem dL_law_439 : decode cL_law 439 = .ok (.iconst 0, 1) := by decide +kernel
theorem dL_law_440 : decode cL_law 440 = .ok (.ireturn, 1) := by decide +kernel
theorem dL_law_441 : decode cL_law 441 = .ok (.goto 1218, 3) := by decide +kernel
theorem dL_law_444 : decode cL_law 444 = .ok (.aload_n 1, 1) := by decide +kernel
theorem dL_law_445 : decode cL_law 445 = .ok (.aload_n 0, 1) := by decide +kernel
theorem dL_law_446 : decode cL_law 446 = .ok (.iload 4, 2) := by decide +kernel
theorem dL_law_448 : decode cL_law 448 = .ok (.iconst 1, 1) := by decide +kernel
theorem dL_law_449 : decode cL_law 449 = .ok (.iadd, 1) := by decide +kernel
theorem dL_law_450 : decode cL_law 450 = .ok (.iaload, 1) := by decide +kernel
theorem dL_law_451 : decode cL_law 451 = .ok (.aload_n 0, 1) := by decide +kernel
theorem dL_law_452 : decode cL_law 452 = .ok (.iload 4, 2) := by decide +kernel
theorem dL_law_454 : decode cL_law 454 = .ok (.iconst 2, 1) := by decide +kernel
theorem dL_law_455 : decode cL_law 455 = .ok (.iadd, 1) := by decide +kernel
theorem dL_law_456 : decode cL_law 456 = .ok (.iaload, 1) := by decide +kernel
theorem dL_law_457 : decode cL_law 457 = .ok (.aload_n 3, 1) := by decide +kernel
theorem dL_law_458 : decode cL_law 458 = .ok (.invokestatic 106, 3) := by decide +kernel
theorem dL_law_461 : decode cL_law 461 = .ok (.istore 5, 2) := by decide +kernel
theorem dL_law_463 : decode cL_law 463 = .ok (.aload_n 2, 1) := by decide +kernel
theorem dL_law_464 : decode cL_law 464 = .ok (.aload_n 0, 1) := by decide +kernel
theorem dL_law_465 : decode cL_law 465 = .ok (.iload 4, 2) := by decide +kernel
theorem dL_law_467 : decode cL_law 467 = .ok (.iconst 1, 1) := by decide +kernel
theorem dL_law_468 : decode cL_law 468 = .ok (.iadd, 1) := by decide +kernel
theorem dL_law_469 : decode cL_law 469 = .ok (.iaload, 1) := by decide +kernel
theorem dL_law_470 : decode cL_law 470 = .ok (.aload_n 0, 1) := by decide +kernel
theorem dL_law_471 : decode cL_law 471 = .ok (.iload 4, 2) := by decide +kernel
theorem dL_law_473 : decode cL_law 473 = .ok (.iconst 2, 1) := by decide +kernel
theorem dL_law_474 : decode cL_law 474 = .ok (.iadd, 1) := by decide +kernel
theorem dL_law_475 : decode cL_law 475 = .ok (.iaload, 1) := by decide +kernel
theorem dL_law_476 : decode cL_law 476 = .ok (.invokevirtual 108, 3) := by decide +kernel
theorem dL_law_479 : decode cL_law 479 = .ok (.istore 6, 2) := by decide +kernel
theorem dL_law_481 : decode cL_law 481 = .ok (.aload_n 2, 1) := by decide +kernel
theorem dL_law_482 : decode cL_law 482 = .ok (.invokevirtual 92, 3) := by decide +kernel
theorem dL_law_485 : decode cL_law 485 = .ok (.iload 5, 2) := by decide +kernel
theorem dL_law_487 : decode cL_law 487 = .ok (.if_icmp .eq 5, 3) := by decide +kernel
theorem dL_law_490 : decode cL_law 490 = .ok (.iconst 0, 1) := by decide +kernel
theorem dL_law_491 : decode cL_law 491 = .ok (.ireturn, 1) := by decide +kernel
theorem dL_law_492 : decode cL_law 492 = .ok (.iload 5, 2) := by decide +kernel
theorem dL_law_494 : decode cL_law 494 = .ok (.ifCond .ne 15, 3) := by decide +kernel
theorem dL_law_497 : decode cL_law 497 = .ok (.aload_n 3, 1) := by decide +kernel
theorem dL_law_498 : decode cL_law 498 = .ok (.iconst 0, 1) := by decide +kernel
theorem dL_law_499 : decode cL_law 499 = .ok (.laload, 1) := by decide +kernel
theorem dL_law_500 : decode cL_law 500 = .ok (.iload 6, 2) := by decide +kernel
theorem dL_law_502 : decode cL_law 502 = .ok (.i2l, 1) := by decide +kernel
theorem dL_law_503 : decode cL_law 503 = .ok (.lcmp, 1) := by decide +kernel
theorem dL_law_504 : decode cL_law 504 = .ok (.ifCond .eq 5, 3) := by decide +kernel
theorem dL_law_507 : decode cL_law 507 = .ok (.iconst 0, 1) := by decide +kernel
theorem dL_law_508 : decode cL_law 508 = .ok (.ireturn, 1) := by decide +kernel
theorem dL_law_509 : decode cL_law 509 = .ok (.goto 1150, 3) := by decide +kernel
theorem dL_law_512 : decode cL_law 512 = .ok (.aload_n 1, 1) := by decide +kernel
theorem dL_law_513 : decode cL_law 513 = .ok (.aload_n 0, 1) := by decide +kernel
theorem dL_law_514 : decode cL_law 514 = .ok (.iload 4, 2) := by decide +kernel
theorem dL_law_516 : decode cL_law 516 = .ok (.iconst 1, 1) := by decide +kernel
theorem dL_law_517 : decode cL_law 517 = .ok (.iadd, 1) := by decide +kernel
theorem dL_law_518 : decode cL_law 518 = .ok (.iaload, 1) := by decide +kernel
theorem dL_law_519 : decode cL_law 519 = .ok (.aload_n 0, 1) := by decide +kernel
theorem dL_law_520 : decode cL_law 520 = .ok (.iload 4, 2) := by decide +kernel
theorem dL_law_522 : decode cL_law 522 = .ok (.iconst 2, 1) := by decide +kernel
theorem dL_law_523 : decode cL_law 523 = .ok (.iadd, 1) := by decide +kernel
theorem dL_law_524 : decode cL_law 524 = .ok (.iaload, 1) := by decide +kernel
theorem dL_law_525 : decode cL_law 525 = .ok (.aload_n 3, 1) := by decide +kernel
theorem dL_law_526 : decode cL_law 526 = .ok (.invokestatic 109, 3) := by decide +kernel
theorem dL_law_529 : decode cL_law 529 = .ok (.istore 5, 2) := by decide +kernel
theorem dL_law_531 : decode cL_law 531 = .ok (.aload_n 2, 1) := by decide +kernel
theorem dL_law_532 : decode cL_law 532 = .ok (.aload_n 0, 1) := by decide +kernel
theorem dL_law_533 : decode cL_law 533 = .ok (.iload 4, 2) := by decide +kernel
theorem dL_law_535 : decode cL_law 535 = .ok (.iconst 1, 1) := by decide +kernel
theorem dL_law_536 : decode cL_law 536 = .ok (.iadd, 1) := by decide +kernel
theorem dL_law_537 : decode cL_law 537 = .ok (.iaload, 1) := by decide +kernel
theorem dL_law_538 : decode cL_law 538 = .ok (.aload_n 0, 1) := by decide +kernel
theorem dL_law_539 : decode cL_law 539 = .ok (.iload 4, 2) := by decide +kernel
theorem dL_law_541 : decode cL_law 541 = .ok (.iconst 2, 1) := by decide +kernel
theorem dL_law_542 : decode cL_law 542 = .ok (.iadd, 1) := by decide +kernel
theorem dL_law_543 : decode cL_law 543 = .ok (.iaload, 1) := by decide +kernel
theorem dL_law_544 : decode cL_law 544 = .ok (.invokevirtual 111, 3) := by decide +kernel
theorem dL_law_547 : decode cL_law 547 = .ok (.istore 6, 2) := by decide +kernel
theorem dL_law_549 : decode cL_law 549 = .ok (.aload_n 2, 1) := by decide +kernel
theorem dL_law_550 : decode cL_law 550 = .ok (.invokevirtual 92, 3) := by decide +kernel
theorem dL_law_553 : decode cL_law 553 = .ok (.iload 5, 2) := by decide +kernel
theorem dL_law_555 : decode cL_law 555 = .ok (.if_icmp .eq 5, 3) := by decide +kernel
theorem dL_law_558 : decode cL_law 558 = .ok (.iconst 0, 1) := by decide +kernel
theorem dL_law_559 : decode cL_law 559 = .ok (.ireturn, 1) := by decide +kernel
theorem dL_law_560 : decode cL_law 560 = .ok (.iload 5, 2) := by decide +kernel
theorem dL_law_562 : decode cL_law 562 = .ok (.ifCond .ne 15, 3) := by decide +kernel
theorem dL_law_565 : decode cL_law 565 = .ok (.aload_n 3, 1) := by decide +kernel
theorem dL_law_566 : decode cL_law 566 = .ok (.iconst 0, 1) := by decide +kernel
theorem dL_law_567 : decode cL_law 567 = .ok (.laload, 1) := by decide +kernel
theorem dL_law_568 : decode cL_law 568 = .ok (.iload 6, 2) := by decide +kernel
theorem dL_law_570 : decode cL_law 570 = .ok (.i2l, 1) := by decide +kernel
theorem dL_law_571 : decode cL_law 571 = .ok (.lcmp, 1) := by decide +kernel
theorem dL_law_572 : decode cL_law 572 = .ok (.ifCond .eq 5, 3) := by decide +kernel
theorem dL_law_575 : decode cL_law 575 = .ok (.iconst 0, 1) := by decide +kernel
theorem dL_law_576 : decode cL_law 576 = .ok (.ireturn, 1) := by decide +kernel
theorem dL_law_577 : decode cL_law 577 = .ok (.goto 1082, 3) := by decide +kernel
theorem dL_law_580 : decode cL_law 580 = .ok (.aload_n 1, 1) := by decide +kernel
theorem dL_law_581 : decode cL_law 581 = .ok (.aload_n 0, 1) := by decide +kernel
theorem dL_law_582 : decode cL_law 582 = .ok (.iload 4, 2) := by decide +kernel
theorem dL_law_584 : decode cL_law 584 = .ok (.iconst 1, 1) := by decide +kernel
theorem dL_law_585 : decode cL_law 585 = .ok (.iadd, 1) := by decide +kernel
theorem dL_law_586 : decode cL_law 586 = .ok (.iaload, 1) := by decide +kernel
theorem dL_law_587 : decode cL_law 587 = .ok (.aload_n 0, 1) := by decide +kernel
theorem dL_law_588 : decode cL_law 588 = .ok (.iload 4, 2) := by decide +kernel
theorem dL_law_590 : decode cL_law 590 = .ok (.iconst 2, 1) := by decide +kernel
theorem dL_law_591 : decode cL_law 591 = .ok (.iadd, 1) := by decide +kernel
theorem dL_law_592 : decode cL_law 592 = .ok (.iaload, 1) := by decide +kernel
theorem dL_law_593 : decode cL_law 593 = .ok (.aload_n 3, 1) := by decide +kernel
theorem dL_law_594 : decode cL_law 594 = .ok (.invokestatic 112, 3) := by decide +kernel
theorem dL_law_597 : decode cL_law 597 = .ok (.istore 5, 2) := by decide +kernel
theorem dL_law_599 : decode cL_law 599 = .ok (.aload_n 2, 1) := by decide +kernel
theorem dL_law_600 : decode cL_law 600 = .ok (.aload_n 0, 1) := by decide +kernel
theorem dL_law_601 : decode cL_law 601 = .ok (.iload 4, 2) := by decide +kernel
theorem dL_law_603 : decode cL_law 603 = .ok (.iconst 1, 1) := by decide +kernel
theorem dL_law_604 : decode cL_law 604 = .ok (.iadd, 1) := by decide +kernel
theorem dL_law_605 : decode cL_law 605 = .ok (.iaload, 1) := by decide +kernel
theorem dL_law_606 : decode cL_law 606 = .ok (.aload_n 0, 1) := by decide +kernel
theorem dL_law_607 : decode cL_law 607 = .ok (.iload 4, 2) := by decide +kernel
theorem dL_law_609 : decode cL_law 609 = .ok (.iconst 2, 1) := by decide +kernel
theorem dL_law_610 : decode cL_law 610 = .ok (.iadd, 1) := by decide +kernel
theorem dL_law_611 : decode cL_law 611 = .ok (.iaload, 1) := by decide +kernel
theorem dL_law_612 : decode cL_law 612 = .ok (.invokevirtual 114, 3) := by decide +kernel
theorem dL_law_615 : decode cL_law 615 = .ok (.istore 6, 2) := by decide +kernel
theorem dL_law_617 : decode cL_law 617 = .ok (.aload_n 2, 1) := by decide +kernel
theorem dL_law_618 : decode cL_law 618 = .ok (.invokevirtual 92, 3) := by decide +kernel
theorem dL_law_621 : decode cL_law 621 = .ok (.iload 5, 2) := by decide +kernel
theorem dL_law_623 : decode cL_law 623 = .ok (.if_icmp .eq 5, 3) := by decide +kernel
theorem dL_law_626 : decode cL_law 626 = .ok (.iconst 0, 1) := by decide +kernel
theorem dL_law_627 : decode cL_law 627 = .ok (.ireturn, 1) := by decide +kernel
theorem dL_law_628 : decode cL_law 628 = .ok (.iload 5, 2) := by decide +kernel
theorem dL_law_630 : decode cL_law 630 = .ok (.ifCond .ne 15, 3) := by decide +kernel
theorem dL_law_633 : decode cL_law 633 = .ok (.aload_n 3, 1) := by decide +kernel
theorem dL_law_634 : decode cL_law 634 = .ok (.iconst 0, 1) := by decide +kernel
theorem dL_law_635 : decode cL_law 635 = .ok (.laload, 1) := by decide +kernel
theorem dL_law_636 : decode cL_law 636 = .ok (.iload 6, 2) := by decide +kernel
theorem dL_law_638 : decode cL_law 638 = .ok (.i2l, 1) := by decide +kernel
theorem dL_law_639 : decode cL_law 639 = .ok (.lcmp, 1) := by decide +kernel
theorem dL_law_640 : decode cL_law 640 = .ok (.ifCond .eq 5, 3) := by decide +kernel
theorem dL_law_643 : decode cL_law 643 = .ok (.iconst 0, 1) := by decide +kernel
theorem dL_law_644 : decode cL_law 644 = .ok (.ireturn, 1) := by decide +kernel
theorem dL_law_645 : decode cL_law 645 = .ok (.goto 1014, 3) := by decide +kernel
theorem dL_law_648 : decode cL_law 648 = .ok (.aload_n 1, 1) := by decide +kernel
theorem dL_law_649 : decode cL_law 649 = .ok (.invokevirtual 115, 3) := by decide +kernel
theorem dL_law_652 : decode cL_law 652 = .ok (.aload_n 2, 1) := by decide +kernel
theorem dL_law_653 : decode cL_law 653 = .ok (.invokevirtual 118, 3) := by decide +kernel
theorem dL_law_656 : decode cL_law 656 = .ok (.if_icmp .eq 1003, 3) := by decide +kernel
theorem dL_law_659 : decode cL_law 659 = .ok (.iconst 0, 1) := by decide +kernel
theorem dL_law_660 : decode cL_law 660 = .ok (.ireturn, 1) := by decide +kernel
theorem dL_law_661 : decode cL_law 661 = .ok (.aload_n 1, 1) := by decide +kernel
theorem dL_law_662 : decode cL_law 662 = .ok (.aload_n 0, 1) := by decide +kernel
theorem dL_law_663 : decode cL_law 663 = .ok (.iload 4, 2) := by decide +kernel
theorem dL_law_665 : decode cL_law 665 = .ok (.iconst 1, 1) := by decide +kernel
theorem dL_law_666 : decode cL_law 666 = .ok (.iadd, 1) := by decide +kernel
theorem dL_law_667 : decode cL_law 667 = .ok (.iaload, 1) := by decide +kernel
theorem dL_law_668 : decode cL_law 668 = .ok (.aload_n 3, 1) := by decide +kernel
theorem dL_law_669 : decode cL_law 669 = .ok (.invokestatic 119, 3) := by decide +kernel
theorem dL_law_672 : decode cL_law 672 = .ok (.istore 5, 2) := by decide +kernel
theorem dL_law_674 : decode cL_law 674 = .ok (.aload_n 2, 1) := by decide +kernel
theorem dL_law_675 : decode cL_law 675 = .ok (.aload_n 0, 1) := by decide +kernel
theorem dL_law_676 : decode cL_law 676 = .ok (.iload 4, 2) := by decide +kernel
theorem dL_law_678 : decode cL_law 678 = .ok (.iconst 1, 1) := by decide +kernel
theorem dL_law_679 : decode cL_law 679 = .ok (.iadd, 1) := by decide +kernel
theorem dL_law_680 : decode cL_law 680 = .ok (.iaload, 1) := by decide +kernel
theorem dL_law_681 : decode cL_law 681 = .ok (.invokevirtual 121, 3) := by decide +kernel
theorem dL_law_684 : decode cL_law 684 = .ok (.istore 6, 2) := by decide +kernel
theorem dL_law_686 : decode cL_law 686 = .ok (.aload_n 2, 1) := by decide +kernel
theorem dL_law_687 : decode cL_law 687 = .ok (.invokevirtual 92, 3) := by decide +kernel
theorem dL_law_690 : decode cL_law 690 = .ok (.iload 5, 2) := by decide +kernel
theorem dL_law_692 : decode cL_law 692 = .ok (.if_icmp .eq 5, 3) := by decide +kernel
theorem dL_law_695 : decode cL_law 695 = .ok (.iconst 0, 1) := by decide +kernel
theorem dL_law_696 : decode cL_law 696 = .ok (.ireturn, 1) := by decide +kernel
theorem dL_law_697 : decode cL_law 697 = .ok (.iload 5, 2) := by decide +kernel
theorem dL_law_699 : decode cL_law 699 = .ok (.ifCond .ne 15, 3) := by decide +kernel
theorem dL_law_702 : decode cL_law 702 = .ok (.aload_n 3, 1) := by decide +kernel
theorem dL_law_703 : decode cL_law 703 = .ok (.iconst 0, 1) := by decide +kernel
theorem dL_law_704 : decode cL_law 704 = .ok (.laload, 1) := by decide +kernel
theorem dL_law_705 : decode cL_law 705 = .ok (.iload 6, 2) := by decide +kernel
theorem dL_law_707 : decode cL_law 707 = .ok (.i2l, 1) := by decide +kernel
theorem dL_law_708 : decode cL_law 708 = .ok (.lcmp, 1) := by decide +kernel
theorem dL_law_709 : decode cL_law 709 = .ok (.ifCond .eq 5, 3) := by decide +kernel
theorem dL_law_712 : decode cL_law 712 = .ok (.iconst 0, 1) := by decide +kernel
theorem dL_law_713 : decode cL_law 713 = .ok (.ireturn, 1) := by decide +kernel
theorem dL_law_714 : decode cL_law 714 = .ok (.goto 945, 3) := by decide +kernel
theorem dL_law_717 : decode cL_law 717 = .ok (.aload_n 1, 1) := by decide +kernel
theorem dL_law_718 : decode cL_law 718 = .ok (.invokevirtual 122, 3) := by decide +kernel
theorem dL_law_721 : decode cL_law 721 = .ok (.aload_n 2, 1) := by decide +kernel
theorem dL_law_722 : decode cL_law 722 = .ok (.invokevirtual 125, 3) := by decide +kernel
theorem dL_law_725 : decode cL_law 725 = .ok (.if_icmp .eq 934, 3) := by decide +kernel
theorem dL_law_728 : decode cL_law 728 = .ok (.iconst 0, 1) := by decide +kernel
theorem dL_law_729 : decode cL_law 729 = .ok (.ireturn, 1) := by decide +kernel
theorem dL_law_730 : decode cL_law 730 = .ok (.aload_n 1, 1) := by decide +kernel
theorem dL_law_731 : decode cL_law 731 = .ok (.invokevirtual 126, 3) := by decide +kernel
theorem dL_law_734 : decode cL_law 734 = .ok (.aload_n 2, 1) := by decide +kernel
theorem dL_law_735 : decode cL_law 735 = .ok (.invokevirtual 129, 3) := by decide +kernel
theorem dL_law_738 : decode cL_law 738 = .ok (.if_icmp .eq 921, 3) := by decide +kernel
theorem dL_law_741 : decode cL_law 741 = .ok (.iconst 0, 1) := by decide +kernel
theorem dL_law_742 : decode cL_law 742 = .ok (.ireturn, 1) := by decide +kernel
theorem dL_law_743 : decode cL_law 743 = .ok (.aload_n 1, 1) := by decide +kernel
theorem dL_law_744 : decode cL_law 744 = .ok (.aload_n 3, 1) := by decide +kernel
theorem dL_law_745 : decode cL_law 745 = .ok (.invokestatic 130, 3) := by decide +kernel
theorem dL_law_748 : decode cL_law 748 = .ok (.istore 5, 2) := by decide +kernel
theorem dL_law_750 : decode cL_law 750 = .ok (.aload_n 2, 1) := by decide +kernel
theorem dL_law_751 : decode cL_law 751 = .ok (.invokevirtual 133, 3) := by decide +kernel
theorem dL_law_754 : decode cL_law 754 = .ok (.istore 6, 2) := by decide +kernel
theorem dL_law_756 : decode cL_law 756 = .ok (.aload_n 2, 1) := by decide +kernel
theorem dL_law_757 : decode cL_law 757 = .ok (.invokevirtual 92, 3) := by decide +kernel
theorem dL_law_760 : decode cL_law 760 = .ok (.iload 5, 2) := by decide +kernel
theorem dL_law_762 : decode cL_law 762 = .ok (.if_icmp .eq 5, 3) := by decide +kernel
theorem dL_law_765 : decode cL_law 765 = .ok (.iconst 0, 1) := by decide +kernel
theorem dL_law_766 : decode cL_law 766 = .ok (.ireturn, 1) := by decide +kernel
theorem dL_law_767 : decode cL_law 767 = .ok (.iload 5, 2) := by decide +kernel
theorem dL_law_769 : decode cL_law 769 = .ok (.ifCond .ne 15, 3) := by decide +kernel
theorem dL_law_772 : decode cL_law 772 = .ok (.aload_n 3, 1) := by decide +kernel
theorem dL_law_773 : decode cL_law 773 = .ok (.iconst 0, 1) := by decide +kernel
theorem dL_law_774 : decode cL_law 774 = .ok (.laload, 1) := by decide +kernel
theorem dL_law_775 : decode cL_law 775 = .ok (.iload 6, 2) := by decide +kernel
theorem dL_law_777 : decode cL_law 777 = .ok (.i2l, 1) := by decide +kernel
theorem dL_law_778 : decode cL_law 778 = .ok (.lcmp, 1) := by decide +kernel
theorem dL_law_779 : decode cL_law 779 = .ok (.ifCond .eq 5, 3) := by decide +kernel
theorem dL_law_782 : decode cL_law 782 = .ok (.iconst 0, 1) := by decide +kernel
theorem dL_law_783 : decode cL_law 783 = .ok (.ireturn, 1) := by decide +kernel
theorem dL_law_784 : decode cL_law 784 = .ok (.goto 875, 3) := by decide +kernel
theorem dL_law_787 : decode cL_law 787 = .ok (.aload_n 1, 1) := by decide +kernel
theorem dL_law_788 : decode cL_law 788 = .ok (.aload_n 0, 1) := by decide +kernel
theorem dL_law_789 : decode cL_law 789 = .ok (.iload 4, 2) := by decide +kernel
theorem dL_law_791 : decode cL_law 791 = .ok (.iconst 1, 1) := by decide +kernel
theorem dL_law_792 : decode cL_law 792 = .ok (.iadd, 1) := by decide +kernel
theorem dL_law_793 : decode cL_law 793 = .ok (.iaload, 1) := by decide +kernel
theorem dL_law_794 : decode cL_law 794 = .ok (.aload_n 3, 1) := by decide +kernel
theorem dL_law_795 : decode cL_law 795 = .ok (.invokestatic 134, 3) := by decide +kernel
theorem dL_law_798 : decode cL_law 798 = .ok (.istore 5, 2) := by decide +kernel
theorem dL_law_800 : decode cL_law 800 = .ok (.aload_n 2, 1) := by decide +kernel
theorem dL_law_801 : decode cL_law 801 = .ok (.aload_n 0, 1) := by decide +kernel
theorem dL_law_802 : decode cL_law 802 = .ok (.iload 4, 2) := by decide +kernel
theorem dL_law_804 : decode cL_law 804 = .ok (.iconst 1, 1) := by decide +kernel
theorem dL_law_805 : decode cL_law 805 = .ok (.iadd, 1) := by decide +kernel
theorem dL_law_806 : decode cL_law 806 = .ok (.iaload, 1) := by decide +kernel
theorem dL_law_807 : decode cL_law 807 = .ok (.invokevirtual 136, 3) := by decide +kernel
theorem dL_law_810 : decode cL_law 810 = .ok (.istore 6, 2) := by decide +kernel
theorem dL_law_812 : decode cL_law 812 = .ok (.aload_n 2, 1) := by decide +kernel
theorem dL_law_813 : decode cL_law 813 = .ok (.invokevirtual 92, 3) := by decide +kernel
theorem dL_law_816 : decode cL_law 816 = .ok (.iload 5, 2) := by decide +kernel
theorem dL_law_818 : decode cL_law 818 = .ok (.if_icmp .eq 5, 3) := by decide +kernel
theorem dL_law_821 : decode cL_law 821 = .ok (.iconst 0, 1) := by decide +kernel
theorem dL_law_822 : decode cL_law 822 = .ok (.ireturn, 1) := by decide +kernel
theorem dL_law_823 : decode cL_law 823 = .ok (.iload 5, 2) := by decide +kernel
theorem dL_law_825 : decode cL_law 825 = .ok (.ifCond .ne 15, 3) := by decide +kernel
theorem dL_law_828 : decode cL_law 828 = .ok (.aload_n 3, 1) := by decide +kernel
theorem dL_law_829 : decode cL_law 829 = .ok (.iconst 0, 1) := by decide +kernel
theorem dL_law_830 : decode cL_law 830 = .ok (.laload, 1) := by decide +kernel
theorem dL_law_831 : decode cL_law 831 = .ok (.iload 6, 2) := by decide +kernel
theorem dL_law_833 : decode cL_law 833 = .ok (.i2l, 1) := by decide +kernel
theorem dL_law_834 : decode cL_law 834 = .ok (.lcmp, 1) := by decide +kernel
theorem dL_law_835 : decode cL_law 835 = .ok (.ifCond .eq 5, 3) := by decide +kernel
theorem dL_law_838 : decode cL_law 838 = .ok (.iconst 0, 1) := by decide +kernel
theorem dL_law_839 : decode cL_law 839 = .ok (.ireturn, 1) := by decide +kernel
theorem dL_law_840 : decode cL_law 840 = .ok (.goto 819, 3) := by decide +kernel
theorem dL_law_843 : decode cL_law 843 = .ok (.aload_n 1, 1) := by decide +kernel
theorem dL_law_844 : decode cL_law 844 = .ok (.aload_n 0, 1) := by decide +kernel
theorem dL_law_845 : decode cL_law 845 = .ok (.iload 4, 2) := by decide +kernel
theorem dL_law_847 : decode cL_law 847 = .ok (.iconst 1, 1) := by decide +kernel
theorem dL_law_848 : decode cL_law 848 = .ok (.iadd, 1) := by decide +kernel
theorem dL_law_849 : decode cL_law 849 = .ok (.iaload, 1) := by decide +kernel
theorem dL_law_850 : decode cL_law 850 = .ok (.aload_n 3, 1) := by decide +kernel
theorem dL_law_851 : decode cL_law 851 = .ok (.invokestatic 137, 3) := by decide +kernel
theorem dL_law_854 : decode cL_law 854 = .ok (.istore 5, 2) := by decide +kernel
theorem dL_law_856 : decode cL_law 856 = .ok (.aload_n 2, 1) := by decide +kernel
theorem dL_law_857 : decode cL_law 857 = .ok (.aload_n 0, 1) := by decide +kernel
theorem dL_law_858 : decode cL_law 858 = .ok (.iload 4, 2) := by decide +kernel
theorem dL_law_860 : decode cL_law 860 = .ok (.iconst 1, 1) := by decide +kernel
theorem dL_law_861 : decode cL_law 861 = .ok (.iadd, 1) := by decide +kernel
theorem dL_law_862 : decode cL_law 862 = .ok (.iaload, 1) := by decide +kernel
theorem dL_law_863 : decode cL_law 863 = .ok (.invokevirtual 139, 3) := by decide +kernel
theorem dL_law_866 : decode cL_law 866 = .ok (.istore 6, 2) := by decide +kernel
theorem dL_law_868 : decode cL_law 868 = .ok (.aload_n 2, 1) := by decide +kernel
theorem dL_law_869 : decode cL_law 869 = .ok (.invokevirtual 92, 3) := by decide +kernel
theorem dL_law_872 : decode cL_law 872 = .ok (.iload 5, 2) := by decide +kernel
theorem dL_law_874 : decode cL_law 874 = .ok (.if_icmp .eq 5, 3) := by decide +kernel
theorem dL_law_877 : decode cL_law 877 = .ok (.iconst 0, 1) := by decide +kernel
theorem dL_law_878 : decode cL_law 878 = .ok (.ireturn, 1) := by decide +kernel
theorem dL_law_879 : decode cL_law 879 = .ok (.iload 5, 2) := by decide +kernel
theorem dL_law_881 : decode cL_law 881 = .ok (.ifCond .ne 15, 3) := by decide +kernel
theorem dL_law_884 : decode cL_law 884 = .ok (.aload_n 3, 1) := by decide +kernel
theorem dL_law_885 : decode cL_law 885 = .ok (.iconst 0, 1) := by decide +kernel
theorem dL_law_886 : decode cL_law 886 = .ok (.laload, 1) := by decide +kernel
theorem dL_law_887 : decode cL_law 887 = .ok (.iload 6, 2) := by decide +kernel
theorem dL_law_889 : decode cL_law 889 = .ok (.i2l, 1) := by decide +kernel
theorem dL_law_890 : decode cL_law 890 = .ok (.lcmp, 1) := by decide +kernel
theorem dL_law_891 : decode cL_law 891 = .ok (.ifCond .eq 5, 3) := by decide +kernel
theorem dL_law_894 : decode cL_law 894 = .ok (.iconst 0, 1) := by decide +kernel
theorem dL_law_895 : decode cL_law 895 = .ok (.ireturn, 1) := by decide +kernel
theorem dL_law_896 : decode cL_law 896 = .ok (.goto 763, 3) := by decide +kernel
theorem dL_law_899 : decode cL_law 899 = .ok (.aload_n 1, 1) := by decide +kernel
theorem dL_law_900 : decode cL_law 900 = .ok (.aload_n 3, 1) := by decide +kernel
theorem dL_law_901 : decode cL_law 901 = .ok (.invokestatic 140, 3) := by decide +kernel
theorem dL_law_904 : decode cL_law 904 = .ok (.istore 5, 2) := by decide +kernel
theorem dL_law_906 : decode cL_law 906 = .ok (.aload_n 2, 1) := by decide +kernel
theorem dL_law_907 : decode cL_law 907 = .ok (.invokevirtual 142, 3) := by decide +kernel
theorem dL_law_910 : decode cL_law 910 = .ok (.istore 6, 2) := by decide +kernel
theorem dL_law_912 : decode cL_law 912 = .ok (.aload_n 2, 1) := by decide +kernel
theorem dL_law_913 : decode cL_law 913 = .ok (.invokevirtual 92, 3) := by decide +kernel
theorem dL_law_916 : decode cL_law 916 = .ok (.iload 5, 2) := by decide +kernel
theorem dL_law_918 : decode cL_law 918 = .ok (.if_icmp .eq 5, 3) := by decide +kernel
theorem dL_law_921 : decode cL_law 921 = .ok (.iconst 0, 1) := by decide +kernel
theorem dL_law_922 : decode cL_law 922 = .ok (.ireturn, 1) := by decide +kernel
theorem dL_law_923 : decode cL_law 923 = .ok (.iload 5, 2) := by decide +kernel
theorem dL_law_925 : decode cL_law 925 = .ok (.ifCond .ne 15, 3) := by decide +kernel
theorem dL_law_928 : decode cL_law 928 = .ok (.aload_n 3, 1) := by decide +kernel
theorem dL_law_929 : decode cL_law 929 = .ok (.iconst 0, 1) := by decide +kernel
theorem dL_law_930 : decode cL_law 930 = .ok (.laload, 1) := by decide +kernel
theorem dL_law_931 : decode cL_law 931 = .ok (.iload 6, 2) := by decide +kernel
theorem dL_law_933 : decode cL_law 933 = .ok (.i2l, 1) := by decide +kernel
theorem dL_law_934 : decode cL_law 934 = .ok (.lcmp, 1) := by decide +kernel
theorem dL_law_935 : decode cL_law 935 = .ok (.ifCond .eq 5, 3) := by decide +kernel
theorem dL_law_938 : decode cL_law 938 = .ok (.iconst 0, 1) := by decide +kernel
theorem dL_law_939 : decode cL_law 939 = .ok (.ireturn, 1) := by decide +kernel
theorem dL_law_940 : decode cL_law 940 = .ok (.goto 719, 3) := by decide +kernel
theorem dL_law_943 : decode cL_law 943 = .ok (.aload_n 1, 1) := by decide +kernel
theorem dL_law_944 : decode cL_law 944 = .ok (.aload_n 0, 1) := by decide +kernel
theorem dL_law_945 : decode cL_law 945 = .ok (.iload 4, 2) := by decide +kernel
theorem dL_law_947 : decode cL_law 947 = .ok (.iconst 1, 1) := by decide +kernel
theorem dL_law_948 : decode cL_law 948 = .ok (.iadd, 1) := by decide +kernel
theorem dL_law_949 : decode cL_law 949 = .ok (.iaload, 1) := by decide +kernel
theorem dL_law_950 : decode cL_law 950 = .ok (.aload_n 0, 1) := by decide +kernel
theorem dL_law_951 : decode cL_law 951 = .ok (.iload 4, 2) := by decide +kernel
theorem dL_law_953 : decode cL_law 953 = .ok (.iconst 2, 1) := by decide +kernel
theorem dL_law_954 : decode cL_law 954 = .ok (.iadd, 1) := by decide +kernel
theorem dL_law_955 : decode cL_law 955 = .ok (.iaload, 1) := by decide +kernel
theorem dL_law_956 : decode cL_law 956 = .ok (.aload_n 3, 1) := by decide +kernel
theorem dL_law_957 : decode cL_law 957 = .ok (.invokestatic 143, 3) := by decide +kernel
theorem dL_law_960 : decode cL_law 960 = .ok (.istore 5, 2) := by decide +kernel
theorem dL_law_962 : decode cL_law 962 = .ok (.aload_n 2, 1) := by decide +kernel
theorem dL_law_963 : decode cL_law 963 = .ok (.aload_n 0, 1) := by decide +kernel
theorem dL_law_964 : decode cL_law 964 = .ok (.iload 4, 2) := by decide +kernel
theorem dL_law_966 : decode cL_law 966 = .ok (.iconst 1, 1) := by decide +kernel
theorem dL_law_967 : decode cL_law 967 = .ok (.iadd, 1) := by decide +kernel
theorem dL_law_968 : decode cL_law 968 = .ok (.iaload, 1) := by decide +kernel
theorem dL_law_969 : decode cL_law 969 = .ok (.aload_n 0, 1) := by decide +kernel
theorem dL_law_970 : decode cL_law 970 = .ok (.iload 4, 2) := by decide +kernel
theorem dL_law_972 : decode cL_law 972 = .ok (.iconst 2, 1) := by decide +kernel
theorem dL_law_973 : decode cL_law 973 = .ok (.iadd, 1) := by decide +kernel
theorem dL_law_974 : decode cL_law 974 = .ok (.iaload, 1) := by decide +kernel
theorem dL_law_975 : decode cL_law 975 = .ok (.invokevirtual 145, 3) := by decide +kernel
theorem dL_law_978 : decode cL_law 978 = .ok (.istore 6, 2) := by decide +kernel
theorem dL_law_980 : decode cL_law 980 = .ok (.aload_n 2, 1) := by decide +kernel
theorem dL_law_981 : decode cL_law 981 = .ok (.invokevirtual 92, 3) := by decide +kernel
theorem dL_law_984 : decode cL_law 984 = .ok (.iload 5, 2) := by decide +kernel
theorem dL_law_986 : decode cL_law 986 = .ok (.if_icmp .eq 5, 3) := by decide +kernel
theorem dL_law_989 : decode cL_law 989 = .ok (.iconst 0, 1) := by decide +kernel
theorem dL_law_990 : decode cL_law 990 = .ok (.ireturn, 1) := by decide +kernel
theorem dL_law_991 : decode cL_law 991 = .ok (.iload 5, 2) := by decide +kernel
theorem dL_law_993 : decode cL_law 993 = .ok (.ifCond .ne 15, 3) := by decide +kernel
theorem dL_law_996 : decode cL_law 996 = .ok (.aload_n 3, 1) := by decide +kernel
theorem dL_law_997 : decode cL_law 997 = .ok (.iconst 0, 1) := by decide +kernel
theorem dL_law_998 : decode cL_law 998 = .ok (.laload, 1) := by decide +kernel
theorem dL_law_999 : decode cL_law 999 = .ok (.iload 6, 2) := by decide +kernel
theorem dL_law_1001 : decode cL_law 1001 = .ok (.i2l, 1) := by decide +kernel
theorem dL_law_1002 : decode cL_law 1002 = .ok (.lcmp, 1) := by decide +kernel
theorem dL_law_1003 : decode cL_law 1003 = .ok (.ifCond .eq 5, 3) := by decide +kernel
theorem dL_law_1006 : decode cL_law 1006 = .ok (.iconst 0, 1) := by decide +kernel
theorem dL_law_1007 : decode cL_law 1007 = .ok (.ireturn, 1) := by decide +kernel
theorem dL_law_1008 : decode cL_law 1008 = .ok (.goto 651, 3) := by decide +kernel
theorem dL_law_1011 : decode cL_law 1011 = .ok (.aload_n 1, 1) := by decide +kernel
theorem dL_law_1012 : decode cL_law 1012 = .ok (.aload_n 0, 1) := by decide +kernel
theorem dL_law_1013 : decode cL_law 1013 = .ok (.iload 4, 2) := by decide +kernel
theorem dL_law_1015 : decode cL_law 1015 = .ok (.iconst 1, 1) := by decide +kernel
theorem dL_law_1016 : decode cL_law 1016 = .ok (.iadd, 1) := by decide +kernel
theorem dL_law_1017 : decode cL_law 1017 = .ok (.iaload, 1) := by decide +kernel
theorem dL_law_1018 : decode cL_law 1018 = .ok (.aload_n 0, 1) := by decide +kernel
theorem dL_law_1019 : decode cL_law 1019 = .ok (.iload 4, 2) := by decide +kernel
theorem dL_law_1021 : decode cL_law 1021 = .ok (.iconst 2, 1) := by decide +kernel
theorem dL_law_1022 : decode cL_law 1022 = .ok (.iadd, 1) := by decide +kernel
theorem dL_law_1023 : decode cL_law 1023 = .ok (.iaload, 1) := by decide +kernel
theorem dL_law_1024 : decode cL_law 1024 = .ok (.aload_n 0, 1) := by decide +kernel
theorem dL_law_1025 : decode cL_law 1025 = .ok (.iload 4, 2) := by decide +kernel
theorem dL_law_1027 : decode cL_law 1027 = .ok (.iconst 3, 1) := by decide +kernel
theorem dL_law_1028 : decode cL_law 1028 = .ok (.iadd, 1) := by decide +kernel
theorem dL_law_1029 : decode cL_law 1029 = .ok (.iaload, 1) := by decide +kernel
theorem dL_law_1030 : decode cL_law 1030 = .ok (.aload_n 3, 1) := by decide +kernel
theorem dL_law_1031 : decode cL_law 1031 = .ok (.invokestatic 146, 3) := by decide +kernel
theorem dL_law_1034 : decode cL_law 1034 = .ok (.istore 5, 2) := by decide +kernel
theorem dL_law_1036 : decode cL_law 1036 = .ok (.aload_n 2, 1) := by decide +kernel
theorem dL_law_1037 : decode cL_law 1037 = .ok (.aload_n 0, 1) := by decide +kernel
theorem dL_law_1038 : decode cL_law 1038 = .ok (.iload 4, 2) := by decide +kernel
theorem dL_law_1040 : decode cL_law 1040 = .ok (.iconst 1, 1) := by decide +kernel
theorem dL_law_1041 : decode cL_law 1041 = .ok (.iadd, 1) := by decide +kernel
theorem dL_law_1042 : decode cL_law 1042 = .ok (.iaload, 1) := by decide +kernel
theorem dL_law_1043 : decode cL_law 1043 = .ok (.aload_n 0, 1) := by decide +kernel
theorem dL_law_1044 : decode cL_law 1044 = .ok (.iload 4, 2) := by decide +kernel
theorem dL_law_1046 : decode cL_law 1046 = .ok (.iconst 2, 1) := by decide +kernel
theorem dL_law_1047 : decode cL_law 1047 = .ok (.iadd, 1) := by decide +kernel
theorem dL_law_1048 : decode cL_law 1048 = .ok (.iaload, 1) := by decide +kernel
theorem dL_law_1049 : decode cL_law 1049 = .ok (.aload_n 0, 1) := by decide +kernel
theorem dL_law_1050 : decode cL_law 1050 = .ok (.iload 4, 2) := by decide +kernel
theorem dL_law_1052 : decode cL_law 1052 = .ok (.iconst 3, 1) := by decide +kernel
theorem dL_law_1053 : decode cL_law 1053 = .ok (.iadd, 1) := by decide +kernel
theorem dL_law_1054 : decode cL_law 1054 = .ok (.iaload, 1) := by decide +kernel
theorem dL_law_1055 : decode cL_law 1055 = .ok (.invokevirtual 148, 3) := by decide +kernel
theorem dL_law_1058 : decode cL_law 1058 = .ok (.istore 6, 2) := by decide +kernel
theorem dL_law_1060 : decode cL_law 1060 = .ok (.aload_n 2, 1) := by decide +kernel
theorem dL_law_1061 : decode cL_law 1061 = .ok (.invokevirtual 92, 3) := by decide +kernel
theorem dL_law_1064 : decode cL_law 1064 = .ok (.iload 5, 2) := by decide +kernel
theorem dL_law_1066 : decode cL_law 1066 = .ok (.if_icmp .eq 5, 3) := by decide +kernel
theorem dL_law_1069 : decode cL_law 1069 = .ok (.iconst 0, 1) := by decide +kernel
theorem dL_law_1070 : decode cL_law 1070 = .ok (.ireturn, 1) := by decide +kernel
theorem dL_law_1071 : decode cL_law 1071 = .ok (.iload 5, 2) := by decide +kernel
theorem dL_law_1073 : decode cL_law 1073 = .ok (.ifCond .ne 15, 3) := by decide +kernel
theorem dL_law_1076 : decode cL_law 1076 = .ok (.aload_n 3, 1) := by decide +kernel
theorem dL_law_1077 : decode cL_law 1077 = .ok (.iconst 0, 1) := by decide +kernel
theorem dL_law_1078 : decode cL_law 1078 = .ok (.laload, 1) := by decide +kernel
theorem dL_law_1079 : decode cL_law 1079 = .ok (.iload 6, 2) := by decide +kernel
theorem dL_law_1081 : decode cL_law 1081 = .ok (.i2l, 1) := by decide +kernel
theorem dL_law_1082 : decode cL_law 1082 = .ok (.lcmp, 1) := by decide +kernel
theorem dL_law_1083 : decode cL_law 1083 = .ok (.ifCond .eq 5, 3) := by decide +kernel
theorem dL_law_1086 : decode cL_law 1086 = .ok (.iconst 0, 1) := by decide +kernel
theorem dL_law_1087 : decode cL_law 1087 = .ok (.ireturn, 1) := by decide +kernel
theorem dL_law_1088 : decode cL_law 1088 = .ok (.goto 571, 3) := by decide +kernel
theorem dL_law_1091 : decode cL_law 1091 = .ok (.aload_n 1, 1) := by decide +kernel
theorem dL_law_1092 : decode cL_law 1092 = .ok (.aload_n 0, 1) := by decide +kernel
theorem dL_law_1093 : decode cL_law 1093 = .ok (.iload 4, 2) := by decide +kernel
theorem dL_law_1095 : decode cL_law 1095 = .ok (.iconst 1, 1) := by decide +kernel
theorem dL_law_1096 : decode cL_law 1096 = .ok (.iadd, 1) := by decide +kernel
theorem dL_law_1097 : decode cL_law 1097 = .ok (.iaload, 1) := by decide +kernel
theorem dL_law_1098 : decode cL_law 1098 = .ok (.aload_n 0, 1) := by decide +kernel
theorem dL_law_1099 : decode cL_law 1099 = .ok (.iload 4, 2) := by decide +kernel
theorem dL_law_1101 : decode cL_law 1101 = .ok (.iconst 2, 1) := by decide +kernel
theorem dL_law_1102 : decode cL_law 1102 = .ok (.iadd, 1) := by decide +kernel
theorem dL_law_1103 : decode cL_law 1103 = .ok (.iaload, 1) := by decide +kernel
theorem dL_law_1104 : decode cL_law 1104 = .ok (.aload_n 3, 1) := by decide +kernel
theorem dL_law_1105 : decode cL_law 1105 = .ok (.invokestatic 149, 3) := by decide +kernel
theorem dL_law_1108 : decode cL_law 1108 = .ok (.istore 5, 2) := by decide +kernel
theorem dL_law_1110 : decode cL_law 1110 = .ok (.aload_n 2, 1) := by decide +kernel
theorem dL_law_1111 : decode cL_law 1111 = .ok (.aload_n 0, 1) := by decide +kernel
theorem dL_law_1112 : decode cL_law 1112 = .ok (.iload 4, 2) := by decide +kernel
theorem dL_law_1114 : decode cL_law 1114 = .ok (.iconst 1, 1) := by decide +kernel
theorem dL_law_1115 : decode cL_law 1115 = .ok (.iadd, 1) := by decide +kernel
theorem dL_law_1116 : decode cL_law 1116 = .ok (.iaload, 1) := by decide +kernel
theorem dL_law_1117 : decode cL_law 1117 = .ok (.aload_n 0, 1) := by decide +kernel
theorem dL_law_1118 : decode cL_law 1118 = .ok (.iload 4, 2) := by decide +kernel
theorem dL_law_1120 : decode cL_law 1120 = .ok (.iconst 2, 1) := by decide +kernel
theorem dL_law_1121 : decode cL_law 1121 = .ok (.iadd, 1) := by decide +kernel
theorem dL_law_1122 : decode cL_law 1122 = .ok (.iaload, 1) := by decide +kernel
theorem dL_law_1123 : decode cL_law 1123 = .ok (.invokevirtual 151, 3) := by decide +kernel
theorem dL_law_1126 : decode cL_law 1126 = .ok (.istore 6, 2) := by decide +kernel
theorem dL_law_1128 : decode cL_law 1128 = .ok (.aload_n 2, 1) := by decide +kernel
theorem dL_law_1129 : decode cL_law 1129 = .ok (.invokevirtual 92, 3) := by decide +kernel
theorem dL_law_1132 : decode cL_law 1132 = .ok (.iload 5, 2) := by decide +kernel
theorem dL_law_1134 : decode cL_law 1134 = .ok (.if_icmp .eq 5, 3) := by decide +kernel
theorem dL_law_1137 : decode cL_law 1137 = .ok (.iconst 0, 1) := by decide +kernel
theorem dL_law_1138 : decode cL_law 1138 = .ok (.ireturn, 1) := by decide +kernel
theorem dL_law_1139 : decode cL_law 1139 = .ok (.iload 5, 2) := by decide +kernel
theorem dL_law_1141 : decode cL_law 1141 = .ok (.ifCond .ne 15, 3) := by decide +kernel
theorem dL_law_1144 : decode cL_law 1144 = .ok (.aload_n 3, 1) := by decide +kernel
theorem dL_law_1145 : decode cL_law 1145 = .ok (.iconst 0, 1) := by decide +kernel
theorem dL_law_1146 : decode cL_law 1146 = .ok (.laload, 1) := by decide +kernel
theorem dL_law_1147 : decode cL_law 1147 = .ok (.iload 6, 2) := by decide +kernel
theorem dL_law_1149 : decode cL_law 1149 = .ok (.i2l, 1) := by decide +kernel
theorem dL_law_1150 : decode cL_law 1150 = .ok (.lcmp, 1) := by decide +kernel
theorem dL_law_1151 : decode cL_law 1151 = .ok (.ifCond .eq 5, 3) := by decide +kernel
theorem dL_law_1154 : decode cL_law 1154 = .ok (.iconst 0, 1) := by decide +kernel
theorem dL_law_1155 : decode cL_law 1155 = .ok (.ireturn, 1) := by decide +kernel
theorem dL_law_1156 : decode cL_law 1156 = .ok (.goto 503, 3) := by decide +kernel
theorem dL_law_1159 : decode cL_law 1159 = .ok (.aload_n 1, 1) := by decide +kernel
theorem dL_law_1160 : decode cL_law 1160 = .ok (.aload_n 0, 1) := by decide +kernel
theorem dL_law_1161 : decode cL_law 1161 = .ok (.iload 4, 2) := by decide +kernel
theorem dL_law_1163 : decode cL_law 1163 = .ok (.iconst 1, 1) := by decide +kernel
theorem dL_law_1164 : decode cL_law 1164 = .ok (.iadd, 1) := by decide +kernel
theorem dL_law_1165 : decode cL_law 1165 = .ok (.iaload, 1) := by decide +kernel
theorem dL_law_1166 : decode cL_law 1166 = .ok (.aload_n 0, 1) := by decide +kernel
theorem dL_law_1167 : decode cL_law 1167 = .ok (.iload 4, 2) := by decide +kernel
theorem dL_law_1169 : decode cL_law 1169 = .ok (.iconst 2, 1) := by decide +kernel
theorem dL_law_1170 : decode cL_law 1170 = .ok (.iadd, 1) := by decide +kernel
theorem dL_law_1171 : decode cL_law 1171 = .ok (.iaload, 1) := by decide +kernel
theorem dL_law_1172 : decode cL_law 1172 = .ok (.aload_n 3, 1) := by decide +kernel
theorem dL_law_1173 : decode cL_law 1173 = .ok (.invokestatic 152, 3) := by decide +kernel
theorem dL_law_1176 : decode cL_law 1176 = .ok (.istore 5, 2) := by decide +kernel
theorem dL_law_1178 : decode cL_law 1178 = .ok (.aload_n 2, 1) := by decide +kernel
theorem dL_law_1179 : decode cL_law 1179 = .ok (.aload_n 0, 1) := by decide +kernel
theorem dL_law_1180 : decode cL_law 1180 = .ok (.iload 4, 2) := by decide +kernel
theorem dL_law_1182 : decode cL_law 1182 = .ok (.iconst 1, 1) := by decide +kernel
theorem dL_law_1183 : decode cL_law 1183 = .ok (.iadd, 1) := by decide +kernel
theorem dL_law_1184 : decode cL_law 1184 = .ok (.iaload, 1) := by decide +kernel
theorem dL_law_1185 : decode cL_law 1185 = .ok (.aload_n 0, 1) := by decide +kernel
theorem dL_law_1186 : decode cL_law 1186 = .ok (.iload 4, 2) := by decide +kernel
theorem dL_law_1188 : decode cL_law 1188 = .ok (.iconst 2, 1) := by decide +kernel
theorem dL_law_1189 : decode cL_law 1189 = .ok (.iadd, 1) := by decide +kernel
theorem dL_law_1190 : decode cL_law 1190 = .ok (.iaload, 1) := by decide +kernel
theorem dL_law_1191 : decode cL_law 1191 = .ok (.invokevirtual 154, 3) := by decide +kernel
theorem dL_law_1194 : decode cL_law 1194 = .ok (.istore 6, 2) := by decide +kernel
theorem dL_law_1196 : decode cL_law 1196 = .ok (.aload_n 2, 1) := by decide +kernel
theorem dL_law_1197 : decode cL_law 1197 = .ok (.invokevirtual 92, 3) := by decide +kernel
theorem dL_law_1200 : decode cL_law 1200 = .ok (.iload 5, 2) := by decide +kernel
theorem dL_law_1202 : decode cL_law 1202 = .ok (.if_icmp .eq 5, 3) := by decide +kernel
theorem dL_law_1205 : decode cL_law 1205 = .ok (.iconst 0, 1) := by decide +kernel
theorem dL_law_1206 : decode cL_law 1206 = .ok (.ireturn, 1) := by decide +kernel
theorem dL_law_1207 : decode cL_law 1207 = .ok (.iload 5, 2) := by decide +kernel
theorem dL_law_1209 : decode cL_law 1209 = .ok (.ifCond .ne 15, 3) := by decide +kernel
theorem dL_law_1212 : decode cL_law 1212 = .ok (.aload_n 3, 1) := by decide +kernel
theorem dL_law_1213 : decode cL_law 1213 = .ok (.iconst 0, 1) := by decide +kernel
theorem dL_law_1214 : decode cL_law 1214 = .ok (.laload, 1) := by decide +kernel
theorem dL_law_1215 : decode cL_law 1215 = .ok (.iload 6, 2) := by decide +kernel
theorem dL_law_1217 : decode cL_law 1217 = .ok (.i2l, 1) := by decide +kernel
theorem dL_law_1218 : decode cL_law 1218 = .ok (.lcmp, 1) := by decide +kernel
theorem dL_law_1219 : decode cL_law 1219 = .ok (.ifCond .eq 5, 3) := by decide +kernel
theorem dL_law_1222 : decode cL_law 1222 = .ok (.iconst 0, 1) := by decide +kernel
theorem dL_law_1223 : decode cL_law 1223 = .ok (.ireturn, 1) := by decide +kernel
theorem dL_law_1224 : decode cL_law 1224 = .ok (.goto 435, 3) := by decide +kernel
theorem dL_law_1227 : decode cL_law 1227 = .ok (.aload_n 1, 1) := by decide +kernel
theorem dL_law_1228 : decode cL_law 1228 = .ok (.aload_n 0, 1) := by decide +kernel
theorem dL_law_1229 : decode cL_law 1229 = .ok (.iload 4, 2) := by decide +kernel
theorem dL_law_1231 : decode cL_law 1231 = .ok (.iconst 1, 1) := by decide +kernel
theorem dL_law_1232 : decode cL_law 1232 = .ok (.iadd, 1) := by decide +kernel
theorem dL_law_1233 : decode cL_law 1233 = .ok (.iaload, 1) := by decide +kernel
theorem dL_law_1234 : decode cL_law 1234 = .ok (.aload_n 0, 1) := by decide +kernel
theorem dL_law_1235 : decode cL_law 1235 = .ok (.iload 4, 2) := by decide +kernel
theorem dL_law_1237 : decode cL_law 1237 = .ok (.iconst 2, 1) := by decide +kernel
theorem dL_law_1238 : decode cL_law 1238 = .ok (.iadd, 1) := by decide +kernel
theorem dL_law_1239 : decode cL_law 1239 = .ok (.iaload, 1) := by decide +kernel
theorem dL_law_1240 : decode cL_law 1240 = .ok (.aload_n 0, 1) := by decide +kernel
theorem dL_law_1241 : decode cL_law 1241 = .ok (.iload 4, 2) := by decide +kernel
theorem dL_law_1243 : decode cL_law 1243 = .ok (.iconst 3, 1) := by decide +kernel
theorem dL_law_1244 : decode cL_law 1244 = .ok (.iadd, 1) := by decide +kernel
theorem dL_law_1245 : decode cL_law 1245 = .ok (.iaload, 1) := by decide +kernel
theorem dL_law_1246 : decode cL_law 1246 = .ok (.aload_n 3, 1) := by decide +kernel
theorem dL_law_1247 : decode cL_law 1247 = .ok (.invokestatic 155, 3) := by decide +kernel
theorem dL_law_1250 : decode cL_law 1250 = .ok (.istore 5, 2) := by decide +kernel
theorem dL_law_1252 : decode cL_law 1252 = .ok (.aload_n 2, 1) := by decide +kernel
theorem dL_law_1253 : decode cL_law 1253 = .ok (.aload_n 0, 1) := by decide +kernel
theorem dL_law_1254 : decode cL_law 1254 = .ok (.iload 4, 2) := by decide +kernel
theorem dL_law_1256 : decode cL_law 1256 = .ok (.iconst 1, 1) := by decide +kernel
theorem dL_law_1257 : decode cL_law 1257 = .ok (.iadd, 1) := by decide +kernel
theorem dL_law_1258 : decode cL_law 1258 = .ok (.iaload, 1) := by decide +kernel
theorem dL_law_1259 : decode cL_law 1259 = .ok (.aload_n 0, 1) := by decide +kernel
theorem dL_law_1260 : decode cL_law 1260 = .ok (.iload 4, 2) := by decide +kernel
theorem dL_law_1262 : decode cL_law 1262 = .ok (.iconst 2, 1) := by decide +kernel
theorem dL_law_1263 : decode cL_law 1263 = .ok (.iadd, 1) := by decide +kernel
theorem dL_law_1264 : decode cL_law 1264 = .ok (.iaload, 1) := by decide +kernel
theorem dL_law_1265 : decode cL_law 1265 = .ok (.aload_n 0, 1) := by decide +kernel
theorem dL_law_1266 : decode cL_law 1266 = .ok (.iload 4, 2) := by decide +kernel
theorem dL_law_1268 : decode cL_law 1268 = .ok (.iconst 3, 1) := by decide +kernel
theorem dL_law_1269 : decode cL_law 1269 = .ok (.iadd, 1) := by decide +kernel
theorem dL_law_1270 : decode cL_law 1270 = .ok (.iaload, 1) := by decide +kernel
theorem dL_law_1271 : decode cL_law 1271 = .ok (.invokevirtual 157, 3) := by decide +kernel
theorem dL_law_1274 : decode cL_law 1274 = .ok (.istore 6, 2) := by decide +kernel
theorem dL_law_1276 : decode cL_law 1276 = .ok (.aload_n 2, 1) := by decide +kernel
theorem dL_law_1277 : decode cL_law 1277 = .ok (.invokevirtual 92, 3) := by decide +kernel
theorem dL_law_1280 : decode cL_law 1280 = .ok (.iload 5, 2) := by decide +kernel
theorem dL_law_1282 : decode cL_law 1282 = .ok (.if_icmp .eq 5, 3) := by decide +kernel
theorem dL_law_1285 : decode cL_law 1285 = .ok (.iconst 0, 1) := by decide +kernel
theorem dL_law_1286 : decode cL_law 1286 = .ok (.ireturn, 1) := by decide +kernel
theorem dL_law_1287 : decode cL_law 1287 = .ok (.iload 5, 2) := by decide +kernel
theorem dL_law_1289 : decode cL_law 1289 = .ok (.ifCond .ne 15, 3) := by decide +kernel
theorem dL_law_1292 : decode cL_law 1292 = .ok (.aload_n 3, 1) := by decide +kernel
theorem dL_law_1293 : decode cL_law 1293 = .ok (.iconst 0, 1) := by decide +kernel
theorem dL_law_1294 : decode cL_law 1294 = .ok (.laload, 1) := by decide +kernel
theorem dL_law_1295 : decode cL_law 1295 = .ok (.iload 6, 2) := by decide +kernel
theorem dL_law_1297 : decode cL_law 1297 = .ok (.i2l, 1) := by decide +kernel
theorem dL_law_1298 : decode cL_law 1298 = .ok (.lcmp, 1) := by decide +kernel
theorem dL_law_1299 : decode cL_law 1299 = .ok (.ifCond .eq 5, 3) := by decide +kernel
theorem dL_law_1302 : decode cL_law 1302 = .ok (.iconst 0, 1) := by decide +kernel
theorem dL_law_1303 : decode cL_law 1303 = .ok (.ireturn, 1) := by decide +kernel
theorem dL_law_1304 : decode cL_law 1304 = .ok (.goto 355, 3) := by decide +kernel
theorem dL_law_1307 : decode cL_law 1307 = .ok (.aload_n 1, 1) := by decide +kernel
theorem dL_law_1308 : decode cL_law 1308 = .ok (.aload_n 0, 1) := by decide +kernel
theorem dL_law_1309 : decode cL_law 1309 = .ok (.iload 4, 2) := by decide +kernel
theorem dL_law_1311 : decode cL_law 1311 = .ok (.iconst 1, 1) := by decide +kernel
theorem dL_law_1312 : decode cL_law 1312 = .ok (.iadd, 1) := by decide +kernel
theorem dL_law_1313 : decode cL_law 1313 = .ok (.iaload, 1) := by decide +kernel
theorem dL_law_1314 : decode cL_law 1314 = .ok (.aload_n 0, 1) := by decide +kernel
theorem dL_law_1315 : decode cL_law 1315 = .ok (.iload 4, 2) := by decide +kernel
theorem dL_law_1317 : decode cL_law 1317 = .ok (.iconst 2, 1) := by decide +kernel
theorem dL_law_1318 : decode cL_law 1318 = .ok (.iadd, 1) := by decide +kernel
theorem dL_law_1319 : decode cL_law 1319 = .ok (.iaload, 1) := by decide +kernel
theorem dL_law_1320 : decode cL_law 1320 = .ok (.aload_n 0, 1) := by decide +kernel
theorem dL_law_1321 : decode cL_law 1321 = .ok (.iload 4, 2) := by decide +kernel
theorem dL_law_1323 : decode cL_law 1323 = .ok (.iconst 3, 1) := by decide +kernel
theorem dL_law_1324 : decode cL_law 1324 = .ok (.iadd, 1) := by decide +kernel
theorem dL_law_1325 : decode cL_law 1325 = .ok (.iaload, 1) := by decide +kernel
theorem dL_law_1326 : decode cL_law 1326 = .ok (.aload_n 3, 1) := by decide +kernel
theorem dL_law_1327 : decode cL_law 1327 = .ok (.invokestatic 158, 3) := by decide +kernel
theorem dL_law_1330 : decode cL_law 1330 = .ok (.istore 5, 2) := by decide +kernel
theorem dL_law_1332 : decode cL_law 1332 = .ok (.aload_n 2, 1) := by decide +kernel
theorem dL_law_1333 : decode cL_law 1333 = .ok (.aload_n 0, 1) := by decide +kernel
theorem dL_law_1334 : decode cL_law 1334 = .ok (.iload 4, 2) := by decide +kernel
theorem dL_law_1336 : decode cL_law 1336 = .ok (.iconst 1, 1) := by decide +kernel
theorem dL_law_1337 : decode cL_law 1337 = .ok (.iadd, 1) := by decide +kernel
theorem dL_law_1338 : decode cL_law 1338 = .ok (.iaload, 1) := by decide +kernel
theorem dL_law_1339 : decode cL_law 1339 = .ok (.aload_n 0, 1) := by decide +kernel
theorem dL_law_1340 : decode cL_law 1340 = .ok (.iload 4, 2) := by decide +kernel
theorem dL_law_1342 : decode cL_law 1342 = .ok (.iconst 2, 1) := by decide +kernel
theorem dL_law_1343 : decode cL_law 1343 = .ok (.iadd, 1) := by decide +kernel
theorem dL_law_1344 : decode cL_law 1344 = .ok (.iaload, 1) := by decide +kernel
theorem dL_law_1345 : decode cL_law 1345 = .ok (.aload_n 0, 1) := by decide +kernel
theorem dL_law_1346 : decode cL_law 1346 = .ok (.iload 4, 2) := by decide +kernel
theorem dL_law_1348 : decode cL_law 1348 = .ok (.iconst 3, 1) := by decide +kernel
theorem dL_law_1349 : decode cL_law 1349 = .ok (.iadd, 1) := by decide +kernel
theorem dL_law_1350 : decode cL_law 1350 = .ok (.iaload, 1) := by decide +kernel
theorem dL_law_1351 : decode cL_law 1351 = .ok (.invokevirtual 160, 3) := by decide +kernel
theorem dL_law_1354 : decode cL_law 1354 = .ok (.istore 6, 2) := by decide +kernel
theorem dL_law_1356 : decode cL_law 1356 = .ok (.aload_n 2, 1) := by decide +kernel
theorem dL_law_1357 : decode cL_law 1357 = .ok (.invokevirtual 92, 3) := by decide +kernel
theorem dL_law_1360 : decode cL_law 1360 = .ok (.iload 5, 2) := by decide +kernel
theorem dL_law_1362 : decode cL_law 1362 = .ok (.if_icmp .eq 5, 3) := by decide +kernel
theorem dL_law_1365 : decode cL_law 1365 = .ok (.iconst 0, 1) := by decide +kernel
theorem dL_law_1366 : decode cL_law 1366 = .ok (.ireturn, 1) := by decide +kernel
theorem dL_law_1367 : decode cL_law 1367 = .ok (.iload 5, 2) := by decide +kernel
theorem dL_law_1369 : decode cL_law 1369 = .ok (.ifCond .ne 15, 3) := by decide +kernel
theorem dL_law_1372 : decode cL_law 1372 = .ok (.aload_n 3, 1) := by decide +kernel
theorem dL_law_1373 : decode cL_law 1373 = .ok (.iconst 0, 1) := by decide +kernel
theorem dL_law_1374 : decode cL_law 1374 = .ok (.laload, 1) := by decide +kernel
theorem dL_law_1375 : decode cL_law 1375 = .ok (.iload 6, 2) := by decide +kernel
theorem dL_law_1377 : decode cL_law 1377 = .ok (.i2l, 1) := by decide +kernel
theorem dL_law_1378 : decode cL_law 1378 = .ok (.lcmp, 1) := by decide +kernel
theorem dL_law_1379 : decode cL_law 1379 = .ok (.ifCond .eq 5, 3) := by decide +kernel
theorem dL_law_1382 : decode cL_law 1382 = .ok (.iconst 0, 1) := by decide +kernel
theorem dL_law_1383 : decode cL_law 1383 = .ok (.ireturn, 1) := by decide +kernel
theorem dL_law_1384 : decode cL_law 1384 = .ok (.goto 275, 3) := by decide +kernel
theorem dL_law_1387 : decode cL_law 1387 = .ok (.aload_n 1, 1) := by decide +kernel
theorem dL_law_1388 : decode cL_law 1388 = .ok (.aload_n 0, 1) := by decide +kernel
theorem dL_law_1389 : decode cL_law 1389 = .ok (.iload 4, 2) := by decide +kernel
theorem dL_law_1391 : decode cL_law 1391 = .ok (.iconst 1, 1) := by decide +kernel
theorem dL_law_1392 : decode cL_law 1392 = .ok (.iadd, 1) := by decide +kernel
theorem dL_law_1393 : decode cL_law 1393 = .ok (.iaload, 1) := by decide +kernel
theorem dL_law_1394 : decode cL_law 1394 = .ok (.aload_n 3, 1) := by decide +kernel
theorem dL_law_1395 : decode cL_law 1395 = .ok (.invokestatic 161, 3) := by decide +kernel
theorem dL_law_1398 : decode cL_law 1398 = .ok (.istore 5, 2) := by decide +kernel
theorem dL_law_1400 : decode cL_law 1400 = .ok (.aload_n 2, 1) := by decide +kernel
theorem dL_law_1401 : decode cL_law 1401 = .ok (.aload_n 0, 1) := by decide +kernel
theorem dL_law_1402 : decode cL_law 1402 = .ok (.iload 4, 2) := by decide +kernel
theorem dL_law_1404 : decode cL_law 1404 = .ok (.iconst 1, 1) := by decide +kernel
theorem dL_law_1405 : decode cL_law 1405 = .ok (.iadd, 1) := by decide +kernel
theorem dL_law_1406 : decode cL_law 1406 = .ok (.iaload, 1) := by decide +kernel
theorem dL_law_1407 : decode cL_law 1407 = .ok (.invokevirtual 163, 3) := by decide +kernel
theorem dL_law_1410 : decode cL_law 1410 = .ok (.istore 6, 2) := by decide +kernel
theorem dL_law_1412 : decode cL_law 1412 = .ok (.aload_n 2, 1) := by decide +kernel
theorem dL_law_1413 : decode cL_law 1413 = .ok (.invokevirtual 92, 3) := by decide +kernel
theorem dL_law_1416 : decode cL_law 1416 = .ok (.iload 5, 2) := by decide +kernel
theorem dL_law_1418 : decode cL_law 1418 = .ok (.if_icmp .eq 5, 3) := by decide +kernel
theorem dL_law_1421 : decode cL_law 1421 = .ok (.iconst 0, 1) := by decide +kernel
theorem dL_law_1422 : decode cL_law 1422 = .ok (.ireturn, 1) := by decide +kernel
theorem dL_law_1423 : decode cL_law 1423 = .ok (.iload 5, 2) := by decide +kernel
theorem dL_law_1425 : decode cL_law 1425 = .ok (.ifCond .ne 15, 3) := by decide +kernel
theorem dL_law_1428 : decode cL_law 1428 = .ok (.aload_n 3, 1) := by decide +kernel
theorem dL_law_1429 : decode cL_law 1429 = .ok (.iconst 0, 1) := by decide +kernel
theorem dL_law_1430 : decode cL_law 1430 = .ok (.laload, 1) := by decide +kernel
theorem dL_law_1431 : decode cL_law 1431 = .ok (.iload 6, 2) := by decide +kernel
theorem dL_law_1433 : decode cL_law 1433 = .ok (.i2l, 1) := by decide +kernel
theorem dL_law_1434 : decode cL_law 1434 = .ok (.lcmp, 1) := by decide +kernel
theorem dL_law_1435 : decode cL_law 1435 = .ok (.ifCond .eq 5, 3) := by decide +kernel
theorem dL_law_1438 : decode cL_law 1438 = .ok (.iconst 0, 1) := by decide +kernel
theorem dL_law_1439 : decode cL_law 1439 = .ok (.ireturn, 1) := by decide +kernel
theorem dL_law_1440 : decode cL_law 1440 = .ok (.goto 219, 3) := by decide +kernel
theorem dL_law_1443 : decode cL_law 1443 = .ok (.aload_n 1, 1) := by decide +kernel
theorem dL_law_1444 : decode cL_law 1444 = .ok (.aload_n 0, 1) := by decide +kernel
theorem dL_law_1445 : decode cL_law 1445 = .ok (.iload 4, 2) := by decide +kernel
theorem dL_law_1447 : decode cL_law 1447 = .ok (.iconst 1, 1) := by decide +kernel
theorem dL_law_1448 : decode cL_law 1448 = .ok (.iadd, 1) := by decide +kernel
theorem dL_law_1449 : decode cL_law 1449 = .ok (.iaload, 1) := by decide +kernel
theorem dL_law_1450 : decode cL_law 1450 = .ok (.aload_n 0, 1) := by decide +kernel
theorem dL_law_1451 : decode cL_law 1451 = .ok (.iload 4, 2) := by decide +kernel
theorem dL_law_1453 : decode cL_law 1453 = .ok (.iconst 2, 1) := by decide +kernel
theorem dL_law_1454 : decode cL_law 1454 = .ok (.iadd, 1) := by decide +kernel
theorem dL_law_1455 : decode cL_law 1455 = .ok (.iaload, 1) := by decide +kernel
theorem dL_law_1456 : decode cL_law 1456 = .ok (.aload_n 0, 1) := by decide +kernel
theorem dL_law_1457 : decode cL_law 1457 = .ok (.iload 4, 2) := by decide +kernel
theorem dL_law_1459 : decode cL_law 1459 = .ok (.iconst 3, 1) := by decide +kernel
theorem dL_law_1460 : decode cL_law 1460 = .ok (.iadd, 1) := by decide +kernel
theorem dL_law_1461 : decode cL_law 1461 = .ok (.iaload, 1) := by decide +kernel
theorem dL_law_1462 : decode cL_law 1462 = .ok (.aload_n 3, 1) := by decide +kernel
theorem dL_law_1463 : decode cL_law 1463 = .ok (.invokestatic 164, 3) := by decide +kernel
theorem dL_law_1466 : decode cL_law 1466 = .ok (.istore 5, 2) := by decide +kernel
theorem dL_law_1468 : decode cL_law 1468 = .ok (.aload_n 2, 1) := by decide +kernel
theorem dL_law_1469 : decode cL_law 1469 = .ok (.aload_n 0, 1) := by decide +kernel
theorem dL_law_1470 : decode cL_law 1470 = .ok (.iload 4, 2) := by decide +kernel
theorem dL_law_1472 : decode cL_law 1472 = .ok (.iconst 1, 1) := by decide +kernel
theorem dL_law_1473 : decode cL_law 1473 = .ok (.iadd, 1) := by decide +kernel
theorem dL_law_1474 : decode cL_law 1474 = .ok (.iaload, 1) := by decide +kernel
theorem dL_law_1475 : decode cL_law 1475 = .ok (.aload_n 0, 1) := by decide +kernel
theorem dL_law_1476 : decode cL_law 1476 = .ok (.iload 4, 2) := by decide +kernel
theorem dL_law_1478 : decode cL_law 1478 = .ok (.iconst 2, 1) := by decide +kernel
theorem dL_law_1479 : decode cL_law 1479 = .ok (.iadd, 1) := by decide +kernel
theorem dL_law_1480 : decode cL_law 1480 = .ok (.iaload, 1) := by decide +kernel
theorem dL_law_1481 : decode cL_law 1481 = .ok (.aload_n 0, 1) := by decide +kernel
theorem dL_law_1482 : decode cL_law 1482 = .ok (.iload 4, 2) := by decide +kernel
theorem dL_law_1484 : decode cL_law 1484 = .ok (.iconst 3, 1) := by decide +kernel
theorem dL_law_1485 : decode cL_law 1485 = .ok (.iadd, 1) := by decide +kernel
theorem dL_law_1486 : decode cL_law 1486 = .ok (.iaload, 1) := by decide +kernel
theorem dL_law_1487 : decode cL_law 1487 = .ok (.invokevirtual 166, 3) := by decide +kernel
theorem dL_law_1490 : decode cL_law 1490 = .ok (.istore 6, 2) := by decide +kernel
theorem dL_law_1492 : decode cL_law 1492 = .ok (.aload_n 2, 1) := by decide +kernel
theorem dL_law_1493 : decode cL_law 1493 = .ok (.invokevirtual 92, 3) := by decide +kernel
theorem dL_law_1496 : decode cL_law 1496 = .ok (.iload 5, 2) := by decide +kernel
theorem dL_law_1498 : decode cL_law 1498 = .ok (.if_icmp .eq 5, 3) := by decide +kernel
theorem dL_law_1501 : decode cL_law 1501 = .ok (.iconst 0, 1) := by decide +kernel
theorem dL_law_1502 : decode cL_law 1502 = .ok (.ireturn, 1) := by decide +kernel
theorem dL_law_1503 : decode cL_law 1503 = .ok (.iload 5, 2) := by decide +kernel
theorem dL_law_1505 : decode cL_law 1505 = .ok (.ifCond .ne 15, 3) := by decide +kernel
theorem dL_law_1508 : decode cL_law 1508 = .ok (.aload_n 3, 1) := by decide +kernel
theorem dL_law_1509 : decode cL_law 1509 = .ok (.iconst 0, 1) := by decide +kernel
theorem dL_law_1510 : decode cL_law 1510 = .ok (.laload, 1) := by decide +kernel
theorem dL_law_1511 : decode cL_law 1511 = .ok (.iload 6, 2) := by decide +kernel
theorem dL_law_1513 : decode cL_law 1513 = .ok (.i2l, 1) := by decide +kernel
theorem dL_law_1514 : decode cL_law 1514 = .ok (.lcmp, 1) := by decide +kernel
theorem dL_law_1515 : decode cL_law 1515 = .ok (.ifCond .eq 5, 3) := by decide +kernel
theorem dL_law_1518 : decode cL_law 1518 = .ok (.iconst 0, 1) := by decide +kernel
theorem dL_law_1519 : decode cL_law 1519 = .ok (.ireturn, 1) := by decide +kernel
theorem dL_law_1520 : decode cL_law 1520 = .ok (.goto 139, 3) := by decide +kernel
theorem dL_law_1523 : decode cL_law 1523 = .ok (.aload_n 1, 1) := by decide +kernel
theorem dL_law_1524 : decode cL_law 1524 = .ok (.invokevirtual 167, 3) := by decide +kernel
theorem dL_law_1527 : decode cL_law 1527 = .ok (.aload_n 2, 1) := by decide +kernel
theorem dL_law_1528 : decode cL_law 1528 = .ok (.invokevirtual 170, 3) := by decide +kernel
theorem dL_law_1531 : decode cL_law 1531 = .ok (.if_icmp .eq 128, 3) := by decide +kernel
theorem dL_law_1534 : decode cL_law 1534 = .ok (.iconst 0, 1) := by decide +kernel
theorem dL_law_1535 : decode cL_law 1535 = .ok (.ireturn, 1) := by decide +kernel
theorem dL_law_1536 : decode cL_law 1536 = .ok (.aload_n 1, 1) := by decide +kernel
theorem dL_law_1537 : decode cL_law 1537 = .ok (.aload_n 0, 1) := by decide +kernel
theorem dL_law_1538 : decode cL_law 1538 = .ok (.iload 4, 2) := by decide +kernel
theorem dL_law_1540 : decode cL_law 1540 = .ok (.iconst 1, 1) := by decide +kernel
theorem dL_law_1541 : decode cL_law 1541 = .ok (.iadd, 1) := by decide +kernel
theorem dL_law_1542 : decode cL_law 1542 = .ok (.iaload, 1) := by decide +kernel
theorem dL_law_1543 : decode cL_law 1543 = .ok (.aload_n 0, 1) := by decide +kernel
theorem dL_law_1544 : decode cL_law 1544 = .ok (.iload 4, 2) := by decide +kernel
theorem dL_law_1546 : decode cL_law 1546 = .ok (.iconst 2, 1) := by decide +kernel
theorem dL_law_1547 : decode cL_law 1547 = .ok (.iadd, 1) := by decide +kernel
theorem dL_law_1548 : decode cL_law 1548 = .ok (.iaload, 1) := by decide +kernel
theorem dL_law_1549 : decode cL_law 1549 = .ok (.aload_n 3, 1) := by decide +kernel
theorem dL_law_1550 : decode cL_law 1550 = .ok (.invokestatic 171, 3) := by decide +kernel
theorem dL_law_1553 : decode cL_law 1553 = .ok (.istore 5, 2) := by decide +kernel
theorem dL_law_1555 : decode cL_law 1555 = .ok (.aload_n 2, 1) := by decide +kernel
theorem dL_law_1556 : decode cL_law 1556 = .ok (.aload_n 0, 1) := by decide +kernel
theorem dL_law_1557 : decode cL_law 1557 = .ok (.iload 4, 2) := by decide +kernel
theorem dL_law_1559 : decode cL_law 1559 = .ok (.iconst 1, 1) := by decide +kernel
theorem dL_law_1560 : decode cL_law 1560 = .ok (.iadd, 1) := by decide +kernel
theorem dL_law_1561 : decode cL_law 1561 = .ok (.iaload, 1) := by decide +kernel
theorem dL_law_1562 : decode cL_law 1562 = .ok (.aload_n 0, 1) := by decide +kernel
theorem dL_law_1563 : decode cL_law 1563 = .ok (.iload 4, 2) := by decide +kernel
theorem dL_law_1565 : decode cL_law 1565 = .ok (.iconst 2, 1) := by decide +kernel
theorem dL_law_1566 : decode cL_law 1566 = .ok (.iadd, 1) := by decide +kernel
theorem dL_law_1567 : decode cL_law 1567 = .ok (.iaload, 1) := by decide +kernel
theorem dL_law_1568 : decode cL_law 1568 = .ok (.invokevirtual 173, 3) := by decide +kernel
theorem dL_law_1571 : decode cL_law 1571 = .ok (.istore 6, 2) := by decide +kernel
theorem dL_law_1573 : decode cL_law 1573 = .ok (.aload_n 2, 1) := by decide +kernel
theorem dL_law_1574 : decode cL_law 1574 = .ok (.invokevirtual 92, 3) := by decide +kernel
theorem dL_law_1577 : decode cL_law 1577 = .ok (.iload 5, 2) := by decide +kernel
theorem dL_law_1579 : decode cL_law 1579 = .ok (.if_icmp .eq 5, 3) := by decide +kernel
theorem dL_law_1582 : decode cL_law 1582 = .ok (.iconst 0, 1) := by decide +kernel
theorem dL_law_1583 : decode cL_law 1583 = .ok (.ireturn, 1) := by decide +kernel
theorem dL_law_1584 : decode cL_law 1584 = .ok (.iload 5, 2) := by decide +kernel
theorem dL_law_1586 : decode cL_law 1586 = .ok (.ifCond .ne 15, 3) := by decide +kernel
theorem dL_law_1589 : decode cL_law 1589 = .ok (.aload_n 3, 1) := by decide +kernel
theorem dL_law_1590 : decode cL_law 1590 = .ok (.iconst 0, 1) := by decide +kernel
theorem dL_law_1591 : decode cL_law 1591 = .ok (.laload, 1) := by decide +kernel
theorem dL_law_1592 : decode cL_law 1592 = .ok (.iload 6, 2) := by decide +kernel
theorem dL_law_1594 : decode cL_law 1594 = .ok (.i2l, 1) := by decide +kernel
theorem dL_law_1595 : decode cL_law 1595 = .ok (.lcmp, 1) := by decide +kernel
theorem dL_law_1596 : decode cL_law 1596 = .ok (.ifCond .eq 5, 3) := by decide +kernel
theorem dL_law_1599 : decode cL_law 1599 = .ok (.iconst 0, 1) := by decide +kernel
theorem dL_law_1600 : decode cL_law 1600 = .ok (.ireturn, 1) := by decide +kernel
theorem dL_law_1601 : decode cL_law 1601 = .ok (.goto 58, 3) := by decide +kernel
theorem dL_law_1604 : decode cL_law 1604 = .ok (.aload_n 1, 1) := by decide +kernel
theorem dL_law_1605 : decode cL_law 1605 = .ok (.invokevirtual 174, 3) := by decide +kernel
theorem dL_law_1608 : decode cL_law 1608 = .ok (.dstore 5, 2) := by decide +kernel
theorem dL_law_1610 : decode cL_law 1610 = .ok (.aload_n 2, 1) := by decide +kernel
theorem dL_law_1611 : decode cL_law 1611 = .ok (.invokevirtual 178, 3) := by decide +kernel
theorem dL_law_1614 : decode cL_law 1614 = .ok (.dstore 7, 2) := by decide +kernel
theorem dL_law_1616 : decode cL_law 1616 = .ok (.dload 5, 2) := by decide +kernel
theorem dL_law_1618 : decode cL_law 1618 = .ok (.dload 7, 2) := by decide +kernel
theorem dL_law_1620 : decode cL_law 1620 = .ok (.dcmp .l, 1) := by decide +kernel
theorem dL_law_1621 : decode cL_law 1621 = .ok (.ifCond .eq 21, 3) := by decide +kernel
theorem dL_law_1624 : decode cL_law 1624 = .ok (.dload 5, 2) := by decide +kernel
theorem dL_law_1626 : decode cL_law 1626 = .ok (.dload 5, 2) := by decide +kernel
theorem dL_law_1628 : decode cL_law 1628 = .ok (.dcmp .l, 1) := by decide +kernel
theorem dL_law_1629 : decode cL_law 1629 = .ok (.ifCond .eq 11, 3) := by decide +kernel
theorem dL_law_1632 : decode cL_law 1632 = .ok (.dload 7, 2) := by decide +kernel
theorem dL_law_1634 : decode cL_law 1634 = .ok (.dload 7, 2) := by decide +kernel
theorem dL_law_1636 : decode cL_law 1636 = .ok (.dcmp .l, 1) := by decide +kernel
theorem dL_law_1637 : decode cL_law 1637 = .ok (.ifCond .ne 5, 3) := by decide +kernel
theorem dL_law_1640 : decode cL_law 1640 = .ok (.iconst 0, 1) := by decide +kernel
theorem dL_law_1641 : decode cL_law 1641 = .ok (.ireturn, 1) := by decide +kernel
theorem dL_law_1642 : decode cL_law 1642 = .ok (.goto 17, 3) := by decide +kernel
theorem dL_law_1645 : decode cL_law 1645 = .ok (.aload_n 1, 1) := by decide +kernel
theorem dL_law_1646 : decode cL_law 1646 = .ok (.invokevirtual 179, 3) := by decide +kernel
theorem dL_law_1649 : decode cL_law 1649 = .ok (.aload_n 2, 1) := by decide +kernel
theorem dL_law_1650 : decode cL_law 1650 = .ok (.invokevirtual 183, 3) := by decide +kernel
theorem dL_law_1653 : decode cL_law 1653 = .ok (.lcmp, 1) := by decide +kernel
theorem dL_law_1654 : decode cL_law 1654 = .ok (.ifCond .eq 5, 3) := by decide +kernel
theorem dL_law_1657 : decode cL_law 1657 = .ok (.iconst 0, 1) := by decide +kernel
theorem dL_law_1658 : decode cL_law 1658 = .ok (.ireturn, 1) := by decide +kernel
theorem dL_law_1659 : decode cL_law 1659 = .ok (.iinc 4 4, 3) := by decide +kernel
theorem dL_law_1662 : decode cL_law 1662 = .ok (.goto (-1639), 3) := by decide +kernel
theorem dL_law_1665 : decode cL_law 1665 = .ok (.iconst 1, 1) := by decide +kernel
theorem dL_law_1666 : decode cL_law 1666 = .ok (.ireturn, 1) := by decide +kernel
