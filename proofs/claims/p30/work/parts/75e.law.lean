/-! The law, on. -/
section LW
variable {w : zWp} {tb : List (Nat × Nat × Nat × Nat)} {cr t : Nat} {M : Nat → Nat → Nat → Int32} {O : Nat → Int64} {s s1 h y i : Nat} {V U : Nat → Int32} {r : Int32}
theorem law_end (Z : zS t M s h V) : zE w tb O 22 805 [.inl (.ref w.2.2.2.1), vR 9 0, vI (nI 1), vI (nI 34), vU, vU, vU, vU, vU, vU, vU, vU, vU, vU, vU, vU, vU, vU, vU, vU, vU, vU, vU, vU, vU] [] M := by
  obtain ⟨N1, Z1, ch⟩ := a_hangs (w := w) (d := 0) (O := O) (y := 5) Z (by decide)
  refine ⟨N1, ?_⟩
  refine g_iload_n (n := 806) dL_law_805 rfl rfl ?_
  refine g_if_eq (n := 809) (t := 1067) dL_law_806 rfl (by decide) (fun q9 => absurd q9 (by decide)) (fun _ => ?_)
  refine g_aload_n (n := 810) dL_law_809 rfl rfl ?_
  refine g_iconst (n := 811) dL_law_810 rfl k_ic_5 ?_
  refine g_cKPv (c9 := 1) (n := 814) ch dL_law_811 rfl kz_L_147 rfl (Or.inl (Nat.le_of_ble_eq_true rfl)) (Nat.le_of_ble_eq_true rfl) rfl rfl ?_ rfl
  refine g_if_eq (n := 817) (t := 1067) dL_law_814 rfl (by decide) (fun q9 => absurd q9 (by decide)) (fun _ => ?_)
  refine g_aload_n (n := 818) dL_law_817 rfl rfl ?_
  refine g_bipush (n := 820) dL_law_818 rfl k_bp_8 ?_
  refine g_iconst (n := 821) dL_law_820 rfl k_ic_0 ?_
  refine g_iconst (n := 822) dL_law_821 rfl k_ic_1 ?_
  refine g_cKHv (c9 := 1) (n := 825) (h_road1 (d := 2) (t_road1 (w := w) (d := 2) (M := N1) (O := O) (x := nI 8) (y := nI 0) (z := nI 1) (by decide))) dL_law_822 rfl kz_L_94 rfl (Or.inl (Nat.le_of_ble_eq_true rfl)) (Nat.le_of_ble_eq_true rfl) rfl rfl ?_ rfl
  refine g_ldc (n := 827) dL_law_825 rfl kc_L_17 ?_
  refine g_icmp_ne (n := 830) (t := 1067) dL_law_827 rfl (by decide) (fun q9 => absurd rfl q9) (fun _ => ?_)
  refine g_aload_n (n := 831) dL_law_830 rfl rfl ?_
  refine g_iconst (n := 832) dL_law_831 rfl k_ic_1 ?_
  refine g_iconst (n := 833) dL_law_832 rfl k_ic_1 ?_
  refine g_iconst (n := 834) dL_law_833 rfl k_ic_1 ?_
  refine g_cKHv (c9 := 1) (n := 837) (h_road2 (d := 2) (t_road2 (w := w) (d := 2) (M := N1) (O := O) (a := 1) (z := nI 1) (by decide))) dL_law_834 rfl kz_L_94 rfl (Or.inl (Nat.le_of_ble_eq_true rfl)) (Nat.le_of_ble_eq_true rfl) rfl rfl ?_ rfl
  refine g_ldc (n := 839) dL_law_837 rfl kc_L_20 ?_
  refine g_icmp_ne (n := 842) (t := 1067) dL_law_839 rfl (by decide) (fun q9 => absurd rfl q9) (fun _ => ?_)
  refine g_aload_n (n := 843) dL_law_842 rfl rfl ?_
  refine g_iconst (n := 844) dL_law_843 rfl k_ic_0 ?_
  refine g_iconst (n := 845) dL_law_844 rfl k_ic_1 ?_
  refine g_bipush (n := 847) dL_law_845 rfl k_bp_100 ?_
  refine g_cKHv (c9 := 1) (n := 850) (h_road2 (d := 2) (t_road3 (w := w) (d := 2) (M := N1) (O := O) (a := 0) (b := 1) (z := nI 100) (by decide) (by decide) (by decide) (by decide))) dL_law_847 rfl kz_L_94 rfl (Or.inl (Nat.le_of_ble_eq_true rfl)) (Nat.le_of_ble_eq_true rfl) rfl rfl ?_ rfl
  refine g_ldc (n := 852) dL_law_850 rfl kc_L_20 ?_
  refine g_icmp_ne (n := 855) (t := 1067) dL_law_852 rfl (by decide) (fun q9 => absurd rfl q9) (fun _ => ?_)
  refine g_aload_n (n := 856) dL_law_855 rfl rfl ?_
  refine g_bipush (n := 858) dL_law_856 rfl k_bp_8 ?_
  refine g_iconst (n := 859) dL_law_858 rfl k_ic_0 ?_
  refine g_cKHv (c9 := 1) (n := 862) (h_exit1 (d := 2) (t_exit1 (w := w) (d := 2) (M := N1) (O := O) (x := nI 8) (y := nI 0) (by decide))) dL_law_859 rfl kz_L_86 rfl (Or.inl (Nat.le_of_ble_eq_true rfl)) (Nat.le_of_ble_eq_true rfl) rfl rfl ?_ rfl
  refine g_ldc (n := 864) dL_law_862 rfl kc_L_17 ?_
  refine g_icmp_ne (n := 867) (t := 1067) dL_law_864 rfl (by decide) (fun q9 => absurd rfl q9) (fun _ => ?_)
  refine g_aload_n (n := 868) dL_law_867 rfl rfl ?_
  refine g_iconst (n := 869) dL_law_868 rfl k_ic_0 ?_
  refine g_iconst (n := 870) dL_law_869 rfl k_ic_4 ?_
  refine g_cKHv (c9 := 1) (n := 873) (h_exit1 (d := 2) (t_exit2 (w := w) (d := 2) (M := N1) (O := O) (x := nI 0) (y := nI 4) (by decide) (by decide))) dL_law_870 rfl kz_L_86 rfl (Or.inl (Nat.le_of_ble_eq_true rfl)) (Nat.le_of_ble_eq_true rfl) rfl rfl ?_ rfl
  refine g_ldc (n := 875) dL_law_873 rfl kc_L_17 ?_
  refine g_icmp_ne (n := 878) (t := 1067) dL_law_875 rfl (by decide) (fun q9 => absurd rfl q9) (fun _ => ?_)
  refine g_aload_n (n := 879) dL_law_878 rfl rfl ?_
  refine g_iconst (n := 880) dL_law_879 rfl k_ic_4 ?_
  refine g_iconst (n := 881) dL_law_880 rfl k_ic_0 ?_
  refine g_iconst (n := 882) dL_law_881 rfl k_ic_1 ?_
  refine g_cKHv (c9 := 1) (n := 885) (h_offer1 (d := 2) (t_offer1 (w := w) (d := 2) (M := N1) (O := O) (x := nI 4) (y := nI 0) (z := nI 1) (by decide))) dL_law_882 rfl kz_L_91 rfl (Or.inl (Nat.le_of_ble_eq_true rfl)) (Nat.le_of_ble_eq_true rfl) rfl rfl ?_ rfl
  refine g_ldc (n := 887) dL_law_885 rfl kc_L_17 ?_
  refine g_icmp_ne (n := 890) (t := 1067) dL_law_887 rfl (by decide) (fun q9 => absurd rfl q9) (fun _ => ?_)
  refine g_aload_n (n := 891) dL_law_890 rfl rfl ?_
  refine g_iconst (n := 892) dL_law_891 rfl k_ic_0 ?_
  refine g_iconst (n := 893) dL_law_892 rfl k_ic_0 ?_
  refine g_bipush (n := 895) dL_law_893 rfl k_bp_10 ?_
  refine g_cKHv (c9 := 1) (n := 898) (h_offer2 (d := 2) (t_offer3 (w := w) (d := 2) (M := N1) (O := O) (x := nI 0) (y := nI 0) (z := nI 10) (by decide) (by decide) (by decide))) dL_law_895 rfl kz_L_91 rfl (Or.inl (Nat.le_of_ble_eq_true rfl)) (Nat.le_of_ble_eq_true rfl) rfl rfl ?_ rfl
  refine g_ldc (n := 900) dL_law_898 rfl kc_L_20 ?_
  refine g_icmp_ne (n := 903) (t := 1067) dL_law_900 rfl (by decide) (fun q9 => absurd rfl q9) (fun _ => ?_)
  refine g_aload_n (n := 904) dL_law_903 rfl rfl ?_
  refine g_iconst (n := 905) dL_law_904 rfl k_ic_0 ?_
  refine g_bipush (n := 907) dL_law_905 rfl k_bp_100 ?_
  refine g_cKHv (c9 := 1) (n := 910) (h_bound2 (d := 2) (t_bound2 (w := w) (d := 2) (M := N1) (O := O) (x := nI 0) (y := nI 100) (by decide) (by decide))) dL_law_907 rfl kz_L_101 rfl (Or.inl (Nat.le_of_ble_eq_true rfl)) (Nat.le_of_ble_eq_true rfl) rfl rfl ?_ rfl
  refine g_ldc (n := 912) dL_law_910 rfl kc_L_20 ?_
  refine g_icmp_ne (n := 915) (t := 1067) dL_law_912 rfl (by decide) (fun q9 => absurd rfl q9) (fun _ => ?_)
  refine g_aload_n (n := 916) dL_law_915 rfl rfl ?_
  refine g_iconst (n := 917) dL_law_916 rfl k_ic_2 ?_
  refine g_iconst (n := 918) dL_law_917 rfl k_ic_0 ?_
  refine g_cKHv (c9 := 1) (n := 921) (h_set1 (d := 2) (t_set1 (w := w) (d := 2) (M := N1) (O := O) (x := nI 2) (y := nI 0) (by decide))) dL_law_918 rfl kz_L_99 rfl (Or.inl (Nat.le_of_ble_eq_true rfl)) (Nat.le_of_ble_eq_true rfl) rfl rfl ?_ rfl
  refine g_ldc (n := 923) dL_law_921 rfl kc_L_17 ?_
  refine g_icmp_ne (n := 926) (t := 1067) dL_law_923 rfl (by decide) (fun q9 => absurd rfl q9) (fun _ => ?_)
  refine g_aload_n (n := 927) dL_law_926 rfl rfl ?_
  refine g_iconst (n := 928) dL_law_927 rfl k_ic_0 ?_
  refine g_iconst (n := 929) dL_law_928 rfl k_ic_2 ?_
  refine g_cKHv (c9 := 1) (n := 932) (h_set2 (d := 2) (t_set2 (w := w) (d := 2) (M := N1) (O := O) (a := 0) (y := nI 2) (by decide) (by decide))) dL_law_929 rfl kz_L_99 rfl (Or.inl (Nat.le_of_ble_eq_true rfl)) (Nat.le_of_ble_eq_true rfl) rfl rfl ?_ rfl
  refine g_ldc (n := 934) dL_law_932 rfl kc_L_20 ?_
  refine g_icmp_ne (n := 937) (t := 1067) dL_law_934 rfl (by decide) (fun q9 => absurd rfl q9) (fun _ => ?_)
  refine g_aload_n (n := 938) dL_law_937 rfl rfl ?_
  refine g_iconst (n := 939) dL_law_938 rfl k_ic_0 ?_
  refine g_iconst (n := 940) dL_law_939 rfl k_ic_4 ?_
  refine g_cKHv (c9 := 1) (n := 943) (h_send1 (d := 2) (t_send2 (w := w) (d := 2) (M := N1) (O := O) (x := nI 0) (y := nI 4) (by decide) (by decide))) dL_law_940 rfl kz_L_110 rfl (Or.inl (Nat.le_of_ble_eq_true rfl)) (Nat.le_of_ble_eq_true rfl) rfl rfl ?_ rfl
  refine g_ldc (n := 945) dL_law_943 rfl kc_L_17 ?_
  refine g_icmp_ne (n := 948) (t := 1067) dL_law_945 rfl (by decide) (fun q9 => absurd rfl q9) (fun _ => ?_)
  refine g_aload_n (n := 949) dL_law_948 rfl rfl ?_
  refine g_bipush (n := 951) dL_law_949 rfl k_bp_32 ?_
  refine g_cKHv (c9 := 1) (n := 954) (h_append1 (d := 2) (t_append1 (w := w) (d := 2) (M := N1) (O := O) (x := nI 32) (by decide))) dL_law_951 rfl kz_L_166 rfl (Or.inl (Nat.le_of_ble_eq_true rfl)) (Nat.le_of_ble_eq_true rfl) rfl rfl ?_ rfl
  refine g_ldc (n := 956) dL_law_954 rfl kc_L_17 ?_
  refine g_icmp_ne (n := 959) (t := 1067) dL_law_956 rfl (by decide) (fun q9 => absurd rfl q9) (fun _ => ?_)
  refine g_aload_n (n := 960) dL_law_959 rfl rfl ?_
  refine g_iconst (n := 961) dL_law_960 rfl k_ic_2 ?_
  refine g_cKHv (c9 := 1) (n := 964) (h_keep1 (d := 2) (t_keep (w := w) (d := 2) (M := N1) (O := O) (x := nI 2) (by decide))) dL_law_961 rfl kz_L_108 rfl (Or.inl (Nat.le_of_ble_eq_true rfl)) (Nat.le_of_ble_eq_true rfl) rfl rfl ?_ rfl
  refine g_ldc (n := 966) dL_law_964 rfl kc_L_17 ?_
  refine g_icmp_ne (n := 969) (t := 1067) dL_law_966 rfl (by decide) (fun q9 => absurd rfl q9) (fun _ => ?_)
  refine g_aload_n (n := 970) dL_law_969 rfl rfl ?_
  refine g_iconst (n := 971) dL_law_970 rfl k_ic_m1 ?_
  refine g_iconst (n := 972) dL_law_971 rfl k_ic_0 ?_
  refine g_cKHv (c9 := 1) (n := 975) (q_roadOfX (w := w) (d := 2) (M := N1) (O := O) (x := -1) (y := nI 0) (by decide)) dL_law_972 rfl kz_L_115 rfl (Or.inl (Nat.le_of_ble_eq_true rfl)) (Nat.le_of_ble_eq_true rfl) rfl rfl ?_ rfl
  refine g_ldc (n := 977) dL_law_975 rfl kc_L_17 ?_
  refine g_icmp_ne (n := 980) (t := 1067) dL_law_977 rfl (by decide) (fun q9 => absurd rfl q9) (fun _ => ?_)
  refine g_aload_n (n := 981) dL_law_980 rfl rfl ?_
  refine g_iconst (n := 982) dL_law_981 rfl k_ic_0 ?_
  refine g_iconst (n := 983) dL_law_982 rfl k_ic_1 ?_
  refine g_iconst (n := 984) dL_law_983 rfl k_ic_2 ?_
  refine g_cKHv (c9 := 1) (n := 987) (q_distX (w := w) (d := 2) (M := N1) (O := O) (a := 0) (b := 1) (z := nI 2) (by decide) (by decide) (by decide)) dL_law_984 rfl kz_L_112 rfl (Or.inl (Nat.le_of_ble_eq_true rfl)) (Nat.le_of_ble_eq_true rfl) rfl rfl ?_ rfl
  refine g_ldc (n := 989) dL_law_987 rfl kc_L_20 ?_
  refine g_icmp_ne (n := 992) (t := 1067) dL_law_989 rfl (by decide) (fun q9 => absurd rfl q9) (fun _ => ?_)
  refine g_aload_n (n := 993) dL_law_992 rfl rfl ?_
  refine g_iconst (n := 994) dL_law_993 rfl k_ic_0 ?_
  refine g_bipush (n := 996) dL_law_994 rfl k_bp_8 ?_
  refine g_cKHv (c9 := 1) (n := 999) (q_nbX (w := w) (d := 2) (M := N1) (O := O) (x := nI 0) (y := nI 8) (by decide) (by decide)) dL_law_996 rfl kz_L_127 rfl (Or.inl (Nat.le_of_ble_eq_true rfl)) (Nat.le_of_ble_eq_true rfl) rfl rfl ?_ rfl
  refine g_ldc (n := 1001) dL_law_999 rfl kc_L_20 ?_
  refine g_icmp_ne (n := 1004) (t := 1067) dL_law_1001 rfl (by decide) (fun q9 => absurd rfl q9) (fun _ => ?_)
  refine g_aload_n (n := 1005) dL_law_1004 rfl rfl ?_
  refine g_iconst (n := 1006) dL_law_1005 rfl k_ic_0 ?_
  refine g_iconst (n := 1007) dL_law_1006 rfl k_ic_0 ?_
  refine g_bipush (n := 1009) dL_law_1007 rfl k_bp_6 ?_
  refine g_cKHv (c9 := 1) (n := 1012) (q_choiceX (w := w) (d := 2) (M := N1) (O := O) (x := nI 0) (y := nI 0) (z := nI 6) (by decide) (by decide) (by decide)) dL_law_1009 rfl kz_L_119 rfl (Or.inl (Nat.le_of_ble_eq_true rfl)) (Nat.le_of_ble_eq_true rfl) rfl rfl ?_ rfl
  refine g_ldc (n := 1014) dL_law_1012 rfl kc_L_20 ?_
  refine g_icmp_ne (n := 1017) (t := 1067) dL_law_1014 rfl (by decide) (fun q9 => absurd rfl q9) (fun _ => ?_)
  refine g_aload_n (n := 1018) dL_law_1017 rfl rfl ?_
  refine g_bipush (n := 1020) dL_law_1018 rfl k_bp_10 ?_
  refine g_cKHv (c9 := 1) (n := 1023) (q_countX (w := w) (d := 2) (M := N1) (O := O) (x := nI 10) (by decide)) dL_law_1020 rfl kz_L_117 rfl (Or.inl (Nat.le_of_ble_eq_true rfl)) (Nat.le_of_ble_eq_true rfl) rfl rfl ?_ rfl
  refine g_ldc (n := 1025) dL_law_1023 rfl kc_L_17 ?_
  refine g_icmp_ne (n := 1028) (t := 1067) dL_law_1025 rfl (by decide) (fun q9 => absurd rfl q9) (fun _ => ?_)
  refine g_aload_n (n := 1029) dL_law_1028 rfl rfl ?_
  refine g_iconst (n := 1030) dL_law_1029 rfl k_ic_2 ?_
  refine g_iconst (n := 1031) dL_law_1030 rfl k_ic_2 ?_
  refine g_iconst (n := 1032) dL_law_1031 rfl k_ic_1 ?_
  refine g_cKHv (c9 := 1) (n := 1035) (q_ifRoadX (w := w) (d := 2) (M := N1) (O := O) (a := 2) (z := nI 1) (by decide)) dL_law_1032 rfl kz_L_154 rfl (Or.inl (Nat.le_of_ble_eq_true rfl)) (Nat.le_of_ble_eq_true rfl) rfl rfl ?_ rfl
  refine g_ldc (n := 1037) dL_law_1035 rfl kc_L_20 ?_
  refine g_icmp_ne (n := 1040) (t := 1067) dL_law_1037 rfl (by decide) (fun q9 => absurd rfl q9) (fun _ => ?_)
  refine g_aload_n (n := 1041) dL_law_1040 rfl rfl ?_
  refine g_iconst (n := 1042) dL_law_1041 rfl k_ic_3 ?_
  refine g_iconst (n := 1043) dL_law_1042 rfl k_ic_3 ?_
  refine g_cKHv (c9 := 1) (n := 1046) (q_idleX (w := w) (d := 2) (M := N1) (O := O) (a := 3) (by decide)) dL_law_1043 rfl kz_L_160 rfl (Or.inl (Nat.le_of_ble_eq_true rfl)) (Nat.le_of_ble_eq_true rfl) rfl rfl ?_ rfl
  refine g_ldc (n := 1048) dL_law_1046 rfl kc_L_20 ?_
  refine g_icmp_ne (n := 1051) (t := 1067) dL_law_1048 rfl (by decide) (fun q9 => absurd rfl q9) (fun _ => ?_)
  refine g_aload_n (n := 1052) dL_law_1051 rfl rfl ?_
  refine g_bipush (n := 1054) dL_law_1052 rfl k_bp_8 ?_
  refine g_iconst (n := 1055) dL_law_1054 rfl k_ic_0 ?_
  refine g_cKHv (c9 := 1) (n := 1058) (q_idleX1 (w := w) (d := 2) (M := N1) (O := O) (x := nI 8) (y := nI 0) (by decide)) dL_law_1055 rfl kz_L_160 rfl (Or.inl (Nat.le_of_ble_eq_true rfl)) (Nat.le_of_ble_eq_true rfl) rfl rfl ?_ rfl
  refine g_ldc (n := 1060) dL_law_1058 rfl kc_L_17 ?_
  refine g_icmp_ne (n := 1063) (t := 1067) dL_law_1060 rfl (by decide) (fun q9 => absurd rfl q9) (fun _ => ?_)
  refine g_iconst (n := 1064) dL_law_1063 rfl k_ic_1 ?_
  refine g_goto (n := 0) (t := 1068) dL_law_1064 (by decide) ?_
  exact g_ireturn dL_law_1068 rfl rfl rfl rfl
theorem law_loop (hL : w.2.2.2.2.1 ≤ 260) : ∀ (j i : Nat) (M : Nat → Nat → Nat → Int32) (s h : Nat) (V : Nat → Int32), i + j = 34 → zS i M s h V → zE w tb O (22 + 2 * j) 100 [.inl (.ref w.2.2.2.1), vR 9 0, vI (nI 1), vI (nI i), vU, vU, vU, vU, vU, vU, vU, vU, vU, vU, vU, vU, vU, vU, vU, vU, vU, vU, vU, vU, vU] [] M
  | 0, i, M, s, h, V, hij, Z => by
    obtain rfl : i = 34 := by omega
    obtain ⟨M', G⟩ := law_end (w := w) (tb := tb) (O := O) Z
    refine ⟨M', ?_⟩
    refine g_iload_n (n := 101) dL_law_100 rfl rfl ?_
    refine g_bipush (n := 103) dL_law_101 rfl k_bp_34 ?_
    refine g_icmp_ge (n := 106) (t := 805) dL_law_103 rfl (by decide) (fun _ => ?_) (fun q9 => absurd (nI_le (by omega) (by omega)) q9)
    exact G
  | j + 1, i, M, s, h, V, hij, Z => law_round (cr := 22 + 2 * j) hL Z (by omega) (fun M s h V Z => law_loop hL j (i + 1) M s h V (by omega) Z)
end LW

