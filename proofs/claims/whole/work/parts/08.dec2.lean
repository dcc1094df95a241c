theorem d_Mod_allInstances_0 : decode M_Mod_allInstances.2.1 0 = .ok (.iconst 0, 1) := by decide +kernel
theorem d_Mod_allInstances_1 : decode M_Mod_allInstances.2.1 1 = .ok (.istore_n 1, 1) := by decide +kernel
theorem d_Mod_allInstances_2 : decode M_Mod_allInstances.2.1 2 = .ok (.iconst 0, 1) := by decide +kernel
theorem d_Mod_allInstances_3 : decode M_Mod_allInstances.2.1 3 = .ok (.istore_n 2, 1) := by decide +kernel
theorem d_Mod_allInstances_4 : decode M_Mod_allInstances.2.1 4 = .ok (.iload_n 2, 1) := by decide +kernel
theorem d_Mod_allInstances_5 : decode M_Mod_allInstances.2.1 5 = .ok (.aload_n 0, 1) := by decide +kernel
theorem d_Mod_allInstances_6 : decode M_Mod_allInstances.2.1 6 = .ok (.getfield 105, 3) := by decide +kernel
theorem d_Mod_allInstances_9 : decode M_Mod_allInstances.2.1 9 = .ok (.if_icmp .ge 90, 3) := by decide +kernel
theorem d_Mod_allInstances_12 : decode M_Mod_allInstances.2.1 12 = .ok (.iconst 0, 1) := by decide +kernel
theorem d_Mod_allInstances_13 : decode M_Mod_allInstances.2.1 13 = .ok (.istore_n 3, 1) := by decide +kernel
theorem d_Mod_allInstances_14 : decode M_Mod_allInstances.2.1 14 = .ok (.iload_n 3, 1) := by decide +kernel
theorem d_Mod_allInstances_15 : decode M_Mod_allInstances.2.1 15 = .ok (.aload_n 0, 1) := by decide +kernel
theorem d_Mod_allInstances_16 : decode M_Mod_allInstances.2.1 16 = .ok (.getfield 57, 3) := by decide +kernel
theorem d_Mod_allInstances_19 : decode M_Mod_allInstances.2.1 19 = .ok (.iload_n 2, 1) := by decide +kernel
theorem d_Mod_allInstances_20 : decode M_Mod_allInstances.2.1 20 = .ok (.iaload, 1) := by decide +kernel
theorem d_Mod_allInstances_21 : decode M_Mod_allInstances.2.1 21 = .ok (.if_icmp .ge 72, 3) := by decide +kernel
theorem d_Mod_allInstances_24 : decode M_Mod_allInstances.2.1 24 = .ok (.iconst 0, 1) := by decide +kernel
theorem d_Mod_allInstances_25 : decode M_Mod_allInstances.2.1 25 = .ok (.istore 4, 2) := by decide +kernel
theorem d_Mod_allInstances_27 : decode M_Mod_allInstances.2.1 27 = .ok (.iconst 0, 1) := by decide +kernel
theorem d_Mod_allInstances_28 : decode M_Mod_allInstances.2.1 28 = .ok (.istore 5, 2) := by decide +kernel
theorem d_Mod_allInstances_30 : decode M_Mod_allInstances.2.1 30 = .ok (.iload 5, 2) := by decide +kernel
theorem d_Mod_allInstances_32 : decode M_Mod_allInstances.2.1 32 = .ok (.iload_n 2, 1) := by decide +kernel
theorem d_Mod_allInstances_33 : decode M_Mod_allInstances.2.1 33 = .ok (.if_icmp .ge 41, 3) := by decide +kernel
theorem d_Mod_allInstances_36 : decode M_Mod_allInstances.2.1 36 = .ok (.iload 4, 2) := by decide +kernel
theorem d_Mod_allInstances_38 : decode M_Mod_allInstances.2.1 38 = .ok (.ifCond .ne 23, 3) := by decide +kernel
theorem d_Mod_allInstances_41 : decode M_Mod_allInstances.2.1 41 = .ok (.aload_n 0, 1) := by decide +kernel
theorem d_Mod_allInstances_42 : decode M_Mod_allInstances.2.1 42 = .ok (.iload 5, 2) := by decide +kernel
theorem d_Mod_allInstances_44 : decode M_Mod_allInstances.2.1 44 = .ok (.aload_n 0, 1) := by decide +kernel
theorem d_Mod_allInstances_45 : decode M_Mod_allInstances.2.1 45 = .ok (.getfield 54, 3) := by decide +kernel
theorem d_Mod_allInstances_48 : decode M_Mod_allInstances.2.1 48 = .ok (.bipush 27, 2) := by decide +kernel
theorem d_Mod_allInstances_50 : decode M_Mod_allInstances.2.1 50 = .ok (.iload_n 2, 1) := by decide +kernel
theorem d_Mod_allInstances_51 : decode M_Mod_allInstances.2.1 51 = .ok (.imul, 1) := by decide +kernel
theorem d_Mod_allInstances_52 : decode M_Mod_allInstances.2.1 52 = .ok (.iload_n 3, 1) := by decide +kernel
theorem d_Mod_allInstances_53 : decode M_Mod_allInstances.2.1 53 = .ok (.iadd, 1) := by decide +kernel
theorem d_Mod_allInstances_54 : decode M_Mod_allInstances.2.1 54 = .ok (.iaload, 1) := by decide +kernel
theorem d_Mod_allInstances_55 : decode M_Mod_allInstances.2.1 55 = .ok (.invokevirtual 125, 3) := by decide +kernel
theorem d_Mod_allInstances_58 : decode M_Mod_allInstances.2.1 58 = .ok (.ifCond .eq 7, 3) := by decide +kernel
theorem d_Mod_allInstances_61 : decode M_Mod_allInstances.2.1 61 = .ok (.iconst 1, 1) := by decide +kernel
theorem d_Mod_allInstances_62 : decode M_Mod_allInstances.2.1 62 = .ok (.goto 4, 3) := by decide +kernel
theorem d_Mod_allInstances_65 : decode M_Mod_allInstances.2.1 65 = .ok (.iconst 0, 1) := by decide +kernel
theorem d_Mod_allInstances_66 : decode M_Mod_allInstances.2.1 66 = .ok (.istore 4, 2) := by decide +kernel
theorem d_Mod_allInstances_68 : decode M_Mod_allInstances.2.1 68 = .ok (.iinc 5 1, 3) := by decide +kernel
theorem d_Mod_allInstances_71 : decode M_Mod_allInstances.2.1 71 = .ok (.goto (-41), 3) := by decide +kernel
theorem d_Mod_allInstances_74 : decode M_Mod_allInstances.2.1 74 = .ok (.iload 4, 2) := by decide +kernel
theorem d_Mod_allInstances_76 : decode M_Mod_allInstances.2.1 76 = .ok (.ifCond .eq 7, 3) := by decide +kernel
theorem d_Mod_allInstances_79 : decode M_Mod_allInstances.2.1 79 = .ok (.iload_n 1, 1) := by decide +kernel
theorem d_Mod_allInstances_80 : decode M_Mod_allInstances.2.1 80 = .ok (.goto 6, 3) := by decide +kernel
theorem d_Mod_allInstances_83 : decode M_Mod_allInstances.2.1 83 = .ok (.iload_n 1, 1) := by decide +kernel
theorem d_Mod_allInstances_84 : decode M_Mod_allInstances.2.1 84 = .ok (.iconst 1, 1) := by decide +kernel
theorem d_Mod_allInstances_85 : decode M_Mod_allInstances.2.1 85 = .ok (.iadd, 1) := by decide +kernel
theorem d_Mod_allInstances_86 : decode M_Mod_allInstances.2.1 86 = .ok (.istore_n 1, 1) := by decide +kernel
theorem d_Mod_allInstances_87 : decode M_Mod_allInstances.2.1 87 = .ok (.iinc 3 1, 3) := by decide +kernel
theorem d_Mod_allInstances_90 : decode M_Mod_allInstances.2.1 90 = .ok (.goto (-76), 3) := by decide +kernel
theorem d_Mod_allInstances_93 : decode M_Mod_allInstances.2.1 93 = .ok (.iinc 2 1, 3) := by decide +kernel
theorem d_Mod_allInstances_96 : decode M_Mod_allInstances.2.1 96 = .ok (.goto (-92), 3) := by decide +kernel
theorem d_Mod_allInstances_99 : decode M_Mod_allInstances.2.1 99 = .ok (.iload_n 1, 1) := by decide +kernel
theorem d_Mod_allInstances_100 : decode M_Mod_allInstances.2.1 100 = .ok (.ireturn, 1) := by decide +kernel
theorem d_Mod_argument_0 : decode M_Mod_argument.2.1 0 = .ok (.iload_n 0, 1) := by decide +kernel
theorem d_Mod_argument_1 : decode M_Mod_argument.2.1 1 = .ok (.bipush 97, 2) := by decide +kernel
theorem d_Mod_argument_3 : decode M_Mod_argument.2.1 3 = .ok (.if_icmp .lt 16, 3) := by decide +kernel
theorem d_Mod_argument_6 : decode M_Mod_argument.2.1 6 = .ok (.iload_n 0, 1) := by decide +kernel
theorem d_Mod_argument_7 : decode M_Mod_argument.2.1 7 = .ok (.bipush 99, 2) := by decide +kernel
theorem d_Mod_argument_9 : decode M_Mod_argument.2.1 9 = .ok (.if_icmp .gt 10, 3) := by decide +kernel
theorem d_Mod_argument_12 : decode M_Mod_argument.2.1 12 = .ok (.iload_n 0, 1) := by decide +kernel
theorem d_Mod_argument_13 : decode M_Mod_argument.2.1 13 = .ok (.bipush 97, 2) := by decide +kernel
theorem d_Mod_argument_15 : decode M_Mod_argument.2.1 15 = .ok (.isub, 1) := by decide +kernel
theorem d_Mod_argument_16 : decode M_Mod_argument.2.1 16 = .ok (.goto 25, 3) := by decide +kernel
theorem d_Mod_argument_19 : decode M_Mod_argument.2.1 19 = .ok (.iload_n 0, 1) := by decide +kernel
theorem d_Mod_argument_20 : decode M_Mod_argument.2.1 20 = .ok (.bipush 120, 2) := by decide +kernel
theorem d_Mod_argument_22 : decode M_Mod_argument.2.1 22 = .ok (.if_icmp .lt 18, 3) := by decide +kernel
theorem d_Mod_argument_25 : decode M_Mod_argument.2.1 25 = .ok (.iload_n 0, 1) := by decide +kernel
theorem d_Mod_argument_26 : decode M_Mod_argument.2.1 26 = .ok (.bipush 122, 2) := by decide +kernel
theorem d_Mod_argument_28 : decode M_Mod_argument.2.1 28 = .ok (.if_icmp .gt 12, 3) := by decide +kernel
theorem d_Mod_argument_31 : decode M_Mod_argument.2.1 31 = .ok (.iload_n 0, 1) := by decide +kernel
theorem d_Mod_argument_32 : decode M_Mod_argument.2.1 32 = .ok (.bipush 120, 2) := by decide +kernel
theorem d_Mod_argument_34 : decode M_Mod_argument.2.1 34 = .ok (.isub, 1) := by decide +kernel
theorem d_Mod_argument_35 : decode M_Mod_argument.2.1 35 = .ok (.iconst 3, 1) := by decide +kernel
theorem d_Mod_argument_36 : decode M_Mod_argument.2.1 36 = .ok (.iadd, 1) := by decide +kernel
theorem d_Mod_argument_37 : decode M_Mod_argument.2.1 37 = .ok (.goto 4, 3) := by decide +kernel
theorem d_Mod_argument_40 : decode M_Mod_argument.2.1 40 = .ok (.iconst (-1), 1) := by decide +kernel
theorem d_Mod_argument_41 : decode M_Mod_argument.2.1 41 = .ok (.ireturn, 1) := by decide +kernel
theorem d_Mod_atom_0 : decode M_Mod_atom.2.1 0 = .ok (.aload_n 0, 1) := by decide +kernel
theorem d_Mod_atom_1 : decode M_Mod_atom.2.1 1 = .ok (.iconst 0, 1) := by decide +kernel
theorem d_Mod_atom_2 : decode M_Mod_atom.2.1 2 = .ok (.putfield 63, 3) := by decide +kernel
theorem d_Mod_atom_5 : decode M_Mod_atom.2.1 5 = .ok (.aload_n 0, 1) := by decide +kernel
theorem d_Mod_atom_6 : decode M_Mod_atom.2.1 6 = .ok (.getfield 101, 3) := by decide +kernel
theorem d_Mod_atom_9 : decode M_Mod_atom.2.1 9 = .ok (.ifCond .eq 21, 3) := by decide +kernel
theorem d_Mod_atom_12 : decode M_Mod_atom.2.1 12 = .ok (.iload_n 1, 1) := by decide +kernel
theorem d_Mod_atom_13 : decode M_Mod_atom.2.1 13 = .ok (.ifCond .lt 17, 3) := by decide +kernel
theorem d_Mod_atom_16 : decode M_Mod_atom.2.1 16 = .ok (.iload_n 1, 1) := by decide +kernel
theorem d_Mod_atom_17 : decode M_Mod_atom.2.1 17 = .ok (.iconst 3, 1) := by decide +kernel
theorem d_Mod_atom_18 : decode M_Mod_atom.2.1 18 = .ok (.if_icmp .gt 12, 3) := by decide +kernel
theorem d_Mod_atom_21 : decode M_Mod_atom.2.1 21 = .ok (.aload_n 0, 1) := by decide +kernel
theorem d_Mod_atom_22 : decode M_Mod_atom.2.1 22 = .ok (.getfield 51, 3) := by decide +kernel
theorem d_Mod_atom_25 : decode M_Mod_atom.2.1 25 = .ok (.iload_n 1, 1) := by decide +kernel
theorem d_Mod_atom_26 : decode M_Mod_atom.2.1 26 = .ok (.iaload, 1) := by decide +kernel
theorem d_Mod_atom_27 : decode M_Mod_atom.2.1 27 = .ok (.ifCond .ge 5, 3) := by decide +kernel
theorem d_Mod_atom_30 : decode M_Mod_atom.2.1 30 = .ok (.iconst (-1), 1) := by decide +kernel
theorem d_Mod_atom_31 : decode M_Mod_atom.2.1 31 = .ok (.ireturn, 1) := by decide +kernel
theorem d_Mod_atom_32 : decode M_Mod_atom.2.1 32 = .ok (.aload_n 0, 1) := by decide +kernel
theorem d_Mod_atom_33 : decode M_Mod_atom.2.1 33 = .ok (.getfield 51, 3) := by decide +kernel
theorem d_Mod_atom_36 : decode M_Mod_atom.2.1 36 = .ok (.iload_n 1, 1) := by decide +kernel
theorem d_Mod_atom_37 : decode M_Mod_atom.2.1 37 = .ok (.iaload, 1) := by decide +kernel
theorem d_Mod_atom_38 : decode M_Mod_atom.2.1 38 = .ok (.iconst 1, 1) := by decide +kernel
theorem d_Mod_atom_39 : decode M_Mod_atom.2.1 39 = .ok (.if_icmp .lt 11, 3) := by decide +kernel
theorem d_Mod_atom_42 : decode M_Mod_atom.2.1 42 = .ok (.aload_n 0, 1) := by decide +kernel
theorem d_Mod_atom_43 : decode M_Mod_atom.2.1 43 = .ok (.iload_n 2, 1) := by decide +kernel
theorem d_Mod_atom_44 : decode M_Mod_atom.2.1 44 = .ok (.invokevirtual 118, 3) := by decide +kernel
theorem d_Mod_atom_47 : decode M_Mod_atom.2.1 47 = .ok (.ifCond .eq 7, 3) := by decide +kernel
theorem d_Mod_atom_50 : decode M_Mod_atom.2.1 50 = .ok (.iconst 1, 1) := by decide +kernel
theorem d_Mod_atom_51 : decode M_Mod_atom.2.1 51 = .ok (.goto 4, 3) := by decide +kernel
theorem d_Mod_atom_54 : decode M_Mod_atom.2.1 54 = .ok (.iconst 0, 1) := by decide +kernel
theorem d_Mod_atom_55 : decode M_Mod_atom.2.1 55 = .ok (.istore 4, 2) := by decide +kernel
theorem d_Mod_atom_57 : decode M_Mod_atom.2.1 57 = .ok (.aload_n 0, 1) := by decide +kernel
theorem d_Mod_atom_58 : decode M_Mod_atom.2.1 58 = .ok (.getfield 51, 3) := by decide +kernel
theorem d_Mod_atom_61 : decode M_Mod_atom.2.1 61 = .ok (.iload_n 1, 1) := by decide +kernel
theorem d_Mod_atom_62 : decode M_Mod_atom.2.1 62 = .ok (.iaload, 1) := by decide +kernel
theorem d_Mod_atom_63 : decode M_Mod_atom.2.1 63 = .ok (.iconst 2, 1) := by decide +kernel
theorem d_Mod_atom_64 : decode M_Mod_atom.2.1 64 = .ok (.if_icmp .lt 11, 3) := by decide +kernel
theorem d_Mod_atom_67 : decode M_Mod_atom.2.1 67 = .ok (.aload_n 0, 1) := by decide +kernel
theorem d_Mod_atom_68 : decode M_Mod_atom.2.1 68 = .ok (.iload_n 3, 1) := by decide +kernel
theorem d_Mod_atom_69 : decode M_Mod_atom.2.1 69 = .ok (.invokevirtual 118, 3) := by decide +kernel
theorem d_Mod_atom_72 : decode M_Mod_atom.2.1 72 = .ok (.ifCond .eq 7, 3) := by decide +kernel
theorem d_Mod_atom_75 : decode M_Mod_atom.2.1 75 = .ok (.iconst 1, 1) := by decide +kernel
theorem d_Mod_atom_76 : decode M_Mod_atom.2.1 76 = .ok (.goto 4, 3) := by decide +kernel
theorem d_Mod_atom_79 : decode M_Mod_atom.2.1 79 = .ok (.iconst 0, 1) := by decide +kernel
theorem d_Mod_atom_80 : decode M_Mod_atom.2.1 80 = .ok (.istore 5, 2) := by decide +kernel
theorem d_Mod_atom_82 : decode M_Mod_atom.2.1 82 = .ok (.iload 4, 2) := by decide +kernel
theorem d_Mod_atom_84 : decode M_Mod_atom.2.1 84 = .ok (.ifCond .eq 46, 3) := by decide +kernel
theorem d_Mod_atom_87 : decode M_Mod_atom.2.1 87 = .ok (.iload 5, 2) := by decide +kernel
theorem d_Mod_atom_89 : decode M_Mod_atom.2.1 89 = .ok (.ifCond .eq 41, 3) := by decide +kernel
theorem d_Mod_atom_92 : decode M_Mod_atom.2.1 92 = .ok (.aload_n 0, 1) := by decide +kernel
theorem d_Mod_atom_93 : decode M_Mod_atom.2.1 93 = .ok (.iload_n 1, 1) := by decide +kernel
theorem d_Mod_atom_94 : decode M_Mod_atom.2.1 94 = .ok (.aload_n 0, 1) := by decide +kernel
theorem d_Mod_atom_95 : decode M_Mod_atom.2.1 95 = .ok (.getfield 51, 3) := by decide +kernel
theorem d_Mod_atom_98 : decode M_Mod_atom.2.1 98 = .ok (.iload_n 1, 1) := by decide +kernel
theorem d_Mod_atom_99 : decode M_Mod_atom.2.1 99 = .ok (.iaload, 1) := by decide +kernel
theorem d_Mod_atom_100 : decode M_Mod_atom.2.1 100 = .ok (.iconst 1, 1) := by decide +kernel
theorem d_Mod_atom_101 : decode M_Mod_atom.2.1 101 = .ok (.if_icmp .ge 7, 3) := by decide +kernel
theorem d_Mod_atom_104 : decode M_Mod_atom.2.1 104 = .ok (.iconst 0, 1) := by decide +kernel
theorem d_Mod_atom_105 : decode M_Mod_atom.2.1 105 = .ok (.goto 4, 3) := by decide +kernel
theorem d_Mod_atom_108 : decode M_Mod_atom.2.1 108 = .ok (.iload_n 2, 1) := by decide +kernel
theorem d_Mod_atom_109 : decode M_Mod_atom.2.1 109 = .ok (.aload_n 0, 1) := by decide +kernel
theorem d_Mod_atom_110 : decode M_Mod_atom.2.1 110 = .ok (.getfield 51, 3) := by decide +kernel
theorem d_Mod_atom_113 : decode M_Mod_atom.2.1 113 = .ok (.iload_n 1, 1) := by decide +kernel
theorem d_Mod_atom_114 : decode M_Mod_atom.2.1 114 = .ok (.iaload, 1) := by decide +kernel
theorem d_Mod_atom_115 : decode M_Mod_atom.2.1 115 = .ok (.iconst 2, 1) := by decide +kernel
theorem d_Mod_atom_116 : decode M_Mod_atom.2.1 116 = .ok (.if_icmp .ge 7, 3) := by decide +kernel
theorem d_Mod_atom_119 : decode M_Mod_atom.2.1 119 = .ok (.iconst 0, 1) := by decide +kernel
theorem d_Mod_atom_120 : decode M_Mod_atom.2.1 120 = .ok (.goto 4, 3) := by decide +kernel
theorem d_Mod_atom_123 : decode M_Mod_atom.2.1 123 = .ok (.iload_n 3, 1) := by decide +kernel
theorem d_Mod_atom_124 : decode M_Mod_atom.2.1 124 = .ok (.invokevirtual 114, 3) := by decide +kernel
theorem d_Mod_atom_127 : decode M_Mod_atom.2.1 127 = .ok (.goto 4, 3) := by decide +kernel
theorem d_Mod_atom_130 : decode M_Mod_atom.2.1 130 = .ok (.iconst (-1), 1) := by decide +kernel
theorem d_Mod_atom_131 : decode M_Mod_atom.2.1 131 = .ok (.ireturn, 1) := by decide +kernel
theorem d_Mod_atomOf_0 : decode M_Mod_atomOf.2.1 0 = .ok (.aload_n 0, 1) := by decide +kernel
theorem d_Mod_atomOf_1 : decode M_Mod_atomOf.2.1 1 = .ok (.getfield 98, 3) := by decide +kernel
theorem d_Mod_atomOf_4 : decode M_Mod_atomOf.2.1 4 = .ok (.invokestatic 71, 3) := by decide +kernel
theorem d_Mod_atomOf_7 : decode M_Mod_atomOf.2.1 7 = .ok (.istore 4, 2) := by decide +kernel
theorem d_Mod_atomOf_9 : decode M_Mod_atomOf.2.1 9 = .ok (.iconst 0, 1) := by decide +kernel
theorem d_Mod_atomOf_10 : decode M_Mod_atomOf.2.1 10 = .ok (.istore 5, 2) := by decide +kernel
theorem d_Mod_atomOf_12 : decode M_Mod_atomOf.2.1 12 = .ok (.iconst 0, 1) := by decide +kernel
theorem d_Mod_atomOf_13 : decode M_Mod_atomOf.2.1 13 = .ok (.istore 6, 2) := by decide +kernel
theorem d_Mod_atomOf_15 : decode M_Mod_atomOf.2.1 15 = .ok (.iload 6, 2) := by decide +kernel
theorem d_Mod_atomOf_17 : decode M_Mod_atomOf.2.1 17 = .ok (.iload_n 1, 1) := by decide +kernel
theorem d_Mod_atomOf_18 : decode M_Mod_atomOf.2.1 18 = .ok (.if_icmp .ge 64, 3) := by decide +kernel
theorem d_Mod_atomOf_21 : decode M_Mod_atomOf.2.1 21 = .ok (.aload_n 0, 1) := by decide +kernel
theorem d_Mod_atomOf_22 : decode M_Mod_atomOf.2.1 22 = .ok (.getfield 51, 3) := by decide +kernel
theorem d_Mod_atomOf_25 : decode M_Mod_atomOf.2.1 25 = .ok (.iload 6, 2) := by decide +kernel
theorem d_Mod_atomOf_27 : decode M_Mod_atomOf.2.1 27 = .ok (.iaload, 1) := by decide +kernel
theorem d_Mod_atomOf_28 : decode M_Mod_atomOf.2.1 28 = .ok (.ifCond .ge 8, 3) := by decide +kernel
theorem d_Mod_atomOf_31 : decode M_Mod_atomOf.2.1 31 = .ok (.iload 5, 2) := by decide +kernel
theorem d_Mod_atomOf_33 : decode M_Mod_atomOf.2.1 33 = .ok (.goto 41, 3) := by decide +kernel
theorem d_Mod_atomOf_36 : decode M_Mod_atomOf.2.1 36 = .ok (.iload 5, 2) := by decide +kernel
theorem d_Mod_atomOf_38 : decode M_Mod_atomOf.2.1 38 = .ok (.aload_n 0, 1) := by decide +kernel
theorem d_Mod_atomOf_39 : decode M_Mod_atomOf.2.1 39 = .ok (.getfield 51, 3) := by decide +kernel
theorem d_Mod_atomOf_42 : decode M_Mod_atomOf.2.1 42 = .ok (.iload 6, 2) := by decide +kernel
theorem d_Mod_atomOf_44 : decode M_Mod_atomOf.2.1 44 = .ok (.iaload, 1) := by decide +kernel
theorem d_Mod_atomOf_45 : decode M_Mod_atomOf.2.1 45 = .ok (.ifCond .ne 7, 3) := by decide +kernel
theorem d_Mod_atomOf_48 : decode M_Mod_atomOf.2.1 48 = .ok (.iconst 1, 1) := by decide +kernel
theorem d_Mod_atomOf_49 : decode M_Mod_atomOf.2.1 49 = .ok (.goto 24, 3) := by decide +kernel
theorem d_Mod_atomOf_52 : decode M_Mod_atomOf.2.1 52 = .ok (.aload_n 0, 1) := by decide +kernel
theorem d_Mod_atomOf_53 : decode M_Mod_atomOf.2.1 53 = .ok (.getfield 51, 3) := by decide +kernel
theorem d_Mod_atomOf_56 : decode M_Mod_atomOf.2.1 56 = .ok (.iload 6, 2) := by decide +kernel
theorem d_Mod_atomOf_58 : decode M_Mod_atomOf.2.1 58 = .ok (.iaload, 1) := by decide +kernel
theorem d_Mod_atomOf_59 : decode M_Mod_atomOf.2.1 59 = .ok (.iconst 1, 1) := by decide +kernel
theorem d_Mod_atomOf_60 : decode M_Mod_atomOf.2.1 60 = .ok (.if_icmp .ne 8, 3) := by decide +kernel
theorem d_Mod_atomOf_63 : decode M_Mod_atomOf.2.1 63 = .ok (.iload 4, 2) := by decide +kernel
theorem d_Mod_atomOf_65 : decode M_Mod_atomOf.2.1 65 = .ok (.goto 8, 3) := by decide +kernel
theorem d_Mod_atomOf_68 : decode M_Mod_atomOf.2.1 68 = .ok (.iload 4, 2) := by decide +kernel
theorem d_Mod_atomOf_70 : decode M_Mod_atomOf.2.1 70 = .ok (.iload 4, 2) := by decide +kernel
theorem d_Mod_atomOf_72 : decode M_Mod_atomOf.2.1 72 = .ok (.imul, 1) := by decide +kernel
theorem d_Mod_atomOf_73 : decode M_Mod_atomOf.2.1 73 = .ok (.iadd, 1) := by decide +kernel
theorem d_Mod_atomOf_74 : decode M_Mod_atomOf.2.1 74 = .ok (.istore 5, 2) := by decide +kernel
theorem d_Mod_atomOf_76 : decode M_Mod_atomOf.2.1 76 = .ok (.iinc 6 1, 3) := by decide +kernel
theorem d_Mod_atomOf_79 : decode M_Mod_atomOf.2.1 79 = .ok (.goto (-64), 3) := by decide +kernel
theorem d_Mod_atomOf_82 : decode M_Mod_atomOf.2.1 82 = .ok (.aload_n 0, 1) := by decide +kernel
theorem d_Mod_atomOf_83 : decode M_Mod_atomOf.2.1 83 = .ok (.getfield 98, 3) := by decide +kernel
theorem d_Mod_atomOf_86 : decode M_Mod_atomOf.2.1 86 = .ok (.iconst 1, 1) := by decide +kernel
theorem d_Mod_atomOf_87 : decode M_Mod_atomOf.2.1 87 = .ok (.iload_n 2, 1) := by decide +kernel
theorem d_Mod_atomOf_88 : decode M_Mod_atomOf.2.1 88 = .ok (.ishl, 1) := by decide +kernel
theorem d_Mod_atomOf_89 : decode M_Mod_atomOf.2.1 89 = .ok (.iconst 1, 1) := by decide +kernel
theorem d_Mod_atomOf_90 : decode M_Mod_atomOf.2.1 90 = .ok (.isub, 1) := by decide +kernel
theorem d_Mod_atomOf_91 : decode M_Mod_atomOf.2.1 91 = .ok (.iand, 1) := by decide +kernel
theorem d_Mod_atomOf_92 : decode M_Mod_atomOf.2.1 92 = .ok (.invokestatic 71, 3) := by decide +kernel
theorem d_Mod_atomOf_95 : decode M_Mod_atomOf.2.1 95 = .ok (.istore 6, 2) := by decide +kernel
theorem d_Mod_atomOf_97 : decode M_Mod_atomOf.2.1 97 = .ok (.aload_n 0, 1) := by decide +kernel
theorem d_Mod_atomOf_98 : decode M_Mod_atomOf.2.1 98 = .ok (.getfield 98, 3) := by decide +kernel
theorem d_Mod_atomOf_101 : decode M_Mod_atomOf.2.1 101 = .ok (.iconst 1, 1) := by decide +kernel
theorem d_Mod_atomOf_102 : decode M_Mod_atomOf.2.1 102 = .ok (.iload_n 3, 1) := by decide +kernel
theorem d_Mod_atomOf_103 : decode M_Mod_atomOf.2.1 103 = .ok (.ishl, 1) := by decide +kernel
theorem d_Mod_atomOf_104 : decode M_Mod_atomOf.2.1 104 = .ok (.iconst 1, 1) := by decide +kernel
theorem d_Mod_atomOf_105 : decode M_Mod_atomOf.2.1 105 = .ok (.isub, 1) := by decide +kernel
theorem d_Mod_atomOf_106 : decode M_Mod_atomOf.2.1 106 = .ok (.iand, 1) := by decide +kernel
theorem d_Mod_atomOf_107 : decode M_Mod_atomOf.2.1 107 = .ok (.invokestatic 71, 3) := by decide +kernel
theorem d_Mod_atomOf_110 : decode M_Mod_atomOf.2.1 110 = .ok (.istore 7, 2) := by decide +kernel
theorem d_Mod_atomOf_112 : decode M_Mod_atomOf.2.1 112 = .ok (.aload_n 0, 1) := by decide +kernel
theorem d_Mod_atomOf_113 : decode M_Mod_atomOf.2.1 113 = .ok (.getfield 51, 3) := by decide +kernel
theorem d_Mod_atomOf_116 : decode M_Mod_atomOf.2.1 116 = .ok (.iload_n 1, 1) := by decide +kernel
theorem d_Mod_atomOf_117 : decode M_Mod_atomOf.2.1 117 = .ok (.iaload, 1) := by decide +kernel
theorem d_Mod_atomOf_118 : decode M_Mod_atomOf.2.1 118 = .ok (.ifCond .ne 8, 3) := by decide +kernel
theorem d_Mod_atomOf_121 : decode M_Mod_atomOf.2.1 121 = .ok (.iload 5, 2) := by decide +kernel
theorem d_Mod_atomOf_123 : decode M_Mod_atomOf.2.1 123 = .ok (.goto 32, 3) := by decide +kernel
theorem d_Mod_atomOf_126 : decode M_Mod_atomOf.2.1 126 = .ok (.aload_n 0, 1) := by decide +kernel
theorem d_Mod_atomOf_127 : decode M_Mod_atomOf.2.1 127 = .ok (.getfield 51, 3) := by decide +kernel
theorem d_Mod_atomOf_130 : decode M_Mod_atomOf.2.1 130 = .ok (.iload_n 1, 1) := by decide +kernel
theorem d_Mod_atomOf_131 : decode M_Mod_atomOf.2.1 131 = .ok (.iaload, 1) := by decide +kernel
theorem d_Mod_atomOf_132 : decode M_Mod_atomOf.2.1 132 = .ok (.iconst 1, 1) := by decide +kernel
theorem d_Mod_atomOf_133 : decode M_Mod_atomOf.2.1 133 = .ok (.if_icmp .ne 11, 3) := by decide +kernel
theorem d_Mod_atomOf_136 : decode M_Mod_atomOf.2.1 136 = .ok (.iload 5, 2) := by decide +kernel
theorem d_Mod_atomOf_138 : decode M_Mod_atomOf.2.1 138 = .ok (.iload 6, 2) := by decide +kernel
theorem d_Mod_atomOf_140 : decode M_Mod_atomOf.2.1 140 = .ok (.iadd, 1) := by decide +kernel
theorem d_Mod_atomOf_141 : decode M_Mod_atomOf.2.1 141 = .ok (.goto 14, 3) := by decide +kernel
theorem d_Mod_atomOf_144 : decode M_Mod_atomOf.2.1 144 = .ok (.iload 5, 2) := by decide +kernel
theorem d_Mod_atomOf_146 : decode M_Mod_atomOf.2.1 146 = .ok (.iload 4, 2) := by decide +kernel
theorem d_Mod_atomOf_148 : decode M_Mod_atomOf.2.1 148 = .ok (.iload 6, 2) := by decide +kernel
theorem d_Mod_atomOf_150 : decode M_Mod_atomOf.2.1 150 = .ok (.imul, 1) := by decide +kernel
theorem d_Mod_atomOf_151 : decode M_Mod_atomOf.2.1 151 = .ok (.iadd, 1) := by decide +kernel
theorem d_Mod_atomOf_152 : decode M_Mod_atomOf.2.1 152 = .ok (.iload 7, 2) := by decide +kernel
theorem d_Mod_atomOf_154 : decode M_Mod_atomOf.2.1 154 = .ok (.iadd, 1) := by decide +kernel
theorem d_Mod_atomOf_155 : decode M_Mod_atomOf.2.1 155 = .ok (.ireturn, 1) := by decide +kernel
theorem d_Mod_atoms_0 : decode M_Mod_atoms.2.1 0 = .ok (.aload_n 0, 1) := by decide +kernel
theorem d_Mod_atoms_1 : decode M_Mod_atoms.2.1 1 = .ok (.iconst 0, 1) := by decide +kernel
theorem d_Mod_atoms_2 : decode M_Mod_atoms.2.1 2 = .ok (.putfield 63, 3) := by decide +kernel
theorem d_Mod_atoms_5 : decode M_Mod_atoms.2.1 5 = .ok (.aload_n 0, 1) := by decide +kernel
theorem d_Mod_atoms_6 : decode M_Mod_atoms.2.1 6 = .ok (.getfield 108, 3) := by decide +kernel
theorem d_Mod_atoms_9 : decode M_Mod_atoms.2.1 9 = .ok (.ireturn, 1) := by decide +kernel
theorem d_Mod_atomsOf_0 : decode M_Mod_atomsOf.2.1 0 = .ok (.iload_n 1, 1) := by decide +kernel
theorem d_Mod_atomsOf_1 : decode M_Mod_atomsOf.2.1 1 = .ok (.invokestatic 71, 3) := by decide +kernel
theorem d_Mod_atomsOf_4 : decode M_Mod_atomsOf.2.1 4 = .ok (.iconst 1, 1) := by decide +kernel
theorem d_Mod_atomsOf_5 : decode M_Mod_atomsOf.2.1 5 = .ok (.if_icmp .ge 7, 3) := by decide +kernel
theorem d_Mod_atomsOf_8 : decode M_Mod_atomsOf.2.1 8 = .ok (.iconst 1, 1) := by decide +kernel
theorem d_Mod_atomsOf_9 : decode M_Mod_atomsOf.2.1 9 = .ok (.goto 7, 3) := by decide +kernel
theorem d_Mod_atomsOf_12 : decode M_Mod_atomsOf.2.1 12 = .ok (.iload_n 1, 1) := by decide +kernel
theorem d_Mod_atomsOf_13 : decode M_Mod_atomsOf.2.1 13 = .ok (.invokestatic 71, 3) := by decide +kernel
theorem d_Mod_atomsOf_16 : decode M_Mod_atomsOf.2.1 16 = .ok (.istore_n 2, 1) := by decide +kernel
theorem d_Mod_atomsOf_17 : decode M_Mod_atomsOf.2.1 17 = .ok (.iconst 0, 1) := by decide +kernel
theorem d_Mod_atomsOf_18 : decode M_Mod_atomsOf.2.1 18 = .ok (.istore_n 3, 1) := by decide +kernel
theorem d_Mod_atomsOf_19 : decode M_Mod_atomsOf.2.1 19 = .ok (.iconst 0, 1) := by decide +kernel
theorem d_Mod_atomsOf_20 : decode M_Mod_atomsOf.2.1 20 = .ok (.istore 4, 2) := by decide +kernel
theorem d_Mod_atomsOf_22 : decode M_Mod_atomsOf.2.1 22 = .ok (.iload 4, 2) := by decide +kernel
theorem d_Mod_atomsOf_24 : decode M_Mod_atomsOf.2.1 24 = .ok (.iconst 4, 1) := by decide +kernel
theorem d_Mod_atomsOf_25 : decode M_Mod_atomsOf.2.1 25 = .ok (.if_icmp .ge 49, 3) := by decide +kernel
theorem d_Mod_atomsOf_28 : decode M_Mod_atomsOf.2.1 28 = .ok (.aload_n 0, 1) := by decide +kernel
theorem d_Mod_atomsOf_29 : decode M_Mod_atomsOf.2.1 29 = .ok (.iload 4, 2) := by decide +kernel
theorem d_Mod_atomsOf_31 : decode M_Mod_atomsOf.2.1 31 = .ok (.iaload, 1) := by decide +kernel
theorem d_Mod_atomsOf_32 : decode M_Mod_atomsOf.2.1 32 = .ok (.ifCond .ge 7, 3) := by decide +kernel
theorem d_Mod_atomsOf_35 : decode M_Mod_atomsOf.2.1 35 = .ok (.iload_n 3, 1) := by decide +kernel
theorem d_Mod_atomsOf_36 : decode M_Mod_atomsOf.2.1 36 = .ok (.goto 31, 3) := by decide +kernel
theorem d_Mod_atomsOf_39 : decode M_Mod_atomsOf.2.1 39 = .ok (.iload_n 3, 1) := by decide +kernel
theorem d_Mod_atomsOf_40 : decode M_Mod_atomsOf.2.1 40 = .ok (.aload_n 0, 1) := by decide +kernel
theorem d_Mod_atomsOf_41 : decode M_Mod_atomsOf.2.1 41 = .ok (.iload 4, 2) := by decide +kernel
theorem d_Mod_atomsOf_43 : decode M_Mod_atomsOf.2.1 43 = .ok (.iaload, 1) := by decide +kernel
theorem d_Mod_atomsOf_44 : decode M_Mod_atomsOf.2.1 44 = .ok (.ifCond .ne 7, 3) := by decide +kernel
theorem d_Mod_atomsOf_47 : decode M_Mod_atomsOf.2.1 47 = .ok (.iconst 1, 1) := by decide +kernel
theorem d_Mod_atomsOf_48 : decode M_Mod_atomsOf.2.1 48 = .ok (.goto 18, 3) := by decide +kernel
theorem d_Mod_atomsOf_51 : decode M_Mod_atomsOf.2.1 51 = .ok (.aload_n 0, 1) := by decide +kernel
theorem d_Mod_atomsOf_52 : decode M_Mod_atomsOf.2.1 52 = .ok (.iload 4, 2) := by decide +kernel
theorem d_Mod_atomsOf_54 : decode M_Mod_atomsOf.2.1 54 = .ok (.iaload, 1) := by decide +kernel
theorem d_Mod_atomsOf_55 : decode M_Mod_atomsOf.2.1 55 = .ok (.iconst 1, 1) := by decide +kernel
theorem d_Mod_atomsOf_56 : decode M_Mod_atomsOf.2.1 56 = .ok (.if_icmp .ne 7, 3) := by decide +kernel
theorem d_Mod_atomsOf_59 : decode M_Mod_atomsOf.2.1 59 = .ok (.iload_n 2, 1) := by decide +kernel
theorem d_Mod_atomsOf_60 : decode M_Mod_atomsOf.2.1 60 = .ok (.goto 6, 3) := by decide +kernel
theorem d_Mod_atomsOf_63 : decode M_Mod_atomsOf.2.1 63 = .ok (.iload_n 2, 1) := by decide +kernel
theorem d_Mod_atomsOf_64 : decode M_Mod_atomsOf.2.1 64 = .ok (.iload_n 2, 1) := by decide +kernel
theorem d_Mod_atomsOf_65 : decode M_Mod_atomsOf.2.1 65 = .ok (.imul, 1) := by decide +kernel
theorem d_Mod_atomsOf_66 : decode M_Mod_atomsOf.2.1 66 = .ok (.iadd, 1) := by decide +kernel
theorem d_Mod_atomsOf_67 : decode M_Mod_atomsOf.2.1 67 = .ok (.istore_n 3, 1) := by decide +kernel
theorem d_Mod_atomsOf_68 : decode M_Mod_atomsOf.2.1 68 = .ok (.iinc 4 1, 3) := by decide +kernel
theorem d_Mod_atomsOf_71 : decode M_Mod_atomsOf.2.1 71 = .ok (.goto (-49), 3) := by decide +kernel
theorem d_Mod_atomsOf_74 : decode M_Mod_atomsOf.2.1 74 = .ok (.iload_n 3, 1) := by decide +kernel
theorem d_Mod_atomsOf_75 : decode M_Mod_atomsOf.2.1 75 = .ok (.ireturn, 1) := by decide +kernel
theorem d_Mod_bits_0 : decode M_Mod_bits.2.1 0 = .ok (.iconst 0, 1) := by decide +kernel
theorem d_Mod_bits_1 : decode M_Mod_bits.2.1 1 = .ok (.istore_n 1, 1) := by decide +kernel
theorem d_Mod_bits_2 : decode M_Mod_bits.2.1 2 = .ok (.iconst 0, 1) := by decide +kernel
theorem d_Mod_bits_3 : decode M_Mod_bits.2.1 3 = .ok (.istore_n 2, 1) := by decide +kernel
theorem d_Mod_bits_4 : decode M_Mod_bits.2.1 4 = .ok (.iload_n 2, 1) := by decide +kernel
theorem d_Mod_bits_5 : decode M_Mod_bits.2.1 5 = .ok (.bipush 12, 2) := by decide +kernel
theorem d_Mod_bits_7 : decode M_Mod_bits.2.1 7 = .ok (.if_icmp .ge 17, 3) := by decide +kernel
theorem d_Mod_bits_10 : decode M_Mod_bits.2.1 10 = .ok (.iload_n 1, 1) := by decide +kernel
theorem d_Mod_bits_11 : decode M_Mod_bits.2.1 11 = .ok (.iload_n 0, 1) := by decide +kernel
theorem d_Mod_bits_12 : decode M_Mod_bits.2.1 12 = .ok (.iload_n 2, 1) := by decide +kernel
theorem d_Mod_bits_13 : decode M_Mod_bits.2.1 13 = .ok (.ishr, 1) := by decide +kernel
theorem d_Mod_bits_14 : decode M_Mod_bits.2.1 14 = .ok (.iconst 1, 1) := by decide +kernel
theorem d_Mod_bits_15 : decode M_Mod_bits.2.1 15 = .ok (.iand, 1) := by decide +kernel
theorem d_Mod_bits_16 : decode M_Mod_bits.2.1 16 = .ok (.iadd, 1) := by decide +kernel
theorem d_Mod_bits_17 : decode M_Mod_bits.2.1 17 = .ok (.istore_n 1, 1) := by decide +kernel
theorem d_Mod_bits_18 : decode M_Mod_bits.2.1 18 = .ok (.iinc 2 1, 3) := by decide +kernel
theorem d_Mod_bits_21 : decode M_Mod_bits.2.1 21 = .ok (.goto (-17), 3) := by decide +kernel
theorem d_Mod_bits_24 : decode M_Mod_bits.2.1 24 = .ok (.iload_n 1, 1) := by decide +kernel
theorem d_Mod_bits_25 : decode M_Mod_bits.2.1 25 = .ok (.ireturn, 1) := by decide +kernel
theorem d_Mod_charAt_0 : decode M_Mod_charAt.2.1 0 = .ok (.iload_n 1, 1) := by decide +kernel
theorem d_Mod_charAt_1 : decode M_Mod_charAt.2.1 1 = .ok (.aload_n 0, 1) := by decide +kernel
theorem d_Mod_charAt_2 : decode M_Mod_charAt.2.1 2 = .ok (.getfield 68, 3) := by decide +kernel
theorem d_Mod_charAt_5 : decode M_Mod_charAt.2.1 5 = .ok (.if_icmp .ge 12, 3) := by decide +kernel
theorem d_Mod_charAt_8 : decode M_Mod_charAt.2.1 8 = .ok (.aload_n 0, 1) := by decide +kernel
theorem d_Mod_charAt_9 : decode M_Mod_charAt.2.1 9 = .ok (.getfield 7, 3) := by decide +kernel
theorem d_Mod_charAt_12 : decode M_Mod_charAt.2.1 12 = .ok (.iload_n 1, 1) := by decide +kernel
theorem d_Mod_charAt_13 : decode M_Mod_charAt.2.1 13 = .ok (.iaload, 1) := by decide +kernel
theorem d_Mod_charAt_14 : decode M_Mod_charAt.2.1 14 = .ok (.goto 4, 3) := by decide +kernel
theorem d_Mod_charAt_17 : decode M_Mod_charAt.2.1 17 = .ok (.iconst 0, 1) := by decide +kernel
theorem d_Mod_charAt_18 : decode M_Mod_charAt.2.1 18 = .ok (.ireturn, 1) := by decide +kernel
theorem d_Mod_clauses_0 : decode M_Mod_clauses.2.1 0 = .ok (.aload_n 0, 1) := by decide +kernel
theorem d_Mod_clauses_1 : decode M_Mod_clauses.2.1 1 = .ok (.iconst 0, 1) := by decide +kernel
theorem d_Mod_clauses_2 : decode M_Mod_clauses.2.1 2 = .ok (.putfield 63, 3) := by decide +kernel
theorem d_Mod_clauses_5 : decode M_Mod_clauses.2.1 5 = .ok (.aload_n 0, 1) := by decide +kernel
theorem d_Mod_clauses_6 : decode M_Mod_clauses.2.1 6 = .ok (.getfield 105, 3) := by decide +kernel
theorem d_Mod_clauses_9 : decode M_Mod_clauses.2.1 9 = .ok (.ireturn, 1) := by decide +kernel
theorem d_Mod_core_0 : decode M_Mod_core.2.1 0 = .ok (.aload_n 0, 1) := by decide +kernel
theorem d_Mod_core_1 : decode M_Mod_core.2.1 1 = .ok (.aload_n 0, 1) := by decide +kernel
theorem d_Mod_core_2 : decode M_Mod_core.2.1 2 = .ok (.getfield 101, 3) := by decide +kernel
theorem d_Mod_core_5 : decode M_Mod_core.2.1 5 = .ok (.ifCond .ne 7, 3) := by decide +kernel
theorem d_Mod_core_8 : decode M_Mod_core.2.1 8 = .ok (.iconst 1, 1) := by decide +kernel
theorem d_Mod_core_9 : decode M_Mod_core.2.1 9 = .ok (.goto 20, 3) := by decide +kernel
theorem d_Mod_core_12 : decode M_Mod_core.2.1 12 = .ok (.iload_n 1, 1) := by decide +kernel
theorem d_Mod_core_13 : decode M_Mod_core.2.1 13 = .ok (.ifCond .lt 11, 3) := by decide +kernel
theorem d_Mod_core_16 : decode M_Mod_core.2.1 16 = .ok (.iload_n 1, 1) := by decide +kernel
theorem d_Mod_core_17 : decode M_Mod_core.2.1 17 = .ok (.aload_n 0, 1) := by decide +kernel
theorem d_Mod_core_18 : decode M_Mod_core.2.1 18 = .ok (.invokevirtual 155, 3) := by decide +kernel
theorem d_Mod_core_21 : decode M_Mod_core.2.1 21 = .ok (.if_icmp .le 7, 3) := by decide +kernel
theorem d_Mod_core_24 : decode M_Mod_core.2.1 24 = .ok (.iconst 2, 1) := by decide +kernel
theorem d_Mod_core_25 : decode M_Mod_core.2.1 25 = .ok (.goto 4, 3) := by decide +kernel
theorem d_Mod_core_28 : decode M_Mod_core.2.1 28 = .ok (.iconst 0, 1) := by decide +kernel
theorem d_Mod_core_29 : decode M_Mod_core.2.1 29 = .ok (.putfield 63, 3) := by decide +kernel
theorem d_Mod_core_32 : decode M_Mod_core.2.1 32 = .ok (.aload_n 0, 1) := by decide +kernel
theorem d_Mod_core_33 : decode M_Mod_core.2.1 33 = .ok (.getfield 63, 3) := by decide +kernel
theorem d_Mod_core_36 : decode M_Mod_core.2.1 36 = .ok (.ifCond .gt 11, 3) := by decide +kernel
theorem d_Mod_core_39 : decode M_Mod_core.2.1 39 = .ok (.aload_n 0, 1) := by decide +kernel
theorem d_Mod_core_40 : decode M_Mod_core.2.1 40 = .ok (.iload_n 1, 1) := by decide +kernel
theorem d_Mod_core_41 : decode M_Mod_core.2.1 41 = .ok (.invokevirtual 158, 3) := by decide +kernel
theorem d_Mod_core_44 : decode M_Mod_core.2.1 44 = .ok (.ifCond .le 5, 3) := by decide +kernel
theorem d_Mod_core_47 : decode M_Mod_core.2.1 47 = .ok (.iconst 0, 1) := by decide +kernel
theorem d_Mod_core_48 : decode M_Mod_core.2.1 48 = .ok (.ireturn, 1) := by decide +kernel
theorem d_Mod_core_49 : decode M_Mod_core.2.1 49 = .ok (.iconst 1, 1) := by decide +kernel
theorem d_Mod_core_50 : decode M_Mod_core.2.1 50 = .ok (.istore_n 2, 1) := by decide +kernel
theorem d_Mod_core_51 : decode M_Mod_core.2.1 51 = .ok (.iconst 0, 1) := by decide +kernel
theorem d_Mod_core_52 : decode M_Mod_core.2.1 52 = .ok (.istore_n 3, 1) := by decide +kernel
theorem d_Mod_core_53 : decode M_Mod_core.2.1 53 = .ok (.iload_n 3, 1) := by decide +kernel
theorem d_Mod_core_54 : decode M_Mod_core.2.1 54 = .ok (.aload_n 0, 1) := by decide +kernel
theorem d_Mod_core_55 : decode M_Mod_core.2.1 55 = .ok (.getfield 105, 3) := by decide +kernel
theorem d_Mod_core_58 : decode M_Mod_core.2.1 58 = .ok (.if_icmp .ge 41, 3) := by decide +kernel
theorem d_Mod_core_61 : decode M_Mod_core.2.1 61 = .ok (.iload_n 2, 1) := by decide +kernel
theorem d_Mod_core_62 : decode M_Mod_core.2.1 62 = .ok (.ifCond .eq 29, 3) := by decide +kernel
theorem d_Mod_core_65 : decode M_Mod_core.2.1 65 = .ok (.iload_n 1, 1) := by decide +kernel
theorem d_Mod_core_66 : decode M_Mod_core.2.1 66 = .ok (.iload_n 3, 1) := by decide +kernel
theorem d_Mod_core_67 : decode M_Mod_core.2.1 67 = .ok (.ishr, 1) := by decide +kernel
theorem d_Mod_core_68 : decode M_Mod_core.2.1 68 = .ok (.iconst 1, 1) := by decide +kernel
theorem d_Mod_core_69 : decode M_Mod_core.2.1 69 = .ok (.iand, 1) := by decide +kernel
theorem d_Mod_core_70 : decode M_Mod_core.2.1 70 = .ok (.ifCond .eq 17, 3) := by decide +kernel
theorem d_Mod_core_73 : decode M_Mod_core.2.1 73 = .ok (.aload_n 0, 1) := by decide +kernel
theorem d_Mod_core_74 : decode M_Mod_core.2.1 74 = .ok (.iload_n 1, 1) := by decide +kernel
theorem d_Mod_core_75 : decode M_Mod_core.2.1 75 = .ok (.iconst 1, 1) := by decide +kernel
theorem d_Mod_core_76 : decode M_Mod_core.2.1 76 = .ok (.iload_n 3, 1) := by decide +kernel
theorem d_Mod_core_77 : decode M_Mod_core.2.1 77 = .ok (.ishl, 1) := by decide +kernel
theorem d_Mod_core_78 : decode M_Mod_core.2.1 78 = .ok (.iconst (-1), 1) := by decide +kernel
theorem d_Mod_core_79 : decode M_Mod_core.2.1 79 = .ok (.ixor, 1) := by decide +kernel
theorem d_Mod_core_80 : decode M_Mod_core.2.1 80 = .ok (.iand, 1) := by decide +kernel
theorem d_Mod_core_81 : decode M_Mod_core.2.1 81 = .ok (.invokevirtual 158, 3) := by decide +kernel
theorem d_Mod_core_84 : decode M_Mod_core.2.1 84 = .ok (.ifCond .le 7, 3) := by decide +kernel
theorem d_Mod_core_87 : decode M_Mod_core.2.1 87 = .ok (.iconst 1, 1) := by decide +kernel
theorem d_Mod_core_88 : decode M_Mod_core.2.1 88 = .ok (.goto 4, 3) := by decide +kernel
theorem d_Mod_core_91 : decode M_Mod_core.2.1 91 = .ok (.iconst 0, 1) := by decide +kernel
theorem d_Mod_core_92 : decode M_Mod_core.2.1 92 = .ok (.istore_n 2, 1) := by decide +kernel
theorem d_Mod_core_93 : decode M_Mod_core.2.1 93 = .ok (.iinc 3 1, 3) := by decide +kernel
theorem d_Mod_core_96 : decode M_Mod_core.2.1 96 = .ok (.goto (-43), 3) := by decide +kernel
theorem d_Mod_core_99 : decode M_Mod_core.2.1 99 = .ok (.iload_n 2, 1) := by decide +kernel
theorem d_Mod_core_100 : decode M_Mod_core.2.1 100 = .ok (.ireturn, 1) := by decide +kernel
theorem d_Mod_count_0 : decode M_Mod_count.2.1 0 = .ok (.iconst 0, 1) := by decide +kernel
theorem d_Mod_count_1 : decode M_Mod_count.2.1 1 = .ok (.istore_n 2, 1) := by decide +kernel
theorem d_Mod_count_2 : decode M_Mod_count.2.1 2 = .ok (.iconst 0, 1) := by decide +kernel
theorem d_Mod_count_3 : decode M_Mod_count.2.1 3 = .ok (.istore_n 3, 1) := by decide +kernel
theorem d_Mod_count_4 : decode M_Mod_count.2.1 4 = .ok (.iload_n 3, 1) := by decide +kernel
theorem d_Mod_count_5 : decode M_Mod_count.2.1 5 = .ok (.iconst 1, 1) := by decide +kernel
theorem d_Mod_count_6 : decode M_Mod_count.2.1 6 = .ok (.aload_n 0, 1) := by decide +kernel
theorem d_Mod_count_7 : decode M_Mod_count.2.1 7 = .ok (.getfield 108, 3) := by decide +kernel
theorem d_Mod_count_10 : decode M_Mod_count.2.1 10 = .ok (.ishl, 1) := by decide +kernel
theorem d_Mod_count_11 : decode M_Mod_count.2.1 11 = .ok (.if_icmp .ge 26, 3) := by decide +kernel
theorem d_Mod_count_14 : decode M_Mod_count.2.1 14 = .ok (.aload_n 0, 1) := by decide +kernel
theorem d_Mod_count_15 : decode M_Mod_count.2.1 15 = .ok (.iload_n 1, 1) := by decide +kernel
theorem d_Mod_count_16 : decode M_Mod_count.2.1 16 = .ok (.iload_n 3, 1) := by decide +kernel
theorem d_Mod_count_17 : decode M_Mod_count.2.1 17 = .ok (.invokevirtual 152, 3) := by decide +kernel
theorem d_Mod_count_20 : decode M_Mod_count.2.1 20 = .ok (.ifCond .eq 9, 3) := by decide +kernel
theorem d_Mod_count_23 : decode M_Mod_count.2.1 23 = .ok (.iload_n 2, 1) := by decide +kernel
theorem d_Mod_count_24 : decode M_Mod_count.2.1 24 = .ok (.iconst 1, 1) := by decide +kernel
theorem d_Mod_count_25 : decode M_Mod_count.2.1 25 = .ok (.iadd, 1) := by decide +kernel
theorem d_Mod_count_26 : decode M_Mod_count.2.1 26 = .ok (.goto 4, 3) := by decide +kernel
theorem d_Mod_count_29 : decode M_Mod_count.2.1 29 = .ok (.iload_n 2, 1) := by decide +kernel
theorem d_Mod_count_30 : decode M_Mod_count.2.1 30 = .ok (.istore_n 2, 1) := by decide +kernel
theorem d_Mod_count_31 : decode M_Mod_count.2.1 31 = .ok (.iinc 3 1, 3) := by decide +kernel
theorem d_Mod_count_34 : decode M_Mod_count.2.1 34 = .ok (.goto (-30), 3) := by decide +kernel
theorem d_Mod_count_37 : decode M_Mod_count.2.1 37 = .ok (.iload_n 2, 1) := by decide +kernel
theorem d_Mod_count_38 : decode M_Mod_count.2.1 38 = .ok (.ireturn, 1) := by decide +kernel
theorem d_Mod_erase_0 : decode M_Mod_erase.2.1 0 = .ok (.aload_n 0, 1) := by decide +kernel
theorem d_Mod_erase_1 : decode M_Mod_erase.2.1 1 = .ok (.iconst 0, 1) := by decide +kernel
theorem d_Mod_erase_2 : decode M_Mod_erase.2.1 2 = .ok (.putfield 63, 3) := by decide +kernel
theorem d_Mod_erase_5 : decode M_Mod_erase.2.1 5 = .ok (.aload_n 0, 1) := by decide +kernel
theorem d_Mod_erase_6 : decode M_Mod_erase.2.1 6 = .ok (.getfield 68, 3) := by decide +kernel
theorem d_Mod_erase_9 : decode M_Mod_erase.2.1 9 = .ok (.istore_n 1, 1) := by decide +kernel
theorem d_Mod_erase_10 : decode M_Mod_erase.2.1 10 = .ok (.aload_n 0, 1) := by decide +kernel
theorem d_Mod_erase_11 : decode M_Mod_erase.2.1 11 = .ok (.iconst 0, 1) := by decide +kernel
theorem d_Mod_erase_12 : decode M_Mod_erase.2.1 12 = .ok (.putfield 68, 3) := by decide +kernel
theorem d_Mod_erase_15 : decode M_Mod_erase.2.1 15 = .ok (.iload_n 1, 1) := by decide +kernel
theorem d_Mod_erase_16 : decode M_Mod_erase.2.1 16 = .ok (.ireturn, 1) := by decide +kernel
theorem d_Mod_every_0 : decode M_Mod_every.2.1 0 = .ok (.iconst 1, 1) := by decide +kernel
theorem d_Mod_every_1 : decode M_Mod_every.2.1 1 = .ok (.aload_n 0, 1) := by decide +kernel
theorem d_Mod_every_2 : decode M_Mod_every.2.1 2 = .ok (.getfield 105, 3) := by decide +kernel
theorem d_Mod_every_5 : decode M_Mod_every.2.1 5 = .ok (.ishl, 1) := by decide +kernel
theorem d_Mod_every_6 : decode M_Mod_every.2.1 6 = .ok (.iconst 1, 1) := by decide +kernel
theorem d_Mod_every_7 : decode M_Mod_every.2.1 7 = .ok (.isub, 1) := by decide +kernel
theorem d_Mod_every_8 : decode M_Mod_every.2.1 8 = .ok (.ireturn, 1) := by decide +kernel
theorem d_Mod_fault_0 : decode M_Mod_fault.2.1 0 = .ok (.aload_n 0, 1) := by decide +kernel
theorem d_Mod_fault_1 : decode M_Mod_fault.2.1 1 = .ok (.iconst 0, 1) := by decide +kernel
theorem d_Mod_fault_2 : decode M_Mod_fault.2.1 2 = .ok (.putfield 63, 3) := by decide +kernel
theorem d_Mod_fault_5 : decode M_Mod_fault.2.1 5 = .ok (.aload_n 0, 1) := by decide +kernel
theorem d_Mod_fault_6 : decode M_Mod_fault.2.1 6 = .ok (.getfield 13, 3) := by decide +kernel
theorem d_Mod_fault_9 : decode M_Mod_fault.2.1 9 = .ok (.ireturn, 1) := by decide +kernel
theorem d_Mod_forced_0 : decode M_Mod_forced.2.1 0 = .ok (.aload_n 0, 1) := by decide +kernel
theorem d_Mod_forced_1 : decode M_Mod_forced.2.1 1 = .ok (.aload_n 0, 1) := by decide +kernel
theorem d_Mod_forced_2 : decode M_Mod_forced.2.1 2 = .ok (.getfield 101, 3) := by decide +kernel
theorem d_Mod_forced_5 : decode M_Mod_forced.2.1 5 = .ok (.ifCond .ne 7, 3) := by decide +kernel
theorem d_Mod_forced_8 : decode M_Mod_forced.2.1 8 = .ok (.iconst 1, 1) := by decide +kernel
theorem d_Mod_forced_9 : decode M_Mod_forced.2.1 9 = .ok (.goto 35, 3) := by decide +kernel
theorem d_Mod_forced_12 : decode M_Mod_forced.2.1 12 = .ok (.iload_n 1, 1) := by decide +kernel
theorem d_Mod_forced_13 : decode M_Mod_forced.2.1 13 = .ok (.ifCond .lt 11, 3) := by decide +kernel
theorem d_Mod_forced_16 : decode M_Mod_forced.2.1 16 = .ok (.iload_n 1, 1) := by decide +kernel
theorem d_Mod_forced_17 : decode M_Mod_forced.2.1 17 = .ok (.aload_n 0, 1) := by decide +kernel
theorem d_Mod_forced_18 : decode M_Mod_forced.2.1 18 = .ok (.getfield 108, 3) := by decide +kernel
theorem d_Mod_forced_21 : decode M_Mod_forced.2.1 21 = .ok (.if_icmp .lt 7, 3) := by decide +kernel
theorem d_Mod_forced_24 : decode M_Mod_forced.2.1 24 = .ok (.iconst 2, 1) := by decide +kernel
theorem d_Mod_forced_25 : decode M_Mod_forced.2.1 25 = .ok (.goto 19, 3) := by decide +kernel
theorem d_Mod_forced_28 : decode M_Mod_forced.2.1 28 = .ok (.aload_n 0, 1) := by decide +kernel
theorem d_Mod_forced_29 : decode M_Mod_forced.2.1 29 = .ok (.aload_n 0, 1) := by decide +kernel
theorem d_Mod_forced_30 : decode M_Mod_forced.2.1 30 = .ok (.invokevirtual 155, 3) := by decide +kernel
theorem d_Mod_forced_33 : decode M_Mod_forced.2.1 33 = .ok (.invokevirtual 158, 3) := by decide +kernel
theorem d_Mod_forced_36 : decode M_Mod_forced.2.1 36 = .ok (.ifCond .ne 7, 3) := by decide +kernel
theorem d_Mod_forced_39 : decode M_Mod_forced.2.1 39 = .ok (.iconst 3, 1) := by decide +kernel
theorem d_Mod_forced_40 : decode M_Mod_forced.2.1 40 = .ok (.goto 4, 3) := by decide +kernel
theorem d_Mod_forced_43 : decode M_Mod_forced.2.1 43 = .ok (.iconst 0, 1) := by decide +kernel
theorem d_Mod_forced_44 : decode M_Mod_forced.2.1 44 = .ok (.putfield 63, 3) := by decide +kernel
theorem d_Mod_forced_47 : decode M_Mod_forced.2.1 47 = .ok (.aload_n 0, 1) := by decide +kernel
theorem d_Mod_forced_48 : decode M_Mod_forced.2.1 48 = .ok (.getfield 63, 3) := by decide +kernel
theorem d_Mod_forced_51 : decode M_Mod_forced.2.1 51 = .ok (.ifCond .le 5, 3) := by decide +kernel
theorem d_Mod_forced_54 : decode M_Mod_forced.2.1 54 = .ok (.iconst 0, 1) := by decide +kernel
theorem d_Mod_forced_55 : decode M_Mod_forced.2.1 55 = .ok (.ireturn, 1) := by decide +kernel
theorem d_Mod_forced_56 : decode M_Mod_forced.2.1 56 = .ok (.iconst 0, 1) := by decide +kernel
theorem d_Mod_forced_57 : decode M_Mod_forced.2.1 57 = .ok (.istore_n 2, 1) := by decide +kernel
theorem d_Mod_forced_58 : decode M_Mod_forced.2.1 58 = .ok (.iconst 0, 1) := by decide +kernel
theorem d_Mod_forced_59 : decode M_Mod_forced.2.1 59 = .ok (.istore_n 3, 1) := by decide +kernel
theorem d_Mod_forced_60 : decode M_Mod_forced.2.1 60 = .ok (.iconst 0, 1) := by decide +kernel
theorem d_Mod_forced_61 : decode M_Mod_forced.2.1 61 = .ok (.istore 4, 2) := by decide +kernel
theorem d_Mod_forced_63 : decode M_Mod_forced.2.1 63 = .ok (.iload 4, 2) := by decide +kernel
theorem d_Mod_forced_65 : decode M_Mod_forced.2.1 65 = .ok (.iconst 1, 1) := by decide +kernel
theorem d_Mod_forced_66 : decode M_Mod_forced.2.1 66 = .ok (.aload_n 0, 1) := by decide +kernel
theorem d_Mod_forced_67 : decode M_Mod_forced.2.1 67 = .ok (.getfield 108, 3) := by decide +kernel
theorem d_Mod_forced_70 : decode M_Mod_forced.2.1 70 = .ok (.ishl, 1) := by decide +kernel
theorem d_Mod_forced_71 : decode M_Mod_forced.2.1 71 = .ok (.if_icmp .ge 70, 3) := by decide +kernel
theorem d_Mod_forced_74 : decode M_Mod_forced.2.1 74 = .ok (.aload_n 0, 1) := by decide +kernel
theorem d_Mod_forced_75 : decode M_Mod_forced.2.1 75 = .ok (.aload_n 0, 1) := by decide +kernel
theorem d_Mod_forced_76 : decode M_Mod_forced.2.1 76 = .ok (.invokevirtual 155, 3) := by decide +kernel
theorem d_Mod_forced_79 : decode M_Mod_forced.2.1 79 = .ok (.iload 4, 2) := by decide +kernel
theorem d_Mod_forced_81 : decode M_Mod_forced.2.1 81 = .ok (.invokevirtual 152, 3) := by decide +kernel
theorem d_Mod_forced_84 : decode M_Mod_forced.2.1 84 = .ok (.istore 5, 2) := by decide +kernel
theorem d_Mod_forced_86 : decode M_Mod_forced.2.1 86 = .ok (.iload_n 2, 1) := by decide +kernel
theorem d_Mod_forced_87 : decode M_Mod_forced.2.1 87 = .ok (.ifCond .ne 18, 3) := by decide +kernel
theorem d_Mod_forced_90 : decode M_Mod_forced.2.1 90 = .ok (.iload 5, 2) := by decide +kernel
theorem d_Mod_forced_92 : decode M_Mod_forced.2.1 92 = .ok (.ifCond .eq 17, 3) := by decide +kernel
theorem d_Mod_forced_95 : decode M_Mod_forced.2.1 95 = .ok (.iload 4, 2) := by decide +kernel
theorem d_Mod_forced_97 : decode M_Mod_forced.2.1 97 = .ok (.iload_n 1, 1) := by decide +kernel
theorem d_Mod_forced_98 : decode M_Mod_forced.2.1 98 = .ok (.ishr, 1) := by decide +kernel
theorem d_Mod_forced_99 : decode M_Mod_forced.2.1 99 = .ok (.iconst 1, 1) := by decide +kernel
theorem d_Mod_forced_100 : decode M_Mod_forced.2.1 100 = .ok (.iand, 1) := by decide +kernel
theorem d_Mod_forced_101 : decode M_Mod_forced.2.1 101 = .ok (.iconst 1, 1) := by decide +kernel
theorem d_Mod_forced_102 : decode M_Mod_forced.2.1 102 = .ok (.if_icmp .ne 7, 3) := by decide +kernel
theorem d_Mod_forced_105 : decode M_Mod_forced.2.1 105 = .ok (.iconst 1, 1) := by decide +kernel
theorem d_Mod_forced_106 : decode M_Mod_forced.2.1 106 = .ok (.goto 4, 3) := by decide +kernel
theorem d_Mod_forced_109 : decode M_Mod_forced.2.1 109 = .ok (.iconst 0, 1) := by decide +kernel
theorem d_Mod_forced_110 : decode M_Mod_forced.2.1 110 = .ok (.istore_n 2, 1) := by decide +kernel
theorem d_Mod_forced_111 : decode M_Mod_forced.2.1 111 = .ok (.iload_n 3, 1) := by decide +kernel
theorem d_Mod_forced_112 : decode M_Mod_forced.2.1 112 = .ok (.ifCond .ne 17, 3) := by decide +kernel
theorem d_Mod_forced_115 : decode M_Mod_forced.2.1 115 = .ok (.iload 5, 2) := by decide +kernel
theorem d_Mod_forced_117 : decode M_Mod_forced.2.1 117 = .ok (.ifCond .eq 16, 3) := by decide +kernel
theorem d_Mod_forced_120 : decode M_Mod_forced.2.1 120 = .ok (.iload 4, 2) := by decide +kernel
theorem d_Mod_forced_122 : decode M_Mod_forced.2.1 122 = .ok (.iload_n 1, 1) := by decide +kernel
theorem d_Mod_forced_123 : decode M_Mod_forced.2.1 123 = .ok (.ishr, 1) := by decide +kernel
theorem d_Mod_forced_124 : decode M_Mod_forced.2.1 124 = .ok (.iconst 1, 1) := by decide +kernel
theorem d_Mod_forced_125 : decode M_Mod_forced.2.1 125 = .ok (.iand, 1) := by decide +kernel
theorem d_Mod_forced_126 : decode M_Mod_forced.2.1 126 = .ok (.ifCond .ne 7, 3) := by decide +kernel
theorem d_Mod_forced_129 : decode M_Mod_forced.2.1 129 = .ok (.iconst 1, 1) := by decide +kernel
theorem d_Mod_forced_130 : decode M_Mod_forced.2.1 130 = .ok (.goto 4, 3) := by decide +kernel
theorem d_Mod_forced_133 : decode M_Mod_forced.2.1 133 = .ok (.iconst 0, 1) := by decide +kernel
theorem d_Mod_forced_134 : decode M_Mod_forced.2.1 134 = .ok (.istore_n 3, 1) := by decide +kernel
theorem d_Mod_forced_135 : decode M_Mod_forced.2.1 135 = .ok (.iinc 4 1, 3) := by decide +kernel
theorem d_Mod_forced_138 : decode M_Mod_forced.2.1 138 = .ok (.goto (-75), 3) := by decide +kernel
theorem d_Mod_forced_141 : decode M_Mod_forced.2.1 141 = .ok (.iload_n 2, 1) := by decide +kernel
theorem d_Mod_forced_142 : decode M_Mod_forced.2.1 142 = .ok (.ifCond .eq 11, 3) := by decide +kernel
theorem d_Mod_forced_145 : decode M_Mod_forced.2.1 145 = .ok (.iload_n 3, 1) := by decide +kernel
theorem d_Mod_forced_146 : decode M_Mod_forced.2.1 146 = .ok (.ifCond .eq 7, 3) := by decide +kernel
theorem d_Mod_forced_149 : decode M_Mod_forced.2.1 149 = .ok (.iconst 2, 1) := by decide +kernel
theorem d_Mod_forced_150 : decode M_Mod_forced.2.1 150 = .ok (.goto 12, 3) := by decide +kernel
theorem d_Mod_forced_153 : decode M_Mod_forced.2.1 153 = .ok (.iload_n 2, 1) := by decide +kernel
theorem d_Mod_forced_154 : decode M_Mod_forced.2.1 154 = .ok (.ifCond .eq 7, 3) := by decide +kernel
theorem d_Mod_forced_157 : decode M_Mod_forced.2.1 157 = .ok (.iconst 1, 1) := by decide +kernel
theorem d_Mod_forced_158 : decode M_Mod_forced.2.1 158 = .ok (.goto 4, 3) := by decide +kernel
theorem d_Mod_forced_161 : decode M_Mod_forced.2.1 161 = .ok (.iconst 0, 1) := by decide +kernel
theorem d_Mod_forced_162 : decode M_Mod_forced.2.1 162 = .ok (.ireturn, 1) := by decide +kernel
theorem d_Mod_greatest_0 : decode M_Mod_greatest.2.1 0 = .ok (.aload_n 0, 1) := by decide +kernel
theorem d_Mod_greatest_1 : decode M_Mod_greatest.2.1 1 = .ok (.aload_n 0, 1) := by decide +kernel
theorem d_Mod_greatest_2 : decode M_Mod_greatest.2.1 2 = .ok (.getfield 101, 3) := by decide +kernel
theorem d_Mod_greatest_5 : decode M_Mod_greatest.2.1 5 = .ok (.ifCond .eq 7, 3) := by decide +kernel
theorem d_Mod_greatest_8 : decode M_Mod_greatest.2.1 8 = .ok (.iconst 0, 1) := by decide +kernel
theorem d_Mod_greatest_9 : decode M_Mod_greatest.2.1 9 = .ok (.goto 4, 3) := by decide +kernel
theorem d_Mod_greatest_12 : decode M_Mod_greatest.2.1 12 = .ok (.iconst 1, 1) := by decide +kernel
theorem d_Mod_greatest_13 : decode M_Mod_greatest.2.1 13 = .ok (.putfield 63, 3) := by decide +kernel
theorem d_Mod_greatest_16 : decode M_Mod_greatest.2.1 16 = .ok (.iconst 1, 1) := by decide +kernel
theorem d_Mod_greatest_17 : decode M_Mod_greatest.2.1 17 = .ok (.aload_n 0, 1) := by decide +kernel
theorem d_Mod_greatest_18 : decode M_Mod_greatest.2.1 18 = .ok (.getfield 108, 3) := by decide +kernel
theorem d_Mod_greatest_21 : decode M_Mod_greatest.2.1 21 = .ok (.ishl, 1) := by decide +kernel
theorem d_Mod_greatest_22 : decode M_Mod_greatest.2.1 22 = .ok (.iconst 1, 1) := by decide +kernel
theorem d_Mod_greatest_23 : decode M_Mod_greatest.2.1 23 = .ok (.isub, 1) := by decide +kernel
theorem d_Mod_greatest_24 : decode M_Mod_greatest.2.1 24 = .ok (.istore_n 1, 1) := by decide +kernel
theorem d_Mod_greatest_25 : decode M_Mod_greatest.2.1 25 = .ok (.iload_n 1, 1) := by decide +kernel
theorem d_Mod_greatest_26 : decode M_Mod_greatest.2.1 26 = .ok (.ifCond .lt 38, 3) := by decide +kernel
theorem d_Mod_greatest_29 : decode M_Mod_greatest.2.1 29 = .ok (.aload_n 0, 1) := by decide +kernel
theorem d_Mod_greatest_30 : decode M_Mod_greatest.2.1 30 = .ok (.getfield 63, 3) := by decide +kernel
theorem d_Mod_greatest_33 : decode M_Mod_greatest.2.1 33 = .ok (.ifCond .ne 31, 3) := by decide +kernel
theorem d_Mod_greatest_36 : decode M_Mod_greatest.2.1 36 = .ok (.aload_n 0, 1) := by decide +kernel
theorem d_Mod_greatest_37 : decode M_Mod_greatest.2.1 37 = .ok (.aload_n 0, 1) := by decide +kernel
theorem d_Mod_greatest_38 : decode M_Mod_greatest.2.1 38 = .ok (.invokevirtual 155, 3) := by decide +kernel
theorem d_Mod_greatest_41 : decode M_Mod_greatest.2.1 41 = .ok (.aload_n 0, 1) := by decide +kernel
theorem d_Mod_greatest_42 : decode M_Mod_greatest.2.1 42 = .ok (.iload_n 1, 1) := by decide +kernel
theorem d_Mod_greatest_43 : decode M_Mod_greatest.2.1 43 = .ok (.invokevirtual 161, 3) := by decide +kernel
theorem d_Mod_greatest_46 : decode M_Mod_greatest.2.1 46 = .ok (.invokevirtual 152, 3) := by decide +kernel
theorem d_Mod_greatest_49 : decode M_Mod_greatest.2.1 49 = .ok (.ifCond .eq 9, 3) := by decide +kernel
theorem d_Mod_greatest_52 : decode M_Mod_greatest.2.1 52 = .ok (.aload_n 0, 1) := by decide +kernel
theorem d_Mod_greatest_53 : decode M_Mod_greatest.2.1 53 = .ok (.iload_n 1, 1) := by decide +kernel
theorem d_Mod_greatest_54 : decode M_Mod_greatest.2.1 54 = .ok (.invokevirtual 161, 3) := by decide +kernel
theorem d_Mod_greatest_57 : decode M_Mod_greatest.2.1 57 = .ok (.ireturn, 1) := by decide +kernel
theorem d_Mod_greatest_58 : decode M_Mod_greatest.2.1 58 = .ok (.iinc 1 (-1), 3) := by decide +kernel
theorem d_Mod_greatest_61 : decode M_Mod_greatest.2.1 61 = .ok (.goto (-36), 3) := by decide +kernel
theorem d_Mod_greatest_64 : decode M_Mod_greatest.2.1 64 = .ok (.aload_n 0, 1) := by decide +kernel
theorem d_Mod_greatest_65 : decode M_Mod_greatest.2.1 65 = .ok (.aload_n 0, 1) := by decide +kernel
theorem d_Mod_greatest_66 : decode M_Mod_greatest.2.1 66 = .ok (.getfield 63, 3) := by decide +kernel
theorem d_Mod_greatest_69 : decode M_Mod_greatest.2.1 69 = .ok (.ifCond .le 10, 3) := by decide +kernel
theorem d_Mod_greatest_72 : decode M_Mod_greatest.2.1 72 = .ok (.aload_n 0, 1) := by decide +kernel
theorem d_Mod_greatest_73 : decode M_Mod_greatest.2.1 73 = .ok (.getfield 63, 3) := by decide +kernel
theorem d_Mod_greatest_76 : decode M_Mod_greatest.2.1 76 = .ok (.goto 4, 3) := by decide +kernel
theorem d_Mod_greatest_79 : decode M_Mod_greatest.2.1 79 = .ok (.iconst 2, 1) := by decide +kernel
theorem d_Mod_greatest_80 : decode M_Mod_greatest.2.1 80 = .ok (.putfield 63, 3) := by decide +kernel
theorem d_Mod_greatest_83 : decode M_Mod_greatest.2.1 83 = .ok (.iconst 0, 1) := by decide +kernel
theorem d_Mod_greatest_84 : decode M_Mod_greatest.2.1 84 = .ok (.ireturn, 1) := by decide +kernel
theorem d_Mod_has_0 : decode M_Mod_has.2.1 0 = .ok (.iconst 0, 1) := by decide +kernel
theorem d_Mod_has_1 : decode M_Mod_has.2.1 1 = .ok (.istore_n 3, 1) := by decide +kernel
theorem d_Mod_has_2 : decode M_Mod_has.2.1 2 = .ok (.iconst 0, 1) := by decide +kernel
theorem d_Mod_has_3 : decode M_Mod_has.2.1 3 = .ok (.istore 4, 2) := by decide +kernel
theorem d_Mod_has_5 : decode M_Mod_has.2.1 5 = .ok (.iload 4, 2) := by decide +kernel
theorem d_Mod_has_7 : decode M_Mod_has.2.1 7 = .ok (.aload_n 0, 1) := by decide +kernel
theorem d_Mod_has_8 : decode M_Mod_has.2.1 8 = .ok (.getfield 57, 3) := by decide +kernel
theorem d_Mod_has_11 : decode M_Mod_has.2.1 11 = .ok (.iload_n 1, 1) := by decide +kernel
theorem d_Mod_has_12 : decode M_Mod_has.2.1 12 = .ok (.iaload, 1) := by decide +kernel
theorem d_Mod_has_13 : decode M_Mod_has.2.1 13 = .ok (.if_icmp .ge 35, 3) := by decide +kernel
theorem d_Mod_has_16 : decode M_Mod_has.2.1 16 = .ok (.iload_n 3, 1) := by decide +kernel
theorem d_Mod_has_17 : decode M_Mod_has.2.1 17 = .ok (.ifCond .ne 19, 3) := by decide +kernel
theorem d_Mod_has_20 : decode M_Mod_has.2.1 20 = .ok (.aload_n 0, 1) := by decide +kernel
theorem d_Mod_has_21 : decode M_Mod_has.2.1 21 = .ok (.getfield 54, 3) := by decide +kernel
theorem d_Mod_has_24 : decode M_Mod_has.2.1 24 = .ok (.bipush 27, 2) := by decide +kernel
theorem d_Mod_has_26 : decode M_Mod_has.2.1 26 = .ok (.iload_n 1, 1) := by decide +kernel
theorem d_Mod_has_27 : decode M_Mod_has.2.1 27 = .ok (.imul, 1) := by decide +kernel
theorem d_Mod_has_28 : decode M_Mod_has.2.1 28 = .ok (.iload 4, 2) := by decide +kernel
theorem d_Mod_has_30 : decode M_Mod_has.2.1 30 = .ok (.iadd, 1) := by decide +kernel
theorem d_Mod_has_31 : decode M_Mod_has.2.1 31 = .ok (.iaload, 1) := by decide +kernel
theorem d_Mod_has_32 : decode M_Mod_has.2.1 32 = .ok (.iload_n 2, 1) := by decide +kernel
theorem d_Mod_has_33 : decode M_Mod_has.2.1 33 = .ok (.if_icmp .ne 7, 3) := by decide +kernel
theorem d_Mod_has_36 : decode M_Mod_has.2.1 36 = .ok (.iconst 1, 1) := by decide +kernel
theorem d_Mod_has_37 : decode M_Mod_has.2.1 37 = .ok (.goto 4, 3) := by decide +kernel
theorem d_Mod_has_40 : decode M_Mod_has.2.1 40 = .ok (.iconst 0, 1) := by decide +kernel
theorem d_Mod_has_41 : decode M_Mod_has.2.1 41 = .ok (.istore_n 3, 1) := by decide +kernel
theorem d_Mod_has_42 : decode M_Mod_has.2.1 42 = .ok (.iinc 4 1, 3) := by decide +kernel
theorem d_Mod_has_45 : decode M_Mod_has.2.1 45 = .ok (.goto (-40), 3) := by decide +kernel
theorem d_Mod_has_48 : decode M_Mod_has.2.1 48 = .ok (.iload_n 3, 1) := by decide +kernel
theorem d_Mod_has_49 : decode M_Mod_has.2.1 49 = .ok (.ireturn, 1) := by decide +kernel
theorem d_Mod_holds_0 : decode M_Mod_holds.2.1 0 = .ok (.aload_n 0, 1) := by decide +kernel
theorem d_Mod_holds_1 : decode M_Mod_holds.2.1 1 = .ok (.iconst 0, 1) := by decide +kernel
theorem d_Mod_holds_2 : decode M_Mod_holds.2.1 2 = .ok (.putfield 63, 3) := by decide +kernel
theorem d_Mod_holds_5 : decode M_Mod_holds.2.1 5 = .ok (.aload_n 0, 1) := by decide +kernel
theorem d_Mod_holds_6 : decode M_Mod_holds.2.1 6 = .ok (.getfield 101, 3) := by decide +kernel
theorem d_Mod_holds_9 : decode M_Mod_holds.2.1 9 = .ok (.ifCond .eq 14, 3) := by decide +kernel
theorem d_Mod_holds_12 : decode M_Mod_holds.2.1 12 = .ok (.aload_n 0, 1) := by decide +kernel
theorem d_Mod_holds_13 : decode M_Mod_holds.2.1 13 = .ok (.aload_n 0, 1) := by decide +kernel
theorem d_Mod_holds_14 : decode M_Mod_holds.2.1 14 = .ok (.invokevirtual 155, 3) := by decide +kernel
theorem d_Mod_holds_17 : decode M_Mod_holds.2.1 17 = .ok (.invokevirtual 158, 3) := by decide +kernel
theorem d_Mod_holds_20 : decode M_Mod_holds.2.1 20 = .ok (.ifCond .le 7, 3) := by decide +kernel
theorem d_Mod_holds_23 : decode M_Mod_holds.2.1 23 = .ok (.iconst 1, 1) := by decide +kernel
theorem d_Mod_holds_24 : decode M_Mod_holds.2.1 24 = .ok (.goto 4, 3) := by decide +kernel
theorem d_Mod_holds_27 : decode M_Mod_holds.2.1 27 = .ok (.iconst 0, 1) := by decide +kernel
theorem d_Mod_holds_28 : decode M_Mod_holds.2.1 28 = .ok (.ireturn, 1) := by decide +kernel
theorem d_Mod_holdsIn_0 : decode M_Mod_holdsIn.2.1 0 = .ok (.iconst 1, 1) := by decide +kernel
theorem d_Mod_holdsIn_1 : decode M_Mod_holdsIn.2.1 1 = .ok (.istore_n 3, 1) := by decide +kernel
theorem d_Mod_holdsIn_2 : decode M_Mod_holdsIn.2.1 2 = .ok (.iconst 0, 1) := by decide +kernel
theorem d_Mod_holdsIn_3 : decode M_Mod_holdsIn.2.1 3 = .ok (.istore 4, 2) := by decide +kernel
theorem d_Mod_holdsIn_5 : decode M_Mod_holdsIn.2.1 5 = .ok (.iload 4, 2) := by decide +kernel
theorem d_Mod_holdsIn_7 : decode M_Mod_holdsIn.2.1 7 = .ok (.aload_n 0, 1) := by decide +kernel
theorem d_Mod_holdsIn_8 : decode M_Mod_holdsIn.2.1 8 = .ok (.getfield 105, 3) := by decide +kernel
theorem d_Mod_holdsIn_11 : decode M_Mod_holdsIn.2.1 11 = .ok (.if_icmp .ge 55, 3) := by decide +kernel
theorem d_Mod_holdsIn_14 : decode M_Mod_holdsIn.2.1 14 = .ok (.iload_n 3, 1) := by decide +kernel
theorem d_Mod_holdsIn_15 : decode M_Mod_holdsIn.2.1 15 = .ok (.ifCond .eq 43, 3) := by decide +kernel
theorem d_Mod_holdsIn_18 : decode M_Mod_holdsIn.2.1 18 = .ok (.iload_n 1, 1) := by decide +kernel
theorem d_Mod_holdsIn_19 : decode M_Mod_holdsIn.2.1 19 = .ok (.iload 4, 2) := by decide +kernel
theorem d_Mod_holdsIn_21 : decode M_Mod_holdsIn.2.1 21 = .ok (.ishr, 1) := by decide +kernel
theorem d_Mod_holdsIn_22 : decode M_Mod_holdsIn.2.1 22 = .ok (.iconst 1, 1) := by decide +kernel
theorem d_Mod_holdsIn_23 : decode M_Mod_holdsIn.2.1 23 = .ok (.iand, 1) := by decide +kernel
theorem d_Mod_holdsIn_24 : decode M_Mod_holdsIn.2.1 24 = .ok (.ifCond .eq 30, 3) := by decide +kernel
theorem d_Mod_holdsIn_27 : decode M_Mod_holdsIn.2.1 27 = .ok (.aload_n 0, 1) := by decide +kernel
theorem d_Mod_holdsIn_28 : decode M_Mod_holdsIn.2.1 28 = .ok (.getfield 60, 3) := by decide +kernel
theorem d_Mod_holdsIn_31 : decode M_Mod_holdsIn.2.1 31 = .ok (.sipush 128, 3) := by decide +kernel
theorem d_Mod_holdsIn_34 : decode M_Mod_holdsIn.2.1 34 = .ok (.iload 4, 2) := by decide +kernel
theorem d_Mod_holdsIn_36 : decode M_Mod_holdsIn.2.1 36 = .ok (.imul, 1) := by decide +kernel
theorem d_Mod_holdsIn_37 : decode M_Mod_holdsIn.2.1 37 = .ok (.iload_n 2, 1) := by decide +kernel
theorem d_Mod_holdsIn_38 : decode M_Mod_holdsIn.2.1 38 = .ok (.bipush 32, 2) := by decide +kernel
theorem d_Mod_holdsIn_40 : decode M_Mod_holdsIn.2.1 40 = .ok (.idiv, 1) := by decide +kernel
theorem d_Mod_holdsIn_41 : decode M_Mod_holdsIn.2.1 41 = .ok (.iadd, 1) := by decide +kernel
theorem d_Mod_holdsIn_42 : decode M_Mod_holdsIn.2.1 42 = .ok (.iaload, 1) := by decide +kernel
theorem d_Mod_holdsIn_43 : decode M_Mod_holdsIn.2.1 43 = .ok (.iload_n 2, 1) := by decide +kernel
theorem d_Mod_holdsIn_44 : decode M_Mod_holdsIn.2.1 44 = .ok (.bipush 32, 2) := by decide +kernel
theorem d_Mod_holdsIn_46 : decode M_Mod_holdsIn.2.1 46 = .ok (.irem, 1) := by decide +kernel
theorem d_Mod_holdsIn_47 : decode M_Mod_holdsIn.2.1 47 = .ok (.ishr, 1) := by decide +kernel
theorem d_Mod_holdsIn_48 : decode M_Mod_holdsIn.2.1 48 = .ok (.iconst 1, 1) := by decide +kernel
theorem d_Mod_holdsIn_49 : decode M_Mod_holdsIn.2.1 49 = .ok (.iand, 1) := by decide +kernel
theorem d_Mod_holdsIn_50 : decode M_Mod_holdsIn.2.1 50 = .ok (.iconst 1, 1) := by decide +kernel
theorem d_Mod_holdsIn_51 : decode M_Mod_holdsIn.2.1 51 = .ok (.if_icmp .ne 7, 3) := by decide +kernel
theorem d_Mod_holdsIn_54 : decode M_Mod_holdsIn.2.1 54 = .ok (.iconst 1, 1) := by decide +kernel
theorem d_Mod_holdsIn_55 : decode M_Mod_holdsIn.2.1 55 = .ok (.goto 4, 3) := by decide +kernel
theorem d_Mod_holdsIn_58 : decode M_Mod_holdsIn.2.1 58 = .ok (.iconst 0, 1) := by decide +kernel
theorem d_Mod_holdsIn_59 : decode M_Mod_holdsIn.2.1 59 = .ok (.istore_n 3, 1) := by decide +kernel
theorem d_Mod_holdsIn_60 : decode M_Mod_holdsIn.2.1 60 = .ok (.iinc 4 1, 3) := by decide +kernel
theorem d_Mod_holdsIn_63 : decode M_Mod_holdsIn.2.1 63 = .ok (.goto (-58), 3) := by decide +kernel
theorem d_Mod_holdsIn_66 : decode M_Mod_holdsIn.2.1 66 = .ok (.iload_n 3, 1) := by decide +kernel
theorem d_Mod_holdsIn_67 : decode M_Mod_holdsIn.2.1 67 = .ok (.ireturn, 1) := by decide +kernel
theorem d_Mod_init_0 : decode M_Mod_init.2.1 0 = .ok (.aload_n 0, 1) := by decide +kernel
theorem d_Mod_init_1 : decode M_Mod_init.2.1 1 = .ok (.invokespecial 1, 3) := by decide +kernel
theorem d_Mod_init_4 : decode M_Mod_init.2.1 4 = .ok (.aload_n 0, 1) := by decide +kernel
theorem d_Mod_init_5 : decode M_Mod_init.2.1 5 = .ok (.bipush 97, 2) := by decide +kernel
theorem d_Mod_init_7 : decode M_Mod_init.2.1 7 = .ok (.newarray .int, 2) := by decide +kernel
theorem d_Mod_init_9 : decode M_Mod_init.2.1 9 = .ok (.putfield 7, 3) := by decide +kernel
theorem d_Mod_init_12 : decode M_Mod_init.2.1 12 = .ok (.aload_n 0, 1) := by decide +kernel
theorem d_Mod_init_13 : decode M_Mod_init.2.1 13 = .ok (.iconst (-1), 1) := by decide +kernel
theorem d_Mod_init_14 : decode M_Mod_init.2.1 14 = .ok (.putfield 13, 3) := by decide +kernel
theorem d_Mod_init_17 : decode M_Mod_init.2.1 17 = .ok (.aload_n 0, 1) := by decide +kernel
theorem d_Mod_init_18 : decode M_Mod_init.2.1 18 = .ok (.bipush 12, 2) := by decide +kernel
theorem d_Mod_init_20 : decode M_Mod_init.2.1 20 = .ok (.newarray .int, 2) := by decide +kernel
theorem d_Mod_init_22 : decode M_Mod_init.2.1 22 = .ok (.putfield 17, 3) := by decide +kernel
theorem d_Mod_init_25 : decode M_Mod_init.2.1 25 = .ok (.aload_n 0, 1) := by decide +kernel
theorem d_Mod_init_26 : decode M_Mod_init.2.1 26 = .ok (.bipush 48, 2) := by decide +kernel
theorem d_Mod_init_28 : decode M_Mod_init.2.1 28 = .ok (.newarray .int, 2) := by decide +kernel
theorem d_Mod_init_30 : decode M_Mod_init.2.1 30 = .ok (.putfield 20, 3) := by decide +kernel
theorem d_Mod_init_33 : decode M_Mod_init.2.1 33 = .ok (.aload_n 0, 1) := by decide +kernel
theorem d_Mod_init_34 : decode M_Mod_init.2.1 34 = .ok (.bipush 48, 2) := by decide +kernel
theorem d_Mod_init_36 : decode M_Mod_init.2.1 36 = .ok (.newarray .boolean, 2) := by decide +kernel
theorem d_Mod_init_38 : decode M_Mod_init.2.1 38 = .ok (.putfield 23, 3) := by decide +kernel
theorem d_Mod_init_41 : decode M_Mod_init.2.1 41 = .ok (.aload_n 0, 1) := by decide +kernel
theorem d_Mod_init_42 : decode M_Mod_init.2.1 42 = .ok (.bipush 48, 2) := by decide +kernel
theorem d_Mod_init_44 : decode M_Mod_init.2.1 44 = .ok (.newarray .int, 2) := by decide +kernel
theorem d_Mod_init_46 : decode M_Mod_init.2.1 46 = .ok (.putfield 27, 3) := by decide +kernel
theorem d_Mod_init_49 : decode M_Mod_init.2.1 49 = .ok (.aload_n 0, 1) := by decide +kernel
theorem d_Mod_init_50 : decode M_Mod_init.2.1 50 = .ok (.bipush 48, 2) := by decide +kernel
theorem d_Mod_init_52 : decode M_Mod_init.2.1 52 = .ok (.newarray .int, 2) := by decide +kernel
theorem d_Mod_init_54 : decode M_Mod_init.2.1 54 = .ok (.putfield 30, 3) := by decide +kernel
theorem d_Mod_init_57 : decode M_Mod_init.2.1 57 = .ok (.aload_n 0, 1) := by decide +kernel
theorem d_Mod_init_58 : decode M_Mod_init.2.1 58 = .ok (.iconst 4, 1) := by decide +kernel
theorem d_Mod_init_59 : decode M_Mod_init.2.1 59 = .ok (.newarray .int, 2) := by decide +kernel
theorem d_Mod_init_61 : decode M_Mod_init.2.1 61 = .ok (.putfield 33, 3) := by decide +kernel
theorem d_Mod_init_64 : decode M_Mod_init.2.1 64 = .ok (.aload_n 0, 1) := by decide +kernel
theorem d_Mod_init_65 : decode M_Mod_init.2.1 65 = .ok (.bipush 12, 2) := by decide +kernel
theorem d_Mod_init_67 : decode M_Mod_init.2.1 67 = .ok (.newarray .int, 2) := by decide +kernel
theorem d_Mod_init_69 : decode M_Mod_init.2.1 69 = .ok (.putfield 36, 3) := by decide +kernel
theorem d_Mod_init_72 : decode M_Mod_init.2.1 72 = .ok (.aload_n 0, 1) := by decide +kernel
theorem d_Mod_init_73 : decode M_Mod_init.2.1 73 = .ok (.bipush 48, 2) := by decide +kernel
theorem d_Mod_init_75 : decode M_Mod_init.2.1 75 = .ok (.newarray .int, 2) := by decide +kernel
theorem d_Mod_init_77 : decode M_Mod_init.2.1 77 = .ok (.putfield 39, 3) := by decide +kernel
theorem d_Mod_init_80 : decode M_Mod_init.2.1 80 = .ok (.aload_n 0, 1) := by decide +kernel
theorem d_Mod_init_81 : decode M_Mod_init.2.1 81 = .ok (.bipush 48, 2) := by decide +kernel
theorem d_Mod_init_83 : decode M_Mod_init.2.1 83 = .ok (.newarray .boolean, 2) := by decide +kernel
theorem d_Mod_init_85 : decode M_Mod_init.2.1 85 = .ok (.putfield 42, 3) := by decide +kernel
theorem d_Mod_init_88 : decode M_Mod_init.2.1 88 = .ok (.aload_n 0, 1) := by decide +kernel
theorem d_Mod_init_89 : decode M_Mod_init.2.1 89 = .ok (.bipush 48, 2) := by decide +kernel
theorem d_Mod_init_91 : decode M_Mod_init.2.1 91 = .ok (.newarray .int, 2) := by decide +kernel
theorem d_Mod_init_93 : decode M_Mod_init.2.1 93 = .ok (.putfield 45, 3) := by decide +kernel
theorem d_Mod_init_96 : decode M_Mod_init.2.1 96 = .ok (.aload_n 0, 1) := by decide +kernel
theorem d_Mod_init_97 : decode M_Mod_init.2.1 97 = .ok (.bipush 48, 2) := by decide +kernel
theorem d_Mod_init_99 : decode M_Mod_init.2.1 99 = .ok (.newarray .int, 2) := by decide +kernel
theorem d_Mod_init_101 : decode M_Mod_init.2.1 101 = .ok (.putfield 48, 3) := by decide +kernel
theorem d_Mod_init_104 : decode M_Mod_init.2.1 104 = .ok (.aload_n 0, 1) := by decide +kernel
theorem d_Mod_init_105 : decode M_Mod_init.2.1 105 = .ok (.iconst 4, 1) := by decide +kernel
theorem d_Mod_init_106 : decode M_Mod_init.2.1 106 = .ok (.newarray .int, 2) := by decide +kernel
theorem d_Mod_init_108 : decode M_Mod_init.2.1 108 = .ok (.putfield 51, 3) := by decide +kernel
theorem d_Mod_init_111 : decode M_Mod_init.2.1 111 = .ok (.aload_n 0, 1) := by decide +kernel
theorem d_Mod_init_112 : decode M_Mod_init.2.1 112 = .ok (.sipush 324, 3) := by decide +kernel
theorem d_Mod_init_115 : decode M_Mod_init.2.1 115 = .ok (.newarray .int, 2) := by decide +kernel
theorem d_Mod_init_117 : decode M_Mod_init.2.1 117 = .ok (.putfield 54, 3) := by decide +kernel
theorem d_Mod_init_120 : decode M_Mod_init.2.1 120 = .ok (.aload_n 0, 1) := by decide +kernel
theorem d_Mod_init_121 : decode M_Mod_init.2.1 121 = .ok (.bipush 12, 2) := by decide +kernel
theorem d_Mod_init_123 : decode M_Mod_init.2.1 123 = .ok (.newarray .int, 2) := by decide +kernel
theorem d_Mod_init_125 : decode M_Mod_init.2.1 125 = .ok (.putfield 57, 3) := by decide +kernel
theorem d_Mod_init_128 : decode M_Mod_init.2.1 128 = .ok (.aload_n 0, 1) := by decide +kernel
theorem d_Mod_init_129 : decode M_Mod_init.2.1 129 = .ok (.sipush 1536, 3) := by decide +kernel
theorem d_Mod_init_132 : decode M_Mod_init.2.1 132 = .ok (.newarray .int, 2) := by decide +kernel
theorem d_Mod_init_134 : decode M_Mod_init.2.1 134 = .ok (.putfield 60, 3) := by decide +kernel
theorem d_Mod_init_137 : decode M_Mod_init.2.1 137 = .ok (.return_, 1) := by decide +kernel
theorem d_Mod_instance_0 : decode M_Mod_instance.2.1 0 = .ok (.iconst 0, 1) := by decide +kernel
theorem d_Mod_instance_1 : decode M_Mod_instance.2.1 1 = .ok (.istore_n 3, 1) := by decide +kernel
theorem d_Mod_instance_2 : decode M_Mod_instance.2.1 2 = .ok (.iconst 0, 1) := by decide +kernel
theorem d_Mod_instance_3 : decode M_Mod_instance.2.1 3 = .ok (.istore 4, 2) := by decide +kernel
theorem d_Mod_instance_5 : decode M_Mod_instance.2.1 5 = .ok (.iconst 4, 1) := by decide +kernel
theorem d_Mod_instance_6 : decode M_Mod_instance.2.1 6 = .ok (.iload_n 1, 1) := by decide +kernel
theorem d_Mod_instance_7 : decode M_Mod_instance.2.1 7 = .ok (.imul, 1) := by decide +kernel
theorem d_Mod_instance_8 : decode M_Mod_instance.2.1 8 = .ok (.istore 5, 2) := by decide +kernel
theorem d_Mod_instance_10 : decode M_Mod_instance.2.1 10 = .ok (.iload 5, 2) := by decide +kernel
theorem d_Mod_instance_12 : decode M_Mod_instance.2.1 12 = .ok (.iconst 4, 1) := by decide +kernel
theorem d_Mod_instance_13 : decode M_Mod_instance.2.1 13 = .ok (.iload_n 1, 1) := by decide +kernel
theorem d_Mod_instance_14 : decode M_Mod_instance.2.1 14 = .ok (.imul, 1) := by decide +kernel
theorem d_Mod_instance_15 : decode M_Mod_instance.2.1 15 = .ok (.aload_n 0, 1) := by decide +kernel
theorem d_Mod_instance_16 : decode M_Mod_instance.2.1 16 = .ok (.getfield 36, 3) := by decide +kernel
theorem d_Mod_instance_19 : decode M_Mod_instance.2.1 19 = .ok (.iload_n 1, 1) := by decide +kernel
theorem d_Mod_instance_20 : decode M_Mod_instance.2.1 20 = .ok (.iaload, 1) := by decide +kernel
theorem d_Mod_instance_21 : decode M_Mod_instance.2.1 21 = .ok (.iadd, 1) := by decide +kernel
theorem d_Mod_instance_22 : decode M_Mod_instance.2.1 22 = .ok (.if_icmp .ge 128, 3) := by decide +kernel
theorem d_Mod_instance_25 : decode M_Mod_instance.2.1 25 = .ok (.aload_n 0, 1) := by decide +kernel
theorem d_Mod_instance_26 : decode M_Mod_instance.2.1 26 = .ok (.getfield 39, 3) := by decide +kernel
theorem d_Mod_instance_29 : decode M_Mod_instance.2.1 29 = .ok (.iload 5, 2) := by decide +kernel
theorem d_Mod_instance_31 : decode M_Mod_instance.2.1 31 = .ok (.iaload, 1) := by decide +kernel
theorem d_Mod_instance_32 : decode M_Mod_instance.2.1 32 = .ok (.istore 6, 2) := by decide +kernel
theorem d_Mod_instance_34 : decode M_Mod_instance.2.1 34 = .ok (.aload_n 0, 1) := by decide +kernel
theorem d_Mod_instance_35 : decode M_Mod_instance.2.1 35 = .ok (.getfield 51, 3) := by decide +kernel
theorem d_Mod_instance_38 : decode M_Mod_instance.2.1 38 = .ok (.iload 6, 2) := by decide +kernel
theorem d_Mod_instance_40 : decode M_Mod_instance.2.1 40 = .ok (.iaload, 1) := by decide +kernel
theorem d_Mod_instance_41 : decode M_Mod_instance.2.1 41 = .ok (.ifCond .le 17, 3) := by decide +kernel
theorem d_Mod_instance_44 : decode M_Mod_instance.2.1 44 = .ok (.aload_n 0, 1) := by decide +kernel
theorem d_Mod_instance_45 : decode M_Mod_instance.2.1 45 = .ok (.getfield 45, 3) := by decide +kernel
theorem d_Mod_instance_48 : decode M_Mod_instance.2.1 48 = .ok (.iload 5, 2) := by decide +kernel
theorem d_Mod_instance_50 : decode M_Mod_instance.2.1 50 = .ok (.iaload, 1) := by decide +kernel
theorem d_Mod_instance_51 : decode M_Mod_instance.2.1 51 = .ok (.iload_n 2, 1) := by decide +kernel
theorem d_Mod_instance_52 : decode M_Mod_instance.2.1 52 = .ok (.invokestatic 111, 3) := by decide +kernel
theorem d_Mod_instance_55 : decode M_Mod_instance.2.1 55 = .ok (.goto 4, 3) := by decide +kernel
theorem d_Mod_instance_58 : decode M_Mod_instance.2.1 58 = .ok (.iconst 0, 1) := by decide +kernel
theorem d_Mod_instance_59 : decode M_Mod_instance.2.1 59 = .ok (.istore 7, 2) := by decide +kernel
theorem d_Mod_instance_61 : decode M_Mod_instance.2.1 61 = .ok (.aload_n 0, 1) := by decide +kernel
theorem d_Mod_instance_62 : decode M_Mod_instance.2.1 62 = .ok (.getfield 51, 3) := by decide +kernel
theorem d_Mod_instance_65 : decode M_Mod_instance.2.1 65 = .ok (.iload 6, 2) := by decide +kernel
theorem d_Mod_instance_67 : decode M_Mod_instance.2.1 67 = .ok (.iaload, 1) := by decide +kernel
theorem d_Mod_instance_68 : decode M_Mod_instance.2.1 68 = .ok (.iconst 1, 1) := by decide +kernel
theorem d_Mod_instance_69 : decode M_Mod_instance.2.1 69 = .ok (.if_icmp .le 17, 3) := by decide +kernel
theorem d_Mod_instance_72 : decode M_Mod_instance.2.1 72 = .ok (.aload_n 0, 1) := by decide +kernel
theorem d_Mod_instance_73 : decode M_Mod_instance.2.1 73 = .ok (.getfield 48, 3) := by decide +kernel
theorem d_Mod_instance_76 : decode M_Mod_instance.2.1 76 = .ok (.iload 5, 2) := by decide +kernel
theorem d_Mod_instance_78 : decode M_Mod_instance.2.1 78 = .ok (.iaload, 1) := by decide +kernel
theorem d_Mod_instance_79 : decode M_Mod_instance.2.1 79 = .ok (.iload_n 2, 1) := by decide +kernel
theorem d_Mod_instance_80 : decode M_Mod_instance.2.1 80 = .ok (.invokestatic 111, 3) := by decide +kernel
theorem d_Mod_instance_83 : decode M_Mod_instance.2.1 83 = .ok (.goto 4, 3) := by decide +kernel
theorem d_Mod_instance_86 : decode M_Mod_instance.2.1 86 = .ok (.iconst 0, 1) := by decide +kernel
theorem d_Mod_instance_87 : decode M_Mod_instance.2.1 87 = .ok (.istore 8, 2) := by decide +kernel
theorem d_Mod_instance_89 : decode M_Mod_instance.2.1 89 = .ok (.iconst 1, 1) := by decide +kernel
theorem d_Mod_instance_90 : decode M_Mod_instance.2.1 90 = .ok (.aload_n 0, 1) := by decide +kernel
theorem d_Mod_instance_91 : decode M_Mod_instance.2.1 91 = .ok (.iload 6, 2) := by decide +kernel
theorem d_Mod_instance_93 : decode M_Mod_instance.2.1 93 = .ok (.iload 7, 2) := by decide +kernel
theorem d_Mod_instance_95 : decode M_Mod_instance.2.1 95 = .ok (.iload 8, 2) := by decide +kernel
theorem d_Mod_instance_97 : decode M_Mod_instance.2.1 97 = .ok (.invokevirtual 114, 3) := by decide +kernel
theorem d_Mod_instance_100 : decode M_Mod_instance.2.1 100 = .ok (.ishl, 1) := by decide +kernel
theorem d_Mod_instance_101 : decode M_Mod_instance.2.1 101 = .ok (.istore 9, 2) := by decide +kernel
theorem d_Mod_instance_103 : decode M_Mod_instance.2.1 103 = .ok (.aload_n 0, 1) := by decide +kernel
theorem d_Mod_instance_104 : decode M_Mod_instance.2.1 104 = .ok (.getfield 42, 3) := by decide +kernel
theorem d_Mod_instance_107 : decode M_Mod_instance.2.1 107 = .ok (.iload 5, 2) := by decide +kernel
theorem d_Mod_instance_109 : decode M_Mod_instance.2.1 109 = .ok (.baload, 1) := by decide +kernel
theorem d_Mod_instance_110 : decode M_Mod_instance.2.1 110 = .ok (.ifCond .eq 7, 3) := by decide +kernel
theorem d_Mod_instance_113 : decode M_Mod_instance.2.1 113 = .ok (.iload_n 3, 1) := by decide +kernel
theorem d_Mod_instance_114 : decode M_Mod_instance.2.1 114 = .ok (.goto 7, 3) := by decide +kernel
theorem d_Mod_instance_117 : decode M_Mod_instance.2.1 117 = .ok (.iload_n 3, 1) := by decide +kernel
theorem d_Mod_instance_118 : decode M_Mod_instance.2.1 118 = .ok (.iload 9, 2) := by decide +kernel
theorem d_Mod_instance_120 : decode M_Mod_instance.2.1 120 = .ok (.ior, 1) := by decide +kernel
theorem d_Mod_instance_121 : decode M_Mod_instance.2.1 121 = .ok (.istore_n 3, 1) := by decide +kernel
theorem d_Mod_instance_122 : decode M_Mod_instance.2.1 122 = .ok (.aload_n 0, 1) := by decide +kernel
theorem d_Mod_instance_123 : decode M_Mod_instance.2.1 123 = .ok (.getfield 42, 3) := by decide +kernel
theorem d_Mod_instance_126 : decode M_Mod_instance.2.1 126 = .ok (.iload 5, 2) := by decide +kernel
theorem d_Mod_instance_128 : decode M_Mod_instance.2.1 128 = .ok (.baload, 1) := by decide +kernel
theorem d_Mod_instance_129 : decode M_Mod_instance.2.1 129 = .ok (.ifCond .eq 11, 3) := by decide +kernel
theorem d_Mod_instance_132 : decode M_Mod_instance.2.1 132 = .ok (.iload 4, 2) := by decide +kernel
theorem d_Mod_instance_134 : decode M_Mod_instance.2.1 134 = .ok (.iload 9, 2) := by decide +kernel
theorem d_Mod_instance_136 : decode M_Mod_instance.2.1 136 = .ok (.ior, 1) := by decide +kernel
theorem d_Mod_instance_137 : decode M_Mod_instance.2.1 137 = .ok (.goto 5, 3) := by decide +kernel
theorem d_Mod_instance_140 : decode M_Mod_instance.2.1 140 = .ok (.iload 4, 2) := by decide +kernel
theorem d_Mod_instance_142 : decode M_Mod_instance.2.1 142 = .ok (.istore 4, 2) := by decide +kernel
theorem d_Mod_instance_144 : decode M_Mod_instance.2.1 144 = .ok (.iinc 5 1, 3) := by decide +kernel
theorem d_Mod_instance_147 : decode M_Mod_instance.2.1 147 = .ok (.goto (-137), 3) := by decide +kernel
theorem d_Mod_instance_150 : decode M_Mod_instance.2.1 150 = .ok (.iload_n 3, 1) := by decide +kernel
theorem d_Mod_instance_151 : decode M_Mod_instance.2.1 151 = .ok (.iload 4, 2) := by decide +kernel
theorem d_Mod_instance_153 : decode M_Mod_instance.2.1 153 = .ok (.iand, 1) := by decide +kernel
theorem d_Mod_instance_154 : decode M_Mod_instance.2.1 154 = .ok (.ifCond .eq 7, 3) := by decide +kernel
theorem d_Mod_instance_157 : decode M_Mod_instance.2.1 157 = .ok (.iconst (-1), 1) := by decide +kernel
theorem d_Mod_instance_158 : decode M_Mod_instance.2.1 158 = .ok (.goto 11, 3) := by decide +kernel
theorem d_Mod_instance_161 : decode M_Mod_instance.2.1 161 = .ok (.iload_n 3, 1) := by decide +kernel
theorem d_Mod_instance_162 : decode M_Mod_instance.2.1 162 = .ok (.sipush 4096, 3) := by decide +kernel
theorem d_Mod_instance_165 : decode M_Mod_instance.2.1 165 = .ok (.iload 4, 2) := by decide +kernel
theorem d_Mod_instance_167 : decode M_Mod_instance.2.1 167 = .ok (.imul, 1) := by decide +kernel
theorem d_Mod_instance_168 : decode M_Mod_instance.2.1 168 = .ok (.iadd, 1) := by decide +kernel
theorem d_Mod_instance_169 : decode M_Mod_instance.2.1 169 = .ok (.ireturn, 1) := by decide +kernel
theorem d_Mod_instances_0 : decode M_Mod_instances.2.1 0 = .ok (.aload_n 0, 1) := by decide +kernel
theorem d_Mod_instances_1 : decode M_Mod_instances.2.1 1 = .ok (.iconst 0, 1) := by decide +kernel
theorem d_Mod_instances_2 : decode M_Mod_instances.2.1 2 = .ok (.putfield 63, 3) := by decide +kernel
theorem d_Mod_instances_5 : decode M_Mod_instances.2.1 5 = .ok (.aload_n 0, 1) := by decide +kernel
theorem d_Mod_instances_6 : decode M_Mod_instances.2.1 6 = .ok (.invokevirtual 146, 3) := by decide +kernel
theorem d_Mod_instances_9 : decode M_Mod_instances.2.1 9 = .ok (.ireturn, 1) := by decide +kernel
theorem d_Mod_instancesOf_0 : decode M_Mod_instancesOf.2.1 0 = .ok (.aload_n 0, 1) := by decide +kernel
theorem d_Mod_instancesOf_1 : decode M_Mod_instancesOf.2.1 1 = .ok (.iconst 0, 1) := by decide +kernel
theorem d_Mod_instancesOf_2 : decode M_Mod_instancesOf.2.1 2 = .ok (.putfield 63, 3) := by decide +kernel
theorem d_Mod_instancesOf_5 : decode M_Mod_instancesOf.2.1 5 = .ok (.aload_n 0, 1) := by decide +kernel
theorem d_Mod_instancesOf_6 : decode M_Mod_instancesOf.2.1 6 = .ok (.iload_n 1, 1) := by decide +kernel
theorem d_Mod_instancesOf_7 : decode M_Mod_instancesOf.2.1 7 = .ok (.invokevirtual 149, 3) := by decide +kernel
theorem d_Mod_instancesOf_10 : decode M_Mod_instancesOf.2.1 10 = .ok (.ifCond .eq 12, 3) := by decide +kernel
theorem d_Mod_instancesOf_13 : decode M_Mod_instancesOf.2.1 13 = .ok (.aload_n 0, 1) := by decide +kernel
theorem d_Mod_instancesOf_14 : decode M_Mod_instancesOf.2.1 14 = .ok (.getfield 57, 3) := by decide +kernel
theorem d_Mod_instancesOf_17 : decode M_Mod_instancesOf.2.1 17 = .ok (.iload_n 1, 1) := by decide +kernel
theorem d_Mod_instancesOf_18 : decode M_Mod_instancesOf.2.1 18 = .ok (.iaload, 1) := by decide +kernel
theorem d_Mod_instancesOf_19 : decode M_Mod_instancesOf.2.1 19 = .ok (.goto 4, 3) := by decide +kernel
theorem d_Mod_instancesOf_22 : decode M_Mod_instancesOf.2.1 22 = .ok (.iconst (-1), 1) := by decide +kernel
theorem d_Mod_instancesOf_23 : decode M_Mod_instancesOf.2.1 23 = .ok (.ireturn, 1) := by decide +kernel
theorem d_Mod_isClause_0 : decode M_Mod_isClause.2.1 0 = .ok (.iload_n 1, 1) := by decide +kernel
theorem d_Mod_isClause_1 : decode M_Mod_isClause.2.1 1 = .ok (.ifCond .lt 15, 3) := by decide +kernel
theorem d_Mod_isClause_4 : decode M_Mod_isClause.2.1 4 = .ok (.iload_n 1, 1) := by decide +kernel
theorem d_Mod_isClause_5 : decode M_Mod_isClause.2.1 5 = .ok (.aload_n 0, 1) := by decide +kernel
theorem d_Mod_isClause_6 : decode M_Mod_isClause.2.1 6 = .ok (.getfield 105, 3) := by decide +kernel
theorem d_Mod_isClause_9 : decode M_Mod_isClause.2.1 9 = .ok (.if_icmp .ge 7, 3) := by decide +kernel
theorem d_Mod_isClause_12 : decode M_Mod_isClause.2.1 12 = .ok (.iconst 1, 1) := by decide +kernel
theorem d_Mod_isClause_13 : decode M_Mod_isClause.2.1 13 = .ok (.goto 4, 3) := by decide +kernel
theorem d_Mod_isClause_16 : decode M_Mod_isClause.2.1 16 = .ok (.iconst 0, 1) := by decide +kernel
theorem d_Mod_isClause_17 : decode M_Mod_isClause.2.1 17 = .ok (.ireturn, 1) := by decide +kernel
theorem d_Mod_isRight_0 : decode M_Mod_isRight.2.1 0 = .ok (.iload_n 0, 1) := by decide +kernel
theorem d_Mod_isRight_1 : decode M_Mod_isRight.2.1 1 = .ok (.sipush 4095, 3) := by decide +kernel
theorem d_Mod_isRight_4 : decode M_Mod_isRight.2.1 4 = .ok (.iand, 1) := by decide +kernel
theorem d_Mod_isRight_5 : decode M_Mod_isRight.2.1 5 = .ok (.iload_n 1, 1) := by decide +kernel
theorem d_Mod_isRight_6 : decode M_Mod_isRight.2.1 6 = .ok (.iand, 1) := by decide +kernel
theorem d_Mod_isRight_7 : decode M_Mod_isRight.2.1 7 = .ok (.ifCond .ne 15, 3) := by decide +kernel
theorem d_Mod_isRight_10 : decode M_Mod_isRight.2.1 10 = .ok (.iload_n 0, 1) := by decide +kernel
theorem d_Mod_isRight_11 : decode M_Mod_isRight.2.1 11 = .ok (.sipush 4096, 3) := by decide +kernel
theorem d_Mod_isRight_14 : decode M_Mod_isRight.2.1 14 = .ok (.idiv, 1) := by decide +kernel
theorem d_Mod_isRight_15 : decode M_Mod_isRight.2.1 15 = .ok (.iload_n 1, 1) := by decide +kernel
theorem d_Mod_isRight_16 : decode M_Mod_isRight.2.1 16 = .ok (.iconst (-1), 1) := by decide +kernel
theorem d_Mod_isRight_17 : decode M_Mod_isRight.2.1 17 = .ok (.ixor, 1) := by decide +kernel
theorem d_Mod_isRight_18 : decode M_Mod_isRight.2.1 18 = .ok (.iand, 1) := by decide +kernel
theorem d_Mod_isRight_19 : decode M_Mod_isRight.2.1 19 = .ok (.ifCond .eq 7, 3) := by decide +kernel
theorem d_Mod_isRight_22 : decode M_Mod_isRight.2.1 22 = .ok (.iconst 1, 1) := by decide +kernel
theorem d_Mod_isRight_23 : decode M_Mod_isRight.2.1 23 = .ok (.goto 4, 3) := by decide +kernel
theorem d_Mod_isRight_26 : decode M_Mod_isRight.2.1 26 = .ok (.iconst 0, 1) := by decide +kernel
theorem d_Mod_isRight_27 : decode M_Mod_isRight.2.1 27 = .ok (.ireturn, 1) := by decide +kernel
theorem d_Mod_isThing_0 : decode M_Mod_isThing.2.1 0 = .ok (.iload_n 1, 1) := by decide +kernel
theorem d_Mod_isThing_1 : decode M_Mod_isThing.2.1 1 = .ok (.ifCond .lt 24, 3) := by decide +kernel
theorem d_Mod_isThing_4 : decode M_Mod_isThing.2.1 4 = .ok (.iload_n 1, 1) := by decide +kernel
theorem d_Mod_isThing_5 : decode M_Mod_isThing.2.1 5 = .ok (.iconst 3, 1) := by decide +kernel
theorem d_Mod_isThing_6 : decode M_Mod_isThing.2.1 6 = .ok (.if_icmp .ge 19, 3) := by decide +kernel
theorem d_Mod_isThing_9 : decode M_Mod_isThing.2.1 9 = .ok (.aload_n 0, 1) := by decide +kernel
theorem d_Mod_isThing_10 : decode M_Mod_isThing.2.1 10 = .ok (.getfield 98, 3) := by decide +kernel
theorem d_Mod_isThing_13 : decode M_Mod_isThing.2.1 13 = .ok (.iload_n 1, 1) := by decide +kernel
theorem d_Mod_isThing_14 : decode M_Mod_isThing.2.1 14 = .ok (.ishr, 1) := by decide +kernel
theorem d_Mod_isThing_15 : decode M_Mod_isThing.2.1 15 = .ok (.iconst 1, 1) := by decide +kernel
theorem d_Mod_isThing_16 : decode M_Mod_isThing.2.1 16 = .ok (.iand, 1) := by decide +kernel
theorem d_Mod_isThing_17 : decode M_Mod_isThing.2.1 17 = .ok (.iconst 1, 1) := by decide +kernel
theorem d_Mod_isThing_18 : decode M_Mod_isThing.2.1 18 = .ok (.if_icmp .ne 7, 3) := by decide +kernel
theorem d_Mod_isThing_21 : decode M_Mod_isThing.2.1 21 = .ok (.iconst 1, 1) := by decide +kernel
theorem d_Mod_isThing_22 : decode M_Mod_isThing.2.1 22 = .ok (.goto 4, 3) := by decide +kernel
theorem d_Mod_isThing_25 : decode M_Mod_isThing.2.1 25 = .ok (.iconst 0, 1) := by decide +kernel
theorem d_Mod_isThing_26 : decode M_Mod_isThing.2.1 26 = .ok (.ireturn, 1) := by decide +kernel
theorem d_Mod_least_0 : decode M_Mod_least.2.1 0 = .ok (.aload_n 0, 1) := by decide +kernel
theorem d_Mod_least_1 : decode M_Mod_least.2.1 1 = .ok (.aload_n 0, 1) := by decide +kernel
theorem d_Mod_least_2 : decode M_Mod_least.2.1 2 = .ok (.getfield 101, 3) := by decide +kernel
theorem d_Mod_least_5 : decode M_Mod_least.2.1 5 = .ok (.ifCond .eq 7, 3) := by decide +kernel
theorem d_Mod_least_8 : decode M_Mod_least.2.1 8 = .ok (.iconst 0, 1) := by decide +kernel
theorem d_Mod_least_9 : decode M_Mod_least.2.1 9 = .ok (.goto 4, 3) := by decide +kernel
theorem d_Mod_least_12 : decode M_Mod_least.2.1 12 = .ok (.iconst 1, 1) := by decide +kernel
theorem d_Mod_least_13 : decode M_Mod_least.2.1 13 = .ok (.putfield 63, 3) := by decide +kernel
theorem d_Mod_least_16 : decode M_Mod_least.2.1 16 = .ok (.iconst 0, 1) := by decide +kernel
theorem d_Mod_least_17 : decode M_Mod_least.2.1 17 = .ok (.istore_n 1, 1) := by decide +kernel
theorem d_Mod_least_18 : decode M_Mod_least.2.1 18 = .ok (.iload_n 1, 1) := by decide +kernel
theorem d_Mod_least_19 : decode M_Mod_least.2.1 19 = .ok (.iconst 1, 1) := by decide +kernel
theorem d_Mod_least_20 : decode M_Mod_least.2.1 20 = .ok (.aload_n 0, 1) := by decide +kernel
theorem d_Mod_least_21 : decode M_Mod_least.2.1 21 = .ok (.getfield 108, 3) := by decide +kernel
theorem d_Mod_least_24 : decode M_Mod_least.2.1 24 = .ok (.ishl, 1) := by decide +kernel
theorem d_Mod_least_25 : decode M_Mod_least.2.1 25 = .ok (.if_icmp .ge 38, 3) := by decide +kernel
theorem d_Mod_least_28 : decode M_Mod_least.2.1 28 = .ok (.aload_n 0, 1) := by decide +kernel
theorem d_Mod_least_29 : decode M_Mod_least.2.1 29 = .ok (.getfield 63, 3) := by decide +kernel
theorem d_Mod_least_32 : decode M_Mod_least.2.1 32 = .ok (.ifCond .ne 31, 3) := by decide +kernel
theorem d_Mod_least_35 : decode M_Mod_least.2.1 35 = .ok (.aload_n 0, 1) := by decide +kernel
theorem d_Mod_least_36 : decode M_Mod_least.2.1 36 = .ok (.aload_n 0, 1) := by decide +kernel
theorem d_Mod_least_37 : decode M_Mod_least.2.1 37 = .ok (.invokevirtual 155, 3) := by decide +kernel
theorem d_Mod_least_40 : decode M_Mod_least.2.1 40 = .ok (.aload_n 0, 1) := by decide +kernel
theorem d_Mod_least_41 : decode M_Mod_least.2.1 41 = .ok (.iload_n 1, 1) := by decide +kernel
theorem d_Mod_least_42 : decode M_Mod_least.2.1 42 = .ok (.invokevirtual 161, 3) := by decide +kernel
theorem d_Mod_least_45 : decode M_Mod_least.2.1 45 = .ok (.invokevirtual 152, 3) := by decide +kernel
theorem d_Mod_least_48 : decode M_Mod_least.2.1 48 = .ok (.ifCond .eq 9, 3) := by decide +kernel
theorem d_Mod_least_51 : decode M_Mod_least.2.1 51 = .ok (.aload_n 0, 1) := by decide +kernel
theorem d_Mod_least_52 : decode M_Mod_least.2.1 52 = .ok (.iload_n 1, 1) := by decide +kernel
theorem d_Mod_least_53 : decode M_Mod_least.2.1 53 = .ok (.invokevirtual 161, 3) := by decide +kernel
theorem d_Mod_least_56 : decode M_Mod_least.2.1 56 = .ok (.ireturn, 1) := by decide +kernel
theorem d_Mod_least_57 : decode M_Mod_least.2.1 57 = .ok (.iinc 1 1, 3) := by decide +kernel
theorem d_Mod_least_60 : decode M_Mod_least.2.1 60 = .ok (.goto (-42), 3) := by decide +kernel
theorem d_Mod_least_63 : decode M_Mod_least.2.1 63 = .ok (.aload_n 0, 1) := by decide +kernel
theorem d_Mod_least_64 : decode M_Mod_least.2.1 64 = .ok (.aload_n 0, 1) := by decide +kernel
theorem d_Mod_least_65 : decode M_Mod_least.2.1 65 = .ok (.getfield 63, 3) := by decide +kernel
theorem d_Mod_least_68 : decode M_Mod_least.2.1 68 = .ok (.ifCond .le 10, 3) := by decide +kernel
theorem d_Mod_least_71 : decode M_Mod_least.2.1 71 = .ok (.aload_n 0, 1) := by decide +kernel
theorem d_Mod_least_72 : decode M_Mod_least.2.1 72 = .ok (.getfield 63, 3) := by decide +kernel
theorem d_Mod_least_75 : decode M_Mod_least.2.1 75 = .ok (.goto 4, 3) := by decide +kernel
theorem d_Mod_least_78 : decode M_Mod_least.2.1 78 = .ok (.iconst 2, 1) := by decide +kernel
theorem d_Mod_least_79 : decode M_Mod_least.2.1 79 = .ok (.putfield 63, 3) := by decide +kernel
theorem d_Mod_least_82 : decode M_Mod_least.2.1 82 = .ok (.iconst 0, 1) := by decide +kernel
theorem d_Mod_least_83 : decode M_Mod_least.2.1 83 = .ok (.ireturn, 1) := by decide +kernel
theorem d_Mod_makeInstances_0 : decode M_Mod_makeInstances.2.1 0 = .ok (.aload_n 0, 1) := by decide +kernel
theorem d_Mod_makeInstances_1 : decode M_Mod_makeInstances.2.1 1 = .ok (.getfield 57, 3) := by decide +kernel
theorem d_Mod_makeInstances_4 : decode M_Mod_makeInstances.2.1 4 = .ok (.iload_n 1, 1) := by decide +kernel
theorem d_Mod_makeInstances_5 : decode M_Mod_makeInstances.2.1 5 = .ok (.iconst 0, 1) := by decide +kernel
theorem d_Mod_makeInstances_6 : decode M_Mod_makeInstances.2.1 6 = .ok (.iastore, 1) := by decide +kernel
theorem d_Mod_makeInstances_7 : decode M_Mod_makeInstances.2.1 7 = .ok (.iconst 0, 1) := by decide +kernel
theorem d_Mod_makeInstances_8 : decode M_Mod_makeInstances.2.1 8 = .ok (.istore_n 2, 1) := by decide +kernel
theorem d_Mod_makeInstances_9 : decode M_Mod_makeInstances.2.1 9 = .ok (.iload_n 2, 1) := by decide +kernel
theorem d_Mod_makeInstances_10 : decode M_Mod_makeInstances.2.1 10 = .ok (.bipush 27, 2) := by decide +kernel
theorem d_Mod_makeInstances_12 : decode M_Mod_makeInstances.2.1 12 = .ok (.if_icmp .ge 133, 3) := by decide +kernel
theorem d_Mod_makeInstances_15 : decode M_Mod_makeInstances.2.1 15 = .ok (.iload_n 2, 1) := by decide +kernel
theorem d_Mod_makeInstances_16 : decode M_Mod_makeInstances.2.1 16 = .ok (.iconst 3, 1) := by decide +kernel
theorem d_Mod_makeInstances_17 : decode M_Mod_makeInstances.2.1 17 = .ok (.irem, 1) := by decide +kernel
theorem d_Mod_makeInstances_18 : decode M_Mod_makeInstances.2.1 18 = .ok (.iload_n 2, 1) := by decide +kernel
theorem d_Mod_makeInstances_19 : decode M_Mod_makeInstances.2.1 19 = .ok (.iconst 3, 1) := by decide +kernel
theorem d_Mod_makeInstances_20 : decode M_Mod_makeInstances.2.1 20 = .ok (.idiv, 1) := by decide +kernel
theorem d_Mod_makeInstances_21 : decode M_Mod_makeInstances.2.1 21 = .ok (.iconst 3, 1) := by decide +kernel
theorem d_Mod_makeInstances_22 : decode M_Mod_makeInstances.2.1 22 = .ok (.irem, 1) := by decide +kernel
theorem d_Mod_makeInstances_23 : decode M_Mod_makeInstances.2.1 23 = .ok (.iconst 4, 1) := by decide +kernel
theorem d_Mod_makeInstances_24 : decode M_Mod_makeInstances.2.1 24 = .ok (.ishl, 1) := by decide +kernel
theorem d_Mod_makeInstances_25 : decode M_Mod_makeInstances.2.1 25 = .ok (.iadd, 1) := by decide +kernel
theorem d_Mod_makeInstances_26 : decode M_Mod_makeInstances.2.1 26 = .ok (.iload_n 2, 1) := by decide +kernel
theorem d_Mod_makeInstances_27 : decode M_Mod_makeInstances.2.1 27 = .ok (.bipush 9, 2) := by decide +kernel
theorem d_Mod_makeInstances_29 : decode M_Mod_makeInstances.2.1 29 = .ok (.idiv, 1) := by decide +kernel
theorem d_Mod_makeInstances_30 : decode M_Mod_makeInstances.2.1 30 = .ok (.bipush 8, 2) := by decide +kernel
theorem d_Mod_makeInstances_32 : decode M_Mod_makeInstances.2.1 32 = .ok (.ishl, 1) := by decide +kernel
theorem d_Mod_makeInstances_33 : decode M_Mod_makeInstances.2.1 33 = .ok (.iadd, 1) := by decide +kernel
theorem d_Mod_makeInstances_34 : decode M_Mod_makeInstances.2.1 34 = .ok (.istore_n 3, 1) := by decide +kernel
theorem d_Mod_makeInstances_35 : decode M_Mod_makeInstances.2.1 35 = .ok (.aload_n 0, 1) := by decide +kernel
theorem d_Mod_makeInstances_36 : decode M_Mod_makeInstances.2.1 36 = .ok (.iload_n 2, 1) := by decide +kernel
theorem d_Mod_makeInstances_37 : decode M_Mod_makeInstances.2.1 37 = .ok (.iconst 3, 1) := by decide +kernel
theorem d_Mod_makeInstances_38 : decode M_Mod_makeInstances.2.1 38 = .ok (.irem, 1) := by decide +kernel
theorem d_Mod_makeInstances_39 : decode M_Mod_makeInstances.2.1 39 = .ok (.invokevirtual 118, 3) := by decide +kernel
theorem d_Mod_makeInstances_42 : decode M_Mod_makeInstances.2.1 42 = .ok (.ifCond .eq 30, 3) := by decide +kernel
theorem d_Mod_makeInstances_45 : decode M_Mod_makeInstances.2.1 45 = .ok (.aload_n 0, 1) := by decide +kernel
theorem d_Mod_makeInstances_46 : decode M_Mod_makeInstances.2.1 46 = .ok (.iload_n 2, 1) := by decide +kernel
theorem d_Mod_makeInstances_47 : decode M_Mod_makeInstances.2.1 47 = .ok (.iconst 3, 1) := by decide +kernel
theorem d_Mod_makeInstances_48 : decode M_Mod_makeInstances.2.1 48 = .ok (.idiv, 1) := by decide +kernel
theorem d_Mod_makeInstances_49 : decode M_Mod_makeInstances.2.1 49 = .ok (.iconst 3, 1) := by decide +kernel
theorem d_Mod_makeInstances_50 : decode M_Mod_makeInstances.2.1 50 = .ok (.irem, 1) := by decide +kernel
theorem d_Mod_makeInstances_51 : decode M_Mod_makeInstances.2.1 51 = .ok (.invokevirtual 118, 3) := by decide +kernel
theorem d_Mod_makeInstances_54 : decode M_Mod_makeInstances.2.1 54 = .ok (.ifCond .eq 18, 3) := by decide +kernel
theorem d_Mod_makeInstances_57 : decode M_Mod_makeInstances.2.1 57 = .ok (.aload_n 0, 1) := by decide +kernel
theorem d_Mod_makeInstances_58 : decode M_Mod_makeInstances.2.1 58 = .ok (.iload_n 2, 1) := by decide +kernel
theorem d_Mod_makeInstances_59 : decode M_Mod_makeInstances.2.1 59 = .ok (.bipush 9, 2) := by decide +kernel
theorem d_Mod_makeInstances_61 : decode M_Mod_makeInstances.2.1 61 = .ok (.idiv, 1) := by decide +kernel
theorem d_Mod_makeInstances_62 : decode M_Mod_makeInstances.2.1 62 = .ok (.invokevirtual 118, 3) := by decide +kernel
theorem d_Mod_makeInstances_65 : decode M_Mod_makeInstances.2.1 65 = .ok (.ifCond .eq 7, 3) := by decide +kernel
theorem d_Mod_makeInstances_68 : decode M_Mod_makeInstances.2.1 68 = .ok (.iconst 1, 1) := by decide +kernel
theorem d_Mod_makeInstances_69 : decode M_Mod_makeInstances.2.1 69 = .ok (.goto 4, 3) := by decide +kernel
theorem d_Mod_makeInstances_72 : decode M_Mod_makeInstances.2.1 72 = .ok (.iconst 0, 1) := by decide +kernel
theorem d_Mod_makeInstances_73 : decode M_Mod_makeInstances.2.1 73 = .ok (.istore 4, 2) := by decide +kernel
theorem d_Mod_makeInstances_75 : decode M_Mod_makeInstances.2.1 75 = .ok (.iload 4, 2) := by decide +kernel
theorem d_Mod_makeInstances_77 : decode M_Mod_makeInstances.2.1 77 = .ok (.ifCond .eq 12, 3) := by decide +kernel
theorem d_Mod_makeInstances_80 : decode M_Mod_makeInstances.2.1 80 = .ok (.aload_n 0, 1) := by decide +kernel
theorem d_Mod_makeInstances_81 : decode M_Mod_makeInstances.2.1 81 = .ok (.iload_n 1, 1) := by decide +kernel
theorem d_Mod_makeInstances_82 : decode M_Mod_makeInstances.2.1 82 = .ok (.iload_n 3, 1) := by decide +kernel
theorem d_Mod_makeInstances_83 : decode M_Mod_makeInstances.2.1 83 = .ok (.invokevirtual 122, 3) := by decide +kernel
theorem d_Mod_makeInstances_86 : decode M_Mod_makeInstances.2.1 86 = .ok (.goto 4, 3) := by decide +kernel
theorem d_Mod_makeInstances_89 : decode M_Mod_makeInstances.2.1 89 = .ok (.iconst (-1), 1) := by decide +kernel
theorem d_Mod_makeInstances_90 : decode M_Mod_makeInstances.2.1 90 = .ok (.istore 5, 2) := by decide +kernel
theorem d_Mod_makeInstances_92 : decode M_Mod_makeInstances.2.1 92 = .ok (.iload 5, 2) := by decide +kernel
theorem d_Mod_makeInstances_94 : decode M_Mod_makeInstances.2.1 94 = .ok (.ifCond .lt 45, 3) := by decide +kernel
theorem d_Mod_makeInstances_97 : decode M_Mod_makeInstances.2.1 97 = .ok (.aload_n 0, 1) := by decide +kernel
theorem d_Mod_makeInstances_98 : decode M_Mod_makeInstances.2.1 98 = .ok (.iload_n 1, 1) := by decide +kernel
theorem d_Mod_makeInstances_99 : decode M_Mod_makeInstances.2.1 99 = .ok (.iload 5, 2) := by decide +kernel
theorem d_Mod_makeInstances_101 : decode M_Mod_makeInstances.2.1 101 = .ok (.invokevirtual 125, 3) := by decide +kernel
theorem d_Mod_makeInstances_104 : decode M_Mod_makeInstances.2.1 104 = .ok (.ifCond .ne 35, 3) := by decide +kernel
theorem d_Mod_makeInstances_107 : decode M_Mod_makeInstances.2.1 107 = .ok (.aload_n 0, 1) := by decide +kernel
theorem d_Mod_makeInstances_108 : decode M_Mod_makeInstances.2.1 108 = .ok (.getfield 54, 3) := by decide +kernel
theorem d_Mod_makeInstances_111 : decode M_Mod_makeInstances.2.1 111 = .ok (.bipush 27, 2) := by decide +kernel
theorem d_Mod_makeInstances_113 : decode M_Mod_makeInstances.2.1 113 = .ok (.iload_n 1, 1) := by decide +kernel
theorem d_Mod_makeInstances_114 : decode M_Mod_makeInstances.2.1 114 = .ok (.imul, 1) := by decide +kernel
theorem d_Mod_makeInstances_115 : decode M_Mod_makeInstances.2.1 115 = .ok (.aload_n 0, 1) := by decide +kernel
theorem d_Mod_makeInstances_116 : decode M_Mod_makeInstances.2.1 116 = .ok (.getfield 57, 3) := by decide +kernel
theorem d_Mod_makeInstances_119 : decode M_Mod_makeInstances.2.1 119 = .ok (.iload_n 1, 1) := by decide +kernel
theorem d_Mod_makeInstances_120 : decode M_Mod_makeInstances.2.1 120 = .ok (.iaload, 1) := by decide +kernel
theorem d_Mod_makeInstances_121 : decode M_Mod_makeInstances.2.1 121 = .ok (.iadd, 1) := by decide +kernel
theorem d_Mod_makeInstances_122 : decode M_Mod_makeInstances.2.1 122 = .ok (.iload 5, 2) := by decide +kernel
theorem d_Mod_makeInstances_124 : decode M_Mod_makeInstances.2.1 124 = .ok (.iastore, 1) := by decide +kernel
theorem d_Mod_makeInstances_125 : decode M_Mod_makeInstances.2.1 125 = .ok (.aload_n 0, 1) := by decide +kernel
theorem d_Mod_makeInstances_126 : decode M_Mod_makeInstances.2.1 126 = .ok (.getfield 57, 3) := by decide +kernel
theorem d_Mod_makeInstances_129 : decode M_Mod_makeInstances.2.1 129 = .ok (.iload_n 1, 1) := by decide +kernel
theorem d_Mod_makeInstances_130 : decode M_Mod_makeInstances.2.1 130 = .ok (.aload_n 0, 1) := by decide +kernel
theorem d_Mod_makeInstances_131 : decode M_Mod_makeInstances.2.1 131 = .ok (.getfield 57, 3) := by decide +kernel
theorem d_Mod_makeInstances_134 : decode M_Mod_makeInstances.2.1 134 = .ok (.iload_n 1, 1) := by decide +kernel
theorem d_Mod_makeInstances_135 : decode M_Mod_makeInstances.2.1 135 = .ok (.iaload, 1) := by decide +kernel
theorem d_Mod_makeInstances_136 : decode M_Mod_makeInstances.2.1 136 = .ok (.iconst 1, 1) := by decide +kernel
theorem d_Mod_makeInstances_137 : decode M_Mod_makeInstances.2.1 137 = .ok (.iadd, 1) := by decide +kernel
theorem d_Mod_makeInstances_138 : decode M_Mod_makeInstances.2.1 138 = .ok (.iastore, 1) := by decide +kernel
theorem d_Mod_makeInstances_139 : decode M_Mod_makeInstances.2.1 139 = .ok (.iinc 2 1, 3) := by decide +kernel
theorem d_Mod_makeInstances_142 : decode M_Mod_makeInstances.2.1 142 = .ok (.goto (-133), 3) := by decide +kernel
theorem d_Mod_makeInstances_145 : decode M_Mod_makeInstances.2.1 145 = .ok (.return_, 1) := by decide +kernel
theorem d_Mod_predicateOf_0 : decode M_Mod_predicateOf.2.1 0 = .ok (.iload_n 0, 1) := by decide +kernel
theorem d_Mod_predicateOf_1 : decode M_Mod_predicateOf.2.1 1 = .ok (.bipush 80, 2) := by decide +kernel
theorem d_Mod_predicateOf_3 : decode M_Mod_predicateOf.2.1 3 = .ok (.if_icmp .lt 16, 3) := by decide +kernel
theorem d_Mod_predicateOf_6 : decode M_Mod_predicateOf.2.1 6 = .ok (.iload_n 0, 1) := by decide +kernel
theorem d_Mod_predicateOf_7 : decode M_Mod_predicateOf.2.1 7 = .ok (.bipush 83, 2) := by decide +kernel
theorem d_Mod_predicateOf_9 : decode M_Mod_predicateOf.2.1 9 = .ok (.if_icmp .gt 10, 3) := by decide +kernel
theorem d_Mod_predicateOf_12 : decode M_Mod_predicateOf.2.1 12 = .ok (.iload_n 0, 1) := by decide +kernel
theorem d_Mod_predicateOf_13 : decode M_Mod_predicateOf.2.1 13 = .ok (.bipush 80, 2) := by decide +kernel
theorem d_Mod_predicateOf_15 : decode M_Mod_predicateOf.2.1 15 = .ok (.isub, 1) := by decide +kernel
theorem d_Mod_predicateOf_16 : decode M_Mod_predicateOf.2.1 16 = .ok (.goto 4, 3) := by decide +kernel
theorem d_Mod_predicateOf_19 : decode M_Mod_predicateOf.2.1 19 = .ok (.iconst (-1), 1) := by decide +kernel
theorem d_Mod_predicateOf_20 : decode M_Mod_predicateOf.2.1 20 = .ok (.ireturn, 1) := by decide +kernel
theorem d_Mod_read_0 : decode M_Mod_read.2.1 0 = .ok (.aload_n 0, 1) := by decide +kernel
theorem d_Mod_read_1 : decode M_Mod_read.2.1 1 = .ok (.aload_n 0, 1) := by decide +kernel
theorem d_Mod_read_2 : decode M_Mod_read.2.1 2 = .ok (.invokevirtual 132, 3) := by decide +kernel
theorem d_Mod_read_5 : decode M_Mod_read.2.1 5 = .ok (.putfield 13, 3) := by decide +kernel
theorem d_Mod_read_8 : decode M_Mod_read.2.1 8 = .ok (.aload_n 0, 1) := by decide +kernel
theorem d_Mod_read_9 : decode M_Mod_read.2.1 9 = .ok (.aload_n 0, 1) := by decide +kernel
theorem d_Mod_read_10 : decode M_Mod_read.2.1 10 = .ok (.getfield 13, 3) := by decide +kernel
theorem d_Mod_read_13 : decode M_Mod_read.2.1 13 = .ok (.ifCond .lt 7, 3) := by decide +kernel
theorem d_Mod_read_16 : decode M_Mod_read.2.1 16 = .ok (.iconst 1, 1) := by decide +kernel
theorem d_Mod_read_17 : decode M_Mod_read.2.1 17 = .ok (.goto 4, 3) := by decide +kernel
theorem d_Mod_read_20 : decode M_Mod_read.2.1 20 = .ok (.iconst 0, 1) := by decide +kernel
theorem d_Mod_read_21 : decode M_Mod_read.2.1 21 = .ok (.putfield 63, 3) := by decide +kernel
theorem d_Mod_read_24 : decode M_Mod_read.2.1 24 = .ok (.aload_n 0, 1) := by decide +kernel
theorem d_Mod_read_25 : decode M_Mod_read.2.1 25 = .ok (.getfield 63, 3) := by decide +kernel
theorem d_Mod_read_28 : decode M_Mod_read.2.1 28 = .ok (.ifCond .le 5, 3) := by decide +kernel
theorem d_Mod_read_31 : decode M_Mod_read.2.1 31 = .ok (.iconst 0, 1) := by decide +kernel
theorem d_Mod_read_32 : decode M_Mod_read.2.1 32 = .ok (.ireturn, 1) := by decide +kernel
theorem d_Mod_read_33 : decode M_Mod_read.2.1 33 = .ok (.aload_n 0, 1) := by decide +kernel
theorem d_Mod_read_34 : decode M_Mod_read.2.1 34 = .ok (.invokevirtual 136, 3) := by decide +kernel
theorem d_Mod_read_37 : decode M_Mod_read.2.1 37 = .ok (.aload_n 0, 1) := by decide +kernel
theorem d_Mod_read_38 : decode M_Mod_read.2.1 38 = .ok (.iconst 0, 1) := by decide +kernel
theorem d_Mod_read_39 : decode M_Mod_read.2.1 39 = .ok (.putfield 68, 3) := by decide +kernel
theorem d_Mod_read_42 : decode M_Mod_read.2.1 42 = .ok (.iconst 0, 1) := by decide +kernel
theorem d_Mod_read_43 : decode M_Mod_read.2.1 43 = .ok (.istore_n 1, 1) := by decide +kernel
theorem d_Mod_read_44 : decode M_Mod_read.2.1 44 = .ok (.iload_n 1, 1) := by decide +kernel
theorem d_Mod_read_45 : decode M_Mod_read.2.1 45 = .ok (.aload_n 0, 1) := by decide +kernel
theorem d_Mod_read_46 : decode M_Mod_read.2.1 46 = .ok (.getfield 105, 3) := by decide +kernel
theorem d_Mod_read_49 : decode M_Mod_read.2.1 49 = .ok (.if_icmp .ge 19, 3) := by decide +kernel
theorem d_Mod_read_52 : decode M_Mod_read.2.1 52 = .ok (.aload_n 0, 1) := by decide +kernel
theorem d_Mod_read_53 : decode M_Mod_read.2.1 53 = .ok (.iload_n 1, 1) := by decide +kernel
theorem d_Mod_read_54 : decode M_Mod_read.2.1 54 = .ok (.invokevirtual 139, 3) := by decide +kernel
theorem d_Mod_read_57 : decode M_Mod_read.2.1 57 = .ok (.aload_n 0, 1) := by decide +kernel
theorem d_Mod_read_58 : decode M_Mod_read.2.1 58 = .ok (.iload_n 1, 1) := by decide +kernel
theorem d_Mod_read_59 : decode M_Mod_read.2.1 59 = .ok (.invokevirtual 143, 3) := by decide +kernel
theorem d_Mod_read_62 : decode M_Mod_read.2.1 62 = .ok (.iinc 1 1, 3) := by decide +kernel
theorem d_Mod_read_65 : decode M_Mod_read.2.1 65 = .ok (.goto (-21), 3) := by decide +kernel
theorem d_Mod_read_68 : decode M_Mod_read.2.1 68 = .ok (.aload_n 0, 1) := by decide +kernel
theorem d_Mod_read_69 : decode M_Mod_read.2.1 69 = .ok (.invokevirtual 146, 3) := by decide +kernel
theorem d_Mod_read_72 : decode M_Mod_read.2.1 72 = .ok (.ireturn, 1) := by decide +kernel
theorem d_Mod_readLiteral_0 : decode M_Mod_readLiteral.2.1 0 = .ok (.iload_n 2, 1) := by decide +kernel
theorem d_Mod_readLiteral_1 : decode M_Mod_readLiteral.2.1 1 = .ok (.istore_n 3, 1) := by decide +kernel
theorem d_Mod_readLiteral_2 : decode M_Mod_readLiteral.2.1 2 = .ok (.aload_n 0, 1) := by decide +kernel
theorem d_Mod_readLiteral_3 : decode M_Mod_readLiteral.2.1 3 = .ok (.getfield 23, 3) := by decide +kernel
theorem d_Mod_readLiteral_6 : decode M_Mod_readLiteral.2.1 6 = .ok (.iload_n 1, 1) := by decide +kernel
theorem d_Mod_readLiteral_7 : decode M_Mod_readLiteral.2.1 7 = .ok (.aload_n 0, 1) := by decide +kernel
theorem d_Mod_readLiteral_8 : decode M_Mod_readLiteral.2.1 8 = .ok (.iload_n 3, 1) := by decide +kernel
theorem d_Mod_readLiteral_9 : decode M_Mod_readLiteral.2.1 9 = .ok (.invokevirtual 75, 3) := by decide +kernel
theorem d_Mod_readLiteral_12 : decode M_Mod_readLiteral.2.1 12 = .ok (.bipush 45, 2) := by decide +kernel
theorem d_Mod_readLiteral_14 : decode M_Mod_readLiteral.2.1 14 = .ok (.if_icmp .ne 7, 3) := by decide +kernel
theorem d_Mod_readLiteral_17 : decode M_Mod_readLiteral.2.1 17 = .ok (.iconst 1, 1) := by decide +kernel
theorem d_Mod_readLiteral_18 : decode M_Mod_readLiteral.2.1 18 = .ok (.goto 4, 3) := by decide +kernel
theorem d_Mod_readLiteral_21 : decode M_Mod_readLiteral.2.1 21 = .ok (.iconst 0, 1) := by decide +kernel
theorem d_Mod_readLiteral_22 : decode M_Mod_readLiteral.2.1 22 = .ok (.bastore, 1) := by decide +kernel
theorem d_Mod_readLiteral_23 : decode M_Mod_readLiteral.2.1 23 = .ok (.aload_n 0, 1) := by decide +kernel
theorem d_Mod_readLiteral_24 : decode M_Mod_readLiteral.2.1 24 = .ok (.getfield 23, 3) := by decide +kernel
theorem d_Mod_readLiteral_27 : decode M_Mod_readLiteral.2.1 27 = .ok (.iload_n 1, 1) := by decide +kernel
theorem d_Mod_readLiteral_28 : decode M_Mod_readLiteral.2.1 28 = .ok (.baload, 1) := by decide +kernel
theorem d_Mod_readLiteral_29 : decode M_Mod_readLiteral.2.1 29 = .ok (.ifCond .eq 9, 3) := by decide +kernel
theorem d_Mod_readLiteral_32 : decode M_Mod_readLiteral.2.1 32 = .ok (.iload_n 3, 1) := by decide +kernel
theorem d_Mod_readLiteral_33 : decode M_Mod_readLiteral.2.1 33 = .ok (.iconst 1, 1) := by decide +kernel
theorem d_Mod_readLiteral_34 : decode M_Mod_readLiteral.2.1 34 = .ok (.iadd, 1) := by decide +kernel
theorem d_Mod_readLiteral_35 : decode M_Mod_readLiteral.2.1 35 = .ok (.goto 4, 3) := by decide +kernel
theorem d_Mod_readLiteral_38 : decode M_Mod_readLiteral.2.1 38 = .ok (.iload_n 3, 1) := by decide +kernel
theorem d_Mod_readLiteral_39 : decode M_Mod_readLiteral.2.1 39 = .ok (.istore_n 3, 1) := by decide +kernel
theorem d_Mod_readLiteral_40 : decode M_Mod_readLiteral.2.1 40 = .ok (.aload_n 0, 1) := by decide +kernel
theorem d_Mod_readLiteral_41 : decode M_Mod_readLiteral.2.1 41 = .ok (.iload_n 3, 1) := by decide +kernel
theorem d_Mod_readLiteral_42 : decode M_Mod_readLiteral.2.1 42 = .ok (.invokevirtual 75, 3) := by decide +kernel
theorem d_Mod_readLiteral_45 : decode M_Mod_readLiteral.2.1 45 = .ok (.invokestatic 78, 3) := by decide +kernel
theorem d_Mod_readLiteral_48 : decode M_Mod_readLiteral.2.1 48 = .ok (.istore 4, 2) := by decide +kernel
theorem d_Mod_readLiteral_50 : decode M_Mod_readLiteral.2.1 50 = .ok (.iload 4, 2) := by decide +kernel
theorem d_Mod_readLiteral_52 : decode M_Mod_readLiteral.2.1 52 = .ok (.ifCond .ge 7, 3) := by decide +kernel
theorem d_Mod_readLiteral_55 : decode M_Mod_readLiteral.2.1 55 = .ok (.iconst (-1), 1) := by decide +kernel
theorem d_Mod_readLiteral_56 : decode M_Mod_readLiteral.2.1 56 = .ok (.iload_n 3, 1) := by decide +kernel
theorem d_Mod_readLiteral_57 : decode M_Mod_readLiteral.2.1 57 = .ok (.isub, 1) := by decide +kernel
theorem d_Mod_readLiteral_58 : decode M_Mod_readLiteral.2.1 58 = .ok (.ireturn, 1) := by decide +kernel
theorem d_Mod_readLiteral_59 : decode M_Mod_readLiteral.2.1 59 = .ok (.aload_n 0, 1) := by decide +kernel
theorem d_Mod_readLiteral_60 : decode M_Mod_readLiteral.2.1 60 = .ok (.getfield 20, 3) := by decide +kernel
theorem d_Mod_readLiteral_63 : decode M_Mod_readLiteral.2.1 63 = .ok (.iload_n 1, 1) := by decide +kernel
theorem d_Mod_readLiteral_64 : decode M_Mod_readLiteral.2.1 64 = .ok (.iload 4, 2) := by decide +kernel
theorem d_Mod_readLiteral_66 : decode M_Mod_readLiteral.2.1 66 = .ok (.iastore, 1) := by decide +kernel
theorem d_Mod_readLiteral_67 : decode M_Mod_readLiteral.2.1 67 = .ok (.iload_n 3, 1) := by decide +kernel
theorem d_Mod_readLiteral_68 : decode M_Mod_readLiteral.2.1 68 = .ok (.iconst 1, 1) := by decide +kernel
theorem d_Mod_readLiteral_69 : decode M_Mod_readLiteral.2.1 69 = .ok (.iadd, 1) := by decide +kernel
theorem d_Mod_readLiteral_70 : decode M_Mod_readLiteral.2.1 70 = .ok (.istore_n 3, 1) := by decide +kernel
theorem d_Mod_readLiteral_71 : decode M_Mod_readLiteral.2.1 71 = .ok (.iconst 0, 1) := by decide +kernel
theorem d_Mod_readLiteral_72 : decode M_Mod_readLiteral.2.1 72 = .ok (.istore 5, 2) := by decide +kernel
theorem d_Mod_readLiteral_74 : decode M_Mod_readLiteral.2.1 74 = .ok (.aload_n 0, 1) := by decide +kernel
theorem d_Mod_readLiteral_75 : decode M_Mod_readLiteral.2.1 75 = .ok (.getfield 33, 3) := by decide +kernel
theorem d_Mod_readLiteral_78 : decode M_Mod_readLiteral.2.1 78 = .ok (.iload 4, 2) := by decide +kernel
theorem d_Mod_readLiteral_80 : decode M_Mod_readLiteral.2.1 80 = .ok (.iaload, 1) := by decide +kernel
theorem d_Mod_readLiteral_81 : decode M_Mod_readLiteral.2.1 81 = .ok (.ifCond .ge 7, 3) := by decide +kernel
theorem d_Mod_readLiteral_84 : decode M_Mod_readLiteral.2.1 84 = .ok (.iconst 2, 1) := by decide +kernel
theorem d_Mod_readLiteral_85 : decode M_Mod_readLiteral.2.1 85 = .ok (.goto 10, 3) := by decide +kernel
theorem d_Mod_readLiteral_88 : decode M_Mod_readLiteral.2.1 88 = .ok (.aload_n 0, 1) := by decide +kernel
theorem d_Mod_readLiteral_89 : decode M_Mod_readLiteral.2.1 89 = .ok (.getfield 33, 3) := by decide +kernel
theorem d_Mod_readLiteral_92 : decode M_Mod_readLiteral.2.1 92 = .ok (.iload 4, 2) := by decide +kernel
theorem d_Mod_readLiteral_94 : decode M_Mod_readLiteral.2.1 94 = .ok (.iaload, 1) := by decide +kernel
theorem d_Mod_readLiteral_95 : decode M_Mod_readLiteral.2.1 95 = .ok (.istore 6, 2) := by decide +kernel
theorem d_Mod_readLiteral_97 : decode M_Mod_readLiteral.2.1 97 = .ok (.iload 5, 2) := by decide +kernel
theorem d_Mod_readLiteral_99 : decode M_Mod_readLiteral.2.1 99 = .ok (.iload 6, 2) := by decide +kernel
theorem d_Mod_readLiteral_101 : decode M_Mod_readLiteral.2.1 101 = .ok (.if_icmp .ge 128, 3) := by decide +kernel
theorem d_Mod_readLiteral_104 : decode M_Mod_readLiteral.2.1 104 = .ok (.aload_n 0, 1) := by decide +kernel
theorem d_Mod_readLiteral_105 : decode M_Mod_readLiteral.2.1 105 = .ok (.iload_n 3, 1) := by decide +kernel
theorem d_Mod_readLiteral_106 : decode M_Mod_readLiteral.2.1 106 = .ok (.invokevirtual 75, 3) := by decide +kernel
theorem d_Mod_readLiteral_109 : decode M_Mod_readLiteral.2.1 109 = .ok (.invokestatic 81, 3) := by decide +kernel
theorem d_Mod_readLiteral_112 : decode M_Mod_readLiteral.2.1 112 = .ok (.ifCond .lt 117, 3) := by decide +kernel
theorem d_Mod_readLiteral_115 : decode M_Mod_readLiteral.2.1 115 = .ok (.aload_n 0, 1) := by decide +kernel
theorem d_Mod_readLiteral_116 : decode M_Mod_readLiteral.2.1 116 = .ok (.iload_n 3, 1) := by decide +kernel
theorem d_Mod_readLiteral_117 : decode M_Mod_readLiteral.2.1 117 = .ok (.invokevirtual 75, 3) := by decide +kernel
theorem d_Mod_readLiteral_120 : decode M_Mod_readLiteral.2.1 120 = .ok (.invokestatic 81, 3) := by decide +kernel
theorem d_Mod_readLiteral_123 : decode M_Mod_readLiteral.2.1 123 = .ok (.istore 7, 2) := by decide +kernel
theorem d_Mod_readLiteral_125 : decode M_Mod_readLiteral.2.1 125 = .ok (.aload_n 0, 1) := by decide +kernel
theorem d_Mod_readLiteral_126 : decode M_Mod_readLiteral.2.1 126 = .ok (.iload 7, 2) := by decide +kernel
theorem d_Mod_readLiteral_128 : decode M_Mod_readLiteral.2.1 128 = .ok (.iconst 3, 1) := by decide +kernel
theorem d_Mod_readLiteral_129 : decode M_Mod_readLiteral.2.1 129 = .ok (.if_icmp .ge 15, 3) := by decide +kernel
theorem d_Mod_readLiteral_132 : decode M_Mod_readLiteral.2.1 132 = .ok (.aload_n 0, 1) := by decide +kernel
theorem d_Mod_readLiteral_133 : decode M_Mod_readLiteral.2.1 133 = .ok (.getfield 84, 3) := by decide +kernel
theorem d_Mod_readLiteral_136 : decode M_Mod_readLiteral.2.1 136 = .ok (.iconst 1, 1) := by decide +kernel
theorem d_Mod_readLiteral_137 : decode M_Mod_readLiteral.2.1 137 = .ok (.iload 7, 2) := by decide +kernel
theorem d_Mod_readLiteral_139 : decode M_Mod_readLiteral.2.1 139 = .ok (.ishl, 1) := by decide +kernel
theorem d_Mod_readLiteral_140 : decode M_Mod_readLiteral.2.1 140 = .ok (.ior, 1) := by decide +kernel
theorem d_Mod_readLiteral_141 : decode M_Mod_readLiteral.2.1 141 = .ok (.goto 7, 3) := by decide +kernel
theorem d_Mod_readLiteral_144 : decode M_Mod_readLiteral.2.1 144 = .ok (.aload_n 0, 1) := by decide +kernel
theorem d_Mod_readLiteral_145 : decode M_Mod_readLiteral.2.1 145 = .ok (.getfield 84, 3) := by decide +kernel
theorem d_Mod_readLiteral_148 : decode M_Mod_readLiteral.2.1 148 = .ok (.putfield 84, 3) := by decide +kernel
theorem d_Mod_readLiteral_151 : decode M_Mod_readLiteral.2.1 151 = .ok (.aload_n 0, 1) := by decide +kernel
theorem d_Mod_readLiteral_152 : decode M_Mod_readLiteral.2.1 152 = .ok (.getfield 33, 3) := by decide +kernel
theorem d_Mod_readLiteral_155 : decode M_Mod_readLiteral.2.1 155 = .ok (.aload_n 0, 1) := by decide +kernel
theorem d_Mod_readLiteral_156 : decode M_Mod_readLiteral.2.1 156 = .ok (.getfield 84, 3) := by decide +kernel
theorem d_Mod_readLiteral_159 : decode M_Mod_readLiteral.2.1 159 = .ok (.invokestatic 87, 3) := by decide +kernel
theorem d_Mod_readLiteral_162 : decode M_Mod_readLiteral.2.1 162 = .ok (.bipush 12, 2) := by decide +kernel
theorem d_Mod_readLiteral_164 : decode M_Mod_readLiteral.2.1 164 = .ok (.if_icmp .le 7, 3) := by decide +kernel
theorem d_Mod_readLiteral_167 : decode M_Mod_readLiteral.2.1 167 = .ok (.iconst (-1), 1) := by decide +kernel
theorem d_Mod_readLiteral_168 : decode M_Mod_readLiteral.2.1 168 = .ok (.iload_n 3, 1) := by decide +kernel
theorem d_Mod_readLiteral_169 : decode M_Mod_readLiteral.2.1 169 = .ok (.isub, 1) := by decide +kernel
theorem d_Mod_readLiteral_170 : decode M_Mod_readLiteral.2.1 170 = .ok (.ireturn, 1) := by decide +kernel
theorem d_Mod_readLiteral_171 : decode M_Mod_readLiteral.2.1 171 = .ok (.aload_n 0, 1) := by decide +kernel
theorem d_Mod_readLiteral_172 : decode M_Mod_readLiteral.2.1 172 = .ok (.getfield 27, 3) := by decide +kernel
theorem d_Mod_readLiteral_175 : decode M_Mod_readLiteral.2.1 175 = .ok (.iload_n 1, 1) := by decide +kernel
theorem d_Mod_readLiteral_176 : decode M_Mod_readLiteral.2.1 176 = .ok (.iload 5, 2) := by decide +kernel
theorem d_Mod_readLiteral_178 : decode M_Mod_readLiteral.2.1 178 = .ok (.ifCond .ne 8, 3) := by decide +kernel
theorem d_Mod_readLiteral_181 : decode M_Mod_readLiteral.2.1 181 = .ok (.iload 7, 2) := by decide +kernel
theorem d_Mod_readLiteral_183 : decode M_Mod_readLiteral.2.1 183 = .ok (.goto 9, 3) := by decide +kernel
theorem d_Mod_readLiteral_186 : decode M_Mod_readLiteral.2.1 186 = .ok (.aload_n 0, 1) := by decide +kernel
theorem d_Mod_readLiteral_187 : decode M_Mod_readLiteral.2.1 187 = .ok (.getfield 27, 3) := by decide +kernel
theorem d_Mod_readLiteral_190 : decode M_Mod_readLiteral.2.1 190 = .ok (.iload_n 1, 1) := by decide +kernel
theorem d_Mod_readLiteral_191 : decode M_Mod_readLiteral.2.1 191 = .ok (.iaload, 1) := by decide +kernel
theorem d_Mod_readLiteral_192 : decode M_Mod_readLiteral.2.1 192 = .ok (.iastore, 1) := by decide +kernel
theorem d_Mod_readLiteral_193 : decode M_Mod_readLiteral.2.1 193 = .ok (.aload_n 0, 1) := by decide +kernel
theorem d_Mod_readLiteral_194 : decode M_Mod_readLiteral.2.1 194 = .ok (.getfield 30, 3) := by decide +kernel
theorem d_Mod_readLiteral_197 : decode M_Mod_readLiteral.2.1 197 = .ok (.iload_n 1, 1) := by decide +kernel
theorem d_Mod_readLiteral_198 : decode M_Mod_readLiteral.2.1 198 = .ok (.iload 5, 2) := by decide +kernel
theorem d_Mod_readLiteral_200 : decode M_Mod_readLiteral.2.1 200 = .ok (.iconst 1, 1) := by decide +kernel
theorem d_Mod_readLiteral_201 : decode M_Mod_readLiteral.2.1 201 = .ok (.if_icmp .ne 8, 3) := by decide +kernel
theorem d_Mod_readLiteral_204 : decode M_Mod_readLiteral.2.1 204 = .ok (.iload 7, 2) := by decide +kernel
theorem d_Mod_readLiteral_206 : decode M_Mod_readLiteral.2.1 206 = .ok (.goto 9, 3) := by decide +kernel
theorem d_Mod_readLiteral_209 : decode M_Mod_readLiteral.2.1 209 = .ok (.aload_n 0, 1) := by decide +kernel
theorem d_Mod_readLiteral_210 : decode M_Mod_readLiteral.2.1 210 = .ok (.getfield 30, 3) := by decide +kernel
theorem d_Mod_readLiteral_213 : decode M_Mod_readLiteral.2.1 213 = .ok (.iload_n 1, 1) := by decide +kernel
theorem d_Mod_readLiteral_214 : decode M_Mod_readLiteral.2.1 214 = .ok (.iaload, 1) := by decide +kernel
theorem d_Mod_readLiteral_215 : decode M_Mod_readLiteral.2.1 215 = .ok (.iastore, 1) := by decide +kernel
theorem d_Mod_readLiteral_216 : decode M_Mod_readLiteral.2.1 216 = .ok (.iload 5, 2) := by decide +kernel
theorem d_Mod_readLiteral_218 : decode M_Mod_readLiteral.2.1 218 = .ok (.iconst 1, 1) := by decide +kernel
theorem d_Mod_readLiteral_219 : decode M_Mod_readLiteral.2.1 219 = .ok (.iadd, 1) := by decide +kernel
theorem d_Mod_readLiteral_220 : decode M_Mod_readLiteral.2.1 220 = .ok (.istore 5, 2) := by decide +kernel
theorem d_Mod_readLiteral_222 : decode M_Mod_readLiteral.2.1 222 = .ok (.iload_n 3, 1) := by decide +kernel
theorem d_Mod_readLiteral_223 : decode M_Mod_readLiteral.2.1 223 = .ok (.iconst 1, 1) := by decide +kernel
theorem d_Mod_readLiteral_224 : decode M_Mod_readLiteral.2.1 224 = .ok (.iadd, 1) := by decide +kernel
theorem d_Mod_readLiteral_225 : decode M_Mod_readLiteral.2.1 225 = .ok (.istore_n 3, 1) := by decide +kernel
theorem d_Mod_readLiteral_226 : decode M_Mod_readLiteral.2.1 226 = .ok (.goto (-129), 3) := by decide +kernel
theorem d_Mod_readLiteral_229 : decode M_Mod_readLiteral.2.1 229 = .ok (.aload_n 0, 1) := by decide +kernel
theorem d_Mod_readLiteral_230 : decode M_Mod_readLiteral.2.1 230 = .ok (.getfield 33, 3) := by decide +kernel
theorem d_Mod_readLiteral_233 : decode M_Mod_readLiteral.2.1 233 = .ok (.iload 4, 2) := by decide +kernel
theorem d_Mod_readLiteral_235 : decode M_Mod_readLiteral.2.1 235 = .ok (.iaload, 1) := by decide +kernel
theorem d_Mod_readLiteral_236 : decode M_Mod_readLiteral.2.1 236 = .ok (.ifCond .lt 19, 3) := by decide +kernel
theorem d_Mod_readLiteral_239 : decode M_Mod_readLiteral.2.1 239 = .ok (.iload 5, 2) := by decide +kernel
theorem d_Mod_readLiteral_241 : decode M_Mod_readLiteral.2.1 241 = .ok (.aload_n 0, 1) := by decide +kernel
theorem d_Mod_readLiteral_242 : decode M_Mod_readLiteral.2.1 242 = .ok (.getfield 33, 3) := by decide +kernel
theorem d_Mod_readLiteral_245 : decode M_Mod_readLiteral.2.1 245 = .ok (.iload 4, 2) := by decide +kernel
theorem d_Mod_readLiteral_247 : decode M_Mod_readLiteral.2.1 247 = .ok (.iaload, 1) := by decide +kernel
theorem d_Mod_readLiteral_248 : decode M_Mod_readLiteral.2.1 248 = .ok (.if_icmp .ge 7, 3) := by decide +kernel
theorem d_Mod_readLiteral_251 : decode M_Mod_readLiteral.2.1 251 = .ok (.iconst 1, 1) := by decide +kernel
theorem d_Mod_readLiteral_252 : decode M_Mod_readLiteral.2.1 252 = .ok (.goto 4, 3) := by decide +kernel
theorem d_Mod_readLiteral_255 : decode M_Mod_readLiteral.2.1 255 = .ok (.iconst 0, 1) := by decide +kernel
theorem d_Mod_readLiteral_256 : decode M_Mod_readLiteral.2.1 256 = .ok (.istore 7, 2) := by decide +kernel
theorem d_Mod_readLiteral_258 : decode M_Mod_readLiteral.2.1 258 = .ok (.aload_n 0, 1) := by decide +kernel
theorem d_Mod_readLiteral_259 : decode M_Mod_readLiteral.2.1 259 = .ok (.getfield 33, 3) := by decide +kernel
theorem d_Mod_readLiteral_262 : decode M_Mod_readLiteral.2.1 262 = .ok (.iload 4, 2) := by decide +kernel
theorem d_Mod_readLiteral_264 : decode M_Mod_readLiteral.2.1 264 = .ok (.aload_n 0, 1) := by decide +kernel
theorem d_Mod_readLiteral_265 : decode M_Mod_readLiteral.2.1 265 = .ok (.getfield 33, 3) := by decide +kernel
theorem d_Mod_readLiteral_268 : decode M_Mod_readLiteral.2.1 268 = .ok (.iload 4, 2) := by decide +kernel
theorem d_Mod_readLiteral_270 : decode M_Mod_readLiteral.2.1 270 = .ok (.iaload, 1) := by decide +kernel
theorem d_Mod_readLiteral_271 : decode M_Mod_readLiteral.2.1 271 = .ok (.ifCond .ge 8, 3) := by decide +kernel
theorem d_Mod_readLiteral_274 : decode M_Mod_readLiteral.2.1 274 = .ok (.iload 5, 2) := by decide +kernel
theorem d_Mod_readLiteral_276 : decode M_Mod_readLiteral.2.1 276 = .ok (.goto 10, 3) := by decide +kernel
theorem d_Mod_readLiteral_279 : decode M_Mod_readLiteral.2.1 279 = .ok (.aload_n 0, 1) := by decide +kernel
theorem d_Mod_readLiteral_280 : decode M_Mod_readLiteral.2.1 280 = .ok (.getfield 33, 3) := by decide +kernel
theorem d_Mod_readLiteral_283 : decode M_Mod_readLiteral.2.1 283 = .ok (.iload 4, 2) := by decide +kernel
theorem d_Mod_readLiteral_285 : decode M_Mod_readLiteral.2.1 285 = .ok (.iaload, 1) := by decide +kernel
theorem d_Mod_readLiteral_286 : decode M_Mod_readLiteral.2.1 286 = .ok (.iastore, 1) := by decide +kernel
theorem d_Mod_readLiteral_287 : decode M_Mod_readLiteral.2.1 287 = .ok (.iload 7, 2) := by decide +kernel
theorem d_Mod_readLiteral_289 : decode M_Mod_readLiteral.2.1 289 = .ok (.ifCond .ne 30, 3) := by decide +kernel
theorem d_Mod_readLiteral_292 : decode M_Mod_readLiteral.2.1 292 = .ok (.aload_n 0, 1) := by decide +kernel
theorem d_Mod_readLiteral_293 : decode M_Mod_readLiteral.2.1 293 = .ok (.iload_n 3, 1) := by decide +kernel
theorem d_Mod_readLiteral_294 : decode M_Mod_readLiteral.2.1 294 = .ok (.invokevirtual 75, 3) := by decide +kernel
theorem d_Mod_readLiteral_297 : decode M_Mod_readLiteral.2.1 297 = .ok (.invokestatic 81, 3) := by decide +kernel
theorem d_Mod_readLiteral_300 : decode M_Mod_readLiteral.2.1 300 = .ok (.ifCond .ge 19, 3) := by decide +kernel
theorem d_Mod_readLiteral_303 : decode M_Mod_readLiteral.2.1 303 = .ok (.aload_n 0, 1) := by decide +kernel
theorem d_Mod_readLiteral_304 : decode M_Mod_readLiteral.2.1 304 = .ok (.getfield 33, 3) := by decide +kernel
theorem d_Mod_readLiteral_307 : decode M_Mod_readLiteral.2.1 307 = .ok (.aload_n 0, 1) := by decide +kernel
theorem d_Mod_readLiteral_308 : decode M_Mod_readLiteral.2.1 308 = .ok (.getfield 84, 3) := by decide +kernel
theorem d_Mod_readLiteral_311 : decode M_Mod_readLiteral.2.1 311 = .ok (.invokestatic 87, 3) := by decide +kernel
theorem d_Mod_readLiteral_314 : decode M_Mod_readLiteral.2.1 314 = .ok (.bipush 12, 2) := by decide +kernel
theorem d_Mod_readLiteral_316 : decode M_Mod_readLiteral.2.1 316 = .ok (.if_icmp .le 9, 3) := by decide +kernel
theorem d_Mod_readLiteral_319 : decode M_Mod_readLiteral.2.1 319 = .ok (.iconst (-1), 1) := by decide +kernel
theorem d_Mod_readLiteral_320 : decode M_Mod_readLiteral.2.1 320 = .ok (.iload_n 3, 1) := by decide +kernel
theorem d_Mod_readLiteral_321 : decode M_Mod_readLiteral.2.1 321 = .ok (.isub, 1) := by decide +kernel
theorem d_Mod_readLiteral_322 : decode M_Mod_readLiteral.2.1 322 = .ok (.goto 4, 3) := by decide +kernel
theorem d_Mod_readLiteral_325 : decode M_Mod_readLiteral.2.1 325 = .ok (.iload_n 3, 1) := by decide +kernel
theorem d_Mod_readLiteral_326 : decode M_Mod_readLiteral.2.1 326 = .ok (.ireturn, 1) := by decide +kernel
theorem d_Mod_readText_0 : decode M_Mod_readText.2.1 0 = .ok (.iconst 0, 1) := by decide +kernel
theorem d_Mod_readText_1 : decode M_Mod_readText.2.1 1 = .ok (.istore_n 1, 1) := by decide +kernel
theorem d_Mod_readText_2 : decode M_Mod_readText.2.1 2 = .ok (.iload_n 1, 1) := by decide +kernel
theorem d_Mod_readText_3 : decode M_Mod_readText.2.1 3 = .ok (.iconst 4, 1) := by decide +kernel
theorem d_Mod_readText_4 : decode M_Mod_readText.2.1 4 = .ok (.if_icmp .ge 16, 3) := by decide +kernel
theorem d_Mod_readText_7 : decode M_Mod_readText.2.1 7 = .ok (.aload_n 0, 1) := by decide +kernel
theorem d_Mod_readText_8 : decode M_Mod_readText.2.1 8 = .ok (.getfield 33, 3) := by decide +kernel
theorem d_Mod_readText_11 : decode M_Mod_readText.2.1 11 = .ok (.iload_n 1, 1) := by decide +kernel
theorem d_Mod_readText_12 : decode M_Mod_readText.2.1 12 = .ok (.iconst (-1), 1) := by decide +kernel
theorem d_Mod_readText_13 : decode M_Mod_readText.2.1 13 = .ok (.iastore, 1) := by decide +kernel
theorem d_Mod_readText_14 : decode M_Mod_readText.2.1 14 = .ok (.iinc 1 1, 3) := by decide +kernel
theorem d_Mod_readText_17 : decode M_Mod_readText.2.1 17 = .ok (.goto (-15), 3) := by decide +kernel
theorem d_Mod_readText_20 : decode M_Mod_readText.2.1 20 = .ok (.aload_n 0, 1) := by decide +kernel
theorem d_Mod_readText_21 : decode M_Mod_readText.2.1 21 = .ok (.iconst 0, 1) := by decide +kernel
theorem d_Mod_readText_22 : decode M_Mod_readText.2.1 22 = .ok (.putfield 84, 3) := by decide +kernel
theorem d_Mod_readText_25 : decode M_Mod_readText.2.1 25 = .ok (.aload_n 0, 1) := by decide +kernel
theorem d_Mod_readText_26 : decode M_Mod_readText.2.1 26 = .ok (.iconst 1, 1) := by decide +kernel
theorem d_Mod_readText_27 : decode M_Mod_readText.2.1 27 = .ok (.putfield 91, 3) := by decide +kernel
theorem d_Mod_readText_30 : decode M_Mod_readText.2.1 30 = .ok (.aload_n 0, 1) := by decide +kernel
theorem d_Mod_readText_31 : decode M_Mod_readText.2.1 31 = .ok (.getfield 17, 3) := by decide +kernel
theorem d_Mod_readText_34 : decode M_Mod_readText.2.1 34 = .ok (.iconst 0, 1) := by decide +kernel
theorem d_Mod_readText_35 : decode M_Mod_readText.2.1 35 = .ok (.iconst 0, 1) := by decide +kernel
theorem d_Mod_readText_36 : decode M_Mod_readText.2.1 36 = .ok (.iastore, 1) := by decide +kernel
theorem d_Mod_readText_37 : decode M_Mod_readText.2.1 37 = .ok (.iconst 0, 1) := by decide +kernel
theorem d_Mod_readText_38 : decode M_Mod_readText.2.1 38 = .ok (.istore_n 1, 1) := by decide +kernel
theorem d_Mod_readText_39 : decode M_Mod_readText.2.1 39 = .ok (.iconst 1, 1) := by decide +kernel
theorem d_Mod_readText_40 : decode M_Mod_readText.2.1 40 = .ok (.istore_n 2, 1) := by decide +kernel
theorem d_Mod_readText_41 : decode M_Mod_readText.2.1 41 = .ok (.iload_n 2, 1) := by decide +kernel
theorem d_Mod_readText_42 : decode M_Mod_readText.2.1 42 = .ok (.ifCond .eq 157, 3) := by decide +kernel
theorem d_Mod_readText_45 : decode M_Mod_readText.2.1 45 = .ok (.aload_n 0, 1) := by decide +kernel
theorem d_Mod_readText_46 : decode M_Mod_readText.2.1 46 = .ok (.getfield 91, 3) := by decide +kernel
theorem d_Mod_readText_49 : decode M_Mod_readText.2.1 49 = .ok (.iconst 1, 1) := by decide +kernel
theorem d_Mod_readText_50 : decode M_Mod_readText.2.1 50 = .ok (.isub, 1) := by decide +kernel
theorem d_Mod_readText_51 : decode M_Mod_readText.2.1 51 = .ok (.istore_n 3, 1) := by decide +kernel
theorem d_Mod_readText_52 : decode M_Mod_readText.2.1 52 = .ok (.aload_n 0, 1) := by decide +kernel
theorem d_Mod_readText_53 : decode M_Mod_readText.2.1 53 = .ok (.iconst 4, 1) := by decide +kernel
theorem d_Mod_readText_54 : decode M_Mod_readText.2.1 54 = .ok (.iload_n 3, 1) := by decide +kernel
theorem d_Mod_readText_55 : decode M_Mod_readText.2.1 55 = .ok (.imul, 1) := by decide +kernel
theorem d_Mod_readText_56 : decode M_Mod_readText.2.1 56 = .ok (.aload_n 0, 1) := by decide +kernel
theorem d_Mod_readText_57 : decode M_Mod_readText.2.1 57 = .ok (.getfield 17, 3) := by decide +kernel
theorem d_Mod_readText_60 : decode M_Mod_readText.2.1 60 = .ok (.iload_n 3, 1) := by decide +kernel
theorem d_Mod_readText_61 : decode M_Mod_readText.2.1 61 = .ok (.iaload, 1) := by decide +kernel
theorem d_Mod_readText_62 : decode M_Mod_readText.2.1 62 = .ok (.iadd, 1) := by decide +kernel
theorem d_Mod_readText_63 : decode M_Mod_readText.2.1 63 = .ok (.iload_n 1, 1) := by decide +kernel
theorem d_Mod_readText_64 : decode M_Mod_readText.2.1 64 = .ok (.invokevirtual 94, 3) := by decide +kernel
theorem d_Mod_readText_67 : decode M_Mod_readText.2.1 67 = .ok (.istore_n 1, 1) := by decide +kernel
theorem d_Mod_readText_68 : decode M_Mod_readText.2.1 68 = .ok (.iload_n 1, 1) := by decide +kernel
theorem d_Mod_readText_69 : decode M_Mod_readText.2.1 69 = .ok (.ifCond .ge 7, 3) := by decide +kernel
theorem d_Mod_readText_72 : decode M_Mod_readText.2.1 72 = .ok (.iconst (-1), 1) := by decide +kernel
theorem d_Mod_readText_73 : decode M_Mod_readText.2.1 73 = .ok (.iload_n 1, 1) := by decide +kernel
theorem d_Mod_readText_74 : decode M_Mod_readText.2.1 74 = .ok (.isub, 1) := by decide +kernel
theorem d_Mod_readText_75 : decode M_Mod_readText.2.1 75 = .ok (.ireturn, 1) := by decide +kernel
theorem d_Mod_readText_76 : decode M_Mod_readText.2.1 76 = .ok (.aload_n 0, 1) := by decide +kernel
theorem d_Mod_readText_77 : decode M_Mod_readText.2.1 77 = .ok (.getfield 17, 3) := by decide +kernel
theorem d_Mod_readText_80 : decode M_Mod_readText.2.1 80 = .ok (.iload_n 3, 1) := by decide +kernel
theorem d_Mod_readText_81 : decode M_Mod_readText.2.1 81 = .ok (.aload_n 0, 1) := by decide +kernel
theorem d_Mod_readText_82 : decode M_Mod_readText.2.1 82 = .ok (.getfield 17, 3) := by decide +kernel
theorem d_Mod_readText_85 : decode M_Mod_readText.2.1 85 = .ok (.iload_n 3, 1) := by decide +kernel
theorem d_Mod_readText_86 : decode M_Mod_readText.2.1 86 = .ok (.iaload, 1) := by decide +kernel
theorem d_Mod_readText_87 : decode M_Mod_readText.2.1 87 = .ok (.iconst 1, 1) := by decide +kernel
theorem d_Mod_readText_88 : decode M_Mod_readText.2.1 88 = .ok (.iadd, 1) := by decide +kernel
theorem d_Mod_readText_89 : decode M_Mod_readText.2.1 89 = .ok (.iastore, 1) := by decide +kernel
theorem d_Mod_readText_90 : decode M_Mod_readText.2.1 90 = .ok (.aload_n 0, 1) := by decide +kernel
theorem d_Mod_readText_91 : decode M_Mod_readText.2.1 91 = .ok (.iload_n 1, 1) := by decide +kernel
theorem d_Mod_readText_92 : decode M_Mod_readText.2.1 92 = .ok (.invokevirtual 75, 3) := by decide +kernel
theorem d_Mod_readText_95 : decode M_Mod_readText.2.1 95 = .ok (.bipush 124, 2) := by decide +kernel
theorem d_Mod_readText_97 : decode M_Mod_readText.2.1 97 = .ok (.if_icmp .ne 17, 3) := by decide +kernel
theorem d_Mod_readText_100 : decode M_Mod_readText.2.1 100 = .ok (.aload_n 0, 1) := by decide +kernel
theorem d_Mod_readText_101 : decode M_Mod_readText.2.1 101 = .ok (.getfield 17, 3) := by decide +kernel
theorem d_Mod_readText_104 : decode M_Mod_readText.2.1 104 = .ok (.iload_n 3, 1) := by decide +kernel
theorem d_Mod_readText_105 : decode M_Mod_readText.2.1 105 = .ok (.iaload, 1) := by decide +kernel
theorem d_Mod_readText_106 : decode M_Mod_readText.2.1 106 = .ok (.iconst 4, 1) := by decide +kernel
theorem d_Mod_readText_107 : decode M_Mod_readText.2.1 107 = .ok (.if_icmp .ge 7, 3) := by decide +kernel
theorem d_Mod_readText_110 : decode M_Mod_readText.2.1 110 = .ok (.iconst 1, 1) := by decide +kernel
theorem d_Mod_readText_111 : decode M_Mod_readText.2.1 111 = .ok (.goto 4, 3) := by decide +kernel
theorem d_Mod_readText_114 : decode M_Mod_readText.2.1 114 = .ok (.iconst 0, 1) := by decide +kernel
theorem d_Mod_readText_115 : decode M_Mod_readText.2.1 115 = .ok (.istore 4, 2) := by decide +kernel
theorem d_Mod_readText_117 : decode M_Mod_readText.2.1 117 = .ok (.aload_n 0, 1) := by decide +kernel
theorem d_Mod_readText_118 : decode M_Mod_readText.2.1 118 = .ok (.iload_n 1, 1) := by decide +kernel
theorem d_Mod_readText_119 : decode M_Mod_readText.2.1 119 = .ok (.invokevirtual 75, 3) := by decide +kernel
theorem d_Mod_readText_122 : decode M_Mod_readText.2.1 122 = .ok (.bipush 38, 2) := by decide +kernel
theorem d_Mod_readText_124 : decode M_Mod_readText.2.1 124 = .ok (.if_icmp .ne 16, 3) := by decide +kernel
theorem d_Mod_readText_127 : decode M_Mod_readText.2.1 127 = .ok (.aload_n 0, 1) := by decide +kernel
theorem d_Mod_readText_128 : decode M_Mod_readText.2.1 128 = .ok (.getfield 91, 3) := by decide +kernel
theorem d_Mod_readText_131 : decode M_Mod_readText.2.1 131 = .ok (.bipush 12, 2) := by decide +kernel
theorem d_Mod_readText_133 : decode M_Mod_readText.2.1 133 = .ok (.if_icmp .ge 7, 3) := by decide +kernel
theorem d_Mod_readText_136 : decode M_Mod_readText.2.1 136 = .ok (.iconst 1, 1) := by decide +kernel
theorem d_Mod_readText_137 : decode M_Mod_readText.2.1 137 = .ok (.goto 4, 3) := by decide +kernel
theorem d_Mod_readText_140 : decode M_Mod_readText.2.1 140 = .ok (.iconst 0, 1) := by decide +kernel
theorem d_Mod_readText_141 : decode M_Mod_readText.2.1 141 = .ok (.istore 5, 2) := by decide +kernel
theorem d_Mod_readText_143 : decode M_Mod_readText.2.1 143 = .ok (.iload 4, 2) := by decide +kernel
theorem d_Mod_readText_145 : decode M_Mod_readText.2.1 145 = .ok (.ifCond .ne 8, 3) := by decide +kernel
theorem d_Mod_readText_148 : decode M_Mod_readText.2.1 148 = .ok (.iload 5, 2) := by decide +kernel
theorem d_Mod_readText_150 : decode M_Mod_readText.2.1 150 = .ok (.ifCond .eq 7, 3) := by decide +kernel
theorem d_Mod_readText_153 : decode M_Mod_readText.2.1 153 = .ok (.iconst 1, 1) := by decide +kernel
theorem d_Mod_readText_154 : decode M_Mod_readText.2.1 154 = .ok (.goto 4, 3) := by decide +kernel
theorem d_Mod_readText_157 : decode M_Mod_readText.2.1 157 = .ok (.iconst 0, 1) := by decide +kernel
theorem d_Mod_readText_158 : decode M_Mod_readText.2.1 158 = .ok (.istore_n 2, 1) := by decide +kernel
theorem d_Mod_readText_159 : decode M_Mod_readText.2.1 159 = .ok (.iload 5, 2) := by decide +kernel
theorem d_Mod_readText_161 : decode M_Mod_readText.2.1 161 = .ok (.ifCond .eq 23, 3) := by decide +kernel
theorem d_Mod_readText_164 : decode M_Mod_readText.2.1 164 = .ok (.aload_n 0, 1) := by decide +kernel
theorem d_Mod_readText_165 : decode M_Mod_readText.2.1 165 = .ok (.getfield 17, 3) := by decide +kernel
theorem d_Mod_readText_168 : decode M_Mod_readText.2.1 168 = .ok (.aload_n 0, 1) := by decide +kernel
theorem d_Mod_readText_169 : decode M_Mod_readText.2.1 169 = .ok (.getfield 91, 3) := by decide +kernel
theorem d_Mod_readText_172 : decode M_Mod_readText.2.1 172 = .ok (.iconst 0, 1) := by decide +kernel
theorem d_Mod_readText_173 : decode M_Mod_readText.2.1 173 = .ok (.iastore, 1) := by decide +kernel
theorem d_Mod_readText_174 : decode M_Mod_readText.2.1 174 = .ok (.aload_n 0, 1) := by decide +kernel
theorem d_Mod_readText_175 : decode M_Mod_readText.2.1 175 = .ok (.aload_n 0, 1) := by decide +kernel
theorem d_Mod_readText_176 : decode M_Mod_readText.2.1 176 = .ok (.getfield 91, 3) := by decide +kernel
theorem d_Mod_readText_179 : decode M_Mod_readText.2.1 179 = .ok (.iconst 1, 1) := by decide +kernel
theorem d_Mod_readText_180 : decode M_Mod_readText.2.1 180 = .ok (.iadd, 1) := by decide +kernel
theorem d_Mod_readText_181 : decode M_Mod_readText.2.1 181 = .ok (.putfield 91, 3) := by decide +kernel
theorem d_Mod_readText_184 : decode M_Mod_readText.2.1 184 = .ok (.iload_n 2, 1) := by decide +kernel
theorem d_Mod_readText_185 : decode M_Mod_readText.2.1 185 = .ok (.ifCond .eq 9, 3) := by decide +kernel
theorem d_Mod_readText_188 : decode M_Mod_readText.2.1 188 = .ok (.iload_n 1, 1) := by decide +kernel
theorem d_Mod_readText_189 : decode M_Mod_readText.2.1 189 = .ok (.iconst 1, 1) := by decide +kernel
theorem d_Mod_readText_190 : decode M_Mod_readText.2.1 190 = .ok (.iadd, 1) := by decide +kernel
theorem d_Mod_readText_191 : decode M_Mod_readText.2.1 191 = .ok (.goto 4, 3) := by decide +kernel
theorem d_Mod_readText_194 : decode M_Mod_readText.2.1 194 = .ok (.iload_n 1, 1) := by decide +kernel
theorem d_Mod_readText_195 : decode M_Mod_readText.2.1 195 = .ok (.istore_n 1, 1) := by decide +kernel
theorem d_Mod_readText_196 : decode M_Mod_readText.2.1 196 = .ok (.goto (-155), 3) := by decide +kernel
theorem d_Mod_readText_199 : decode M_Mod_readText.2.1 199 = .ok (.iload_n 1, 1) := by decide +kernel
theorem d_Mod_readText_200 : decode M_Mod_readText.2.1 200 = .ok (.aload_n 0, 1) := by decide +kernel
theorem d_Mod_readText_201 : decode M_Mod_readText.2.1 201 = .ok (.getfield 68, 3) := by decide +kernel
theorem d_Mod_readText_204 : decode M_Mod_readText.2.1 204 = .ok (.if_icmp .ne 7, 3) := by decide +kernel
theorem d_Mod_readText_207 : decode M_Mod_readText.2.1 207 = .ok (.iconst (-1), 1) := by decide +kernel
theorem d_Mod_readText_208 : decode M_Mod_readText.2.1 208 = .ok (.goto 4, 3) := by decide +kernel
theorem d_Mod_readText_211 : decode M_Mod_readText.2.1 211 = .ok (.iload_n 1, 1) := by decide +kernel
theorem d_Mod_readText_212 : decode M_Mod_readText.2.1 212 = .ok (.ireturn, 1) := by decide +kernel
theorem d_Mod_tableOf_0 : decode M_Mod_tableOf.2.1 0 = .ok (.iconst 0, 1) := by decide +kernel
theorem d_Mod_tableOf_1 : decode M_Mod_tableOf.2.1 1 = .ok (.istore_n 2, 1) := by decide +kernel
theorem d_Mod_tableOf_2 : decode M_Mod_tableOf.2.1 2 = .ok (.iconst 0, 1) := by decide +kernel
theorem d_Mod_tableOf_3 : decode M_Mod_tableOf.2.1 3 = .ok (.istore_n 3, 1) := by decide +kernel
theorem d_Mod_tableOf_4 : decode M_Mod_tableOf.2.1 4 = .ok (.iload_n 3, 1) := by decide +kernel
theorem d_Mod_tableOf_5 : decode M_Mod_tableOf.2.1 5 = .ok (.aload_n 0, 1) := by decide +kernel
theorem d_Mod_tableOf_6 : decode M_Mod_tableOf.2.1 6 = .ok (.getfield 108, 3) := by decide +kernel
theorem d_Mod_tableOf_9 : decode M_Mod_tableOf.2.1 9 = .ok (.if_icmp .ge 35, 3) := by decide +kernel
theorem d_Mod_tableOf_12 : decode M_Mod_tableOf.2.1 12 = .ok (.iload_n 1, 1) := by decide +kernel
theorem d_Mod_tableOf_13 : decode M_Mod_tableOf.2.1 13 = .ok (.aload_n 0, 1) := by decide +kernel
theorem d_Mod_tableOf_14 : decode M_Mod_tableOf.2.1 14 = .ok (.getfield 108, 3) := by decide +kernel
theorem d_Mod_tableOf_17 : decode M_Mod_tableOf.2.1 17 = .ok (.iconst 1, 1) := by decide +kernel
theorem d_Mod_tableOf_18 : decode M_Mod_tableOf.2.1 18 = .ok (.isub, 1) := by decide +kernel
theorem d_Mod_tableOf_19 : decode M_Mod_tableOf.2.1 19 = .ok (.iload_n 3, 1) := by decide +kernel
theorem d_Mod_tableOf_20 : decode M_Mod_tableOf.2.1 20 = .ok (.isub, 1) := by decide +kernel
theorem d_Mod_tableOf_21 : decode M_Mod_tableOf.2.1 21 = .ok (.ishr, 1) := by decide +kernel
theorem d_Mod_tableOf_22 : decode M_Mod_tableOf.2.1 22 = .ok (.iconst 1, 1) := by decide +kernel
theorem d_Mod_tableOf_23 : decode M_Mod_tableOf.2.1 23 = .ok (.iand, 1) := by decide +kernel
theorem d_Mod_tableOf_24 : decode M_Mod_tableOf.2.1 24 = .ok (.iconst 1, 1) := by decide +kernel
theorem d_Mod_tableOf_25 : decode M_Mod_tableOf.2.1 25 = .ok (.if_icmp .ne 11, 3) := by decide +kernel
theorem d_Mod_tableOf_28 : decode M_Mod_tableOf.2.1 28 = .ok (.iload_n 2, 1) := by decide +kernel
theorem d_Mod_tableOf_29 : decode M_Mod_tableOf.2.1 29 = .ok (.iconst 1, 1) := by decide +kernel
theorem d_Mod_tableOf_30 : decode M_Mod_tableOf.2.1 30 = .ok (.iload_n 3, 1) := by decide +kernel
theorem d_Mod_tableOf_31 : decode M_Mod_tableOf.2.1 31 = .ok (.ishl, 1) := by decide +kernel
theorem d_Mod_tableOf_32 : decode M_Mod_tableOf.2.1 32 = .ok (.ior, 1) := by decide +kernel
theorem d_Mod_tableOf_33 : decode M_Mod_tableOf.2.1 33 = .ok (.goto 4, 3) := by decide +kernel
theorem d_Mod_tableOf_36 : decode M_Mod_tableOf.2.1 36 = .ok (.iload_n 2, 1) := by decide +kernel
theorem d_Mod_tableOf_37 : decode M_Mod_tableOf.2.1 37 = .ok (.istore_n 2, 1) := by decide +kernel
theorem d_Mod_tableOf_38 : decode M_Mod_tableOf.2.1 38 = .ok (.iinc 3 1, 3) := by decide +kernel
theorem d_Mod_tableOf_41 : decode M_Mod_tableOf.2.1 41 = .ok (.goto (-37), 3) := by decide +kernel
theorem d_Mod_tableOf_44 : decode M_Mod_tableOf.2.1 44 = .ok (.iload_n 2, 1) := by decide +kernel
theorem d_Mod_tableOf_45 : decode M_Mod_tableOf.2.1 45 = .ok (.ireturn, 1) := by decide +kernel
theorem d_Mod_tables_0 : decode M_Mod_tables.2.1 0 = .ok (.aload_n 0, 1) := by decide +kernel
theorem d_Mod_tables_1 : decode M_Mod_tables.2.1 1 = .ok (.aload_n 0, 1) := by decide +kernel
theorem d_Mod_tables_2 : decode M_Mod_tables.2.1 2 = .ok (.getfield 101, 3) := by decide +kernel
theorem d_Mod_tables_5 : decode M_Mod_tables.2.1 5 = .ok (.ifCond .eq 7, 3) := by decide +kernel
theorem d_Mod_tables_8 : decode M_Mod_tables.2.1 8 = .ok (.iconst 0, 1) := by decide +kernel
theorem d_Mod_tables_9 : decode M_Mod_tables.2.1 9 = .ok (.goto 4, 3) := by decide +kernel
theorem d_Mod_tables_12 : decode M_Mod_tables.2.1 12 = .ok (.iconst 1, 1) := by decide +kernel
theorem d_Mod_tables_13 : decode M_Mod_tables.2.1 13 = .ok (.putfield 63, 3) := by decide +kernel
theorem d_Mod_tables_16 : decode M_Mod_tables.2.1 16 = .ok (.aload_n 0, 1) := by decide +kernel
theorem d_Mod_tables_17 : decode M_Mod_tables.2.1 17 = .ok (.getfield 63, 3) := by decide +kernel
theorem d_Mod_tables_20 : decode M_Mod_tables.2.1 20 = .ok (.ifCond .le 7, 3) := by decide +kernel
theorem d_Mod_tables_23 : decode M_Mod_tables.2.1 23 = .ok (.iconst 0, 1) := by decide +kernel
theorem d_Mod_tables_24 : decode M_Mod_tables.2.1 24 = .ok (.goto 11, 3) := by decide +kernel
theorem d_Mod_tables_27 : decode M_Mod_tables.2.1 27 = .ok (.aload_n 0, 1) := by decide +kernel
theorem d_Mod_tables_28 : decode M_Mod_tables.2.1 28 = .ok (.aload_n 0, 1) := by decide +kernel
theorem d_Mod_tables_29 : decode M_Mod_tables.2.1 29 = .ok (.invokevirtual 155, 3) := by decide +kernel
theorem d_Mod_tables_32 : decode M_Mod_tables.2.1 32 = .ok (.invokevirtual 158, 3) := by decide +kernel
theorem d_Mod_tables_35 : decode M_Mod_tables.2.1 35 = .ok (.ireturn, 1) := by decide +kernel
theorem d_Mod_take_0 : decode M_Mod_take.2.1 0 = .ok (.aload_n 0, 1) := by decide +kernel
theorem d_Mod_take_1 : decode M_Mod_take.2.1 1 = .ok (.iconst 1, 1) := by decide +kernel
theorem d_Mod_take_2 : decode M_Mod_take.2.1 2 = .ok (.putfield 101, 3) := by decide +kernel
theorem d_Mod_take_5 : decode M_Mod_take.2.1 5 = .ok (.aload_n 0, 1) := by decide +kernel
theorem d_Mod_take_6 : decode M_Mod_take.2.1 6 = .ok (.aload_n 0, 1) := by decide +kernel
theorem d_Mod_take_7 : decode M_Mod_take.2.1 7 = .ok (.getfield 91, 3) := by decide +kernel
theorem d_Mod_take_10 : decode M_Mod_take.2.1 10 = .ok (.putfield 105, 3) := by decide +kernel
theorem d_Mod_take_13 : decode M_Mod_take.2.1 13 = .ok (.aload_n 0, 1) := by decide +kernel
theorem d_Mod_take_14 : decode M_Mod_take.2.1 14 = .ok (.aload_n 0, 1) := by decide +kernel
theorem d_Mod_take_15 : decode M_Mod_take.2.1 15 = .ok (.getfield 84, 3) := by decide +kernel
theorem d_Mod_take_18 : decode M_Mod_take.2.1 18 = .ok (.ifCond .ne 7, 3) := by decide +kernel
theorem d_Mod_take_21 : decode M_Mod_take.2.1 21 = .ok (.iconst 1, 1) := by decide +kernel
theorem d_Mod_take_22 : decode M_Mod_take.2.1 22 = .ok (.goto 7, 3) := by decide +kernel
theorem d_Mod_take_25 : decode M_Mod_take.2.1 25 = .ok (.aload_n 0, 1) := by decide +kernel
theorem d_Mod_take_26 : decode M_Mod_take.2.1 26 = .ok (.getfield 84, 3) := by decide +kernel
theorem d_Mod_take_29 : decode M_Mod_take.2.1 29 = .ok (.putfield 98, 3) := by decide +kernel
theorem d_Mod_take_32 : decode M_Mod_take.2.1 32 = .ok (.iconst 0, 1) := by decide +kernel
theorem d_Mod_take_33 : decode M_Mod_take.2.1 33 = .ok (.istore_n 1, 1) := by decide +kernel
theorem d_Mod_take_34 : decode M_Mod_take.2.1 34 = .ok (.iload_n 1, 1) := by decide +kernel
theorem d_Mod_take_35 : decode M_Mod_take.2.1 35 = .ok (.iconst 4, 1) := by decide +kernel
theorem d_Mod_take_36 : decode M_Mod_take.2.1 36 = .ok (.if_icmp .ge 21, 3) := by decide +kernel
theorem d_Mod_take_39 : decode M_Mod_take.2.1 39 = .ok (.aload_n 0, 1) := by decide +kernel
theorem d_Mod_take_40 : decode M_Mod_take.2.1 40 = .ok (.getfield 51, 3) := by decide +kernel
theorem d_Mod_take_43 : decode M_Mod_take.2.1 43 = .ok (.iload_n 1, 1) := by decide +kernel
theorem d_Mod_take_44 : decode M_Mod_take.2.1 44 = .ok (.aload_n 0, 1) := by decide +kernel
theorem d_Mod_take_45 : decode M_Mod_take.2.1 45 = .ok (.getfield 33, 3) := by decide +kernel
theorem d_Mod_take_48 : decode M_Mod_take.2.1 48 = .ok (.iload_n 1, 1) := by decide +kernel
theorem d_Mod_take_49 : decode M_Mod_take.2.1 49 = .ok (.iaload, 1) := by decide +kernel
theorem d_Mod_take_50 : decode M_Mod_take.2.1 50 = .ok (.iastore, 1) := by decide +kernel
theorem d_Mod_take_51 : decode M_Mod_take.2.1 51 = .ok (.iinc 1 1, 3) := by decide +kernel
theorem d_Mod_take_54 : decode M_Mod_take.2.1 54 = .ok (.goto (-20), 3) := by decide +kernel
theorem d_Mod_take_57 : decode M_Mod_take.2.1 57 = .ok (.iconst 0, 1) := by decide +kernel
theorem d_Mod_take_58 : decode M_Mod_take.2.1 58 = .ok (.istore_n 1, 1) := by decide +kernel
theorem d_Mod_take_59 : decode M_Mod_take.2.1 59 = .ok (.iload_n 1, 1) := by decide +kernel
theorem d_Mod_take_60 : decode M_Mod_take.2.1 60 = .ok (.bipush 12, 2) := by decide +kernel
theorem d_Mod_take_62 : decode M_Mod_take.2.1 62 = .ok (.if_icmp .ge 21, 3) := by decide +kernel
theorem d_Mod_take_65 : decode M_Mod_take.2.1 65 = .ok (.aload_n 0, 1) := by decide +kernel
theorem d_Mod_take_66 : decode M_Mod_take.2.1 66 = .ok (.getfield 36, 3) := by decide +kernel
theorem d_Mod_take_69 : decode M_Mod_take.2.1 69 = .ok (.iload_n 1, 1) := by decide +kernel
theorem d_Mod_take_70 : decode M_Mod_take.2.1 70 = .ok (.aload_n 0, 1) := by decide +kernel
theorem d_Mod_take_71 : decode M_Mod_take.2.1 71 = .ok (.getfield 17, 3) := by decide +kernel
theorem d_Mod_take_74 : decode M_Mod_take.2.1 74 = .ok (.iload_n 1, 1) := by decide +kernel
theorem d_Mod_take_75 : decode M_Mod_take.2.1 75 = .ok (.iaload, 1) := by decide +kernel
theorem d_Mod_take_76 : decode M_Mod_take.2.1 76 = .ok (.iastore, 1) := by decide +kernel
theorem d_Mod_take_77 : decode M_Mod_take.2.1 77 = .ok (.iinc 1 1, 3) := by decide +kernel
theorem d_Mod_take_80 : decode M_Mod_take.2.1 80 = .ok (.goto (-21), 3) := by decide +kernel
theorem d_Mod_take_83 : decode M_Mod_take.2.1 83 = .ok (.iconst 0, 1) := by decide +kernel
theorem d_Mod_take_84 : decode M_Mod_take.2.1 84 = .ok (.istore_n 1, 1) := by decide +kernel
theorem d_Mod_take_85 : decode M_Mod_take.2.1 85 = .ok (.iload_n 1, 1) := by decide +kernel
theorem d_Mod_take_86 : decode M_Mod_take.2.1 86 = .ok (.bipush 48, 2) := by decide +kernel
theorem d_Mod_take_88 : decode M_Mod_take.2.1 88 = .ok (.if_icmp .ge 57, 3) := by decide +kernel
theorem d_Mod_take_91 : decode M_Mod_take.2.1 91 = .ok (.aload_n 0, 1) := by decide +kernel
theorem d_Mod_take_92 : decode M_Mod_take.2.1 92 = .ok (.getfield 39, 3) := by decide +kernel
theorem d_Mod_take_95 : decode M_Mod_take.2.1 95 = .ok (.iload_n 1, 1) := by decide +kernel
theorem d_Mod_take_96 : decode M_Mod_take.2.1 96 = .ok (.aload_n 0, 1) := by decide +kernel
theorem d_Mod_take_97 : decode M_Mod_take.2.1 97 = .ok (.getfield 20, 3) := by decide +kernel
theorem d_Mod_take_100 : decode M_Mod_take.2.1 100 = .ok (.iload_n 1, 1) := by decide +kernel
theorem d_Mod_take_101 : decode M_Mod_take.2.1 101 = .ok (.iaload, 1) := by decide +kernel
theorem d_Mod_take_102 : decode M_Mod_take.2.1 102 = .ok (.iastore, 1) := by decide +kernel
theorem d_Mod_take_103 : decode M_Mod_take.2.1 103 = .ok (.aload_n 0, 1) := by decide +kernel
theorem d_Mod_take_104 : decode M_Mod_take.2.1 104 = .ok (.getfield 42, 3) := by decide +kernel
theorem d_Mod_take_107 : decode M_Mod_take.2.1 107 = .ok (.iload_n 1, 1) := by decide +kernel
theorem d_Mod_take_108 : decode M_Mod_take.2.1 108 = .ok (.aload_n 0, 1) := by decide +kernel
theorem d_Mod_take_109 : decode M_Mod_take.2.1 109 = .ok (.getfield 23, 3) := by decide +kernel
theorem d_Mod_take_112 : decode M_Mod_take.2.1 112 = .ok (.iload_n 1, 1) := by decide +kernel
theorem d_Mod_take_113 : decode M_Mod_take.2.1 113 = .ok (.baload, 1) := by decide +kernel
theorem d_Mod_take_114 : decode M_Mod_take.2.1 114 = .ok (.bastore, 1) := by decide +kernel
theorem d_Mod_take_115 : decode M_Mod_take.2.1 115 = .ok (.aload_n 0, 1) := by decide +kernel
theorem d_Mod_take_116 : decode M_Mod_take.2.1 116 = .ok (.getfield 45, 3) := by decide +kernel
theorem d_Mod_take_119 : decode M_Mod_take.2.1 119 = .ok (.iload_n 1, 1) := by decide +kernel
theorem d_Mod_take_120 : decode M_Mod_take.2.1 120 = .ok (.aload_n 0, 1) := by decide +kernel
theorem d_Mod_take_121 : decode M_Mod_take.2.1 121 = .ok (.getfield 27, 3) := by decide +kernel
theorem d_Mod_take_124 : decode M_Mod_take.2.1 124 = .ok (.iload_n 1, 1) := by decide +kernel
theorem d_Mod_take_125 : decode M_Mod_take.2.1 125 = .ok (.iaload, 1) := by decide +kernel
theorem d_Mod_take_126 : decode M_Mod_take.2.1 126 = .ok (.iastore, 1) := by decide +kernel
theorem d_Mod_take_127 : decode M_Mod_take.2.1 127 = .ok (.aload_n 0, 1) := by decide +kernel
theorem d_Mod_take_128 : decode M_Mod_take.2.1 128 = .ok (.getfield 48, 3) := by decide +kernel
theorem d_Mod_take_131 : decode M_Mod_take.2.1 131 = .ok (.iload_n 1, 1) := by decide +kernel
theorem d_Mod_take_132 : decode M_Mod_take.2.1 132 = .ok (.aload_n 0, 1) := by decide +kernel
theorem d_Mod_take_133 : decode M_Mod_take.2.1 133 = .ok (.getfield 30, 3) := by decide +kernel
theorem d_Mod_take_136 : decode M_Mod_take.2.1 136 = .ok (.iload_n 1, 1) := by decide +kernel
theorem d_Mod_take_137 : decode M_Mod_take.2.1 137 = .ok (.iaload, 1) := by decide +kernel
theorem d_Mod_take_138 : decode M_Mod_take.2.1 138 = .ok (.iastore, 1) := by decide +kernel
theorem d_Mod_take_139 : decode M_Mod_take.2.1 139 = .ok (.iinc 1 1, 3) := by decide +kernel
theorem d_Mod_take_142 : decode M_Mod_take.2.1 142 = .ok (.goto (-57), 3) := by decide +kernel
theorem d_Mod_take_145 : decode M_Mod_take.2.1 145 = .ok (.aload_n 0, 1) := by decide +kernel
theorem d_Mod_take_146 : decode M_Mod_take.2.1 146 = .ok (.aload_n 0, 1) := by decide +kernel
theorem d_Mod_take_147 : decode M_Mod_take.2.1 147 = .ok (.getfield 51, 3) := by decide +kernel
theorem d_Mod_take_150 : decode M_Mod_take.2.1 150 = .ok (.aload_n 0, 1) := by decide +kernel
theorem d_Mod_take_151 : decode M_Mod_take.2.1 151 = .ok (.getfield 98, 3) := by decide +kernel
theorem d_Mod_take_154 : decode M_Mod_take.2.1 154 = .ok (.invokestatic 87, 3) := by decide +kernel
theorem d_Mod_take_157 : decode M_Mod_take.2.1 157 = .ok (.putfield 108, 3) := by decide +kernel
theorem d_Mod_take_160 : decode M_Mod_take.2.1 160 = .ok (.return_, 1) := by decide +kernel
theorem d_Mod_thrown_0 : decode M_Mod_thrown.2.1 0 = .ok (.aload_n 0, 1) := by decide +kernel
theorem d_Mod_thrown_1 : decode M_Mod_thrown.2.1 1 = .ok (.getfield 63, 3) := by decide +kernel
theorem d_Mod_thrown_4 : decode M_Mod_thrown.2.1 4 = .ok (.ireturn, 1) := by decide +kernel
theorem d_Mod_tryTables_0 : decode M_Mod_tryTables.2.1 0 = .ok (.iconst 0, 1) := by decide +kernel
theorem d_Mod_tryTables_1 : decode M_Mod_tryTables.2.1 1 = .ok (.istore_n 2, 1) := by decide +kernel
theorem d_Mod_tryTables_2 : decode M_Mod_tryTables.2.1 2 = .ok (.iload_n 2, 1) := by decide +kernel
theorem d_Mod_tryTables_3 : decode M_Mod_tryTables.2.1 3 = .ok (.sipush 128, 3) := by decide +kernel
theorem d_Mod_tryTables_6 : decode M_Mod_tryTables.2.1 6 = .ok (.if_icmp .ge 22, 3) := by decide +kernel
theorem d_Mod_tryTables_9 : decode M_Mod_tryTables.2.1 9 = .ok (.aload_n 0, 1) := by decide +kernel
theorem d_Mod_tryTables_10 : decode M_Mod_tryTables.2.1 10 = .ok (.getfield 60, 3) := by decide +kernel
theorem d_Mod_tryTables_13 : decode M_Mod_tryTables.2.1 13 = .ok (.sipush 128, 3) := by decide +kernel
theorem d_Mod_tryTables_16 : decode M_Mod_tryTables.2.1 16 = .ok (.iload_n 1, 1) := by decide +kernel
theorem d_Mod_tryTables_17 : decode M_Mod_tryTables.2.1 17 = .ok (.imul, 1) := by decide +kernel
theorem d_Mod_tryTables_18 : decode M_Mod_tryTables.2.1 18 = .ok (.iload_n 2, 1) := by decide +kernel
theorem d_Mod_tryTables_19 : decode M_Mod_tryTables.2.1 19 = .ok (.iadd, 1) := by decide +kernel
theorem d_Mod_tryTables_20 : decode M_Mod_tryTables.2.1 20 = .ok (.iconst 0, 1) := by decide +kernel
theorem d_Mod_tryTables_21 : decode M_Mod_tryTables.2.1 21 = .ok (.iastore, 1) := by decide +kernel
theorem d_Mod_tryTables_22 : decode M_Mod_tryTables.2.1 22 = .ok (.iinc 2 1, 3) := by decide +kernel
theorem d_Mod_tryTables_25 : decode M_Mod_tryTables.2.1 25 = .ok (.goto (-23), 3) := by decide +kernel
theorem d_Mod_tryTables_28 : decode M_Mod_tryTables.2.1 28 = .ok (.iconst 0, 1) := by decide +kernel
theorem d_Mod_tryTables_29 : decode M_Mod_tryTables.2.1 29 = .ok (.istore_n 2, 1) := by decide +kernel
theorem d_Mod_tryTables_30 : decode M_Mod_tryTables.2.1 30 = .ok (.iload_n 2, 1) := by decide +kernel
theorem d_Mod_tryTables_31 : decode M_Mod_tryTables.2.1 31 = .ok (.iconst 1, 1) := by decide +kernel
theorem d_Mod_tryTables_32 : decode M_Mod_tryTables.2.1 32 = .ok (.aload_n 0, 1) := by decide +kernel
theorem d_Mod_tryTables_33 : decode M_Mod_tryTables.2.1 33 = .ok (.getfield 108, 3) := by decide +kernel
theorem d_Mod_tryTables_36 : decode M_Mod_tryTables.2.1 36 = .ok (.ishl, 1) := by decide +kernel
theorem d_Mod_tryTables_37 : decode M_Mod_tryTables.2.1 37 = .ok (.if_icmp .ge 93, 3) := by decide +kernel
theorem d_Mod_tryTables_40 : decode M_Mod_tryTables.2.1 40 = .ok (.iconst 1, 1) := by decide +kernel
theorem d_Mod_tryTables_41 : decode M_Mod_tryTables.2.1 41 = .ok (.istore_n 3, 1) := by decide +kernel
theorem d_Mod_tryTables_42 : decode M_Mod_tryTables.2.1 42 = .ok (.iconst 0, 1) := by decide +kernel
theorem d_Mod_tryTables_43 : decode M_Mod_tryTables.2.1 43 = .ok (.istore 4, 2) := by decide +kernel
theorem d_Mod_tryTables_45 : decode M_Mod_tryTables.2.1 45 = .ok (.iload 4, 2) := by decide +kernel
theorem d_Mod_tryTables_47 : decode M_Mod_tryTables.2.1 47 = .ok (.aload_n 0, 1) := by decide +kernel
theorem d_Mod_tryTables_48 : decode M_Mod_tryTables.2.1 48 = .ok (.getfield 57, 3) := by decide +kernel
theorem d_Mod_tryTables_51 : decode M_Mod_tryTables.2.1 51 = .ok (.iload_n 1, 1) := by decide +kernel
theorem d_Mod_tryTables_52 : decode M_Mod_tryTables.2.1 52 = .ok (.iaload, 1) := by decide +kernel
theorem d_Mod_tryTables_53 : decode M_Mod_tryTables.2.1 53 = .ok (.if_icmp .ge 30, 3) := by decide +kernel
theorem d_Mod_tryTables_56 : decode M_Mod_tryTables.2.1 56 = .ok (.iload_n 3, 1) := by decide +kernel
theorem d_Mod_tryTables_57 : decode M_Mod_tryTables.2.1 57 = .ok (.ifCond .eq 26, 3) := by decide +kernel
theorem d_Mod_tryTables_60 : decode M_Mod_tryTables.2.1 60 = .ok (.aload_n 0, 1) := by decide +kernel
theorem d_Mod_tryTables_61 : decode M_Mod_tryTables.2.1 61 = .ok (.getfield 54, 3) := by decide +kernel
theorem d_Mod_tryTables_64 : decode M_Mod_tryTables.2.1 64 = .ok (.bipush 27, 2) := by decide +kernel
theorem d_Mod_tryTables_66 : decode M_Mod_tryTables.2.1 66 = .ok (.iload_n 1, 1) := by decide +kernel
theorem d_Mod_tryTables_67 : decode M_Mod_tryTables.2.1 67 = .ok (.imul, 1) := by decide +kernel
theorem d_Mod_tryTables_68 : decode M_Mod_tryTables.2.1 68 = .ok (.iload 4, 2) := by decide +kernel
theorem d_Mod_tryTables_70 : decode M_Mod_tryTables.2.1 70 = .ok (.iadd, 1) := by decide +kernel
theorem d_Mod_tryTables_71 : decode M_Mod_tryTables.2.1 71 = .ok (.iaload, 1) := by decide +kernel
theorem d_Mod_tryTables_72 : decode M_Mod_tryTables.2.1 72 = .ok (.iload_n 2, 1) := by decide +kernel
theorem d_Mod_tryTables_73 : decode M_Mod_tryTables.2.1 73 = .ok (.invokestatic 129, 3) := by decide +kernel
theorem d_Mod_tryTables_76 : decode M_Mod_tryTables.2.1 76 = .ok (.istore_n 3, 1) := by decide +kernel
theorem d_Mod_tryTables_77 : decode M_Mod_tryTables.2.1 77 = .ok (.iinc 4 1, 3) := by decide +kernel
theorem d_Mod_tryTables_80 : decode M_Mod_tryTables.2.1 80 = .ok (.goto (-35), 3) := by decide +kernel
theorem d_Mod_tryTables_83 : decode M_Mod_tryTables.2.1 83 = .ok (.iload_n 3, 1) := by decide +kernel
theorem d_Mod_tryTables_84 : decode M_Mod_tryTables.2.1 84 = .ok (.ifCond .eq 40, 3) := by decide +kernel
theorem d_Mod_tryTables_87 : decode M_Mod_tryTables.2.1 87 = .ok (.aload_n 0, 1) := by decide +kernel
theorem d_Mod_tryTables_88 : decode M_Mod_tryTables.2.1 88 = .ok (.getfield 60, 3) := by decide +kernel
theorem d_Mod_tryTables_91 : decode M_Mod_tryTables.2.1 91 = .ok (.sipush 128, 3) := by decide +kernel
theorem d_Mod_tryTables_94 : decode M_Mod_tryTables.2.1 94 = .ok (.iload_n 1, 1) := by decide +kernel
theorem d_Mod_tryTables_95 : decode M_Mod_tryTables.2.1 95 = .ok (.imul, 1) := by decide +kernel
theorem d_Mod_tryTables_96 : decode M_Mod_tryTables.2.1 96 = .ok (.iload_n 2, 1) := by decide +kernel
theorem d_Mod_tryTables_97 : decode M_Mod_tryTables.2.1 97 = .ok (.bipush 32, 2) := by decide +kernel
theorem d_Mod_tryTables_99 : decode M_Mod_tryTables.2.1 99 = .ok (.idiv, 1) := by decide +kernel
theorem d_Mod_tryTables_100 : decode M_Mod_tryTables.2.1 100 = .ok (.iadd, 1) := by decide +kernel
theorem d_Mod_tryTables_101 : decode M_Mod_tryTables.2.1 101 = .ok (.aload_n 0, 1) := by decide +kernel
theorem d_Mod_tryTables_102 : decode M_Mod_tryTables.2.1 102 = .ok (.getfield 60, 3) := by decide +kernel
theorem d_Mod_tryTables_105 : decode M_Mod_tryTables.2.1 105 = .ok (.sipush 128, 3) := by decide +kernel
theorem d_Mod_tryTables_108 : decode M_Mod_tryTables.2.1 108 = .ok (.iload_n 1, 1) := by decide +kernel
theorem d_Mod_tryTables_109 : decode M_Mod_tryTables.2.1 109 = .ok (.imul, 1) := by decide +kernel
theorem d_Mod_tryTables_110 : decode M_Mod_tryTables.2.1 110 = .ok (.iload_n 2, 1) := by decide +kernel
theorem d_Mod_tryTables_111 : decode M_Mod_tryTables.2.1 111 = .ok (.bipush 32, 2) := by decide +kernel
theorem d_Mod_tryTables_113 : decode M_Mod_tryTables.2.1 113 = .ok (.idiv, 1) := by decide +kernel
theorem d_Mod_tryTables_114 : decode M_Mod_tryTables.2.1 114 = .ok (.iadd, 1) := by decide +kernel
theorem d_Mod_tryTables_115 : decode M_Mod_tryTables.2.1 115 = .ok (.iaload, 1) := by decide +kernel
theorem d_Mod_tryTables_116 : decode M_Mod_tryTables.2.1 116 = .ok (.iconst 1, 1) := by decide +kernel
theorem d_Mod_tryTables_117 : decode M_Mod_tryTables.2.1 117 = .ok (.iload_n 2, 1) := by decide +kernel
theorem d_Mod_tryTables_118 : decode M_Mod_tryTables.2.1 118 = .ok (.bipush 32, 2) := by decide +kernel
theorem d_Mod_tryTables_120 : decode M_Mod_tryTables.2.1 120 = .ok (.irem, 1) := by decide +kernel
theorem d_Mod_tryTables_121 : decode M_Mod_tryTables.2.1 121 = .ok (.ishl, 1) := by decide +kernel
theorem d_Mod_tryTables_122 : decode M_Mod_tryTables.2.1 122 = .ok (.ior, 1) := by decide +kernel
theorem d_Mod_tryTables_123 : decode M_Mod_tryTables.2.1 123 = .ok (.iastore, 1) := by decide +kernel
theorem d_Mod_tryTables_124 : decode M_Mod_tryTables.2.1 124 = .ok (.iinc 2 1, 3) := by decide +kernel
theorem d_Mod_tryTables_127 : decode M_Mod_tryTables.2.1 127 = .ok (.goto (-97), 3) := by decide +kernel
theorem d_Mod_tryTables_130 : decode M_Mod_tryTables.2.1 130 = .ok (.return_, 1) := by decide +kernel
theorem d_Mod_type_0 : decode M_Mod_type.2.1 0 = .ok (.aload_n 0, 1) := by decide +kernel
theorem d_Mod_type_1 : decode M_Mod_type.2.1 1 = .ok (.iconst 0, 1) := by decide +kernel
theorem d_Mod_type_2 : decode M_Mod_type.2.1 2 = .ok (.putfield 63, 3) := by decide +kernel
theorem d_Mod_type_5 : decode M_Mod_type.2.1 5 = .ok (.iconst 0, 1) := by decide +kernel
theorem d_Mod_type_6 : decode M_Mod_type.2.1 6 = .ok (.istore_n 3, 1) := by decide +kernel
theorem d_Mod_type_7 : decode M_Mod_type.2.1 7 = .ok (.iconst 1, 1) := by decide +kernel
theorem d_Mod_type_8 : decode M_Mod_type.2.1 8 = .ok (.istore 4, 2) := by decide +kernel
theorem d_Mod_type_10 : decode M_Mod_type.2.1 10 = .ok (.iload_n 3, 1) := by decide +kernel
theorem d_Mod_type_11 : decode M_Mod_type.2.1 11 = .ok (.bipush 8, 2) := by decide +kernel
theorem d_Mod_type_13 : decode M_Mod_type.2.1 13 = .ok (.if_icmp .ge 64, 3) := by decide +kernel
theorem d_Mod_type_16 : decode M_Mod_type.2.1 16 = .ok (.lload_n 1, 1) := by decide +kernel
theorem d_Mod_type_17 : decode M_Mod_type.2.1 17 = .ok (.bipush 8, 2) := by decide +kernel
theorem d_Mod_type_19 : decode M_Mod_type.2.1 19 = .ok (.iload_n 3, 1) := by decide +kernel
theorem d_Mod_type_20 : decode M_Mod_type.2.1 20 = .ok (.imul, 1) := by decide +kernel
theorem d_Mod_type_21 : decode M_Mod_type.2.1 21 = .ok (.lshr, 1) := by decide +kernel
theorem d_Mod_type_22 : decode M_Mod_type.2.1 22 = .ok (.ldc2_w 66, 3) := by decide +kernel
theorem d_Mod_type_25 : decode M_Mod_type.2.1 25 = .ok (.land, 1) := by decide +kernel
theorem d_Mod_type_26 : decode M_Mod_type.2.1 26 = .ok (.lconst 0, 1) := by decide +kernel
theorem d_Mod_type_27 : decode M_Mod_type.2.1 27 = .ok (.lcmp, 1) := by decide +kernel
theorem d_Mod_type_28 : decode M_Mod_type.2.1 28 = .ok (.ifCond .eq 49, 3) := by decide +kernel
theorem d_Mod_type_31 : decode M_Mod_type.2.1 31 = .ok (.lload_n 1, 1) := by decide +kernel
theorem d_Mod_type_32 : decode M_Mod_type.2.1 32 = .ok (.bipush 8, 2) := by decide +kernel
theorem d_Mod_type_34 : decode M_Mod_type.2.1 34 = .ok (.iload_n 3, 1) := by decide +kernel
theorem d_Mod_type_35 : decode M_Mod_type.2.1 35 = .ok (.imul, 1) := by decide +kernel
theorem d_Mod_type_36 : decode M_Mod_type.2.1 36 = .ok (.lshr, 1) := by decide +kernel
theorem d_Mod_type_37 : decode M_Mod_type.2.1 37 = .ok (.ldc2_w 66, 3) := by decide +kernel
theorem d_Mod_type_40 : decode M_Mod_type.2.1 40 = .ok (.land, 1) := by decide +kernel
theorem d_Mod_type_41 : decode M_Mod_type.2.1 41 = .ok (.l2i, 1) := by decide +kernel
theorem d_Mod_type_42 : decode M_Mod_type.2.1 42 = .ok (.istore 5, 2) := by decide +kernel
theorem d_Mod_type_44 : decode M_Mod_type.2.1 44 = .ok (.iload 4, 2) := by decide +kernel
theorem d_Mod_type_46 : decode M_Mod_type.2.1 46 = .ok (.ifCond .eq 21, 3) := by decide +kernel
theorem d_Mod_type_49 : decode M_Mod_type.2.1 49 = .ok (.iload 5, 2) := by decide +kernel
theorem d_Mod_type_51 : decode M_Mod_type.2.1 51 = .ok (.bipush 32, 2) := by decide +kernel
theorem d_Mod_type_53 : decode M_Mod_type.2.1 53 = .ok (.if_icmp .le 14, 3) := by decide +kernel
theorem d_Mod_type_56 : decode M_Mod_type.2.1 56 = .ok (.iload 5, 2) := by decide +kernel
theorem d_Mod_type_58 : decode M_Mod_type.2.1 58 = .ok (.bipush 127, 2) := by decide +kernel
theorem d_Mod_type_60 : decode M_Mod_type.2.1 60 = .ok (.if_icmp .ge 7, 3) := by decide +kernel
theorem d_Mod_type_63 : decode M_Mod_type.2.1 63 = .ok (.iconst 1, 1) := by decide +kernel
theorem d_Mod_type_64 : decode M_Mod_type.2.1 64 = .ok (.goto 4, 3) := by decide +kernel
theorem d_Mod_type_67 : decode M_Mod_type.2.1 67 = .ok (.iconst 0, 1) := by decide +kernel
theorem d_Mod_type_68 : decode M_Mod_type.2.1 68 = .ok (.istore 4, 2) := by decide +kernel
theorem d_Mod_type_70 : decode M_Mod_type.2.1 70 = .ok (.iload_n 3, 1) := by decide +kernel
theorem d_Mod_type_71 : decode M_Mod_type.2.1 71 = .ok (.iconst 1, 1) := by decide +kernel
theorem d_Mod_type_72 : decode M_Mod_type.2.1 72 = .ok (.iadd, 1) := by decide +kernel
theorem d_Mod_type_73 : decode M_Mod_type.2.1 73 = .ok (.istore_n 3, 1) := by decide +kernel
theorem d_Mod_type_74 : decode M_Mod_type.2.1 74 = .ok (.goto (-64), 3) := by decide +kernel
theorem d_Mod_type_77 : decode M_Mod_type.2.1 77 = .ok (.iload 4, 2) := by decide +kernel
theorem d_Mod_type_79 : decode M_Mod_type.2.1 79 = .ok (.ifCond .eq 14, 3) := by decide +kernel
theorem d_Mod_type_82 : decode M_Mod_type.2.1 82 = .ok (.aload_n 0, 1) := by decide +kernel
theorem d_Mod_type_83 : decode M_Mod_type.2.1 83 = .ok (.getfield 68, 3) := by decide +kernel
theorem d_Mod_type_86 : decode M_Mod_type.2.1 86 = .ok (.iload_n 3, 1) := by decide +kernel
theorem d_Mod_type_87 : decode M_Mod_type.2.1 87 = .ok (.iadd, 1) := by decide +kernel
theorem d_Mod_type_88 : decode M_Mod_type.2.1 88 = .ok (.bipush 96, 2) := by decide +kernel
theorem d_Mod_type_90 : decode M_Mod_type.2.1 90 = .ok (.if_icmp .le 5, 3) := by decide +kernel
theorem d_Mod_type_93 : decode M_Mod_type.2.1 93 = .ok (.iconst 0, 1) := by decide +kernel
theorem d_Mod_type_94 : decode M_Mod_type.2.1 94 = .ok (.ireturn, 1) := by decide +kernel
theorem d_Mod_type_95 : decode M_Mod_type.2.1 95 = .ok (.iconst 0, 1) := by decide +kernel
theorem d_Mod_type_96 : decode M_Mod_type.2.1 96 = .ok (.istore 5, 2) := by decide +kernel
theorem d_Mod_type_98 : decode M_Mod_type.2.1 98 = .ok (.iload 5, 2) := by decide +kernel
theorem d_Mod_type_100 : decode M_Mod_type.2.1 100 = .ok (.iload_n 3, 1) := by decide +kernel
theorem d_Mod_type_101 : decode M_Mod_type.2.1 101 = .ok (.if_icmp .ge 33, 3) := by decide +kernel
theorem d_Mod_type_104 : decode M_Mod_type.2.1 104 = .ok (.aload_n 0, 1) := by decide +kernel
theorem d_Mod_type_105 : decode M_Mod_type.2.1 105 = .ok (.getfield 7, 3) := by decide +kernel
theorem d_Mod_type_108 : decode M_Mod_type.2.1 108 = .ok (.aload_n 0, 1) := by decide +kernel
theorem d_Mod_type_109 : decode M_Mod_type.2.1 109 = .ok (.getfield 68, 3) := by decide +kernel
theorem d_Mod_type_112 : decode M_Mod_type.2.1 112 = .ok (.iload 5, 2) := by decide +kernel
theorem d_Mod_type_114 : decode M_Mod_type.2.1 114 = .ok (.iadd, 1) := by decide +kernel
theorem d_Mod_type_115 : decode M_Mod_type.2.1 115 = .ok (.lload_n 1, 1) := by decide +kernel
theorem d_Mod_type_116 : decode M_Mod_type.2.1 116 = .ok (.bipush 8, 2) := by decide +kernel
theorem d_Mod_type_118 : decode M_Mod_type.2.1 118 = .ok (.iload 5, 2) := by decide +kernel
theorem d_Mod_type_120 : decode M_Mod_type.2.1 120 = .ok (.imul, 1) := by decide +kernel
theorem d_Mod_type_121 : decode M_Mod_type.2.1 121 = .ok (.lshr, 1) := by decide +kernel
theorem d_Mod_type_122 : decode M_Mod_type.2.1 122 = .ok (.ldc2_w 66, 3) := by decide +kernel
theorem d_Mod_type_125 : decode M_Mod_type.2.1 125 = .ok (.land, 1) := by decide +kernel
theorem d_Mod_type_126 : decode M_Mod_type.2.1 126 = .ok (.l2i, 1) := by decide +kernel
theorem d_Mod_type_127 : decode M_Mod_type.2.1 127 = .ok (.iastore, 1) := by decide +kernel
theorem d_Mod_type_128 : decode M_Mod_type.2.1 128 = .ok (.iinc 5 1, 3) := by decide +kernel
theorem d_Mod_type_131 : decode M_Mod_type.2.1 131 = .ok (.goto (-33), 3) := by decide +kernel
theorem d_Mod_type_134 : decode M_Mod_type.2.1 134 = .ok (.aload_n 0, 1) := by decide +kernel
theorem d_Mod_type_135 : decode M_Mod_type.2.1 135 = .ok (.aload_n 0, 1) := by decide +kernel
theorem d_Mod_type_136 : decode M_Mod_type.2.1 136 = .ok (.getfield 68, 3) := by decide +kernel
theorem d_Mod_type_139 : decode M_Mod_type.2.1 139 = .ok (.iload_n 3, 1) := by decide +kernel
theorem d_Mod_type_140 : decode M_Mod_type.2.1 140 = .ok (.iadd, 1) := by decide +kernel
theorem d_Mod_type_141 : decode M_Mod_type.2.1 141 = .ok (.putfield 68, 3) := by decide +kernel
theorem d_Mod_type_144 : decode M_Mod_type.2.1 144 = .ok (.iconst 1, 1) := by decide +kernel
theorem d_Mod_type_145 : decode M_Mod_type.2.1 145 = .ok (.ireturn, 1) := by decide +kernel
theorem d_Mod_valueOf_0 : decode M_Mod_valueOf.2.1 0 = .ok (.iload_n 0, 1) := by decide +kernel
theorem d_Mod_valueOf_1 : decode M_Mod_valueOf.2.1 1 = .ok (.iconst 3, 1) := by decide +kernel
theorem d_Mod_valueOf_2 : decode M_Mod_valueOf.2.1 2 = .ok (.if_icmp .ge 7, 3) := by decide +kernel
theorem d_Mod_valueOf_5 : decode M_Mod_valueOf.2.1 5 = .ok (.iload_n 0, 1) := by decide +kernel
theorem d_Mod_valueOf_6 : decode M_Mod_valueOf.2.1 6 = .ok (.goto 13, 3) := by decide +kernel
theorem d_Mod_valueOf_9 : decode M_Mod_valueOf.2.1 9 = .ok (.iload_n 1, 1) := by decide +kernel
theorem d_Mod_valueOf_10 : decode M_Mod_valueOf.2.1 10 = .ok (.iconst 4, 1) := by decide +kernel
theorem d_Mod_valueOf_11 : decode M_Mod_valueOf.2.1 11 = .ok (.iload_n 0, 1) := by decide +kernel
theorem d_Mod_valueOf_12 : decode M_Mod_valueOf.2.1 12 = .ok (.iconst 3, 1) := by decide +kernel
theorem d_Mod_valueOf_13 : decode M_Mod_valueOf.2.1 13 = .ok (.isub, 1) := by decide +kernel
theorem d_Mod_valueOf_14 : decode M_Mod_valueOf.2.1 14 = .ok (.imul, 1) := by decide +kernel
theorem d_Mod_valueOf_15 : decode M_Mod_valueOf.2.1 15 = .ok (.ishr, 1) := by decide +kernel
theorem d_Mod_valueOf_16 : decode M_Mod_valueOf.2.1 16 = .ok (.bipush 15, 2) := by decide +kernel
theorem d_Mod_valueOf_18 : decode M_Mod_valueOf.2.1 18 = .ok (.iand, 1) := by decide +kernel
theorem d_Mod_valueOf_19 : decode M_Mod_valueOf.2.1 19 = .ok (.ireturn, 1) := by decide +kernel
theorem d_Mod_without_0 : decode M_Mod_without.2.1 0 = .ok (.aload_n 0, 1) := by decide +kernel
theorem d_Mod_without_1 : decode M_Mod_without.2.1 1 = .ok (.aload_n 0, 1) := by decide +kernel
theorem d_Mod_without_2 : decode M_Mod_without.2.1 2 = .ok (.getfield 101, 3) := by decide +kernel
theorem d_Mod_without_5 : decode M_Mod_without.2.1 5 = .ok (.ifCond .ne 7, 3) := by decide +kernel
theorem d_Mod_without_8 : decode M_Mod_without.2.1 8 = .ok (.iconst 1, 1) := by decide +kernel
theorem d_Mod_without_9 : decode M_Mod_without.2.1 9 = .ok (.goto 16, 3) := by decide +kernel
theorem d_Mod_without_12 : decode M_Mod_without.2.1 12 = .ok (.aload_n 0, 1) := by decide +kernel
theorem d_Mod_without_13 : decode M_Mod_without.2.1 13 = .ok (.iload_n 1, 1) := by decide +kernel
theorem d_Mod_without_14 : decode M_Mod_without.2.1 14 = .ok (.invokevirtual 149, 3) := by decide +kernel
theorem d_Mod_without_17 : decode M_Mod_without.2.1 17 = .ok (.ifCond .eq 7, 3) := by decide +kernel
theorem d_Mod_without_20 : decode M_Mod_without.2.1 20 = .ok (.iconst 0, 1) := by decide +kernel
theorem d_Mod_without_21 : decode M_Mod_without.2.1 21 = .ok (.goto 4, 3) := by decide +kernel
theorem d_Mod_without_24 : decode M_Mod_without.2.1 24 = .ok (.iconst 2, 1) := by decide +kernel
theorem d_Mod_without_25 : decode M_Mod_without.2.1 25 = .ok (.putfield 63, 3) := by decide +kernel
theorem d_Mod_without_28 : decode M_Mod_without.2.1 28 = .ok (.aload_n 0, 1) := by decide +kernel
theorem d_Mod_without_29 : decode M_Mod_without.2.1 29 = .ok (.getfield 63, 3) := by decide +kernel
theorem d_Mod_without_32 : decode M_Mod_without.2.1 32 = .ok (.ifCond .ne 24, 3) := by decide +kernel
theorem d_Mod_without_35 : decode M_Mod_without.2.1 35 = .ok (.aload_n 0, 1) := by decide +kernel
theorem d_Mod_without_36 : decode M_Mod_without.2.1 36 = .ok (.aload_n 0, 1) := by decide +kernel
theorem d_Mod_without_37 : decode M_Mod_without.2.1 37 = .ok (.invokevirtual 155, 3) := by decide +kernel
theorem d_Mod_without_40 : decode M_Mod_without.2.1 40 = .ok (.iconst 1, 1) := by decide +kernel
theorem d_Mod_without_41 : decode M_Mod_without.2.1 41 = .ok (.iload_n 1, 1) := by decide +kernel
theorem d_Mod_without_42 : decode M_Mod_without.2.1 42 = .ok (.ishl, 1) := by decide +kernel
theorem d_Mod_without_43 : decode M_Mod_without.2.1 43 = .ok (.iconst (-1), 1) := by decide +kernel
theorem d_Mod_without_44 : decode M_Mod_without.2.1 44 = .ok (.ixor, 1) := by decide +kernel
theorem d_Mod_without_45 : decode M_Mod_without.2.1 45 = .ok (.iand, 1) := by decide +kernel
theorem d_Mod_without_46 : decode M_Mod_without.2.1 46 = .ok (.invokevirtual 158, 3) := by decide +kernel
theorem d_Mod_without_49 : decode M_Mod_without.2.1 49 = .ok (.ifCond .le 7, 3) := by decide +kernel
theorem d_Mod_without_52 : decode M_Mod_without.2.1 52 = .ok (.iconst 1, 1) := by decide +kernel
theorem d_Mod_without_53 : decode M_Mod_without.2.1 53 = .ok (.goto 4, 3) := by decide +kernel
theorem d_Mod_without_56 : decode M_Mod_without.2.1 56 = .ok (.iconst 0, 1) := by decide +kernel
theorem d_Mod_without_57 : decode M_Mod_without.2.1 57 = .ok (.ireturn, 1) := by decide +kernel
