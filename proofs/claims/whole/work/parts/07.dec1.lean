theorem d_Text_append_0 : decode M_Text_append.2.1 0 = .ok (.lload_n 1, 1) := by decide +kernel
theorem d_Text_append_1 : decode M_Text_append.2.1 1 = .ok (.invokestatic 15, 3) := by decide +kernel
theorem d_Text_append_4 : decode M_Text_append.2.1 4 = .ok (.istore_n 3, 1) := by decide +kernel
theorem d_Text_append_5 : decode M_Text_append.2.1 5 = .ok (.iload_n 3, 1) := by decide +kernel
theorem d_Text_append_6 : decode M_Text_append.2.1 6 = .ok (.iconst (-1), 1) := by decide +kernel
theorem d_Text_append_7 : decode M_Text_append.2.1 7 = .ok (.if_icmp .eq 14, 3) := by decide +kernel
theorem d_Text_append_10 : decode M_Text_append.2.1 10 = .ok (.aload_n 0, 1) := by decide +kernel
theorem d_Text_append_11 : decode M_Text_append.2.1 11 = .ok (.getfield 19, 3) := by decide +kernel
theorem d_Text_append_14 : decode M_Text_append.2.1 14 = .ok (.iload_n 3, 1) := by decide +kernel
theorem d_Text_append_15 : decode M_Text_append.2.1 15 = .ok (.iadd, 1) := by decide +kernel
theorem d_Text_append_16 : decode M_Text_append.2.1 16 = .ok (.bipush 96, 2) := by decide +kernel
theorem d_Text_append_18 : decode M_Text_append.2.1 18 = .ok (.if_icmp .le 5, 3) := by decide +kernel
theorem d_Text_append_21 : decode M_Text_append.2.1 21 = .ok (.iconst 0, 1) := by decide +kernel
theorem d_Text_append_22 : decode M_Text_append.2.1 22 = .ok (.ireturn, 1) := by decide +kernel
theorem d_Text_append_23 : decode M_Text_append.2.1 23 = .ok (.iconst 0, 1) := by decide +kernel
theorem d_Text_append_24 : decode M_Text_append.2.1 24 = .ok (.istore 4, 2) := by decide +kernel
theorem d_Text_append_26 : decode M_Text_append.2.1 26 = .ok (.iload 4, 2) := by decide +kernel
theorem d_Text_append_28 : decode M_Text_append.2.1 28 = .ok (.iload_n 3, 1) := by decide +kernel
theorem d_Text_append_29 : decode M_Text_append.2.1 29 = .ok (.if_icmp .ge 28, 3) := by decide +kernel
theorem d_Text_append_32 : decode M_Text_append.2.1 32 = .ok (.aload_n 0, 1) := by decide +kernel
theorem d_Text_append_33 : decode M_Text_append.2.1 33 = .ok (.getfield 9, 3) := by decide +kernel
theorem d_Text_append_36 : decode M_Text_append.2.1 36 = .ok (.aload_n 0, 1) := by decide +kernel
theorem d_Text_append_37 : decode M_Text_append.2.1 37 = .ok (.getfield 19, 3) := by decide +kernel
theorem d_Text_append_40 : decode M_Text_append.2.1 40 = .ok (.iload 4, 2) := by decide +kernel
theorem d_Text_append_42 : decode M_Text_append.2.1 42 = .ok (.iadd, 1) := by decide +kernel
theorem d_Text_append_43 : decode M_Text_append.2.1 43 = .ok (.lload_n 1, 1) := by decide +kernel
theorem d_Text_append_44 : decode M_Text_append.2.1 44 = .ok (.iload 4, 2) := by decide +kernel
theorem d_Text_append_46 : decode M_Text_append.2.1 46 = .ok (.invokestatic 23, 3) := by decide +kernel
theorem d_Text_append_49 : decode M_Text_append.2.1 49 = .ok (.i2c, 1) := by decide +kernel
theorem d_Text_append_50 : decode M_Text_append.2.1 50 = .ok (.castore, 1) := by decide +kernel
theorem d_Text_append_51 : decode M_Text_append.2.1 51 = .ok (.iinc 4 1, 3) := by decide +kernel
theorem d_Text_append_54 : decode M_Text_append.2.1 54 = .ok (.goto (-28), 3) := by decide +kernel
theorem d_Text_append_57 : decode M_Text_append.2.1 57 = .ok (.aload_n 0, 1) := by decide +kernel
theorem d_Text_append_58 : decode M_Text_append.2.1 58 = .ok (.dup, 1) := by decide +kernel
theorem d_Text_append_59 : decode M_Text_append.2.1 59 = .ok (.getfield 19, 3) := by decide +kernel
theorem d_Text_append_62 : decode M_Text_append.2.1 62 = .ok (.iload_n 3, 1) := by decide +kernel
theorem d_Text_append_63 : decode M_Text_append.2.1 63 = .ok (.iadd, 1) := by decide +kernel
theorem d_Text_append_64 : decode M_Text_append.2.1 64 = .ok (.putfield 19, 3) := by decide +kernel
theorem d_Text_append_67 : decode M_Text_append.2.1 67 = .ok (.iconst 1, 1) := by decide +kernel
theorem d_Text_append_68 : decode M_Text_append.2.1 68 = .ok (.ireturn, 1) := by decide +kernel
theorem d_Text_at_0 : decode M_Text_at.2.1 0 = .ok (.iload_n 1, 1) := by decide +kernel
theorem d_Text_at_1 : decode M_Text_at.2.1 1 = .ok (.ifCond .lt 20, 3) := by decide +kernel
theorem d_Text_at_4 : decode M_Text_at.2.1 4 = .ok (.iload_n 1, 1) := by decide +kernel
theorem d_Text_at_5 : decode M_Text_at.2.1 5 = .ok (.aload_n 0, 1) := by decide +kernel
theorem d_Text_at_6 : decode M_Text_at.2.1 6 = .ok (.getfield 19, 3) := by decide +kernel
theorem d_Text_at_9 : decode M_Text_at.2.1 9 = .ok (.if_icmp .ge 12, 3) := by decide +kernel
theorem d_Text_at_12 : decode M_Text_at.2.1 12 = .ok (.aload_n 0, 1) := by decide +kernel
theorem d_Text_at_13 : decode M_Text_at.2.1 13 = .ok (.getfield 9, 3) := by decide +kernel
theorem d_Text_at_16 : decode M_Text_at.2.1 16 = .ok (.iload_n 1, 1) := by decide +kernel
theorem d_Text_at_17 : decode M_Text_at.2.1 17 = .ok (.caload, 1) := by decide +kernel
theorem d_Text_at_18 : decode M_Text_at.2.1 18 = .ok (.goto 4, 3) := by decide +kernel
theorem d_Text_at_21 : decode M_Text_at.2.1 21 = .ok (.iconst 0, 1) := by decide +kernel
theorem d_Text_at_22 : decode M_Text_at.2.1 22 = .ok (.ireturn, 1) := by decide +kernel
theorem d_Text_character_0 : decode M_Text_character.2.1 0 = .ok (.lload_n 0, 1) := by decide +kernel
theorem d_Text_character_1 : decode M_Text_character.2.1 1 = .ok (.bipush 8, 2) := by decide +kernel
theorem d_Text_character_3 : decode M_Text_character.2.1 3 = .ok (.iload_n 2, 1) := by decide +kernel
theorem d_Text_character_4 : decode M_Text_character.2.1 4 = .ok (.imul, 1) := by decide +kernel
theorem d_Text_character_5 : decode M_Text_character.2.1 5 = .ok (.lushr, 1) := by decide +kernel
theorem d_Text_character_6 : decode M_Text_character.2.1 6 = .ok (.l2i, 1) := by decide +kernel
theorem d_Text_character_7 : decode M_Text_character.2.1 7 = .ok (.sipush 255, 3) := by decide +kernel
theorem d_Text_character_10 : decode M_Text_character.2.1 10 = .ok (.iand, 1) := by decide +kernel
theorem d_Text_character_11 : decode M_Text_character.2.1 11 = .ok (.ireturn, 1) := by decide +kernel
theorem d_Text_countCharacters_0 : decode M_Text_countCharacters.2.1 0 = .ok (.iconst 0, 1) := by decide +kernel
theorem d_Text_countCharacters_1 : decode M_Text_countCharacters.2.1 1 = .ok (.istore_n 2, 1) := by decide +kernel
theorem d_Text_countCharacters_2 : decode M_Text_countCharacters.2.1 2 = .ok (.iload_n 2, 1) := by decide +kernel
theorem d_Text_countCharacters_3 : decode M_Text_countCharacters.2.1 3 = .ok (.bipush 8, 2) := by decide +kernel
theorem d_Text_countCharacters_5 : decode M_Text_countCharacters.2.1 5 = .ok (.if_icmp .ge 35, 3) := by decide +kernel
theorem d_Text_countCharacters_8 : decode M_Text_countCharacters.2.1 8 = .ok (.lload_n 0, 1) := by decide +kernel
theorem d_Text_countCharacters_9 : decode M_Text_countCharacters.2.1 9 = .ok (.iload_n 2, 1) := by decide +kernel
theorem d_Text_countCharacters_10 : decode M_Text_countCharacters.2.1 10 = .ok (.invokestatic 23, 3) := by decide +kernel
theorem d_Text_countCharacters_13 : decode M_Text_countCharacters.2.1 13 = .ok (.istore_n 3, 1) := by decide +kernel
theorem d_Text_countCharacters_14 : decode M_Text_countCharacters.2.1 14 = .ok (.iload_n 3, 1) := by decide +kernel
theorem d_Text_countCharacters_15 : decode M_Text_countCharacters.2.1 15 = .ok (.ifCond .ne 5, 3) := by decide +kernel
theorem d_Text_countCharacters_18 : decode M_Text_countCharacters.2.1 18 = .ok (.iload_n 2, 1) := by decide +kernel
theorem d_Text_countCharacters_19 : decode M_Text_countCharacters.2.1 19 = .ok (.ireturn, 1) := by decide +kernel
theorem d_Text_countCharacters_20 : decode M_Text_countCharacters.2.1 20 = .ok (.iload_n 3, 1) := by decide +kernel
theorem d_Text_countCharacters_21 : decode M_Text_countCharacters.2.1 21 = .ok (.bipush 33, 2) := by decide +kernel
theorem d_Text_countCharacters_23 : decode M_Text_countCharacters.2.1 23 = .ok (.if_icmp .lt 9, 3) := by decide +kernel
theorem d_Text_countCharacters_26 : decode M_Text_countCharacters.2.1 26 = .ok (.iload_n 3, 1) := by decide +kernel
theorem d_Text_countCharacters_27 : decode M_Text_countCharacters.2.1 27 = .ok (.bipush 126, 2) := by decide +kernel
theorem d_Text_countCharacters_29 : decode M_Text_countCharacters.2.1 29 = .ok (.if_icmp .le 5, 3) := by decide +kernel
theorem d_Text_countCharacters_32 : decode M_Text_countCharacters.2.1 32 = .ok (.iconst (-1), 1) := by decide +kernel
theorem d_Text_countCharacters_33 : decode M_Text_countCharacters.2.1 33 = .ok (.ireturn, 1) := by decide +kernel
theorem d_Text_countCharacters_34 : decode M_Text_countCharacters.2.1 34 = .ok (.iinc 2 1, 3) := by decide +kernel
theorem d_Text_countCharacters_37 : decode M_Text_countCharacters.2.1 37 = .ok (.goto (-35), 3) := by decide +kernel
theorem d_Text_countCharacters_40 : decode M_Text_countCharacters.2.1 40 = .ok (.bipush 8, 2) := by decide +kernel
theorem d_Text_countCharacters_42 : decode M_Text_countCharacters.2.1 42 = .ok (.ireturn, 1) := by decide +kernel
theorem d_Text_empty_0 : decode M_Text_empty.2.1 0 = .ok (.aload_n 0, 1) := by decide +kernel
theorem d_Text_empty_1 : decode M_Text_empty.2.1 1 = .ok (.getfield 19, 3) := by decide +kernel
theorem d_Text_empty_4 : decode M_Text_empty.2.1 4 = .ok (.istore_n 1, 1) := by decide +kernel
theorem d_Text_empty_5 : decode M_Text_empty.2.1 5 = .ok (.aload_n 0, 1) := by decide +kernel
theorem d_Text_empty_6 : decode M_Text_empty.2.1 6 = .ok (.iconst 0, 1) := by decide +kernel
theorem d_Text_empty_7 : decode M_Text_empty.2.1 7 = .ok (.putfield 19, 3) := by decide +kernel
theorem d_Text_empty_10 : decode M_Text_empty.2.1 10 = .ok (.iload_n 1, 1) := by decide +kernel
theorem d_Text_empty_11 : decode M_Text_empty.2.1 11 = .ok (.ireturn, 1) := by decide +kernel
theorem d_Text_init_0 : decode M_Text_init.2.1 0 = .ok (.aload_n 0, 1) := by decide +kernel
theorem d_Text_init_1 : decode M_Text_init.2.1 1 = .ok (.invokespecial 3, 3) := by decide +kernel
theorem d_Text_init_4 : decode M_Text_init.2.1 4 = .ok (.aload_n 0, 1) := by decide +kernel
theorem d_Text_init_5 : decode M_Text_init.2.1 5 = .ok (.bipush 96, 2) := by decide +kernel
theorem d_Text_init_7 : decode M_Text_init.2.1 7 = .ok (.newarray .char, 2) := by decide +kernel
theorem d_Text_init_9 : decode M_Text_init.2.1 9 = .ok (.putfield 9, 3) := by decide +kernel
theorem d_Text_init_12 : decode M_Text_init.2.1 12 = .ok (.return_, 1) := by decide +kernel
theorem d_Voc_addConstant_0 : decode M_Voc_addConstant.2.1 0 = .ok (.aload_n 0, 1) := by decide +kernel
theorem d_Voc_addConstant_1 : decode M_Voc_addConstant.2.1 1 = .ok (.dup, 1) := by decide +kernel
theorem d_Voc_addConstant_2 : decode M_Voc_addConstant.2.1 2 = .ok (.getfield 24, 3) := by decide +kernel
theorem d_Voc_addConstant_5 : decode M_Voc_addConstant.2.1 5 = .ok (.iconst 1, 1) := by decide +kernel
theorem d_Voc_addConstant_6 : decode M_Voc_addConstant.2.1 6 = .ok (.iload_n 1, 1) := by decide +kernel
theorem d_Voc_addConstant_7 : decode M_Voc_addConstant.2.1 7 = .ok (.ishl, 1) := by decide +kernel
theorem d_Voc_addConstant_8 : decode M_Voc_addConstant.2.1 8 = .ok (.ior, 1) := by decide +kernel
theorem d_Voc_addConstant_9 : decode M_Voc_addConstant.2.1 9 = .ok (.putfield 24, 3) := by decide +kernel
theorem d_Voc_addConstant_12 : decode M_Voc_addConstant.2.1 12 = .ok (.aload_n 0, 1) := by decide +kernel
theorem d_Voc_addConstant_13 : decode M_Voc_addConstant.2.1 13 = .ok (.invokevirtual 28, 3) := by decide +kernel
theorem d_Voc_addConstant_16 : decode M_Voc_addConstant.2.1 16 = .ok (.return_, 1) := by decide +kernel
theorem d_Voc_addPredicate_0 : decode M_Voc_addPredicate.2.1 0 = .ok (.aload_n 0, 1) := by decide +kernel
theorem d_Voc_addPredicate_1 : decode M_Voc_addPredicate.2.1 1 = .ok (.getfield 9, 3) := by decide +kernel
theorem d_Voc_addPredicate_4 : decode M_Voc_addPredicate.2.1 4 = .ok (.iload_n 1, 1) := by decide +kernel
theorem d_Voc_addPredicate_5 : decode M_Voc_addPredicate.2.1 5 = .ok (.iload_n 2, 1) := by decide +kernel
theorem d_Voc_addPredicate_6 : decode M_Voc_addPredicate.2.1 6 = .ok (.iastore, 1) := by decide +kernel
theorem d_Voc_addPredicate_7 : decode M_Voc_addPredicate.2.1 7 = .ok (.aload_n 0, 1) := by decide +kernel
theorem d_Voc_addPredicate_8 : decode M_Voc_addPredicate.2.1 8 = .ok (.invokevirtual 28, 3) := by decide +kernel
theorem d_Voc_addPredicate_11 : decode M_Voc_addPredicate.2.1 11 = .ok (.return_, 1) := by decide +kernel
theorem d_Voc_become_0 : decode M_Voc_become.2.1 0 = .ok (.aload_n 1, 1) := by decide +kernel
theorem d_Voc_become_1 : decode M_Voc_become.2.1 1 = .ok (.getfield 9, 3) := by decide +kernel
theorem d_Voc_become_4 : decode M_Voc_become.2.1 4 = .ok (.iconst 0, 1) := by decide +kernel
theorem d_Voc_become_5 : decode M_Voc_become.2.1 5 = .ok (.aload_n 0, 1) := by decide +kernel
theorem d_Voc_become_6 : decode M_Voc_become.2.1 6 = .ok (.getfield 9, 3) := by decide +kernel
theorem d_Voc_become_9 : decode M_Voc_become.2.1 9 = .ok (.iconst 0, 1) := by decide +kernel
theorem d_Voc_become_10 : decode M_Voc_become.2.1 10 = .ok (.iconst 4, 1) := by decide +kernel
theorem d_Voc_become_11 : decode M_Voc_become.2.1 11 = .ok (.invokestatic 31, 3) := by decide +kernel
theorem d_Voc_become_14 : decode M_Voc_become.2.1 14 = .ok (.aload_n 0, 1) := by decide +kernel
theorem d_Voc_become_15 : decode M_Voc_become.2.1 15 = .ok (.aload_n 1, 1) := by decide +kernel
theorem d_Voc_become_16 : decode M_Voc_become.2.1 16 = .ok (.getfield 24, 3) := by decide +kernel
theorem d_Voc_become_19 : decode M_Voc_become.2.1 19 = .ok (.putfield 24, 3) := by decide +kernel
theorem d_Voc_become_22 : decode M_Voc_become.2.1 22 = .ok (.aload_n 0, 1) := by decide +kernel
theorem d_Voc_become_23 : decode M_Voc_become.2.1 23 = .ok (.invokevirtual 28, 3) := by decide +kernel
theorem d_Voc_become_26 : decode M_Voc_become.2.1 26 = .ok (.return_, 1) := by decide +kernel
theorem d_Voc_clear_0 : decode M_Voc_clear.2.1 0 = .ok (.aload_n 0, 1) := by decide +kernel
theorem d_Voc_clear_1 : decode M_Voc_clear.2.1 1 = .ok (.getfield 9, 3) := by decide +kernel
theorem d_Voc_clear_4 : decode M_Voc_clear.2.1 4 = .ok (.iconst (-1), 1) := by decide +kernel
theorem d_Voc_clear_5 : decode M_Voc_clear.2.1 5 = .ok (.invokestatic 18, 3) := by decide +kernel
theorem d_Voc_clear_8 : decode M_Voc_clear.2.1 8 = .ok (.aload_n 0, 1) := by decide +kernel
theorem d_Voc_clear_9 : decode M_Voc_clear.2.1 9 = .ok (.iconst 0, 1) := by decide +kernel
theorem d_Voc_clear_10 : decode M_Voc_clear.2.1 10 = .ok (.putfield 24, 3) := by decide +kernel
theorem d_Voc_clear_13 : decode M_Voc_clear.2.1 13 = .ok (.aload_n 0, 1) := by decide +kernel
theorem d_Voc_clear_14 : decode M_Voc_clear.2.1 14 = .ok (.invokevirtual 28, 3) := by decide +kernel
theorem d_Voc_clear_17 : decode M_Voc_clear.2.1 17 = .ok (.return_, 1) := by decide +kernel
theorem d_Voc_countAtoms_0 : decode M_Voc_countAtoms.2.1 0 = .ok (.iload_n 1, 1) := by decide +kernel
theorem d_Voc_countAtoms_1 : decode M_Voc_countAtoms.2.1 1 = .ok (.tableswitch 44 0 2 #[27, 29, 34], 27) := by decide +kernel
theorem d_Voc_countAtoms_28 : decode M_Voc_countAtoms.2.1 28 = .ok (.iconst 1, 1) := by decide +kernel
theorem d_Voc_countAtoms_29 : decode M_Voc_countAtoms.2.1 29 = .ok (.ireturn, 1) := by decide +kernel
theorem d_Voc_countAtoms_30 : decode M_Voc_countAtoms.2.1 30 = .ok (.aload_n 0, 1) := by decide +kernel
theorem d_Voc_countAtoms_31 : decode M_Voc_countAtoms.2.1 31 = .ok (.getfield 43, 3) := by decide +kernel
theorem d_Voc_countAtoms_34 : decode M_Voc_countAtoms.2.1 34 = .ok (.ireturn, 1) := by decide +kernel
theorem d_Voc_countAtoms_35 : decode M_Voc_countAtoms.2.1 35 = .ok (.aload_n 0, 1) := by decide +kernel
theorem d_Voc_countAtoms_36 : decode M_Voc_countAtoms.2.1 36 = .ok (.getfield 43, 3) := by decide +kernel
theorem d_Voc_countAtoms_39 : decode M_Voc_countAtoms.2.1 39 = .ok (.aload_n 0, 1) := by decide +kernel
theorem d_Voc_countAtoms_40 : decode M_Voc_countAtoms.2.1 40 = .ok (.getfield 43, 3) := by decide +kernel
theorem d_Voc_countAtoms_43 : decode M_Voc_countAtoms.2.1 43 = .ok (.imul, 1) := by decide +kernel
theorem d_Voc_countAtoms_44 : decode M_Voc_countAtoms.2.1 44 = .ok (.ireturn, 1) := by decide +kernel
theorem d_Voc_countAtoms_45 : decode M_Voc_countAtoms.2.1 45 = .ok (.iconst 0, 1) := by decide +kernel
theorem d_Voc_countAtoms_46 : decode M_Voc_countAtoms.2.1 46 = .ok (.ireturn, 1) := by decide +kernel
theorem d_Voc_findAtom_0 : decode M_Voc_findAtom.2.1 0 = .ok (.iload_n 1, 1) := by decide +kernel
theorem d_Voc_findAtom_1 : decode M_Voc_findAtom.2.1 1 = .ok (.ifCond .lt 18, 3) := by decide +kernel
theorem d_Voc_findAtom_4 : decode M_Voc_findAtom.2.1 4 = .ok (.iload_n 1, 1) := by decide +kernel
theorem d_Voc_findAtom_5 : decode M_Voc_findAtom.2.1 5 = .ok (.iconst 4, 1) := by decide +kernel
theorem d_Voc_findAtom_6 : decode M_Voc_findAtom.2.1 6 = .ok (.if_icmp .ge 13, 3) := by decide +kernel
theorem d_Voc_findAtom_9 : decode M_Voc_findAtom.2.1 9 = .ok (.aload_n 0, 1) := by decide +kernel
theorem d_Voc_findAtom_10 : decode M_Voc_findAtom.2.1 10 = .ok (.getfield 9, 3) := by decide +kernel
theorem d_Voc_findAtom_13 : decode M_Voc_findAtom.2.1 13 = .ok (.iload_n 1, 1) := by decide +kernel
theorem d_Voc_findAtom_14 : decode M_Voc_findAtom.2.1 14 = .ok (.iaload, 1) := by decide +kernel
theorem d_Voc_findAtom_15 : decode M_Voc_findAtom.2.1 15 = .ok (.iconst (-1), 1) := by decide +kernel
theorem d_Voc_findAtom_16 : decode M_Voc_findAtom.2.1 16 = .ok (.if_icmp .ne 5, 3) := by decide +kernel
theorem d_Voc_findAtom_19 : decode M_Voc_findAtom.2.1 19 = .ok (.iconst (-1), 1) := by decide +kernel
theorem d_Voc_findAtom_20 : decode M_Voc_findAtom.2.1 20 = .ok (.ireturn, 1) := by decide +kernel
theorem d_Voc_findAtom_21 : decode M_Voc_findAtom.2.1 21 = .ok (.aload_n 0, 1) := by decide +kernel
theorem d_Voc_findAtom_22 : decode M_Voc_findAtom.2.1 22 = .ok (.iload_n 2, 1) := by decide +kernel
theorem d_Voc_findAtom_23 : decode M_Voc_findAtom.2.1 23 = .ok (.invokevirtual 46, 3) := by decide +kernel
theorem d_Voc_findAtom_26 : decode M_Voc_findAtom.2.1 26 = .ok (.istore 4, 2) := by decide +kernel
theorem d_Voc_findAtom_28 : decode M_Voc_findAtom.2.1 28 = .ok (.aload_n 0, 1) := by decide +kernel
theorem d_Voc_findAtom_29 : decode M_Voc_findAtom.2.1 29 = .ok (.iload_n 3, 1) := by decide +kernel
theorem d_Voc_findAtom_30 : decode M_Voc_findAtom.2.1 30 = .ok (.invokevirtual 46, 3) := by decide +kernel
theorem d_Voc_findAtom_33 : decode M_Voc_findAtom.2.1 33 = .ok (.istore 5, 2) := by decide +kernel
theorem d_Voc_findAtom_35 : decode M_Voc_findAtom.2.1 35 = .ok (.aload_n 0, 1) := by decide +kernel
theorem d_Voc_findAtom_36 : decode M_Voc_findAtom.2.1 36 = .ok (.getfield 9, 3) := by decide +kernel
theorem d_Voc_findAtom_39 : decode M_Voc_findAtom.2.1 39 = .ok (.iload_n 1, 1) := by decide +kernel
theorem d_Voc_findAtom_40 : decode M_Voc_findAtom.2.1 40 = .ok (.iaload, 1) := by decide +kernel
theorem d_Voc_findAtom_41 : decode M_Voc_findAtom.2.1 41 = .ok (.iconst 1, 1) := by decide +kernel
theorem d_Voc_findAtom_42 : decode M_Voc_findAtom.2.1 42 = .ok (.if_icmp .lt 9, 3) := by decide +kernel
theorem d_Voc_findAtom_45 : decode M_Voc_findAtom.2.1 45 = .ok (.iload 4, 2) := by decide +kernel
theorem d_Voc_findAtom_47 : decode M_Voc_findAtom.2.1 47 = .ok (.iconst (-1), 1) := by decide +kernel
theorem d_Voc_findAtom_48 : decode M_Voc_findAtom.2.1 48 = .ok (.if_icmp .eq 19, 3) := by decide +kernel
theorem d_Voc_findAtom_51 : decode M_Voc_findAtom.2.1 51 = .ok (.aload_n 0, 1) := by decide +kernel
theorem d_Voc_findAtom_52 : decode M_Voc_findAtom.2.1 52 = .ok (.getfield 9, 3) := by decide +kernel
theorem d_Voc_findAtom_55 : decode M_Voc_findAtom.2.1 55 = .ok (.iload_n 1, 1) := by decide +kernel
theorem d_Voc_findAtom_56 : decode M_Voc_findAtom.2.1 56 = .ok (.iaload, 1) := by decide +kernel
theorem d_Voc_findAtom_57 : decode M_Voc_findAtom.2.1 57 = .ok (.iconst 2, 1) := by decide +kernel
theorem d_Voc_findAtom_58 : decode M_Voc_findAtom.2.1 58 = .ok (.if_icmp .lt 13, 3) := by decide +kernel
theorem d_Voc_findAtom_61 : decode M_Voc_findAtom.2.1 61 = .ok (.iload 5, 2) := by decide +kernel
theorem d_Voc_findAtom_63 : decode M_Voc_findAtom.2.1 63 = .ok (.iconst (-1), 1) := by decide +kernel
theorem d_Voc_findAtom_64 : decode M_Voc_findAtom.2.1 64 = .ok (.if_icmp .ne 7, 3) := by decide +kernel
theorem d_Voc_findAtom_67 : decode M_Voc_findAtom.2.1 67 = .ok (.iconst 1, 1) := by decide +kernel
theorem d_Voc_findAtom_68 : decode M_Voc_findAtom.2.1 68 = .ok (.goto 4, 3) := by decide +kernel
theorem d_Voc_findAtom_71 : decode M_Voc_findAtom.2.1 71 = .ok (.iconst 0, 1) := by decide +kernel
theorem d_Voc_findAtom_72 : decode M_Voc_findAtom.2.1 72 = .ok (.istore 6, 2) := by decide +kernel
theorem d_Voc_findAtom_74 : decode M_Voc_findAtom.2.1 74 = .ok (.iload 6, 2) := by decide +kernel
theorem d_Voc_findAtom_76 : decode M_Voc_findAtom.2.1 76 = .ok (.ifCond .eq 7, 3) := by decide +kernel
theorem d_Voc_findAtom_79 : decode M_Voc_findAtom.2.1 79 = .ok (.iconst (-1), 1) := by decide +kernel
theorem d_Voc_findAtom_80 : decode M_Voc_findAtom.2.1 80 = .ok (.goto 12, 3) := by decide +kernel
theorem d_Voc_findAtom_83 : decode M_Voc_findAtom.2.1 83 = .ok (.aload_n 0, 1) := by decide +kernel
theorem d_Voc_findAtom_84 : decode M_Voc_findAtom.2.1 84 = .ok (.iload_n 1, 1) := by decide +kernel
theorem d_Voc_findAtom_85 : decode M_Voc_findAtom.2.1 85 = .ok (.iload 4, 2) := by decide +kernel
theorem d_Voc_findAtom_87 : decode M_Voc_findAtom.2.1 87 = .ok (.iload 5, 2) := by decide +kernel
theorem d_Voc_findAtom_89 : decode M_Voc_findAtom.2.1 89 = .ok (.invokevirtual 49, 3) := by decide +kernel
theorem d_Voc_findAtom_92 : decode M_Voc_findAtom.2.1 92 = .ok (.ireturn, 1) := by decide +kernel
theorem d_Voc_findThing_0 : decode M_Voc_findThing.2.1 0 = .ok (.iload_n 1, 1) := by decide +kernel
theorem d_Voc_findThing_1 : decode M_Voc_findThing.2.1 1 = .ok (.ifCond .lt 8, 3) := by decide +kernel
theorem d_Voc_findThing_4 : decode M_Voc_findThing.2.1 4 = .ok (.iload_n 1, 1) := by decide +kernel
theorem d_Voc_findThing_5 : decode M_Voc_findThing.2.1 5 = .ok (.iconst 3, 1) := by decide +kernel
theorem d_Voc_findThing_6 : decode M_Voc_findThing.2.1 6 = .ok (.if_icmp .lt 5, 3) := by decide +kernel
theorem d_Voc_findThing_9 : decode M_Voc_findThing.2.1 9 = .ok (.iconst (-1), 1) := by decide +kernel
theorem d_Voc_findThing_10 : decode M_Voc_findThing.2.1 10 = .ok (.ireturn, 1) := by decide +kernel
theorem d_Voc_findThing_11 : decode M_Voc_findThing.2.1 11 = .ok (.aload_n 0, 1) := by decide +kernel
theorem d_Voc_findThing_12 : decode M_Voc_findThing.2.1 12 = .ok (.getfield 24, 3) := by decide +kernel
theorem d_Voc_findThing_15 : decode M_Voc_findThing.2.1 15 = .ok (.ifCond .ne 7, 3) := by decide +kernel
theorem d_Voc_findThing_18 : decode M_Voc_findThing.2.1 18 = .ok (.iconst 1, 1) := by decide +kernel
theorem d_Voc_findThing_19 : decode M_Voc_findThing.2.1 19 = .ok (.goto 7, 3) := by decide +kernel
theorem d_Voc_findThing_22 : decode M_Voc_findThing.2.1 22 = .ok (.aload_n 0, 1) := by decide +kernel
theorem d_Voc_findThing_23 : decode M_Voc_findThing.2.1 23 = .ok (.getfield 24, 3) := by decide +kernel
theorem d_Voc_findThing_26 : decode M_Voc_findThing.2.1 26 = .ok (.istore_n 2, 1) := by decide +kernel
theorem d_Voc_findThing_27 : decode M_Voc_findThing.2.1 27 = .ok (.iload_n 2, 1) := by decide +kernel
theorem d_Voc_findThing_28 : decode M_Voc_findThing.2.1 28 = .ok (.iload_n 1, 1) := by decide +kernel
theorem d_Voc_findThing_29 : decode M_Voc_findThing.2.1 29 = .ok (.ishr, 1) := by decide +kernel
theorem d_Voc_findThing_30 : decode M_Voc_findThing.2.1 30 = .ok (.iconst 1, 1) := by decide +kernel
theorem d_Voc_findThing_31 : decode M_Voc_findThing.2.1 31 = .ok (.iand, 1) := by decide +kernel
theorem d_Voc_findThing_32 : decode M_Voc_findThing.2.1 32 = .ok (.ifCond .eq 7, 3) := by decide +kernel
theorem d_Voc_findThing_35 : decode M_Voc_findThing.2.1 35 = .ok (.iconst 1, 1) := by decide +kernel
theorem d_Voc_findThing_36 : decode M_Voc_findThing.2.1 36 = .ok (.goto 4, 3) := by decide +kernel
theorem d_Voc_findThing_39 : decode M_Voc_findThing.2.1 39 = .ok (.iconst 0, 1) := by decide +kernel
theorem d_Voc_findThing_40 : decode M_Voc_findThing.2.1 40 = .ok (.istore_n 3, 1) := by decide +kernel
theorem d_Voc_findThing_41 : decode M_Voc_findThing.2.1 41 = .ok (.iload_n 3, 1) := by decide +kernel
theorem d_Voc_findThing_42 : decode M_Voc_findThing.2.1 42 = .ok (.ifCond .eq 16, 3) := by decide +kernel
theorem d_Voc_findThing_45 : decode M_Voc_findThing.2.1 45 = .ok (.iload_n 2, 1) := by decide +kernel
theorem d_Voc_findThing_46 : decode M_Voc_findThing.2.1 46 = .ok (.iconst 1, 1) := by decide +kernel
theorem d_Voc_findThing_47 : decode M_Voc_findThing.2.1 47 = .ok (.iload_n 1, 1) := by decide +kernel
theorem d_Voc_findThing_48 : decode M_Voc_findThing.2.1 48 = .ok (.ishl, 1) := by decide +kernel
theorem d_Voc_findThing_49 : decode M_Voc_findThing.2.1 49 = .ok (.iconst 1, 1) := by decide +kernel
theorem d_Voc_findThing_50 : decode M_Voc_findThing.2.1 50 = .ok (.isub, 1) := by decide +kernel
theorem d_Voc_findThing_51 : decode M_Voc_findThing.2.1 51 = .ok (.iand, 1) := by decide +kernel
theorem d_Voc_findThing_52 : decode M_Voc_findThing.2.1 52 = .ok (.invokestatic 37, 3) := by decide +kernel
theorem d_Voc_findThing_55 : decode M_Voc_findThing.2.1 55 = .ok (.goto 4, 3) := by decide +kernel
theorem d_Voc_findThing_58 : decode M_Voc_findThing.2.1 58 = .ok (.iconst (-1), 1) := by decide +kernel
theorem d_Voc_findThing_59 : decode M_Voc_findThing.2.1 59 = .ok (.ireturn, 1) := by decide +kernel
theorem d_Voc_init_0 : decode M_Voc_init.2.1 0 = .ok (.aload_n 0, 1) := by decide +kernel
theorem d_Voc_init_1 : decode M_Voc_init.2.1 1 = .ok (.invokespecial 3, 3) := by decide +kernel
theorem d_Voc_init_4 : decode M_Voc_init.2.1 4 = .ok (.aload_n 0, 1) := by decide +kernel
theorem d_Voc_init_5 : decode M_Voc_init.2.1 5 = .ok (.iconst 4, 1) := by decide +kernel
theorem d_Voc_init_6 : decode M_Voc_init.2.1 6 = .ok (.newarray .int, 2) := by decide +kernel
theorem d_Voc_init_8 : decode M_Voc_init.2.1 8 = .ok (.putfield 9, 3) := by decide +kernel
theorem d_Voc_init_11 : decode M_Voc_init.2.1 11 = .ok (.aload_n 0, 1) := by decide +kernel
theorem d_Voc_init_12 : decode M_Voc_init.2.1 12 = .ok (.iconst 4, 1) := by decide +kernel
theorem d_Voc_init_13 : decode M_Voc_init.2.1 13 = .ok (.newarray .int, 2) := by decide +kernel
theorem d_Voc_init_15 : decode M_Voc_init.2.1 15 = .ok (.putfield 15, 3) := by decide +kernel
theorem d_Voc_init_18 : decode M_Voc_init.2.1 18 = .ok (.aload_n 0, 1) := by decide +kernel
theorem d_Voc_init_19 : decode M_Voc_init.2.1 19 = .ok (.getfield 9, 3) := by decide +kernel
theorem d_Voc_init_22 : decode M_Voc_init.2.1 22 = .ok (.iconst (-1), 1) := by decide +kernel
theorem d_Voc_init_23 : decode M_Voc_init.2.1 23 = .ok (.invokestatic 18, 3) := by decide +kernel
theorem d_Voc_init_26 : decode M_Voc_init.2.1 26 = .ok (.return_, 1) := by decide +kernel
theorem d_Voc_number_0 : decode M_Voc_number.2.1 0 = .ok (.aload_n 0, 1) := by decide +kernel
theorem d_Voc_number_1 : decode M_Voc_number.2.1 1 = .ok (.getfield 9, 3) := by decide +kernel
theorem d_Voc_number_4 : decode M_Voc_number.2.1 4 = .ok (.iload_n 1, 1) := by decide +kernel
theorem d_Voc_number_5 : decode M_Voc_number.2.1 5 = .ok (.iaload, 1) := by decide +kernel
theorem d_Voc_number_6 : decode M_Voc_number.2.1 6 = .ok (.lookupswitch 51 #[(1, 26), (2, 35)], 26) := by decide +kernel
theorem d_Voc_number_32 : decode M_Voc_number.2.1 32 = .ok (.aload_n 0, 1) := by decide +kernel
theorem d_Voc_number_33 : decode M_Voc_number.2.1 33 = .ok (.getfield 15, 3) := by decide +kernel
theorem d_Voc_number_36 : decode M_Voc_number.2.1 36 = .ok (.iload_n 1, 1) := by decide +kernel
theorem d_Voc_number_37 : decode M_Voc_number.2.1 37 = .ok (.iaload, 1) := by decide +kernel
theorem d_Voc_number_38 : decode M_Voc_number.2.1 38 = .ok (.iload_n 2, 1) := by decide +kernel
theorem d_Voc_number_39 : decode M_Voc_number.2.1 39 = .ok (.iadd, 1) := by decide +kernel
theorem d_Voc_number_40 : decode M_Voc_number.2.1 40 = .ok (.ireturn, 1) := by decide +kernel
theorem d_Voc_number_41 : decode M_Voc_number.2.1 41 = .ok (.aload_n 0, 1) := by decide +kernel
theorem d_Voc_number_42 : decode M_Voc_number.2.1 42 = .ok (.getfield 15, 3) := by decide +kernel
theorem d_Voc_number_45 : decode M_Voc_number.2.1 45 = .ok (.iload_n 1, 1) := by decide +kernel
theorem d_Voc_number_46 : decode M_Voc_number.2.1 46 = .ok (.iaload, 1) := by decide +kernel
theorem d_Voc_number_47 : decode M_Voc_number.2.1 47 = .ok (.iload_n 2, 1) := by decide +kernel
theorem d_Voc_number_48 : decode M_Voc_number.2.1 48 = .ok (.aload_n 0, 1) := by decide +kernel
theorem d_Voc_number_49 : decode M_Voc_number.2.1 49 = .ok (.getfield 43, 3) := by decide +kernel
theorem d_Voc_number_52 : decode M_Voc_number.2.1 52 = .ok (.imul, 1) := by decide +kernel
theorem d_Voc_number_53 : decode M_Voc_number.2.1 53 = .ok (.iadd, 1) := by decide +kernel
theorem d_Voc_number_54 : decode M_Voc_number.2.1 54 = .ok (.iload_n 3, 1) := by decide +kernel
theorem d_Voc_number_55 : decode M_Voc_number.2.1 55 = .ok (.iadd, 1) := by decide +kernel
theorem d_Voc_number_56 : decode M_Voc_number.2.1 56 = .ok (.ireturn, 1) := by decide +kernel
theorem d_Voc_number_57 : decode M_Voc_number.2.1 57 = .ok (.aload_n 0, 1) := by decide +kernel
theorem d_Voc_number_58 : decode M_Voc_number.2.1 58 = .ok (.getfield 15, 3) := by decide +kernel
theorem d_Voc_number_61 : decode M_Voc_number.2.1 61 = .ok (.iload_n 1, 1) := by decide +kernel
theorem d_Voc_number_62 : decode M_Voc_number.2.1 62 = .ok (.iaload, 1) := by decide +kernel
theorem d_Voc_number_63 : decode M_Voc_number.2.1 63 = .ok (.ireturn, 1) := by decide +kernel
theorem d_Voc_recount_0 : decode M_Voc_recount.2.1 0 = .ok (.aload_n 0, 1) := by decide +kernel
theorem d_Voc_recount_1 : decode M_Voc_recount.2.1 1 = .ok (.iconst 1, 1) := by decide +kernel
theorem d_Voc_recount_2 : decode M_Voc_recount.2.1 2 = .ok (.aload_n 0, 1) := by decide +kernel
theorem d_Voc_recount_3 : decode M_Voc_recount.2.1 3 = .ok (.getfield 24, 3) := by decide +kernel
theorem d_Voc_recount_6 : decode M_Voc_recount.2.1 6 = .ok (.invokestatic 37, 3) := by decide +kernel
theorem d_Voc_recount_9 : decode M_Voc_recount.2.1 9 = .ok (.invokestatic 53, 3) := by decide +kernel
theorem d_Voc_recount_12 : decode M_Voc_recount.2.1 12 = .ok (.putfield 43, 3) := by decide +kernel
theorem d_Voc_recount_15 : decode M_Voc_recount.2.1 15 = .ok (.aload_n 0, 1) := by decide +kernel
theorem d_Voc_recount_16 : decode M_Voc_recount.2.1 16 = .ok (.iconst 0, 1) := by decide +kernel
theorem d_Voc_recount_17 : decode M_Voc_recount.2.1 17 = .ok (.putfield 59, 3) := by decide +kernel
theorem d_Voc_recount_20 : decode M_Voc_recount.2.1 20 = .ok (.iconst 0, 1) := by decide +kernel
theorem d_Voc_recount_21 : decode M_Voc_recount.2.1 21 = .ok (.istore_n 1, 1) := by decide +kernel
theorem d_Voc_recount_22 : decode M_Voc_recount.2.1 22 = .ok (.iload_n 1, 1) := by decide +kernel
theorem d_Voc_recount_23 : decode M_Voc_recount.2.1 23 = .ok (.iconst 4, 1) := by decide +kernel
theorem d_Voc_recount_24 : decode M_Voc_recount.2.1 24 = .ok (.if_icmp .ge 38, 3) := by decide +kernel
theorem d_Voc_recount_27 : decode M_Voc_recount.2.1 27 = .ok (.aload_n 0, 1) := by decide +kernel
theorem d_Voc_recount_28 : decode M_Voc_recount.2.1 28 = .ok (.getfield 15, 3) := by decide +kernel
theorem d_Voc_recount_31 : decode M_Voc_recount.2.1 31 = .ok (.iload_n 1, 1) := by decide +kernel
theorem d_Voc_recount_32 : decode M_Voc_recount.2.1 32 = .ok (.aload_n 0, 1) := by decide +kernel
theorem d_Voc_recount_33 : decode M_Voc_recount.2.1 33 = .ok (.getfield 59, 3) := by decide +kernel
theorem d_Voc_recount_36 : decode M_Voc_recount.2.1 36 = .ok (.iastore, 1) := by decide +kernel
theorem d_Voc_recount_37 : decode M_Voc_recount.2.1 37 = .ok (.aload_n 0, 1) := by decide +kernel
theorem d_Voc_recount_38 : decode M_Voc_recount.2.1 38 = .ok (.dup, 1) := by decide +kernel
theorem d_Voc_recount_39 : decode M_Voc_recount.2.1 39 = .ok (.getfield 59, 3) := by decide +kernel
theorem d_Voc_recount_42 : decode M_Voc_recount.2.1 42 = .ok (.aload_n 0, 1) := by decide +kernel
theorem d_Voc_recount_43 : decode M_Voc_recount.2.1 43 = .ok (.aload_n 0, 1) := by decide +kernel
theorem d_Voc_recount_44 : decode M_Voc_recount.2.1 44 = .ok (.getfield 9, 3) := by decide +kernel
theorem d_Voc_recount_47 : decode M_Voc_recount.2.1 47 = .ok (.iload_n 1, 1) := by decide +kernel
theorem d_Voc_recount_48 : decode M_Voc_recount.2.1 48 = .ok (.iaload, 1) := by decide +kernel
theorem d_Voc_recount_49 : decode M_Voc_recount.2.1 49 = .ok (.invokevirtual 62, 3) := by decide +kernel
theorem d_Voc_recount_52 : decode M_Voc_recount.2.1 52 = .ok (.iadd, 1) := by decide +kernel
theorem d_Voc_recount_53 : decode M_Voc_recount.2.1 53 = .ok (.putfield 59, 3) := by decide +kernel
theorem d_Voc_recount_56 : decode M_Voc_recount.2.1 56 = .ok (.iinc 1 1, 3) := by decide +kernel
theorem d_Voc_recount_59 : decode M_Voc_recount.2.1 59 = .ok (.goto (-37), 3) := by decide +kernel
theorem d_Voc_recount_62 : decode M_Voc_recount.2.1 62 = .ok (.return_, 1) := by decide +kernel
theorem d_Lit_init_0 : decode M_Lit_init.2.1 0 = .ok (.aload_n 0, 1) := by decide +kernel
theorem d_Lit_init_1 : decode M_Lit_init.2.1 1 = .ok (.invokespecial 3, 3) := by decide +kernel
theorem d_Lit_init_4 : decode M_Lit_init.2.1 4 = .ok (.aload_n 0, 1) := by decide +kernel
theorem d_Lit_init_5 : decode M_Lit_init.2.1 5 = .ok (.iconst 2, 1) := by decide +kernel
theorem d_Lit_init_6 : decode M_Lit_init.2.1 6 = .ok (.newarray .int, 2) := by decide +kernel
theorem d_Lit_init_8 : decode M_Lit_init.2.1 8 = .ok (.putfield 9, 3) := by decide +kernel
theorem d_Lit_init_11 : decode M_Lit_init.2.1 11 = .ok (.return_, 1) := by decide +kernel
theorem d_Rd_argumentOf_0 : decode M_Rd_argumentOf.2.1 0 = .ok (.iload_n 0, 1) := by decide +kernel
theorem d_Rd_argumentOf_1 : decode M_Rd_argumentOf.2.1 1 = .ok (.bipush 97, 2) := by decide +kernel
theorem d_Rd_argumentOf_3 : decode M_Rd_argumentOf.2.1 3 = .ok (.if_icmp .lt 14, 3) := by decide +kernel
theorem d_Rd_argumentOf_6 : decode M_Rd_argumentOf.2.1 6 = .ok (.iload_n 0, 1) := by decide +kernel
theorem d_Rd_argumentOf_7 : decode M_Rd_argumentOf.2.1 7 = .ok (.bipush 99, 2) := by decide +kernel
theorem d_Rd_argumentOf_9 : decode M_Rd_argumentOf.2.1 9 = .ok (.if_icmp .gt 8, 3) := by decide +kernel
theorem d_Rd_argumentOf_12 : decode M_Rd_argumentOf.2.1 12 = .ok (.iload_n 0, 1) := by decide +kernel
theorem d_Rd_argumentOf_13 : decode M_Rd_argumentOf.2.1 13 = .ok (.bipush 97, 2) := by decide +kernel
theorem d_Rd_argumentOf_15 : decode M_Rd_argumentOf.2.1 15 = .ok (.isub, 1) := by decide +kernel
theorem d_Rd_argumentOf_16 : decode M_Rd_argumentOf.2.1 16 = .ok (.ireturn, 1) := by decide +kernel
theorem d_Rd_argumentOf_17 : decode M_Rd_argumentOf.2.1 17 = .ok (.iload_n 0, 1) := by decide +kernel
theorem d_Rd_argumentOf_18 : decode M_Rd_argumentOf.2.1 18 = .ok (.bipush 120, 2) := by decide +kernel
theorem d_Rd_argumentOf_20 : decode M_Rd_argumentOf.2.1 20 = .ok (.if_icmp .lt 18, 3) := by decide +kernel
theorem d_Rd_argumentOf_23 : decode M_Rd_argumentOf.2.1 23 = .ok (.iload_n 0, 1) := by decide +kernel
theorem d_Rd_argumentOf_24 : decode M_Rd_argumentOf.2.1 24 = .ok (.bipush 122, 2) := by decide +kernel
theorem d_Rd_argumentOf_26 : decode M_Rd_argumentOf.2.1 26 = .ok (.if_icmp .gt 12, 3) := by decide +kernel
theorem d_Rd_argumentOf_29 : decode M_Rd_argumentOf.2.1 29 = .ok (.iconst 3, 1) := by decide +kernel
theorem d_Rd_argumentOf_30 : decode M_Rd_argumentOf.2.1 30 = .ok (.iload_n 0, 1) := by decide +kernel
theorem d_Rd_argumentOf_31 : decode M_Rd_argumentOf.2.1 31 = .ok (.iadd, 1) := by decide +kernel
theorem d_Rd_argumentOf_32 : decode M_Rd_argumentOf.2.1 32 = .ok (.bipush 120, 2) := by decide +kernel
theorem d_Rd_argumentOf_34 : decode M_Rd_argumentOf.2.1 34 = .ok (.isub, 1) := by decide +kernel
theorem d_Rd_argumentOf_35 : decode M_Rd_argumentOf.2.1 35 = .ok (.goto 4, 3) := by decide +kernel
theorem d_Rd_argumentOf_38 : decode M_Rd_argumentOf.2.1 38 = .ok (.iconst (-1), 1) := by decide +kernel
theorem d_Rd_argumentOf_39 : decode M_Rd_argumentOf.2.1 39 = .ok (.ireturn, 1) := by decide +kernel
theorem d_Rd_findFault_0 : decode M_Rd_findFault.2.1 0 = .ok (.aload_n 0, 1) := by decide +kernel
theorem d_Rd_findFault_1 : decode M_Rd_findFault.2.1 1 = .ok (.iconst 0, 1) := by decide +kernel
theorem d_Rd_findFault_2 : decode M_Rd_findFault.2.1 2 = .ok (.putfield 29, 3) := by decide +kernel
theorem d_Rd_findFault_5 : decode M_Rd_findFault.2.1 5 = .ok (.aload_n 0, 1) := by decide +kernel
theorem d_Rd_findFault_6 : decode M_Rd_findFault.2.1 6 = .ok (.getfield 12, 3) := by decide +kernel
theorem d_Rd_findFault_9 : decode M_Rd_findFault.2.1 9 = .ok (.invokevirtual 33, 3) := by decide +kernel
theorem d_Rd_findFault_12 : decode M_Rd_findFault.2.1 12 = .ok (.aload_n 0, 1) := by decide +kernel
theorem d_Rd_findFault_13 : decode M_Rd_findFault.2.1 13 = .ok (.getfield 24, 3) := by decide +kernel
theorem d_Rd_findFault_16 : decode M_Rd_findFault.2.1 16 = .ok (.iconst 0, 1) := by decide +kernel
theorem d_Rd_findFault_17 : decode M_Rd_findFault.2.1 17 = .ok (.invokestatic 36, 3) := by decide +kernel
theorem d_Rd_findFault_20 : decode M_Rd_findFault.2.1 20 = .ok (.aload_n 0, 1) := by decide +kernel
theorem d_Rd_findFault_21 : decode M_Rd_findFault.2.1 21 = .ok (.iconst 1, 1) := by decide +kernel
theorem d_Rd_findFault_22 : decode M_Rd_findFault.2.1 22 = .ok (.putfield 42, 3) := by decide +kernel
theorem d_Rd_findFault_25 : decode M_Rd_findFault.2.1 25 = .ok (.iconst 0, 1) := by decide +kernel
theorem d_Rd_findFault_26 : decode M_Rd_findFault.2.1 26 = .ok (.istore_n 2, 1) := by decide +kernel
theorem d_Rd_findFault_27 : decode M_Rd_findFault.2.1 27 = .ok (.iload_n 2, 1) := by decide +kernel
theorem d_Rd_findFault_28 : decode M_Rd_findFault.2.1 28 = .ok (.aload_n 0, 1) := by decide +kernel
theorem d_Rd_findFault_29 : decode M_Rd_findFault.2.1 29 = .ok (.getfield 20, 3) := by decide +kernel
theorem d_Rd_findFault_32 : decode M_Rd_findFault.2.1 32 = .ok (.arraylength, 1) := by decide +kernel
theorem d_Rd_findFault_33 : decode M_Rd_findFault.2.1 33 = .ok (.if_icmp .ge 48, 3) := by decide +kernel
theorem d_Rd_findFault_36 : decode M_Rd_findFault.2.1 36 = .ok (.aload_n 0, 1) := by decide +kernel
theorem d_Rd_findFault_37 : decode M_Rd_findFault.2.1 37 = .ok (.aload_n 1, 1) := by decide +kernel
theorem d_Rd_findFault_38 : decode M_Rd_findFault.2.1 38 = .ok (.invokevirtual 45, 3) := by decide +kernel
theorem d_Rd_findFault_41 : decode M_Rd_findFault.2.1 41 = .ok (.ifCond .ne 8, 3) := by decide +kernel
theorem d_Rd_findFault_44 : decode M_Rd_findFault.2.1 44 = .ok (.aload_n 0, 1) := by decide +kernel
theorem d_Rd_findFault_45 : decode M_Rd_findFault.2.1 45 = .ok (.getfield 29, 3) := by decide +kernel
theorem d_Rd_findFault_48 : decode M_Rd_findFault.2.1 48 = .ok (.ireturn, 1) := by decide +kernel
theorem d_Rd_findFault_49 : decode M_Rd_findFault.2.1 49 = .ok (.aload_n 0, 1) := by decide +kernel
theorem d_Rd_findFault_50 : decode M_Rd_findFault.2.1 50 = .ok (.getfield 29, 3) := by decide +kernel
theorem d_Rd_findFault_53 : decode M_Rd_findFault.2.1 53 = .ok (.aload_n 1, 1) := by decide +kernel
theorem d_Rd_findFault_54 : decode M_Rd_findFault.2.1 54 = .ok (.getfield 49, 3) := by decide +kernel
theorem d_Rd_findFault_57 : decode M_Rd_findFault.2.1 57 = .ok (.if_icmp .ne 5, 3) := by decide +kernel
theorem d_Rd_findFault_60 : decode M_Rd_findFault.2.1 60 = .ok (.iconst (-1), 1) := by decide +kernel
theorem d_Rd_findFault_61 : decode M_Rd_findFault.2.1 61 = .ok (.ireturn, 1) := by decide +kernel
theorem d_Rd_findFault_62 : decode M_Rd_findFault.2.1 62 = .ok (.aload_n 0, 1) := by decide +kernel
theorem d_Rd_findFault_63 : decode M_Rd_findFault.2.1 63 = .ok (.aload_n 1, 1) := by decide +kernel
theorem d_Rd_findFault_64 : decode M_Rd_findFault.2.1 64 = .ok (.invokevirtual 54, 3) := by decide +kernel
theorem d_Rd_findFault_67 : decode M_Rd_findFault.2.1 67 = .ok (.ifCond .ne 8, 3) := by decide +kernel
theorem d_Rd_findFault_70 : decode M_Rd_findFault.2.1 70 = .ok (.aload_n 0, 1) := by decide +kernel
theorem d_Rd_findFault_71 : decode M_Rd_findFault.2.1 71 = .ok (.getfield 29, 3) := by decide +kernel
theorem d_Rd_findFault_74 : decode M_Rd_findFault.2.1 74 = .ok (.ireturn, 1) := by decide +kernel
theorem d_Rd_findFault_75 : decode M_Rd_findFault.2.1 75 = .ok (.iinc 2 1, 3) := by decide +kernel
theorem d_Rd_findFault_78 : decode M_Rd_findFault.2.1 78 = .ok (.goto (-51), 3) := by decide +kernel
theorem d_Rd_findFault_81 : decode M_Rd_findFault.2.1 81 = .ok (.aload_n 0, 1) := by decide +kernel
theorem d_Rd_findFault_82 : decode M_Rd_findFault.2.1 82 = .ok (.getfield 29, 3) := by decide +kernel
theorem d_Rd_findFault_85 : decode M_Rd_findFault.2.1 85 = .ok (.ireturn, 1) := by decide +kernel
theorem d_Rd_init_0 : decode M_Rd_init.2.1 0 = .ok (.aload_n 0, 1) := by decide +kernel
theorem d_Rd_init_1 : decode M_Rd_init.2.1 1 = .ok (.invokespecial 3, 3) := by decide +kernel
theorem d_Rd_init_4 : decode M_Rd_init.2.1 4 = .ok (.aload_n 0, 1) := by decide +kernel
theorem d_Rd_init_5 : decode M_Rd_init.2.1 5 = .ok (.new 9, 3) := by decide +kernel
theorem d_Rd_init_8 : decode M_Rd_init.2.1 8 = .ok (.dup, 1) := by decide +kernel
theorem d_Rd_init_9 : decode M_Rd_init.2.1 9 = .ok (.invokespecial 11, 3) := by decide +kernel
theorem d_Rd_init_12 : decode M_Rd_init.2.1 12 = .ok (.putfield 12, 3) := by decide +kernel
theorem d_Rd_init_15 : decode M_Rd_init.2.1 15 = .ok (.aload_n 0, 1) := by decide +kernel
theorem d_Rd_init_16 : decode M_Rd_init.2.1 16 = .ok (.bipush 48, 2) := by decide +kernel
theorem d_Rd_init_18 : decode M_Rd_init.2.1 18 = .ok (.anewarray 18, 3) := by decide +kernel
theorem d_Rd_init_21 : decode M_Rd_init.2.1 21 = .ok (.putfield 20, 3) := by decide +kernel
theorem d_Rd_init_24 : decode M_Rd_init.2.1 24 = .ok (.aload_n 0, 1) := by decide +kernel
theorem d_Rd_init_25 : decode M_Rd_init.2.1 25 = .ok (.bipush 12, 2) := by decide +kernel
theorem d_Rd_init_27 : decode M_Rd_init.2.1 27 = .ok (.newarray .int, 2) := by decide +kernel
theorem d_Rd_init_29 : decode M_Rd_init.2.1 29 = .ok (.putfield 24, 3) := by decide +kernel
theorem d_Rd_init_32 : decode M_Rd_init.2.1 32 = .ok (.iconst 0, 1) := by decide +kernel
theorem d_Rd_init_33 : decode M_Rd_init.2.1 33 = .ok (.istore_n 1, 1) := by decide +kernel
theorem d_Rd_init_34 : decode M_Rd_init.2.1 34 = .ok (.iload_n 1, 1) := by decide +kernel
theorem d_Rd_init_35 : decode M_Rd_init.2.1 35 = .ok (.aload_n 0, 1) := by decide +kernel
theorem d_Rd_init_36 : decode M_Rd_init.2.1 36 = .ok (.getfield 20, 3) := by decide +kernel
theorem d_Rd_init_39 : decode M_Rd_init.2.1 39 = .ok (.arraylength, 1) := by decide +kernel
theorem d_Rd_init_40 : decode M_Rd_init.2.1 40 = .ok (.if_icmp .ge 22, 3) := by decide +kernel
theorem d_Rd_init_43 : decode M_Rd_init.2.1 43 = .ok (.aload_n 0, 1) := by decide +kernel
theorem d_Rd_init_44 : decode M_Rd_init.2.1 44 = .ok (.getfield 20, 3) := by decide +kernel
theorem d_Rd_init_47 : decode M_Rd_init.2.1 47 = .ok (.iload_n 1, 1) := by decide +kernel
theorem d_Rd_init_48 : decode M_Rd_init.2.1 48 = .ok (.new 18, 3) := by decide +kernel
theorem d_Rd_init_51 : decode M_Rd_init.2.1 51 = .ok (.dup, 1) := by decide +kernel
theorem d_Rd_init_52 : decode M_Rd_init.2.1 52 = .ok (.invokespecial 28, 3) := by decide +kernel
theorem d_Rd_init_55 : decode M_Rd_init.2.1 55 = .ok (.aastore, 1) := by decide +kernel
theorem d_Rd_init_56 : decode M_Rd_init.2.1 56 = .ok (.iinc 1 1, 3) := by decide +kernel
theorem d_Rd_init_59 : decode M_Rd_init.2.1 59 = .ok (.goto (-25), 3) := by decide +kernel
theorem d_Rd_init_62 : decode M_Rd_init.2.1 62 = .ok (.return_, 1) := by decide +kernel
theorem d_Rd_literal_0 : decode M_Rd_literal.2.1 0 = .ok (.aload_n 0, 1) := by decide +kernel
theorem d_Rd_literal_1 : decode M_Rd_literal.2.1 1 = .ok (.getfield 20, 3) := by decide +kernel
theorem d_Rd_literal_4 : decode M_Rd_literal.2.1 4 = .ok (.iload_n 1, 1) := by decide +kernel
theorem d_Rd_literal_5 : decode M_Rd_literal.2.1 5 = .ok (.iconst 4, 1) := by decide +kernel
theorem d_Rd_literal_6 : decode M_Rd_literal.2.1 6 = .ok (.imul, 1) := by decide +kernel
theorem d_Rd_literal_7 : decode M_Rd_literal.2.1 7 = .ok (.iload_n 2, 1) := by decide +kernel
theorem d_Rd_literal_8 : decode M_Rd_literal.2.1 8 = .ok (.iadd, 1) := by decide +kernel
theorem d_Rd_literal_9 : decode M_Rd_literal.2.1 9 = .ok (.aaload, 1) := by decide +kernel
theorem d_Rd_literal_10 : decode M_Rd_literal.2.1 10 = .ok (.areturn, 1) := by decide +kernel
theorem d_Rd_predicateOf_0 : decode M_Rd_predicateOf.2.1 0 = .ok (.iload_n 0, 1) := by decide +kernel
theorem d_Rd_predicateOf_1 : decode M_Rd_predicateOf.2.1 1 = .ok (.bipush 80, 2) := by decide +kernel
theorem d_Rd_predicateOf_3 : decode M_Rd_predicateOf.2.1 3 = .ok (.if_icmp .lt 16, 3) := by decide +kernel
theorem d_Rd_predicateOf_6 : decode M_Rd_predicateOf.2.1 6 = .ok (.iload_n 0, 1) := by decide +kernel
theorem d_Rd_predicateOf_7 : decode M_Rd_predicateOf.2.1 7 = .ok (.bipush 83, 2) := by decide +kernel
theorem d_Rd_predicateOf_9 : decode M_Rd_predicateOf.2.1 9 = .ok (.if_icmp .gt 10, 3) := by decide +kernel
theorem d_Rd_predicateOf_12 : decode M_Rd_predicateOf.2.1 12 = .ok (.iload_n 0, 1) := by decide +kernel
theorem d_Rd_predicateOf_13 : decode M_Rd_predicateOf.2.1 13 = .ok (.bipush 80, 2) := by decide +kernel
theorem d_Rd_predicateOf_15 : decode M_Rd_predicateOf.2.1 15 = .ok (.isub, 1) := by decide +kernel
theorem d_Rd_predicateOf_16 : decode M_Rd_predicateOf.2.1 16 = .ok (.goto 4, 3) := by decide +kernel
theorem d_Rd_predicateOf_19 : decode M_Rd_predicateOf.2.1 19 = .ok (.iconst (-1), 1) := by decide +kernel
theorem d_Rd_predicateOf_20 : decode M_Rd_predicateOf.2.1 20 = .ok (.ireturn, 1) := by decide +kernel
theorem d_Rd_readArguments_0 : decode M_Rd_readArguments.2.1 0 = .ok (.aload_n 0, 1) := by decide +kernel
theorem d_Rd_readArguments_1 : decode M_Rd_readArguments.2.1 1 = .ok (.getfield 12, 3) := by decide +kernel
theorem d_Rd_readArguments_4 : decode M_Rd_readArguments.2.1 4 = .ok (.getfield 80, 3) := by decide +kernel
theorem d_Rd_readArguments_7 : decode M_Rd_readArguments.2.1 7 = .ok (.aload_n 2, 1) := by decide +kernel
theorem d_Rd_readArguments_8 : decode M_Rd_readArguments.2.1 8 = .ok (.getfield 73, 3) := by decide +kernel
theorem d_Rd_readArguments_11 : decode M_Rd_readArguments.2.1 11 = .ok (.iaload, 1) := by decide +kernel
theorem d_Rd_readArguments_12 : decode M_Rd_readArguments.2.1 12 = .ok (.istore_n 3, 1) := by decide +kernel
theorem d_Rd_readArguments_13 : decode M_Rd_readArguments.2.1 13 = .ok (.iload_n 3, 1) := by decide +kernel
theorem d_Rd_readArguments_14 : decode M_Rd_readArguments.2.1 14 = .ok (.iconst (-1), 1) := by decide +kernel
theorem d_Rd_readArguments_15 : decode M_Rd_readArguments.2.1 15 = .ok (.if_icmp .ne 7, 3) := by decide +kernel
theorem d_Rd_readArguments_18 : decode M_Rd_readArguments.2.1 18 = .ok (.iconst 2, 1) := by decide +kernel
theorem d_Rd_readArguments_19 : decode M_Rd_readArguments.2.1 19 = .ok (.goto 4, 3) := by decide +kernel
theorem d_Rd_readArguments_22 : decode M_Rd_readArguments.2.1 22 = .ok (.iload_n 3, 1) := by decide +kernel
theorem d_Rd_readArguments_23 : decode M_Rd_readArguments.2.1 23 = .ok (.istore 4, 2) := by decide +kernel
theorem d_Rd_readArguments_25 : decode M_Rd_readArguments.2.1 25 = .ok (.iconst 0, 1) := by decide +kernel
theorem d_Rd_readArguments_26 : decode M_Rd_readArguments.2.1 26 = .ok (.istore 5, 2) := by decide +kernel
theorem d_Rd_readArguments_28 : decode M_Rd_readArguments.2.1 28 = .ok (.iload 5, 2) := by decide +kernel
theorem d_Rd_readArguments_30 : decode M_Rd_readArguments.2.1 30 = .ok (.iload 4, 2) := by decide +kernel
theorem d_Rd_readArguments_32 : decode M_Rd_readArguments.2.1 32 = .ok (.if_icmp .ge 85, 3) := by decide +kernel
theorem d_Rd_readArguments_35 : decode M_Rd_readArguments.2.1 35 = .ok (.aload_n 1, 1) := by decide +kernel
theorem d_Rd_readArguments_36 : decode M_Rd_readArguments.2.1 36 = .ok (.aload_n 0, 1) := by decide +kernel
theorem d_Rd_readArguments_37 : decode M_Rd_readArguments.2.1 37 = .ok (.getfield 29, 3) := by decide +kernel
theorem d_Rd_readArguments_40 : decode M_Rd_readArguments.2.1 40 = .ok (.invokevirtual 61, 3) := by decide +kernel
theorem d_Rd_readArguments_43 : decode M_Rd_readArguments.2.1 43 = .ok (.invokestatic 83, 3) := by decide +kernel
theorem d_Rd_readArguments_46 : decode M_Rd_readArguments.2.1 46 = .ok (.iconst (-1), 1) := by decide +kernel
theorem d_Rd_readArguments_47 : decode M_Rd_readArguments.2.1 47 = .ok (.if_icmp .eq 70, 3) := by decide +kernel
theorem d_Rd_readArguments_50 : decode M_Rd_readArguments.2.1 50 = .ok (.aload_n 1, 1) := by decide +kernel
theorem d_Rd_readArguments_51 : decode M_Rd_readArguments.2.1 51 = .ok (.aload_n 0, 1) := by decide +kernel
theorem d_Rd_readArguments_52 : decode M_Rd_readArguments.2.1 52 = .ok (.getfield 29, 3) := by decide +kernel
theorem d_Rd_readArguments_55 : decode M_Rd_readArguments.2.1 55 = .ok (.invokevirtual 61, 3) := by decide +kernel
theorem d_Rd_readArguments_58 : decode M_Rd_readArguments.2.1 58 = .ok (.invokestatic 83, 3) := by decide +kernel
theorem d_Rd_readArguments_61 : decode M_Rd_readArguments.2.1 61 = .ok (.istore 6, 2) := by decide +kernel
theorem d_Rd_readArguments_63 : decode M_Rd_readArguments.2.1 63 = .ok (.iload 6, 2) := by decide +kernel
theorem d_Rd_readArguments_65 : decode M_Rd_readArguments.2.1 65 = .ok (.iconst 3, 1) := by decide +kernel
theorem d_Rd_readArguments_66 : decode M_Rd_readArguments.2.1 66 = .ok (.if_icmp .ge 12, 3) := by decide +kernel
theorem d_Rd_readArguments_69 : decode M_Rd_readArguments.2.1 69 = .ok (.aload_n 0, 1) := by decide +kernel
theorem d_Rd_readArguments_70 : decode M_Rd_readArguments.2.1 70 = .ok (.getfield 12, 3) := by decide +kernel
theorem d_Rd_readArguments_73 : decode M_Rd_readArguments.2.1 73 = .ok (.iload 6, 2) := by decide +kernel
theorem d_Rd_readArguments_75 : decode M_Rd_readArguments.2.1 75 = .ok (.invokevirtual 86, 3) := by decide +kernel
theorem d_Rd_readArguments_78 : decode M_Rd_readArguments.2.1 78 = .ok (.aload_n 0, 1) := by decide +kernel
theorem d_Rd_readArguments_79 : decode M_Rd_readArguments.2.1 79 = .ok (.getfield 12, 3) := by decide +kernel
theorem d_Rd_readArguments_82 : decode M_Rd_readArguments.2.1 82 = .ok (.getfield 90, 3) := by decide +kernel
theorem d_Rd_readArguments_85 : decode M_Rd_readArguments.2.1 85 = .ok (.bipush 12, 2) := by decide +kernel
theorem d_Rd_readArguments_87 : decode M_Rd_readArguments.2.1 87 = .ok (.if_icmp .le 5, 3) := by decide +kernel
theorem d_Rd_readArguments_90 : decode M_Rd_readArguments.2.1 90 = .ok (.iconst 0, 1) := by decide +kernel
theorem d_Rd_readArguments_91 : decode M_Rd_readArguments.2.1 91 = .ok (.ireturn, 1) := by decide +kernel
theorem d_Rd_readArguments_92 : decode M_Rd_readArguments.2.1 92 = .ok (.aload_n 2, 1) := by decide +kernel
theorem d_Rd_readArguments_93 : decode M_Rd_readArguments.2.1 93 = .ok (.getfield 93, 3) := by decide +kernel
theorem d_Rd_readArguments_96 : decode M_Rd_readArguments.2.1 96 = .ok (.iload 5, 2) := by decide +kernel
theorem d_Rd_readArguments_98 : decode M_Rd_readArguments.2.1 98 = .ok (.iload 6, 2) := by decide +kernel
theorem d_Rd_readArguments_100 : decode M_Rd_readArguments.2.1 100 = .ok (.iastore, 1) := by decide +kernel
theorem d_Rd_readArguments_101 : decode M_Rd_readArguments.2.1 101 = .ok (.iinc 5 1, 3) := by decide +kernel
theorem d_Rd_readArguments_104 : decode M_Rd_readArguments.2.1 104 = .ok (.aload_n 0, 1) := by decide +kernel
theorem d_Rd_readArguments_105 : decode M_Rd_readArguments.2.1 105 = .ok (.dup, 1) := by decide +kernel
theorem d_Rd_readArguments_106 : decode M_Rd_readArguments.2.1 106 = .ok (.getfield 29, 3) := by decide +kernel
theorem d_Rd_readArguments_109 : decode M_Rd_readArguments.2.1 109 = .ok (.iconst 1, 1) := by decide +kernel
theorem d_Rd_readArguments_110 : decode M_Rd_readArguments.2.1 110 = .ok (.iadd, 1) := by decide +kernel
theorem d_Rd_readArguments_111 : decode M_Rd_readArguments.2.1 111 = .ok (.putfield 29, 3) := by decide +kernel
theorem d_Rd_readArguments_114 : decode M_Rd_readArguments.2.1 114 = .ok (.goto (-86), 3) := by decide +kernel
theorem d_Rd_readArguments_117 : decode M_Rd_readArguments.2.1 117 = .ok (.iload_n 3, 1) := by decide +kernel
theorem d_Rd_readArguments_118 : decode M_Rd_readArguments.2.1 118 = .ok (.iconst (-1), 1) := by decide +kernel
theorem d_Rd_readArguments_119 : decode M_Rd_readArguments.2.1 119 = .ok (.if_icmp .eq 15, 3) := by decide +kernel
theorem d_Rd_readArguments_122 : decode M_Rd_readArguments.2.1 122 = .ok (.iload 5, 2) := by decide +kernel
theorem d_Rd_readArguments_124 : decode M_Rd_readArguments.2.1 124 = .ok (.iload_n 3, 1) := by decide +kernel
theorem d_Rd_readArguments_125 : decode M_Rd_readArguments.2.1 125 = .ok (.if_icmp .ne 7, 3) := by decide +kernel
theorem d_Rd_readArguments_128 : decode M_Rd_readArguments.2.1 128 = .ok (.iconst 1, 1) := by decide +kernel
theorem d_Rd_readArguments_129 : decode M_Rd_readArguments.2.1 129 = .ok (.goto 4, 3) := by decide +kernel
theorem d_Rd_readArguments_132 : decode M_Rd_readArguments.2.1 132 = .ok (.iconst 0, 1) := by decide +kernel
theorem d_Rd_readArguments_133 : decode M_Rd_readArguments.2.1 133 = .ok (.ireturn, 1) := by decide +kernel
theorem d_Rd_readArguments_134 : decode M_Rd_readArguments.2.1 134 = .ok (.aload_n 0, 1) := by decide +kernel
theorem d_Rd_readArguments_135 : decode M_Rd_readArguments.2.1 135 = .ok (.getfield 12, 3) := by decide +kernel
theorem d_Rd_readArguments_138 : decode M_Rd_readArguments.2.1 138 = .ok (.aload_n 2, 1) := by decide +kernel
theorem d_Rd_readArguments_139 : decode M_Rd_readArguments.2.1 139 = .ok (.getfield 73, 3) := by decide +kernel
theorem d_Rd_readArguments_142 : decode M_Rd_readArguments.2.1 142 = .ok (.iload 5, 2) := by decide +kernel
theorem d_Rd_readArguments_144 : decode M_Rd_readArguments.2.1 144 = .ok (.invokevirtual 94, 3) := by decide +kernel
theorem d_Rd_readArguments_147 : decode M_Rd_readArguments.2.1 147 = .ok (.aload_n 0, 1) := by decide +kernel
theorem d_Rd_readArguments_148 : decode M_Rd_readArguments.2.1 148 = .ok (.getfield 12, 3) := by decide +kernel
theorem d_Rd_readArguments_151 : decode M_Rd_readArguments.2.1 151 = .ok (.getfield 90, 3) := by decide +kernel
theorem d_Rd_readArguments_154 : decode M_Rd_readArguments.2.1 154 = .ok (.bipush 12, 2) := by decide +kernel
theorem d_Rd_readArguments_156 : decode M_Rd_readArguments.2.1 156 = .ok (.if_icmp .gt 7, 3) := by decide +kernel
theorem d_Rd_readArguments_159 : decode M_Rd_readArguments.2.1 159 = .ok (.iconst 1, 1) := by decide +kernel
theorem d_Rd_readArguments_160 : decode M_Rd_readArguments.2.1 160 = .ok (.goto 4, 3) := by decide +kernel
theorem d_Rd_readArguments_163 : decode M_Rd_readArguments.2.1 163 = .ok (.iconst 0, 1) := by decide +kernel
theorem d_Rd_readArguments_164 : decode M_Rd_readArguments.2.1 164 = .ok (.ireturn, 1) := by decide +kernel
theorem d_Rd_readJoint_0 : decode M_Rd_readJoint.2.1 0 = .ok (.aload_n 1, 1) := by decide +kernel
theorem d_Rd_readJoint_1 : decode M_Rd_readJoint.2.1 1 = .ok (.aload_n 0, 1) := by decide +kernel
theorem d_Rd_readJoint_2 : decode M_Rd_readJoint.2.1 2 = .ok (.getfield 29, 3) := by decide +kernel
theorem d_Rd_readJoint_5 : decode M_Rd_readJoint.2.1 5 = .ok (.invokevirtual 61, 3) := by decide +kernel
theorem d_Rd_readJoint_8 : decode M_Rd_readJoint.2.1 8 = .ok (.istore_n 2, 1) := by decide +kernel
theorem d_Rd_readJoint_9 : decode M_Rd_readJoint.2.1 9 = .ok (.iload_n 2, 1) := by decide +kernel
theorem d_Rd_readJoint_10 : decode M_Rd_readJoint.2.1 10 = .ok (.bipush 38, 2) := by decide +kernel
theorem d_Rd_readJoint_12 : decode M_Rd_readJoint.2.1 12 = .ok (.if_icmp .ne 25, 3) := by decide +kernel
theorem d_Rd_readJoint_15 : decode M_Rd_readJoint.2.1 15 = .ok (.aload_n 0, 1) := by decide +kernel
theorem d_Rd_readJoint_16 : decode M_Rd_readJoint.2.1 16 = .ok (.getfield 42, 3) := by decide +kernel
theorem d_Rd_readJoint_19 : decode M_Rd_readJoint.2.1 19 = .ok (.bipush 12, 2) := by decide +kernel
theorem d_Rd_readJoint_21 : decode M_Rd_readJoint.2.1 21 = .ok (.if_icmp .ge 16, 3) := by decide +kernel
theorem d_Rd_readJoint_24 : decode M_Rd_readJoint.2.1 24 = .ok (.aload_n 0, 1) := by decide +kernel
theorem d_Rd_readJoint_25 : decode M_Rd_readJoint.2.1 25 = .ok (.dup, 1) := by decide +kernel
theorem d_Rd_readJoint_26 : decode M_Rd_readJoint.2.1 26 = .ok (.getfield 42, 3) := by decide +kernel
theorem d_Rd_readJoint_29 : decode M_Rd_readJoint.2.1 29 = .ok (.iconst 1, 1) := by decide +kernel
theorem d_Rd_readJoint_30 : decode M_Rd_readJoint.2.1 30 = .ok (.iadd, 1) := by decide +kernel
theorem d_Rd_readJoint_31 : decode M_Rd_readJoint.2.1 31 = .ok (.putfield 42, 3) := by decide +kernel
theorem d_Rd_readJoint_34 : decode M_Rd_readJoint.2.1 34 = .ok (.goto 26, 3) := by decide +kernel
theorem d_Rd_readJoint_37 : decode M_Rd_readJoint.2.1 37 = .ok (.iload_n 2, 1) := by decide +kernel
theorem d_Rd_readJoint_38 : decode M_Rd_readJoint.2.1 38 = .ok (.bipush 124, 2) := by decide +kernel
theorem d_Rd_readJoint_40 : decode M_Rd_readJoint.2.1 40 = .ok (.if_icmp .ne 18, 3) := by decide +kernel
theorem d_Rd_readJoint_43 : decode M_Rd_readJoint.2.1 43 = .ok (.aload_n 0, 1) := by decide +kernel
theorem d_Rd_readJoint_44 : decode M_Rd_readJoint.2.1 44 = .ok (.getfield 24, 3) := by decide +kernel
theorem d_Rd_readJoint_47 : decode M_Rd_readJoint.2.1 47 = .ok (.aload_n 0, 1) := by decide +kernel
theorem d_Rd_readJoint_48 : decode M_Rd_readJoint.2.1 48 = .ok (.getfield 42, 3) := by decide +kernel
theorem d_Rd_readJoint_51 : decode M_Rd_readJoint.2.1 51 = .ok (.iconst 1, 1) := by decide +kernel
theorem d_Rd_readJoint_52 : decode M_Rd_readJoint.2.1 52 = .ok (.isub, 1) := by decide +kernel
theorem d_Rd_readJoint_53 : decode M_Rd_readJoint.2.1 53 = .ok (.iaload, 1) := by decide +kernel
theorem d_Rd_readJoint_54 : decode M_Rd_readJoint.2.1 54 = .ok (.iconst 4, 1) := by decide +kernel
theorem d_Rd_readJoint_55 : decode M_Rd_readJoint.2.1 55 = .ok (.if_icmp .lt 5, 3) := by decide +kernel
theorem d_Rd_readJoint_58 : decode M_Rd_readJoint.2.1 58 = .ok (.iconst 0, 1) := by decide +kernel
theorem d_Rd_readJoint_59 : decode M_Rd_readJoint.2.1 59 = .ok (.ireturn, 1) := by decide +kernel
theorem d_Rd_readJoint_60 : decode M_Rd_readJoint.2.1 60 = .ok (.aload_n 0, 1) := by decide +kernel
theorem d_Rd_readJoint_61 : decode M_Rd_readJoint.2.1 61 = .ok (.dup, 1) := by decide +kernel
theorem d_Rd_readJoint_62 : decode M_Rd_readJoint.2.1 62 = .ok (.getfield 29, 3) := by decide +kernel
theorem d_Rd_readJoint_65 : decode M_Rd_readJoint.2.1 65 = .ok (.iconst 1, 1) := by decide +kernel
theorem d_Rd_readJoint_66 : decode M_Rd_readJoint.2.1 66 = .ok (.iadd, 1) := by decide +kernel
theorem d_Rd_readJoint_67 : decode M_Rd_readJoint.2.1 67 = .ok (.putfield 29, 3) := by decide +kernel
theorem d_Rd_readJoint_70 : decode M_Rd_readJoint.2.1 70 = .ok (.iconst 1, 1) := by decide +kernel
theorem d_Rd_readJoint_71 : decode M_Rd_readJoint.2.1 71 = .ok (.ireturn, 1) := by decide +kernel
theorem d_Rd_readLiteral_0 : decode M_Rd_readLiteral.2.1 0 = .ok (.aload_n 0, 1) := by decide +kernel
theorem d_Rd_readLiteral_1 : decode M_Rd_readLiteral.2.1 1 = .ok (.getfield 42, 3) := by decide +kernel
theorem d_Rd_readLiteral_4 : decode M_Rd_readLiteral.2.1 4 = .ok (.iconst 1, 1) := by decide +kernel
theorem d_Rd_readLiteral_5 : decode M_Rd_readLiteral.2.1 5 = .ok (.isub, 1) := by decide +kernel
theorem d_Rd_readLiteral_6 : decode M_Rd_readLiteral.2.1 6 = .ok (.istore_n 2, 1) := by decide +kernel
theorem d_Rd_readLiteral_7 : decode M_Rd_readLiteral.2.1 7 = .ok (.aload_n 0, 1) := by decide +kernel
theorem d_Rd_readLiteral_8 : decode M_Rd_readLiteral.2.1 8 = .ok (.iload_n 2, 1) := by decide +kernel
theorem d_Rd_readLiteral_9 : decode M_Rd_readLiteral.2.1 9 = .ok (.aload_n 0, 1) := by decide +kernel
theorem d_Rd_readLiteral_10 : decode M_Rd_readLiteral.2.1 10 = .ok (.getfield 24, 3) := by decide +kernel
theorem d_Rd_readLiteral_13 : decode M_Rd_readLiteral.2.1 13 = .ok (.iload_n 2, 1) := by decide +kernel
theorem d_Rd_readLiteral_14 : decode M_Rd_readLiteral.2.1 14 = .ok (.iaload, 1) := by decide +kernel
theorem d_Rd_readLiteral_15 : decode M_Rd_readLiteral.2.1 15 = .ok (.invokevirtual 57, 3) := by decide +kernel
theorem d_Rd_readLiteral_18 : decode M_Rd_readLiteral.2.1 18 = .ok (.astore_n 3, 1) := by decide +kernel
theorem d_Rd_readLiteral_19 : decode M_Rd_readLiteral.2.1 19 = .ok (.aload_n 3, 1) := by decide +kernel
theorem d_Rd_readLiteral_20 : decode M_Rd_readLiteral.2.1 20 = .ok (.aload_n 1, 1) := by decide +kernel
theorem d_Rd_readLiteral_21 : decode M_Rd_readLiteral.2.1 21 = .ok (.aload_n 0, 1) := by decide +kernel
theorem d_Rd_readLiteral_22 : decode M_Rd_readLiteral.2.1 22 = .ok (.getfield 29, 3) := by decide +kernel
theorem d_Rd_readLiteral_25 : decode M_Rd_readLiteral.2.1 25 = .ok (.invokevirtual 61, 3) := by decide +kernel
theorem d_Rd_readLiteral_28 : decode M_Rd_readLiteral.2.1 28 = .ok (.bipush 45, 2) := by decide +kernel
theorem d_Rd_readLiteral_30 : decode M_Rd_readLiteral.2.1 30 = .ok (.if_icmp .ne 7, 3) := by decide +kernel
theorem d_Rd_readLiteral_33 : decode M_Rd_readLiteral.2.1 33 = .ok (.iconst 1, 1) := by decide +kernel
theorem d_Rd_readLiteral_34 : decode M_Rd_readLiteral.2.1 34 = .ok (.goto 4, 3) := by decide +kernel
theorem d_Rd_readLiteral_37 : decode M_Rd_readLiteral.2.1 37 = .ok (.iconst 0, 1) := by decide +kernel
theorem d_Rd_readLiteral_38 : decode M_Rd_readLiteral.2.1 38 = .ok (.putfield 65, 3) := by decide +kernel
theorem d_Rd_readLiteral_41 : decode M_Rd_readLiteral.2.1 41 = .ok (.aload_n 3, 1) := by decide +kernel
theorem d_Rd_readLiteral_42 : decode M_Rd_readLiteral.2.1 42 = .ok (.getfield 65, 3) := by decide +kernel
theorem d_Rd_readLiteral_45 : decode M_Rd_readLiteral.2.1 45 = .ok (.ifCond .eq 13, 3) := by decide +kernel
theorem d_Rd_readLiteral_48 : decode M_Rd_readLiteral.2.1 48 = .ok (.aload_n 0, 1) := by decide +kernel
theorem d_Rd_readLiteral_49 : decode M_Rd_readLiteral.2.1 49 = .ok (.dup, 1) := by decide +kernel
theorem d_Rd_readLiteral_50 : decode M_Rd_readLiteral.2.1 50 = .ok (.getfield 29, 3) := by decide +kernel
theorem d_Rd_readLiteral_53 : decode M_Rd_readLiteral.2.1 53 = .ok (.iconst 1, 1) := by decide +kernel
theorem d_Rd_readLiteral_54 : decode M_Rd_readLiteral.2.1 54 = .ok (.iadd, 1) := by decide +kernel
theorem d_Rd_readLiteral_55 : decode M_Rd_readLiteral.2.1 55 = .ok (.putfield 29, 3) := by decide +kernel
theorem d_Rd_readLiteral_58 : decode M_Rd_readLiteral.2.1 58 = .ok (.aload_n 3, 1) := by decide +kernel
theorem d_Rd_readLiteral_59 : decode M_Rd_readLiteral.2.1 59 = .ok (.aload_n 1, 1) := by decide +kernel
theorem d_Rd_readLiteral_60 : decode M_Rd_readLiteral.2.1 60 = .ok (.aload_n 0, 1) := by decide +kernel
theorem d_Rd_readLiteral_61 : decode M_Rd_readLiteral.2.1 61 = .ok (.getfield 29, 3) := by decide +kernel
theorem d_Rd_readLiteral_64 : decode M_Rd_readLiteral.2.1 64 = .ok (.invokevirtual 61, 3) := by decide +kernel
theorem d_Rd_readLiteral_67 : decode M_Rd_readLiteral.2.1 67 = .ok (.invokestatic 69, 3) := by decide +kernel
theorem d_Rd_readLiteral_70 : decode M_Rd_readLiteral.2.1 70 = .ok (.putfield 73, 3) := by decide +kernel
theorem d_Rd_readLiteral_73 : decode M_Rd_readLiteral.2.1 73 = .ok (.aload_n 3, 1) := by decide +kernel
theorem d_Rd_readLiteral_74 : decode M_Rd_readLiteral.2.1 74 = .ok (.getfield 73, 3) := by decide +kernel
theorem d_Rd_readLiteral_77 : decode M_Rd_readLiteral.2.1 77 = .ok (.iconst (-1), 1) := by decide +kernel
theorem d_Rd_readLiteral_78 : decode M_Rd_readLiteral.2.1 78 = .ok (.if_icmp .ne 5, 3) := by decide +kernel
theorem d_Rd_readLiteral_81 : decode M_Rd_readLiteral.2.1 81 = .ok (.iconst 0, 1) := by decide +kernel
theorem d_Rd_readLiteral_82 : decode M_Rd_readLiteral.2.1 82 = .ok (.ireturn, 1) := by decide +kernel
theorem d_Rd_readLiteral_83 : decode M_Rd_readLiteral.2.1 83 = .ok (.aload_n 0, 1) := by decide +kernel
theorem d_Rd_readLiteral_84 : decode M_Rd_readLiteral.2.1 84 = .ok (.dup, 1) := by decide +kernel
theorem d_Rd_readLiteral_85 : decode M_Rd_readLiteral.2.1 85 = .ok (.getfield 29, 3) := by decide +kernel
theorem d_Rd_readLiteral_88 : decode M_Rd_readLiteral.2.1 88 = .ok (.iconst 1, 1) := by decide +kernel
theorem d_Rd_readLiteral_89 : decode M_Rd_readLiteral.2.1 89 = .ok (.iadd, 1) := by decide +kernel
theorem d_Rd_readLiteral_90 : decode M_Rd_readLiteral.2.1 90 = .ok (.putfield 29, 3) := by decide +kernel
theorem d_Rd_readLiteral_93 : decode M_Rd_readLiteral.2.1 93 = .ok (.aload_n 0, 1) := by decide +kernel
theorem d_Rd_readLiteral_94 : decode M_Rd_readLiteral.2.1 94 = .ok (.getfield 24, 3) := by decide +kernel
theorem d_Rd_readLiteral_97 : decode M_Rd_readLiteral.2.1 97 = .ok (.iload_n 2, 1) := by decide +kernel
theorem d_Rd_readLiteral_98 : decode M_Rd_readLiteral.2.1 98 = .ok (.dup2, 1) := by decide +kernel
theorem d_Rd_readLiteral_99 : decode M_Rd_readLiteral.2.1 99 = .ok (.iaload, 1) := by decide +kernel
theorem d_Rd_readLiteral_100 : decode M_Rd_readLiteral.2.1 100 = .ok (.iconst 1, 1) := by decide +kernel
theorem d_Rd_readLiteral_101 : decode M_Rd_readLiteral.2.1 101 = .ok (.iadd, 1) := by decide +kernel
theorem d_Rd_readLiteral_102 : decode M_Rd_readLiteral.2.1 102 = .ok (.iastore, 1) := by decide +kernel
theorem d_Rd_readLiteral_103 : decode M_Rd_readLiteral.2.1 103 = .ok (.aload_n 0, 1) := by decide +kernel
theorem d_Rd_readLiteral_104 : decode M_Rd_readLiteral.2.1 104 = .ok (.aload_n 1, 1) := by decide +kernel
theorem d_Rd_readLiteral_105 : decode M_Rd_readLiteral.2.1 105 = .ok (.aload_n 3, 1) := by decide +kernel
theorem d_Rd_readLiteral_106 : decode M_Rd_readLiteral.2.1 106 = .ok (.invokevirtual 76, 3) := by decide +kernel
theorem d_Rd_readLiteral_109 : decode M_Rd_readLiteral.2.1 109 = .ok (.ireturn, 1) := by decide +kernel
theorem d_Sen_atomOf_0 : decode M_Sen_atomOf.2.1 0 = .ok (.aload_n 0, 1) := by decide +kernel
theorem d_Sen_atomOf_1 : decode M_Sen_atomOf.2.1 1 = .ok (.getfield 55, 3) := by decide +kernel
theorem d_Sen_atomOf_4 : decode M_Sen_atomOf.2.1 4 = .ok (.aload_n 1, 1) := by decide +kernel
theorem d_Sen_atomOf_5 : decode M_Sen_atomOf.2.1 5 = .ok (.getfield 147, 3) := by decide +kernel
theorem d_Sen_atomOf_8 : decode M_Sen_atomOf.2.1 8 = .ok (.iconst 0, 1) := by decide +kernel
theorem d_Sen_atomOf_9 : decode M_Sen_atomOf.2.1 9 = .ok (.iaload, 1) := by decide +kernel
theorem d_Sen_atomOf_10 : decode M_Sen_atomOf.2.1 10 = .ok (.iaload, 1) := by decide +kernel
theorem d_Sen_atomOf_11 : decode M_Sen_atomOf.2.1 11 = .ok (.istore_n 2, 1) := by decide +kernel
theorem d_Sen_atomOf_12 : decode M_Sen_atomOf.2.1 12 = .ok (.aload_n 0, 1) := by decide +kernel
theorem d_Sen_atomOf_13 : decode M_Sen_atomOf.2.1 13 = .ok (.getfield 55, 3) := by decide +kernel
theorem d_Sen_atomOf_16 : decode M_Sen_atomOf.2.1 16 = .ok (.aload_n 1, 1) := by decide +kernel
theorem d_Sen_atomOf_17 : decode M_Sen_atomOf.2.1 17 = .ok (.getfield 147, 3) := by decide +kernel
theorem d_Sen_atomOf_20 : decode M_Sen_atomOf.2.1 20 = .ok (.iconst 1, 1) := by decide +kernel
theorem d_Sen_atomOf_21 : decode M_Sen_atomOf.2.1 21 = .ok (.iaload, 1) := by decide +kernel
theorem d_Sen_atomOf_22 : decode M_Sen_atomOf.2.1 22 = .ok (.iaload, 1) := by decide +kernel
theorem d_Sen_atomOf_23 : decode M_Sen_atomOf.2.1 23 = .ok (.istore_n 3, 1) := by decide +kernel
theorem d_Sen_atomOf_24 : decode M_Sen_atomOf.2.1 24 = .ok (.aload_n 0, 1) := by decide +kernel
theorem d_Sen_atomOf_25 : decode M_Sen_atomOf.2.1 25 = .ok (.getfield 12, 3) := by decide +kernel
theorem d_Sen_atomOf_28 : decode M_Sen_atomOf.2.1 28 = .ok (.aload_n 1, 1) := by decide +kernel
theorem d_Sen_atomOf_29 : decode M_Sen_atomOf.2.1 29 = .ok (.getfield 150, 3) := by decide +kernel
theorem d_Sen_atomOf_32 : decode M_Sen_atomOf.2.1 32 = .ok (.iload_n 2, 1) := by decide +kernel
theorem d_Sen_atomOf_33 : decode M_Sen_atomOf.2.1 33 = .ok (.iload_n 3, 1) := by decide +kernel
theorem d_Sen_atomOf_34 : decode M_Sen_atomOf.2.1 34 = .ok (.invokevirtual 153, 3) := by decide +kernel
theorem d_Sen_atomOf_37 : decode M_Sen_atomOf.2.1 37 = .ok (.ireturn, 1) := by decide +kernel
theorem d_Sen_become_0 : decode M_Sen_become.2.1 0 = .ok (.aload_n 0, 1) := by decide +kernel
theorem d_Sen_become_1 : decode M_Sen_become.2.1 1 = .ok (.getfield 12, 3) := by decide +kernel
theorem d_Sen_become_4 : decode M_Sen_become.2.1 4 = .ok (.aload_n 1, 1) := by decide +kernel
theorem d_Sen_become_5 : decode M_Sen_become.2.1 5 = .ok (.getfield 58, 3) := by decide +kernel
theorem d_Sen_become_8 : decode M_Sen_become.2.1 8 = .ok (.invokevirtual 61, 3) := by decide +kernel
theorem d_Sen_become_11 : decode M_Sen_become.2.1 11 = .ok (.aload_n 0, 1) := by decide +kernel
theorem d_Sen_become_12 : decode M_Sen_become.2.1 12 = .ok (.aload_n 1, 1) := by decide +kernel
theorem d_Sen_become_13 : decode M_Sen_become.2.1 13 = .ok (.getfield 65, 3) := by decide +kernel
theorem d_Sen_become_16 : decode M_Sen_become.2.1 16 = .ok (.putfield 69, 3) := by decide +kernel
theorem d_Sen_become_19 : decode M_Sen_become.2.1 19 = .ok (.aload_n 0, 1) := by decide +kernel
theorem d_Sen_become_20 : decode M_Sen_become.2.1 20 = .ok (.getfield 27, 3) := by decide +kernel
theorem d_Sen_become_23 : decode M_Sen_become.2.1 23 = .ok (.invokevirtual 70, 3) := by decide +kernel
theorem d_Sen_become_26 : decode M_Sen_become.2.1 26 = .ok (.iconst 0, 1) := by decide +kernel
theorem d_Sen_become_27 : decode M_Sen_become.2.1 27 = .ok (.istore_n 2, 1) := by decide +kernel
theorem d_Sen_become_28 : decode M_Sen_become.2.1 28 = .ok (.iload_n 2, 1) := by decide +kernel
theorem d_Sen_become_29 : decode M_Sen_become.2.1 29 = .ok (.iconst 3, 1) := by decide +kernel
theorem d_Sen_become_30 : decode M_Sen_become.2.1 30 = .ok (.if_icmp .ge 23, 3) := by decide +kernel
theorem d_Sen_become_33 : decode M_Sen_become.2.1 33 = .ok (.aload_n 0, 1) := by decide +kernel
theorem d_Sen_become_34 : decode M_Sen_become.2.1 34 = .ok (.getfield 55, 3) := by decide +kernel
theorem d_Sen_become_37 : decode M_Sen_become.2.1 37 = .ok (.iload_n 2, 1) := by decide +kernel
theorem d_Sen_become_38 : decode M_Sen_become.2.1 38 = .ok (.aload_n 0, 1) := by decide +kernel
theorem d_Sen_become_39 : decode M_Sen_become.2.1 39 = .ok (.getfield 12, 3) := by decide +kernel
theorem d_Sen_become_42 : decode M_Sen_become.2.1 42 = .ok (.iload_n 2, 1) := by decide +kernel
theorem d_Sen_become_43 : decode M_Sen_become.2.1 43 = .ok (.invokevirtual 73, 3) := by decide +kernel
theorem d_Sen_become_46 : decode M_Sen_become.2.1 46 = .ok (.iastore, 1) := by decide +kernel
theorem d_Sen_become_47 : decode M_Sen_become.2.1 47 = .ok (.iinc 2 1, 3) := by decide +kernel
theorem d_Sen_become_50 : decode M_Sen_become.2.1 50 = .ok (.goto (-22), 3) := by decide +kernel
theorem d_Sen_become_53 : decode M_Sen_become.2.1 53 = .ok (.iconst 0, 1) := by decide +kernel
theorem d_Sen_become_54 : decode M_Sen_become.2.1 54 = .ok (.istore_n 2, 1) := by decide +kernel
theorem d_Sen_become_55 : decode M_Sen_become.2.1 55 = .ok (.iload_n 2, 1) := by decide +kernel
theorem d_Sen_become_56 : decode M_Sen_become.2.1 56 = .ok (.aload_n 0, 1) := by decide +kernel
theorem d_Sen_become_57 : decode M_Sen_become.2.1 57 = .ok (.getfield 69, 3) := by decide +kernel
theorem d_Sen_become_60 : decode M_Sen_become.2.1 60 = .ok (.if_icmp .ge 15, 3) := by decide +kernel
theorem d_Sen_become_63 : decode M_Sen_become.2.1 63 = .ok (.aload_n 0, 1) := by decide +kernel
theorem d_Sen_become_64 : decode M_Sen_become.2.1 64 = .ok (.aload_n 1, 1) := by decide +kernel
theorem d_Sen_become_65 : decode M_Sen_become.2.1 65 = .ok (.iload_n 2, 1) := by decide +kernel
theorem d_Sen_become_66 : decode M_Sen_become.2.1 66 = .ok (.invokevirtual 77, 3) := by decide +kernel
theorem d_Sen_become_69 : decode M_Sen_become.2.1 69 = .ok (.iinc 2 1, 3) := by decide +kernel
theorem d_Sen_become_72 : decode M_Sen_become.2.1 72 = .ok (.goto (-17), 3) := by decide +kernel
theorem d_Sen_become_75 : decode M_Sen_become.2.1 75 = .ok (.return_, 1) := by decide +kernel
theorem d_Sen_canHold_0 : decode M_Sen_canHold.2.1 0 = .ok (.aload_n 0, 1) := by decide +kernel
theorem d_Sen_canHold_1 : decode M_Sen_canHold.2.1 1 = .ok (.iload_n 1, 1) := by decide +kernel
theorem d_Sen_canHold_2 : decode M_Sen_canHold.2.1 2 = .ok (.invokevirtual 94, 3) := by decide +kernel
theorem d_Sen_canHold_5 : decode M_Sen_canHold.2.1 5 = .ok (.invokevirtual 98, 3) := by decide +kernel
theorem d_Sen_canHold_8 : decode M_Sen_canHold.2.1 8 = .ok (.ifCond .ne 7, 3) := by decide +kernel
theorem d_Sen_canHold_11 : decode M_Sen_canHold.2.1 11 = .ok (.iconst 1, 1) := by decide +kernel
theorem d_Sen_canHold_12 : decode M_Sen_canHold.2.1 12 = .ok (.goto 4, 3) := by decide +kernel
theorem d_Sen_canHold_15 : decode M_Sen_canHold.2.1 15 = .ok (.iconst 0, 1) := by decide +kernel
theorem d_Sen_canHold_16 : decode M_Sen_canHold.2.1 16 = .ok (.ireturn, 1) := by decide +kernel
theorem d_Sen_canHoldWithoutAnyOne_0 : decode M_Sen_canHoldWithoutAnyOne.2.1 0 = .ok (.iconst 0, 1) := by decide +kernel
theorem d_Sen_canHoldWithoutAnyOne_1 : decode M_Sen_canHoldWithoutAnyOne.2.1 1 = .ok (.istore_n 2, 1) := by decide +kernel
theorem d_Sen_canHoldWithoutAnyOne_2 : decode M_Sen_canHoldWithoutAnyOne.2.1 2 = .ok (.iload_n 2, 1) := by decide +kernel
theorem d_Sen_canHoldWithoutAnyOne_3 : decode M_Sen_canHoldWithoutAnyOne.2.1 3 = .ok (.aload_n 0, 1) := by decide +kernel
theorem d_Sen_canHoldWithoutAnyOne_4 : decode M_Sen_canHoldWithoutAnyOne.2.1 4 = .ok (.getfield 69, 3) := by decide +kernel
theorem d_Sen_canHoldWithoutAnyOne_7 : decode M_Sen_canHoldWithoutAnyOne.2.1 7 = .ok (.if_icmp .ge 31, 3) := by decide +kernel
theorem d_Sen_canHoldWithoutAnyOne_10 : decode M_Sen_canHoldWithoutAnyOne.2.1 10 = .ok (.iload_n 1, 1) := by decide +kernel
theorem d_Sen_canHoldWithoutAnyOne_11 : decode M_Sen_canHoldWithoutAnyOne.2.1 11 = .ok (.iload_n 2, 1) := by decide +kernel
theorem d_Sen_canHoldWithoutAnyOne_12 : decode M_Sen_canHoldWithoutAnyOne.2.1 12 = .ok (.ishr, 1) := by decide +kernel
theorem d_Sen_canHoldWithoutAnyOne_13 : decode M_Sen_canHoldWithoutAnyOne.2.1 13 = .ok (.iconst 1, 1) := by decide +kernel
theorem d_Sen_canHoldWithoutAnyOne_14 : decode M_Sen_canHoldWithoutAnyOne.2.1 14 = .ok (.iand, 1) := by decide +kernel
theorem d_Sen_canHoldWithoutAnyOne_15 : decode M_Sen_canHoldWithoutAnyOne.2.1 15 = .ok (.ifCond .eq 17, 3) := by decide +kernel
theorem d_Sen_canHoldWithoutAnyOne_18 : decode M_Sen_canHoldWithoutAnyOne.2.1 18 = .ok (.aload_n 0, 1) := by decide +kernel
theorem d_Sen_canHoldWithoutAnyOne_19 : decode M_Sen_canHoldWithoutAnyOne.2.1 19 = .ok (.iload_n 1, 1) := by decide +kernel
theorem d_Sen_canHoldWithoutAnyOne_20 : decode M_Sen_canHoldWithoutAnyOne.2.1 20 = .ok (.iconst 1, 1) := by decide +kernel
theorem d_Sen_canHoldWithoutAnyOne_21 : decode M_Sen_canHoldWithoutAnyOne.2.1 21 = .ok (.iload_n 2, 1) := by decide +kernel
theorem d_Sen_canHoldWithoutAnyOne_22 : decode M_Sen_canHoldWithoutAnyOne.2.1 22 = .ok (.ishl, 1) := by decide +kernel
theorem d_Sen_canHoldWithoutAnyOne_23 : decode M_Sen_canHoldWithoutAnyOne.2.1 23 = .ok (.isub, 1) := by decide +kernel
theorem d_Sen_canHoldWithoutAnyOne_24 : decode M_Sen_canHoldWithoutAnyOne.2.1 24 = .ok (.invokevirtual 102, 3) := by decide +kernel
theorem d_Sen_canHoldWithoutAnyOne_27 : decode M_Sen_canHoldWithoutAnyOne.2.1 27 = .ok (.ifCond .ne 5, 3) := by decide +kernel
theorem d_Sen_canHoldWithoutAnyOne_30 : decode M_Sen_canHoldWithoutAnyOne.2.1 30 = .ok (.iconst 0, 1) := by decide +kernel
theorem d_Sen_canHoldWithoutAnyOne_31 : decode M_Sen_canHoldWithoutAnyOne.2.1 31 = .ok (.ireturn, 1) := by decide +kernel
theorem d_Sen_canHoldWithoutAnyOne_32 : decode M_Sen_canHoldWithoutAnyOne.2.1 32 = .ok (.iinc 2 1, 3) := by decide +kernel
theorem d_Sen_canHoldWithoutAnyOne_35 : decode M_Sen_canHoldWithoutAnyOne.2.1 35 = .ok (.goto (-33), 3) := by decide +kernel
theorem d_Sen_canHoldWithoutAnyOne_38 : decode M_Sen_canHoldWithoutAnyOne.2.1 38 = .ok (.iconst 1, 1) := by decide +kernel
theorem d_Sen_canHoldWithoutAnyOne_39 : decode M_Sen_canHoldWithoutAnyOne.2.1 39 = .ok (.ireturn, 1) := by decide +kernel
theorem d_Sen_everyClause_0 : decode M_Sen_everyClause.2.1 0 = .ok (.iconst 1, 1) := by decide +kernel
theorem d_Sen_everyClause_1 : decode M_Sen_everyClause.2.1 1 = .ok (.aload_n 0, 1) := by decide +kernel
theorem d_Sen_everyClause_2 : decode M_Sen_everyClause.2.1 2 = .ok (.getfield 69, 3) := by decide +kernel
theorem d_Sen_everyClause_5 : decode M_Sen_everyClause.2.1 5 = .ok (.ishl, 1) := by decide +kernel
theorem d_Sen_everyClause_6 : decode M_Sen_everyClause.2.1 6 = .ok (.iconst 1, 1) := by decide +kernel
theorem d_Sen_everyClause_7 : decode M_Sen_everyClause.2.1 7 = .ok (.isub, 1) := by decide +kernel
theorem d_Sen_everyClause_8 : decode M_Sen_everyClause.2.1 8 = .ok (.ireturn, 1) := by decide +kernel
theorem d_Sen_hasClause_0 : decode M_Sen_hasClause.2.1 0 = .ok (.iload_n 1, 1) := by decide +kernel
theorem d_Sen_hasClause_1 : decode M_Sen_hasClause.2.1 1 = .ok (.ifCond .lt 15, 3) := by decide +kernel
theorem d_Sen_hasClause_4 : decode M_Sen_hasClause.2.1 4 = .ok (.iload_n 1, 1) := by decide +kernel
theorem d_Sen_hasClause_5 : decode M_Sen_hasClause.2.1 5 = .ok (.aload_n 0, 1) := by decide +kernel
theorem d_Sen_hasClause_6 : decode M_Sen_hasClause.2.1 6 = .ok (.getfield 69, 3) := by decide +kernel
theorem d_Sen_hasClause_9 : decode M_Sen_hasClause.2.1 9 = .ok (.if_icmp .ge 7, 3) := by decide +kernel
theorem d_Sen_hasClause_12 : decode M_Sen_hasClause.2.1 12 = .ok (.iconst 1, 1) := by decide +kernel
theorem d_Sen_hasClause_13 : decode M_Sen_hasClause.2.1 13 = .ok (.goto 4, 3) := by decide +kernel
theorem d_Sen_hasClause_16 : decode M_Sen_hasClause.2.1 16 = .ok (.iconst 0, 1) := by decide +kernel
theorem d_Sen_hasClause_17 : decode M_Sen_hasClause.2.1 17 = .ok (.ireturn, 1) := by decide +kernel
theorem d_Sen_init_0 : decode M_Sen_init.2.1 0 = .ok (.aload_n 0, 1) := by decide +kernel
theorem d_Sen_init_1 : decode M_Sen_init.2.1 1 = .ok (.invokespecial 3, 3) := by decide +kernel
theorem d_Sen_init_4 : decode M_Sen_init.2.1 4 = .ok (.aload_n 0, 1) := by decide +kernel
theorem d_Sen_init_5 : decode M_Sen_init.2.1 5 = .ok (.new 9, 3) := by decide +kernel
theorem d_Sen_init_8 : decode M_Sen_init.2.1 8 = .ok (.dup, 1) := by decide +kernel
theorem d_Sen_init_9 : decode M_Sen_init.2.1 9 = .ok (.invokespecial 11, 3) := by decide +kernel
theorem d_Sen_init_12 : decode M_Sen_init.2.1 12 = .ok (.putfield 12, 3) := by decide +kernel
theorem d_Sen_init_15 : decode M_Sen_init.2.1 15 = .ok (.aload_n 0, 1) := by decide +kernel
theorem d_Sen_init_16 : decode M_Sen_init.2.1 16 = .ok (.bipush 12, 2) := by decide +kernel
theorem d_Sen_init_18 : decode M_Sen_init.2.1 18 = .ok (.newarray .int, 2) := by decide +kernel
theorem d_Sen_init_20 : decode M_Sen_init.2.1 20 = .ok (.putfield 18, 3) := by decide +kernel
theorem d_Sen_init_23 : decode M_Sen_init.2.1 23 = .ok (.aload_n 0, 1) := by decide +kernel
theorem d_Sen_init_24 : decode M_Sen_init.2.1 24 = .ok (.new 22, 3) := by decide +kernel
theorem d_Sen_init_27 : decode M_Sen_init.2.1 27 = .ok (.dup, 1) := by decide +kernel
theorem d_Sen_init_28 : decode M_Sen_init.2.1 28 = .ok (.sipush 324, 3) := by decide +kernel
theorem d_Sen_init_31 : decode M_Sen_init.2.1 31 = .ok (.invokespecial 24, 3) := by decide +kernel
theorem d_Sen_init_34 : decode M_Sen_init.2.1 34 = .ok (.putfield 27, 3) := by decide +kernel
theorem d_Sen_init_37 : decode M_Sen_init.2.1 37 = .ok (.aload_n 0, 1) := by decide +kernel
theorem d_Sen_init_38 : decode M_Sen_init.2.1 38 = .ok (.new 22, 3) := by decide +kernel
theorem d_Sen_init_41 : decode M_Sen_init.2.1 41 = .ok (.dup, 1) := by decide +kernel
theorem d_Sen_init_42 : decode M_Sen_init.2.1 42 = .ok (.bipush 27, 2) := by decide +kernel
theorem d_Sen_init_44 : decode M_Sen_init.2.1 44 = .ok (.invokespecial 24, 3) := by decide +kernel
theorem d_Sen_init_47 : decode M_Sen_init.2.1 47 = .ok (.putfield 31, 3) := by decide +kernel
theorem d_Sen_init_50 : decode M_Sen_init.2.1 50 = .ok (.aload_n 0, 1) := by decide +kernel
theorem d_Sen_init_51 : decode M_Sen_init.2.1 51 = .ok (.new 34, 3) := by decide +kernel
theorem d_Sen_init_54 : decode M_Sen_init.2.1 54 = .ok (.dup, 1) := by decide +kernel
theorem d_Sen_init_55 : decode M_Sen_init.2.1 55 = .ok (.invokespecial 36, 3) := by decide +kernel
theorem d_Sen_init_58 : decode M_Sen_init.2.1 58 = .ok (.putfield 37, 3) := by decide +kernel
theorem d_Sen_init_61 : decode M_Sen_init.2.1 61 = .ok (.aload_n 0, 1) := by decide +kernel
theorem d_Sen_init_62 : decode M_Sen_init.2.1 62 = .ok (.bipush 12, 2) := by decide +kernel
theorem d_Sen_init_64 : decode M_Sen_init.2.1 64 = .ok (.anewarray 41, 3) := by decide +kernel
theorem d_Sen_init_67 : decode M_Sen_init.2.1 67 = .ok (.putfield 43, 3) := by decide +kernel
theorem d_Sen_init_70 : decode M_Sen_init.2.1 70 = .ok (.aload_n 0, 1) := by decide +kernel
theorem d_Sen_init_71 : decode M_Sen_init.2.1 71 = .ok (.new 41, 3) := by decide +kernel
theorem d_Sen_init_74 : decode M_Sen_init.2.1 74 = .ok (.dup, 1) := by decide +kernel
theorem d_Sen_init_75 : decode M_Sen_init.2.1 75 = .ok (.invokespecial 47, 3) := by decide +kernel
theorem d_Sen_init_78 : decode M_Sen_init.2.1 78 = .ok (.putfield 48, 3) := by decide +kernel
theorem d_Sen_init_81 : decode M_Sen_init.2.1 81 = .ok (.aload_n 0, 1) := by decide +kernel
theorem d_Sen_init_82 : decode M_Sen_init.2.1 82 = .ok (.new 41, 3) := by decide +kernel
theorem d_Sen_init_85 : decode M_Sen_init.2.1 85 = .ok (.dup, 1) := by decide +kernel
theorem d_Sen_init_86 : decode M_Sen_init.2.1 86 = .ok (.invokespecial 47, 3) := by decide +kernel
theorem d_Sen_init_89 : decode M_Sen_init.2.1 89 = .ok (.putfield 52, 3) := by decide +kernel
theorem d_Sen_init_92 : decode M_Sen_init.2.1 92 = .ok (.aload_n 0, 1) := by decide +kernel
theorem d_Sen_init_93 : decode M_Sen_init.2.1 93 = .ok (.bipush 6, 2) := by decide +kernel
theorem d_Sen_init_95 : decode M_Sen_init.2.1 95 = .ok (.newarray .int, 2) := by decide +kernel
theorem d_Sen_init_97 : decode M_Sen_init.2.1 97 = .ok (.putfield 55, 3) := by decide +kernel
theorem d_Sen_init_100 : decode M_Sen_init.2.1 100 = .ok (.iconst 0, 1) := by decide +kernel
theorem d_Sen_init_101 : decode M_Sen_init.2.1 101 = .ok (.istore_n 1, 1) := by decide +kernel
theorem d_Sen_init_102 : decode M_Sen_init.2.1 102 = .ok (.iload_n 1, 1) := by decide +kernel
theorem d_Sen_init_103 : decode M_Sen_init.2.1 103 = .ok (.bipush 12, 2) := by decide +kernel
theorem d_Sen_init_105 : decode M_Sen_init.2.1 105 = .ok (.if_icmp .ge 22, 3) := by decide +kernel
theorem d_Sen_init_108 : decode M_Sen_init.2.1 108 = .ok (.aload_n 0, 1) := by decide +kernel
theorem d_Sen_init_109 : decode M_Sen_init.2.1 109 = .ok (.getfield 43, 3) := by decide +kernel
theorem d_Sen_init_112 : decode M_Sen_init.2.1 112 = .ok (.iload_n 1, 1) := by decide +kernel
theorem d_Sen_init_113 : decode M_Sen_init.2.1 113 = .ok (.new 41, 3) := by decide +kernel
theorem d_Sen_init_116 : decode M_Sen_init.2.1 116 = .ok (.dup, 1) := by decide +kernel
theorem d_Sen_init_117 : decode M_Sen_init.2.1 117 = .ok (.invokespecial 47, 3) := by decide +kernel
theorem d_Sen_init_120 : decode M_Sen_init.2.1 120 = .ok (.aastore, 1) := by decide +kernel
theorem d_Sen_init_121 : decode M_Sen_init.2.1 121 = .ok (.iinc 1 1, 3) := by decide +kernel
theorem d_Sen_init_124 : decode M_Sen_init.2.1 124 = .ok (.goto (-22), 3) := by decide +kernel
theorem d_Sen_init_127 : decode M_Sen_init.2.1 127 = .ok (.return_, 1) := by decide +kernel
theorem d_Sen_instanceCount_0 : decode M_Sen_instanceCount.2.1 0 = .ok (.aload_n 0, 1) := by decide +kernel
theorem d_Sen_instanceCount_1 : decode M_Sen_instanceCount.2.1 1 = .ok (.getfield 27, 3) := by decide +kernel
theorem d_Sen_instanceCount_4 : decode M_Sen_instanceCount.2.1 4 = .ok (.getfield 81, 3) := by decide +kernel
theorem d_Sen_instanceCount_7 : decode M_Sen_instanceCount.2.1 7 = .ok (.ireturn, 1) := by decide +kernel
theorem d_Sen_makeInstance_0 : decode M_Sen_makeInstance.2.1 0 = .ok (.aload_n 0, 1) := by decide +kernel
theorem d_Sen_makeInstance_1 : decode M_Sen_makeInstance.2.1 1 = .ok (.getfield 37, 3) := by decide +kernel
theorem d_Sen_makeInstance_4 : decode M_Sen_makeInstance.2.1 4 = .ok (.invokevirtual 112, 3) := by decide +kernel
theorem d_Sen_makeInstance_7 : decode M_Sen_makeInstance.2.1 7 = .ok (.iconst 0, 1) := by decide +kernel
theorem d_Sen_makeInstance_8 : decode M_Sen_makeInstance.2.1 8 = .ok (.istore_n 3, 1) := by decide +kernel
theorem d_Sen_makeInstance_9 : decode M_Sen_makeInstance.2.1 9 = .ok (.iload_n 3, 1) := by decide +kernel
theorem d_Sen_makeInstance_10 : decode M_Sen_makeInstance.2.1 10 = .ok (.aload_n 1, 1) := by decide +kernel
theorem d_Sen_makeInstance_11 : decode M_Sen_makeInstance.2.1 11 = .ok (.getfield 113, 3) := by decide +kernel
theorem d_Sen_makeInstance_14 : decode M_Sen_makeInstance.2.1 14 = .ok (.iload_n 2, 1) := by decide +kernel
theorem d_Sen_makeInstance_15 : decode M_Sen_makeInstance.2.1 15 = .ok (.iaload, 1) := by decide +kernel
theorem d_Sen_makeInstance_16 : decode M_Sen_makeInstance.2.1 16 = .ok (.if_icmp .ge 35, 3) := by decide +kernel
theorem d_Sen_makeInstance_19 : decode M_Sen_makeInstance.2.1 19 = .ok (.aload_n 1, 1) := by decide +kernel
theorem d_Sen_makeInstance_20 : decode M_Sen_makeInstance.2.1 20 = .ok (.iload_n 2, 1) := by decide +kernel
theorem d_Sen_makeInstance_21 : decode M_Sen_makeInstance.2.1 21 = .ok (.iload_n 3, 1) := by decide +kernel
theorem d_Sen_makeInstance_22 : decode M_Sen_makeInstance.2.1 22 = .ok (.invokevirtual 116, 3) := by decide +kernel
theorem d_Sen_makeInstance_25 : decode M_Sen_makeInstance.2.1 25 = .ok (.astore 4, 2) := by decide +kernel
theorem d_Sen_makeInstance_27 : decode M_Sen_makeInstance.2.1 27 = .ok (.aload_n 0, 1) := by decide +kernel
theorem d_Sen_makeInstance_28 : decode M_Sen_makeInstance.2.1 28 = .ok (.getfield 37, 3) := by decide +kernel
theorem d_Sen_makeInstance_31 : decode M_Sen_makeInstance.2.1 31 = .ok (.aload_n 0, 1) := by decide +kernel
theorem d_Sen_makeInstance_32 : decode M_Sen_makeInstance.2.1 32 = .ok (.aload 4, 2) := by decide +kernel
theorem d_Sen_makeInstance_34 : decode M_Sen_makeInstance.2.1 34 = .ok (.invokevirtual 120, 3) := by decide +kernel
theorem d_Sen_makeInstance_37 : decode M_Sen_makeInstance.2.1 37 = .ok (.aload 4, 2) := by decide +kernel
theorem d_Sen_makeInstance_39 : decode M_Sen_makeInstance.2.1 39 = .ok (.getfield 124, 3) := by decide +kernel
theorem d_Sen_makeInstance_42 : decode M_Sen_makeInstance.2.1 42 = .ok (.invokevirtual 130, 3) := by decide +kernel
theorem d_Sen_makeInstance_45 : decode M_Sen_makeInstance.2.1 45 = .ok (.iinc 3 1, 3) := by decide +kernel
theorem d_Sen_makeInstance_48 : decode M_Sen_makeInstance.2.1 48 = .ok (.goto (-39), 3) := by decide +kernel
theorem d_Sen_makeInstance_51 : decode M_Sen_makeInstance.2.1 51 = .ok (.aload_n 0, 1) := by decide +kernel
theorem d_Sen_makeInstance_52 : decode M_Sen_makeInstance.2.1 52 = .ok (.getfield 37, 3) := by decide +kernel
theorem d_Sen_makeInstance_55 : decode M_Sen_makeInstance.2.1 55 = .ok (.invokevirtual 134, 3) := by decide +kernel
theorem d_Sen_makeInstance_58 : decode M_Sen_makeInstance.2.1 58 = .ok (.ifCond .ne 66, 3) := by decide +kernel
theorem d_Sen_makeInstance_61 : decode M_Sen_makeInstance.2.1 61 = .ok (.aload_n 0, 1) := by decide +kernel
theorem d_Sen_makeInstance_62 : decode M_Sen_makeInstance.2.1 62 = .ok (.getfield 31, 3) := by decide +kernel
theorem d_Sen_makeInstance_65 : decode M_Sen_makeInstance.2.1 65 = .ok (.aload_n 0, 1) := by decide +kernel
theorem d_Sen_makeInstance_66 : decode M_Sen_makeInstance.2.1 66 = .ok (.getfield 37, 3) := by decide +kernel
theorem d_Sen_makeInstance_69 : decode M_Sen_makeInstance.2.1 69 = .ok (.invokevirtual 137, 3) := by decide +kernel
theorem d_Sen_makeInstance_72 : decode M_Sen_makeInstance.2.1 72 = .ok (.invokevirtual 141, 3) := by decide +kernel
theorem d_Sen_makeInstance_75 : decode M_Sen_makeInstance.2.1 75 = .ok (.ifCond .eq 49, 3) := by decide +kernel
theorem d_Sen_makeInstance_78 : decode M_Sen_makeInstance.2.1 78 = .ok (.aload_n 0, 1) := by decide +kernel
theorem d_Sen_makeInstance_79 : decode M_Sen_makeInstance.2.1 79 = .ok (.getfield 27, 3) := by decide +kernel
theorem d_Sen_makeInstance_82 : decode M_Sen_makeInstance.2.1 82 = .ok (.aload_n 0, 1) := by decide +kernel
theorem d_Sen_makeInstance_83 : decode M_Sen_makeInstance.2.1 83 = .ok (.getfield 37, 3) := by decide +kernel
theorem d_Sen_makeInstance_86 : decode M_Sen_makeInstance.2.1 86 = .ok (.invokevirtual 137, 3) := by decide +kernel
theorem d_Sen_makeInstance_89 : decode M_Sen_makeInstance.2.1 89 = .ok (.invokevirtual 141, 3) := by decide +kernel
theorem d_Sen_makeInstance_92 : decode M_Sen_makeInstance.2.1 92 = .ok (.pop, 1) := by decide +kernel
theorem d_Sen_makeInstance_93 : decode M_Sen_makeInstance.2.1 93 = .ok (.aload_n 0, 1) := by decide +kernel
theorem d_Sen_makeInstance_94 : decode M_Sen_makeInstance.2.1 94 = .ok (.getfield 48, 3) := by decide +kernel
theorem d_Sen_makeInstance_97 : decode M_Sen_makeInstance.2.1 97 = .ok (.aload_n 0, 1) := by decide +kernel
theorem d_Sen_makeInstance_98 : decode M_Sen_makeInstance.2.1 98 = .ok (.getfield 37, 3) := by decide +kernel
theorem d_Sen_makeInstance_101 : decode M_Sen_makeInstance.2.1 101 = .ok (.aload_n 0, 1) := by decide +kernel
theorem d_Sen_makeInstance_102 : decode M_Sen_makeInstance.2.1 102 = .ok (.getfield 12, 3) := by decide +kernel
theorem d_Sen_makeInstance_105 : decode M_Sen_makeInstance.2.1 105 = .ok (.getfield 84, 3) := by decide +kernel
theorem d_Sen_makeInstance_108 : decode M_Sen_makeInstance.2.1 108 = .ok (.invokevirtual 143, 3) := by decide +kernel
theorem d_Sen_makeInstance_111 : decode M_Sen_makeInstance.2.1 111 = .ok (.aload_n 0, 1) := by decide +kernel
theorem d_Sen_makeInstance_112 : decode M_Sen_makeInstance.2.1 112 = .ok (.getfield 43, 3) := by decide +kernel
theorem d_Sen_makeInstance_115 : decode M_Sen_makeInstance.2.1 115 = .ok (.iload_n 2, 1) := by decide +kernel
theorem d_Sen_makeInstance_116 : decode M_Sen_makeInstance.2.1 116 = .ok (.aaload, 1) := by decide +kernel
theorem d_Sen_makeInstance_117 : decode M_Sen_makeInstance.2.1 117 = .ok (.aload_n 0, 1) := by decide +kernel
theorem d_Sen_makeInstance_118 : decode M_Sen_makeInstance.2.1 118 = .ok (.getfield 48, 3) := by decide +kernel
theorem d_Sen_makeInstance_121 : decode M_Sen_makeInstance.2.1 121 = .ok (.invokevirtual 90, 3) := by decide +kernel
theorem d_Sen_makeInstance_124 : decode M_Sen_makeInstance.2.1 124 = .ok (.return_, 1) := by decide +kernel
theorem d_Sen_makeInstances_0 : decode M_Sen_makeInstances.2.1 0 = .ok (.aload_n 0, 1) := by decide +kernel
theorem d_Sen_makeInstances_1 : decode M_Sen_makeInstances.2.1 1 = .ok (.getfield 31, 3) := by decide +kernel
theorem d_Sen_makeInstances_4 : decode M_Sen_makeInstances.2.1 4 = .ok (.invokevirtual 70, 3) := by decide +kernel
theorem d_Sen_makeInstances_7 : decode M_Sen_makeInstances.2.1 7 = .ok (.aload_n 0, 1) := by decide +kernel
theorem d_Sen_makeInstances_8 : decode M_Sen_makeInstances.2.1 8 = .ok (.getfield 43, 3) := by decide +kernel
theorem d_Sen_makeInstances_11 : decode M_Sen_makeInstances.2.1 11 = .ok (.iload_n 2, 1) := by decide +kernel
theorem d_Sen_makeInstances_12 : decode M_Sen_makeInstances.2.1 12 = .ok (.aaload, 1) := by decide +kernel
theorem d_Sen_makeInstances_13 : decode M_Sen_makeInstances.2.1 13 = .ok (.aload_n 0, 1) := by decide +kernel
theorem d_Sen_makeInstances_14 : decode M_Sen_makeInstances.2.1 14 = .ok (.getfield 12, 3) := by decide +kernel
theorem d_Sen_makeInstances_17 : decode M_Sen_makeInstances.2.1 17 = .ok (.getfield 84, 3) := by decide +kernel
theorem d_Sen_makeInstances_20 : decode M_Sen_makeInstances.2.1 20 = .ok (.invokevirtual 87, 3) := by decide +kernel
theorem d_Sen_makeInstances_23 : decode M_Sen_makeInstances.2.1 23 = .ok (.aload_n 0, 1) := by decide +kernel
theorem d_Sen_makeInstances_24 : decode M_Sen_makeInstances.2.1 24 = .ok (.getfield 12, 3) := by decide +kernel
theorem d_Sen_makeInstances_27 : decode M_Sen_makeInstances.2.1 27 = .ok (.getfield 106, 3) := by decide +kernel
theorem d_Sen_makeInstances_30 : decode M_Sen_makeInstances.2.1 30 = .ok (.istore_n 3, 1) := by decide +kernel
theorem d_Sen_makeInstances_31 : decode M_Sen_makeInstances.2.1 31 = .ok (.iconst 0, 1) := by decide +kernel
theorem d_Sen_makeInstances_32 : decode M_Sen_makeInstances.2.1 32 = .ok (.istore 4, 2) := by decide +kernel
theorem d_Sen_makeInstances_34 : decode M_Sen_makeInstances.2.1 34 = .ok (.iload 4, 2) := by decide +kernel
theorem d_Sen_makeInstances_36 : decode M_Sen_makeInstances.2.1 36 = .ok (.iload_n 3, 1) := by decide +kernel
theorem d_Sen_makeInstances_37 : decode M_Sen_makeInstances.2.1 37 = .ok (.if_icmp .ge 69, 3) := by decide +kernel
theorem d_Sen_makeInstances_40 : decode M_Sen_makeInstances.2.1 40 = .ok (.iconst 0, 1) := by decide +kernel
theorem d_Sen_makeInstances_41 : decode M_Sen_makeInstances.2.1 41 = .ok (.istore 5, 2) := by decide +kernel
theorem d_Sen_makeInstances_43 : decode M_Sen_makeInstances.2.1 43 = .ok (.iload 5, 2) := by decide +kernel
theorem d_Sen_makeInstances_45 : decode M_Sen_makeInstances.2.1 45 = .ok (.iload_n 3, 1) := by decide +kernel
theorem d_Sen_makeInstances_46 : decode M_Sen_makeInstances.2.1 46 = .ok (.if_icmp .ge 54, 3) := by decide +kernel
theorem d_Sen_makeInstances_49 : decode M_Sen_makeInstances.2.1 49 = .ok (.iconst 0, 1) := by decide +kernel
theorem d_Sen_makeInstances_50 : decode M_Sen_makeInstances.2.1 50 = .ok (.istore 6, 2) := by decide +kernel
theorem d_Sen_makeInstances_52 : decode M_Sen_makeInstances.2.1 52 = .ok (.iload 6, 2) := by decide +kernel
theorem d_Sen_makeInstances_54 : decode M_Sen_makeInstances.2.1 54 = .ok (.iload_n 3, 1) := by decide +kernel
theorem d_Sen_makeInstances_55 : decode M_Sen_makeInstances.2.1 55 = .ok (.if_icmp .ge 39, 3) := by decide +kernel
theorem d_Sen_makeInstances_58 : decode M_Sen_makeInstances.2.1 58 = .ok (.aload_n 0, 1) := by decide +kernel
theorem d_Sen_makeInstances_59 : decode M_Sen_makeInstances.2.1 59 = .ok (.getfield 55, 3) := by decide +kernel
theorem d_Sen_makeInstances_62 : decode M_Sen_makeInstances.2.1 62 = .ok (.iconst 3, 1) := by decide +kernel
theorem d_Sen_makeInstances_63 : decode M_Sen_makeInstances.2.1 63 = .ok (.iload 4, 2) := by decide +kernel
theorem d_Sen_makeInstances_65 : decode M_Sen_makeInstances.2.1 65 = .ok (.iastore, 1) := by decide +kernel
theorem d_Sen_makeInstances_66 : decode M_Sen_makeInstances.2.1 66 = .ok (.aload_n 0, 1) := by decide +kernel
theorem d_Sen_makeInstances_67 : decode M_Sen_makeInstances.2.1 67 = .ok (.getfield 55, 3) := by decide +kernel
theorem d_Sen_makeInstances_70 : decode M_Sen_makeInstances.2.1 70 = .ok (.iconst 4, 1) := by decide +kernel
theorem d_Sen_makeInstances_71 : decode M_Sen_makeInstances.2.1 71 = .ok (.iload 5, 2) := by decide +kernel
theorem d_Sen_makeInstances_73 : decode M_Sen_makeInstances.2.1 73 = .ok (.iastore, 1) := by decide +kernel
theorem d_Sen_makeInstances_74 : decode M_Sen_makeInstances.2.1 74 = .ok (.aload_n 0, 1) := by decide +kernel
theorem d_Sen_makeInstances_75 : decode M_Sen_makeInstances.2.1 75 = .ok (.getfield 55, 3) := by decide +kernel
theorem d_Sen_makeInstances_78 : decode M_Sen_makeInstances.2.1 78 = .ok (.iconst 5, 1) := by decide +kernel
theorem d_Sen_makeInstances_79 : decode M_Sen_makeInstances.2.1 79 = .ok (.iload 6, 2) := by decide +kernel
theorem d_Sen_makeInstances_81 : decode M_Sen_makeInstances.2.1 81 = .ok (.iastore, 1) := by decide +kernel
theorem d_Sen_makeInstances_82 : decode M_Sen_makeInstances.2.1 82 = .ok (.aload_n 0, 1) := by decide +kernel
theorem d_Sen_makeInstances_83 : decode M_Sen_makeInstances.2.1 83 = .ok (.aload_n 1, 1) := by decide +kernel
theorem d_Sen_makeInstances_84 : decode M_Sen_makeInstances.2.1 84 = .ok (.iload_n 2, 1) := by decide +kernel
theorem d_Sen_makeInstances_85 : decode M_Sen_makeInstances.2.1 85 = .ok (.invokevirtual 109, 3) := by decide +kernel
theorem d_Sen_makeInstances_88 : decode M_Sen_makeInstances.2.1 88 = .ok (.iinc 6 1, 3) := by decide +kernel
theorem d_Sen_makeInstances_91 : decode M_Sen_makeInstances.2.1 91 = .ok (.goto (-39), 3) := by decide +kernel
theorem d_Sen_makeInstances_94 : decode M_Sen_makeInstances.2.1 94 = .ok (.iinc 5 1, 3) := by decide +kernel
theorem d_Sen_makeInstances_97 : decode M_Sen_makeInstances.2.1 97 = .ok (.goto (-54), 3) := by decide +kernel
theorem d_Sen_makeInstances_100 : decode M_Sen_makeInstances.2.1 100 = .ok (.iinc 4 1, 3) := by decide +kernel
theorem d_Sen_makeInstances_103 : decode M_Sen_makeInstances.2.1 103 = .ok (.goto (-69), 3) := by decide +kernel
theorem d_Sen_makeInstances_106 : decode M_Sen_makeInstances.2.1 106 = .ok (.aload_n 0, 1) := by decide +kernel
theorem d_Sen_makeInstances_107 : decode M_Sen_makeInstances.2.1 107 = .ok (.getfield 18, 3) := by decide +kernel
theorem d_Sen_makeInstances_110 : decode M_Sen_makeInstances.2.1 110 = .ok (.iload_n 2, 1) := by decide +kernel
theorem d_Sen_makeInstances_111 : decode M_Sen_makeInstances.2.1 111 = .ok (.aload_n 0, 1) := by decide +kernel
theorem d_Sen_makeInstances_112 : decode M_Sen_makeInstances.2.1 112 = .ok (.getfield 31, 3) := by decide +kernel
theorem d_Sen_makeInstances_115 : decode M_Sen_makeInstances.2.1 115 = .ok (.getfield 81, 3) := by decide +kernel
theorem d_Sen_makeInstances_118 : decode M_Sen_makeInstances.2.1 118 = .ok (.iastore, 1) := by decide +kernel
theorem d_Sen_makeInstances_119 : decode M_Sen_makeInstances.2.1 119 = .ok (.return_, 1) := by decide +kernel
theorem d_Sen_tablesOf_0 : decode M_Sen_tablesOf.2.1 0 = .ok (.aload_n 0, 1) := by decide +kernel
theorem d_Sen_tablesOf_1 : decode M_Sen_tablesOf.2.1 1 = .ok (.getfield 52, 3) := by decide +kernel
theorem d_Sen_tablesOf_4 : decode M_Sen_tablesOf.2.1 4 = .ok (.aload_n 0, 1) := by decide +kernel
theorem d_Sen_tablesOf_5 : decode M_Sen_tablesOf.2.1 5 = .ok (.getfield 12, 3) := by decide +kernel
theorem d_Sen_tablesOf_8 : decode M_Sen_tablesOf.2.1 8 = .ok (.getfield 84, 3) := by decide +kernel
theorem d_Sen_tablesOf_11 : decode M_Sen_tablesOf.2.1 11 = .ok (.invokevirtual 87, 3) := by decide +kernel
theorem d_Sen_tablesOf_14 : decode M_Sen_tablesOf.2.1 14 = .ok (.iconst 0, 1) := by decide +kernel
theorem d_Sen_tablesOf_15 : decode M_Sen_tablesOf.2.1 15 = .ok (.istore_n 2, 1) := by decide +kernel
theorem d_Sen_tablesOf_16 : decode M_Sen_tablesOf.2.1 16 = .ok (.iload_n 2, 1) := by decide +kernel
theorem d_Sen_tablesOf_17 : decode M_Sen_tablesOf.2.1 17 = .ok (.aload_n 0, 1) := by decide +kernel
theorem d_Sen_tablesOf_18 : decode M_Sen_tablesOf.2.1 18 = .ok (.getfield 69, 3) := by decide +kernel
theorem d_Sen_tablesOf_21 : decode M_Sen_tablesOf.2.1 21 = .ok (.if_icmp .ge 30, 3) := by decide +kernel
theorem d_Sen_tablesOf_24 : decode M_Sen_tablesOf.2.1 24 = .ok (.iload_n 1, 1) := by decide +kernel
theorem d_Sen_tablesOf_25 : decode M_Sen_tablesOf.2.1 25 = .ok (.iload_n 2, 1) := by decide +kernel
theorem d_Sen_tablesOf_26 : decode M_Sen_tablesOf.2.1 26 = .ok (.ishr, 1) := by decide +kernel
theorem d_Sen_tablesOf_27 : decode M_Sen_tablesOf.2.1 27 = .ok (.iconst 1, 1) := by decide +kernel
theorem d_Sen_tablesOf_28 : decode M_Sen_tablesOf.2.1 28 = .ok (.iand, 1) := by decide +kernel
theorem d_Sen_tablesOf_29 : decode M_Sen_tablesOf.2.1 29 = .ok (.ifCond .eq 16, 3) := by decide +kernel
theorem d_Sen_tablesOf_32 : decode M_Sen_tablesOf.2.1 32 = .ok (.aload_n 0, 1) := by decide +kernel
theorem d_Sen_tablesOf_33 : decode M_Sen_tablesOf.2.1 33 = .ok (.getfield 52, 3) := by decide +kernel
theorem d_Sen_tablesOf_36 : decode M_Sen_tablesOf.2.1 36 = .ok (.aload_n 0, 1) := by decide +kernel
theorem d_Sen_tablesOf_37 : decode M_Sen_tablesOf.2.1 37 = .ok (.getfield 43, 3) := by decide +kernel
theorem d_Sen_tablesOf_40 : decode M_Sen_tablesOf.2.1 40 = .ok (.iload_n 2, 1) := by decide +kernel
theorem d_Sen_tablesOf_41 : decode M_Sen_tablesOf.2.1 41 = .ok (.aaload, 1) := by decide +kernel
theorem d_Sen_tablesOf_42 : decode M_Sen_tablesOf.2.1 42 = .ok (.invokevirtual 90, 3) := by decide +kernel
theorem d_Sen_tablesOf_45 : decode M_Sen_tablesOf.2.1 45 = .ok (.iinc 2 1, 3) := by decide +kernel
theorem d_Sen_tablesOf_48 : decode M_Sen_tablesOf.2.1 48 = .ok (.goto (-32), 3) := by decide +kernel
theorem d_Sen_tablesOf_51 : decode M_Sen_tablesOf.2.1 51 = .ok (.aload_n 0, 1) := by decide +kernel
theorem d_Sen_tablesOf_52 : decode M_Sen_tablesOf.2.1 52 = .ok (.getfield 52, 3) := by decide +kernel
theorem d_Sen_tablesOf_55 : decode M_Sen_tablesOf.2.1 55 = .ok (.areturn, 1) := by decide +kernel
theorem d_Ins_add_0 : decode M_Ins_add.2.1 0 = .ok (.iload_n 2, 1) := by decide +kernel
theorem d_Ins_add_1 : decode M_Ins_add.2.1 1 = .ok (.ifCond .eq 18, 3) := by decide +kernel
theorem d_Ins_add_4 : decode M_Ins_add.2.1 4 = .ok (.aload_n 0, 1) := by decide +kernel
theorem d_Ins_add_5 : decode M_Ins_add.2.1 5 = .ok (.dup, 1) := by decide +kernel
theorem d_Ins_add_6 : decode M_Ins_add.2.1 6 = .ok (.getfield 15, 3) := by decide +kernel
theorem d_Ins_add_9 : decode M_Ins_add.2.1 9 = .ok (.iconst 1, 1) := by decide +kernel
theorem d_Ins_add_10 : decode M_Ins_add.2.1 10 = .ok (.iload_n 1, 1) := by decide +kernel
theorem d_Ins_add_11 : decode M_Ins_add.2.1 11 = .ok (.ishl, 1) := by decide +kernel
theorem d_Ins_add_12 : decode M_Ins_add.2.1 12 = .ok (.ior, 1) := by decide +kernel
theorem d_Ins_add_13 : decode M_Ins_add.2.1 13 = .ok (.putfield 15, 3) := by decide +kernel
theorem d_Ins_add_16 : decode M_Ins_add.2.1 16 = .ok (.goto 15, 3) := by decide +kernel
theorem d_Ins_add_19 : decode M_Ins_add.2.1 19 = .ok (.aload_n 0, 1) := by decide +kernel
theorem d_Ins_add_20 : decode M_Ins_add.2.1 20 = .ok (.dup, 1) := by decide +kernel
theorem d_Ins_add_21 : decode M_Ins_add.2.1 21 = .ok (.getfield 9, 3) := by decide +kernel
theorem d_Ins_add_24 : decode M_Ins_add.2.1 24 = .ok (.iconst 1, 1) := by decide +kernel
theorem d_Ins_add_25 : decode M_Ins_add.2.1 25 = .ok (.iload_n 1, 1) := by decide +kernel
theorem d_Ins_add_26 : decode M_Ins_add.2.1 26 = .ok (.ishl, 1) := by decide +kernel
theorem d_Ins_add_27 : decode M_Ins_add.2.1 27 = .ok (.ior, 1) := by decide +kernel
theorem d_Ins_add_28 : decode M_Ins_add.2.1 28 = .ok (.putfield 9, 3) := by decide +kernel
theorem d_Ins_add_31 : decode M_Ins_add.2.1 31 = .ok (.return_, 1) := by decide +kernel
theorem d_Ins_clear_0 : decode M_Ins_clear.2.1 0 = .ok (.aload_n 0, 1) := by decide +kernel
theorem d_Ins_clear_1 : decode M_Ins_clear.2.1 1 = .ok (.iconst 0, 1) := by decide +kernel
theorem d_Ins_clear_2 : decode M_Ins_clear.2.1 2 = .ok (.putfield 9, 3) := by decide +kernel
theorem d_Ins_clear_5 : decode M_Ins_clear.2.1 5 = .ok (.aload_n 0, 1) := by decide +kernel
theorem d_Ins_clear_6 : decode M_Ins_clear.2.1 6 = .ok (.iconst 0, 1) := by decide +kernel
theorem d_Ins_clear_7 : decode M_Ins_clear.2.1 7 = .ok (.putfield 15, 3) := by decide +kernel
theorem d_Ins_clear_10 : decode M_Ins_clear.2.1 10 = .ok (.return_, 1) := by decide +kernel
theorem d_Ins_code_0 : decode M_Ins_code.2.1 0 = .ok (.aload_n 0, 1) := by decide +kernel
theorem d_Ins_code_1 : decode M_Ins_code.2.1 1 = .ok (.getfield 15, 3) := by decide +kernel
theorem d_Ins_code_4 : decode M_Ins_code.2.1 4 = .ok (.bipush 12, 2) := by decide +kernel
theorem d_Ins_code_6 : decode M_Ins_code.2.1 6 = .ok (.ishl, 1) := by decide +kernel
theorem d_Ins_code_7 : decode M_Ins_code.2.1 7 = .ok (.aload_n 0, 1) := by decide +kernel
theorem d_Ins_code_8 : decode M_Ins_code.2.1 8 = .ok (.getfield 9, 3) := by decide +kernel
theorem d_Ins_code_11 : decode M_Ins_code.2.1 11 = .ok (.ior, 1) := by decide +kernel
theorem d_Ins_code_12 : decode M_Ins_code.2.1 12 = .ok (.ireturn, 1) := by decide +kernel
theorem d_Ins_init_0 : decode M_Ins_init.2.1 0 = .ok (.aload_n 0, 1) := by decide +kernel
theorem d_Ins_init_1 : decode M_Ins_init.2.1 1 = .ok (.invokespecial 3, 3) := by decide +kernel
theorem d_Ins_init_4 : decode M_Ins_init.2.1 4 = .ok (.return_, 1) := by decide +kernel
theorem d_Ins_isLeftOut_0 : decode M_Ins_isLeftOut.2.1 0 = .ok (.aload_n 0, 1) := by decide +kernel
theorem d_Ins_isLeftOut_1 : decode M_Ins_isLeftOut.2.1 1 = .ok (.getfield 9, 3) := by decide +kernel
theorem d_Ins_isLeftOut_4 : decode M_Ins_isLeftOut.2.1 4 = .ok (.aload_n 0, 1) := by decide +kernel
theorem d_Ins_isLeftOut_5 : decode M_Ins_isLeftOut.2.1 5 = .ok (.getfield 15, 3) := by decide +kernel
theorem d_Ins_isLeftOut_8 : decode M_Ins_isLeftOut.2.1 8 = .ok (.iand, 1) := by decide +kernel
theorem d_Ins_isLeftOut_9 : decode M_Ins_isLeftOut.2.1 9 = .ok (.ifCond .eq 7, 3) := by decide +kernel
theorem d_Ins_isLeftOut_12 : decode M_Ins_isLeftOut.2.1 12 = .ok (.iconst 1, 1) := by decide +kernel
theorem d_Ins_isLeftOut_13 : decode M_Ins_isLeftOut.2.1 13 = .ok (.goto 4, 3) := by decide +kernel
theorem d_Ins_isLeftOut_16 : decode M_Ins_isLeftOut.2.1 16 = .ok (.iconst 0, 1) := by decide +kernel
theorem d_Ins_isLeftOut_17 : decode M_Ins_isLeftOut.2.1 17 = .ok (.ireturn, 1) := by decide +kernel
theorem d_Ins_wants_0 : decode M_Ins_wants.2.1 0 = .ok (.iload_n 2, 1) := by decide +kernel
theorem d_Ins_wants_1 : decode M_Ins_wants.2.1 1 = .ok (.ifCond .eq 10, 3) := by decide +kernel
theorem d_Ins_wants_4 : decode M_Ins_wants.2.1 4 = .ok (.aload_n 0, 1) := by decide +kernel
theorem d_Ins_wants_5 : decode M_Ins_wants.2.1 5 = .ok (.getfield 9, 3) := by decide +kernel
theorem d_Ins_wants_8 : decode M_Ins_wants.2.1 8 = .ok (.goto 7, 3) := by decide +kernel
theorem d_Ins_wants_11 : decode M_Ins_wants.2.1 11 = .ok (.aload_n 0, 1) := by decide +kernel
theorem d_Ins_wants_12 : decode M_Ins_wants.2.1 12 = .ok (.getfield 15, 3) := by decide +kernel
theorem d_Ins_wants_15 : decode M_Ins_wants.2.1 15 = .ok (.iload_n 1, 1) := by decide +kernel
theorem d_Ins_wants_16 : decode M_Ins_wants.2.1 16 = .ok (.ishr, 1) := by decide +kernel
theorem d_Ins_wants_17 : decode M_Ins_wants.2.1 17 = .ok (.iconst 1, 1) := by decide +kernel
theorem d_Ins_wants_18 : decode M_Ins_wants.2.1 18 = .ok (.iand, 1) := by decide +kernel
theorem d_Ins_wants_19 : decode M_Ins_wants.2.1 19 = .ok (.ifCond .eq 7, 3) := by decide +kernel
theorem d_Ins_wants_22 : decode M_Ins_wants.2.1 22 = .ok (.iconst 1, 1) := by decide +kernel
theorem d_Ins_wants_23 : decode M_Ins_wants.2.1 23 = .ok (.goto 4, 3) := by decide +kernel
theorem d_Ins_wants_26 : decode M_Ins_wants.2.1 26 = .ok (.iconst 0, 1) := by decide +kernel
theorem d_Ins_wants_27 : decode M_Ins_wants.2.1 27 = .ok (.ireturn, 1) := by decide +kernel
theorem d_Iset_add_0 : decode M_Iset_add.2.1 0 = .ok (.iconst 0, 1) := by decide +kernel
theorem d_Iset_add_1 : decode M_Iset_add.2.1 1 = .ok (.istore_n 2, 1) := by decide +kernel
theorem d_Iset_add_2 : decode M_Iset_add.2.1 2 = .ok (.iload_n 2, 1) := by decide +kernel
theorem d_Iset_add_3 : decode M_Iset_add.2.1 3 = .ok (.aload_n 0, 1) := by decide +kernel
theorem d_Iset_add_4 : decode M_Iset_add.2.1 4 = .ok (.getfield 13, 3) := by decide +kernel
theorem d_Iset_add_7 : decode M_Iset_add.2.1 7 = .ok (.if_icmp .ge 21, 3) := by decide +kernel
theorem d_Iset_add_10 : decode M_Iset_add.2.1 10 = .ok (.aload_n 0, 1) := by decide +kernel
theorem d_Iset_add_11 : decode M_Iset_add.2.1 11 = .ok (.getfield 7, 3) := by decide +kernel
theorem d_Iset_add_14 : decode M_Iset_add.2.1 14 = .ok (.iload_n 2, 1) := by decide +kernel
theorem d_Iset_add_15 : decode M_Iset_add.2.1 15 = .ok (.iaload, 1) := by decide +kernel
theorem d_Iset_add_16 : decode M_Iset_add.2.1 16 = .ok (.iload_n 1, 1) := by decide +kernel
theorem d_Iset_add_17 : decode M_Iset_add.2.1 17 = .ok (.if_icmp .ne 5, 3) := by decide +kernel
theorem d_Iset_add_20 : decode M_Iset_add.2.1 20 = .ok (.iconst 0, 1) := by decide +kernel
theorem d_Iset_add_21 : decode M_Iset_add.2.1 21 = .ok (.ireturn, 1) := by decide +kernel
theorem d_Iset_add_22 : decode M_Iset_add.2.1 22 = .ok (.iinc 2 1, 3) := by decide +kernel
theorem d_Iset_add_25 : decode M_Iset_add.2.1 25 = .ok (.goto (-23), 3) := by decide +kernel
theorem d_Iset_add_28 : decode M_Iset_add.2.1 28 = .ok (.aload_n 0, 1) := by decide +kernel
theorem d_Iset_add_29 : decode M_Iset_add.2.1 29 = .ok (.getfield 13, 3) := by decide +kernel
theorem d_Iset_add_32 : decode M_Iset_add.2.1 32 = .ok (.aload_n 0, 1) := by decide +kernel
theorem d_Iset_add_33 : decode M_Iset_add.2.1 33 = .ok (.getfield 7, 3) := by decide +kernel
theorem d_Iset_add_36 : decode M_Iset_add.2.1 36 = .ok (.arraylength, 1) := by decide +kernel
theorem d_Iset_add_37 : decode M_Iset_add.2.1 37 = .ok (.if_icmp .ge 23, 3) := by decide +kernel
theorem d_Iset_add_40 : decode M_Iset_add.2.1 40 = .ok (.aload_n 0, 1) := by decide +kernel
theorem d_Iset_add_41 : decode M_Iset_add.2.1 41 = .ok (.getfield 7, 3) := by decide +kernel
theorem d_Iset_add_44 : decode M_Iset_add.2.1 44 = .ok (.aload_n 0, 1) := by decide +kernel
theorem d_Iset_add_45 : decode M_Iset_add.2.1 45 = .ok (.getfield 13, 3) := by decide +kernel
theorem d_Iset_add_48 : decode M_Iset_add.2.1 48 = .ok (.iload_n 1, 1) := by decide +kernel
theorem d_Iset_add_49 : decode M_Iset_add.2.1 49 = .ok (.iastore, 1) := by decide +kernel
theorem d_Iset_add_50 : decode M_Iset_add.2.1 50 = .ok (.aload_n 0, 1) := by decide +kernel
theorem d_Iset_add_51 : decode M_Iset_add.2.1 51 = .ok (.dup, 1) := by decide +kernel
theorem d_Iset_add_52 : decode M_Iset_add.2.1 52 = .ok (.getfield 13, 3) := by decide +kernel
theorem d_Iset_add_55 : decode M_Iset_add.2.1 55 = .ok (.iconst 1, 1) := by decide +kernel
theorem d_Iset_add_56 : decode M_Iset_add.2.1 56 = .ok (.iadd, 1) := by decide +kernel
theorem d_Iset_add_57 : decode M_Iset_add.2.1 57 = .ok (.putfield 13, 3) := by decide +kernel
theorem d_Iset_add_60 : decode M_Iset_add.2.1 60 = .ok (.iconst 1, 1) := by decide +kernel
theorem d_Iset_add_61 : decode M_Iset_add.2.1 61 = .ok (.ireturn, 1) := by decide +kernel
theorem d_Iset_clear_0 : decode M_Iset_clear.2.1 0 = .ok (.aload_n 0, 1) := by decide +kernel
theorem d_Iset_clear_1 : decode M_Iset_clear.2.1 1 = .ok (.iconst 0, 1) := by decide +kernel
theorem d_Iset_clear_2 : decode M_Iset_clear.2.1 2 = .ok (.putfield 13, 3) := by decide +kernel
theorem d_Iset_clear_5 : decode M_Iset_clear.2.1 5 = .ok (.return_, 1) := by decide +kernel
theorem d_Iset_init_0 : decode M_Iset_init.2.1 0 = .ok (.aload_n 0, 1) := by decide +kernel
theorem d_Iset_init_1 : decode M_Iset_init.2.1 1 = .ok (.invokespecial 1, 3) := by decide +kernel
theorem d_Iset_init_4 : decode M_Iset_init.2.1 4 = .ok (.aload_n 0, 1) := by decide +kernel
theorem d_Iset_init_5 : decode M_Iset_init.2.1 5 = .ok (.iload_n 1, 1) := by decide +kernel
theorem d_Iset_init_6 : decode M_Iset_init.2.1 6 = .ok (.newarray .int, 2) := by decide +kernel
theorem d_Iset_init_8 : decode M_Iset_init.2.1 8 = .ok (.putfield 7, 3) := by decide +kernel
theorem d_Iset_init_11 : decode M_Iset_init.2.1 11 = .ok (.return_, 1) := by decide +kernel
theorem d_Tab_addTablesWith_0 : decode M_Tab_addTablesWith.2.1 0 = .ok (.iconst 0, 1) := by decide +kernel
theorem d_Tab_addTablesWith_1 : decode M_Tab_addTablesWith.2.1 1 = .ok (.istore_n 3, 1) := by decide +kernel
theorem d_Tab_addTablesWith_2 : decode M_Tab_addTablesWith.2.1 2 = .ok (.iload_n 3, 1) := by decide +kernel
theorem d_Tab_addTablesWith_3 : decode M_Tab_addTablesWith.2.1 3 = .ok (.aload_n 0, 1) := by decide +kernel
theorem d_Tab_addTablesWith_4 : decode M_Tab_addTablesWith.2.1 4 = .ok (.getfield 37, 3) := by decide +kernel
theorem d_Tab_addTablesWith_7 : decode M_Tab_addTablesWith.2.1 7 = .ok (.if_icmp .ge 25, 3) := by decide +kernel
theorem d_Tab_addTablesWith_10 : decode M_Tab_addTablesWith.2.1 10 = .ok (.aload_n 0, 1) := by decide +kernel
theorem d_Tab_addTablesWith_11 : decode M_Tab_addTablesWith.2.1 11 = .ok (.getfield 9, 3) := by decide +kernel
theorem d_Tab_addTablesWith_14 : decode M_Tab_addTablesWith.2.1 14 = .ok (.iload_n 3, 1) := by decide +kernel
theorem d_Tab_addTablesWith_15 : decode M_Tab_addTablesWith.2.1 15 = .ok (.dup2, 1) := by decide +kernel
theorem d_Tab_addTablesWith_16 : decode M_Tab_addTablesWith.2.1 16 = .ok (.laload, 1) := by decide +kernel
theorem d_Tab_addTablesWith_17 : decode M_Tab_addTablesWith.2.1 17 = .ok (.aload_n 0, 1) := by decide +kernel
theorem d_Tab_addTablesWith_18 : decode M_Tab_addTablesWith.2.1 18 = .ok (.iload_n 3, 1) := by decide +kernel
theorem d_Tab_addTablesWith_19 : decode M_Tab_addTablesWith.2.1 19 = .ok (.iload_n 1, 1) := by decide +kernel
theorem d_Tab_addTablesWith_20 : decode M_Tab_addTablesWith.2.1 20 = .ok (.iload_n 2, 1) := by decide +kernel
theorem d_Tab_addTablesWith_21 : decode M_Tab_addTablesWith.2.1 21 = .ok (.invokevirtual 58, 3) := by decide +kernel
theorem d_Tab_addTablesWith_24 : decode M_Tab_addTablesWith.2.1 24 = .ok (.lor, 1) := by decide +kernel
theorem d_Tab_addTablesWith_25 : decode M_Tab_addTablesWith.2.1 25 = .ok (.lastore, 1) := by decide +kernel
theorem d_Tab_addTablesWith_26 : decode M_Tab_addTablesWith.2.1 26 = .ok (.iinc 3 1, 3) := by decide +kernel
theorem d_Tab_addTablesWith_29 : decode M_Tab_addTablesWith.2.1 29 = .ok (.goto (-27), 3) := by decide +kernel
theorem d_Tab_addTablesWith_32 : decode M_Tab_addTablesWith.2.1 32 = .ok (.return_, 1) := by decide +kernel
theorem d_Tab_becomeTablesOf_0 : decode M_Tab_becomeTablesOf.2.1 0 = .ok (.aload_n 0, 1) := by decide +kernel
theorem d_Tab_becomeTablesOf_1 : decode M_Tab_becomeTablesOf.2.1 1 = .ok (.iload_n 2, 1) := by decide +kernel
theorem d_Tab_becomeTablesOf_2 : decode M_Tab_becomeTablesOf.2.1 2 = .ok (.invokevirtual 15, 3) := by decide +kernel
theorem d_Tab_becomeTablesOf_5 : decode M_Tab_becomeTablesOf.2.1 5 = .ok (.aload_n 0, 1) := by decide +kernel
theorem d_Tab_becomeTablesOf_6 : decode M_Tab_becomeTablesOf.2.1 6 = .ok (.getfield 9, 3) := by decide +kernel
theorem d_Tab_becomeTablesOf_9 : decode M_Tab_becomeTablesOf.2.1 9 = .ok (.lconst 0, 1) := by decide +kernel
theorem d_Tab_becomeTablesOf_10 : decode M_Tab_becomeTablesOf.2.1 10 = .ok (.invokestatic 21, 3) := by decide +kernel
theorem d_Tab_becomeTablesOf_13 : decode M_Tab_becomeTablesOf.2.1 13 = .ok (.iconst 0, 1) := by decide +kernel
theorem d_Tab_becomeTablesOf_14 : decode M_Tab_becomeTablesOf.2.1 14 = .ok (.istore_n 3, 1) := by decide +kernel
theorem d_Tab_becomeTablesOf_15 : decode M_Tab_becomeTablesOf.2.1 15 = .ok (.iload_n 3, 1) := by decide +kernel
theorem d_Tab_becomeTablesOf_16 : decode M_Tab_becomeTablesOf.2.1 16 = .ok (.iload_n 2, 1) := by decide +kernel
theorem d_Tab_becomeTablesOf_17 : decode M_Tab_becomeTablesOf.2.1 17 = .ok (.if_icmp .ge 39, 3) := by decide +kernel
theorem d_Tab_becomeTablesOf_20 : decode M_Tab_becomeTablesOf.2.1 20 = .ok (.aload_n 1, 1) := by decide +kernel
theorem d_Tab_becomeTablesOf_21 : decode M_Tab_becomeTablesOf.2.1 21 = .ok (.iload_n 3, 1) := by decide +kernel
theorem d_Tab_becomeTablesOf_22 : decode M_Tab_becomeTablesOf.2.1 22 = .ok (.iconst 1, 1) := by decide +kernel
theorem d_Tab_becomeTablesOf_23 : decode M_Tab_becomeTablesOf.2.1 23 = .ok (.invokevirtual 27, 3) := by decide +kernel
theorem d_Tab_becomeTablesOf_26 : decode M_Tab_becomeTablesOf.2.1 26 = .ok (.ifCond .eq 9, 3) := by decide +kernel
theorem d_Tab_becomeTablesOf_29 : decode M_Tab_becomeTablesOf.2.1 29 = .ok (.aload_n 0, 1) := by decide +kernel
theorem d_Tab_becomeTablesOf_30 : decode M_Tab_becomeTablesOf.2.1 30 = .ok (.iload_n 3, 1) := by decide +kernel
theorem d_Tab_becomeTablesOf_31 : decode M_Tab_becomeTablesOf.2.1 31 = .ok (.iconst 1, 1) := by decide +kernel
theorem d_Tab_becomeTablesOf_32 : decode M_Tab_becomeTablesOf.2.1 32 = .ok (.invokevirtual 33, 3) := by decide +kernel
theorem d_Tab_becomeTablesOf_35 : decode M_Tab_becomeTablesOf.2.1 35 = .ok (.aload_n 1, 1) := by decide +kernel
theorem d_Tab_becomeTablesOf_36 : decode M_Tab_becomeTablesOf.2.1 36 = .ok (.iload_n 3, 1) := by decide +kernel
theorem d_Tab_becomeTablesOf_37 : decode M_Tab_becomeTablesOf.2.1 37 = .ok (.iconst 0, 1) := by decide +kernel
theorem d_Tab_becomeTablesOf_38 : decode M_Tab_becomeTablesOf.2.1 38 = .ok (.invokevirtual 27, 3) := by decide +kernel
theorem d_Tab_becomeTablesOf_41 : decode M_Tab_becomeTablesOf.2.1 41 = .ok (.ifCond .eq 9, 3) := by decide +kernel
theorem d_Tab_becomeTablesOf_44 : decode M_Tab_becomeTablesOf.2.1 44 = .ok (.aload_n 0, 1) := by decide +kernel
theorem d_Tab_becomeTablesOf_45 : decode M_Tab_becomeTablesOf.2.1 45 = .ok (.iload_n 3, 1) := by decide +kernel
theorem d_Tab_becomeTablesOf_46 : decode M_Tab_becomeTablesOf.2.1 46 = .ok (.iconst 0, 1) := by decide +kernel
theorem d_Tab_becomeTablesOf_47 : decode M_Tab_becomeTablesOf.2.1 47 = .ok (.invokevirtual 33, 3) := by decide +kernel
theorem d_Tab_becomeTablesOf_50 : decode M_Tab_becomeTablesOf.2.1 50 = .ok (.iinc 3 1, 3) := by decide +kernel
theorem d_Tab_becomeTablesOf_53 : decode M_Tab_becomeTablesOf.2.1 53 = .ok (.goto (-38), 3) := by decide +kernel
theorem d_Tab_becomeTablesOf_56 : decode M_Tab_becomeTablesOf.2.1 56 = .ok (.return_, 1) := by decide +kernel
theorem d_Tab_fill_0 : decode M_Tab_fill.2.1 0 = .ok (.aload_n 0, 1) := by decide +kernel
theorem d_Tab_fill_1 : decode M_Tab_fill.2.1 1 = .ok (.iload_n 1, 1) := by decide +kernel
theorem d_Tab_fill_2 : decode M_Tab_fill.2.1 2 = .ok (.invokevirtual 15, 3) := by decide +kernel
theorem d_Tab_fill_5 : decode M_Tab_fill.2.1 5 = .ok (.iload_n 1, 1) := by decide +kernel
theorem d_Tab_fill_6 : decode M_Tab_fill.2.1 6 = .ok (.bipush 6, 2) := by decide +kernel
theorem d_Tab_fill_8 : decode M_Tab_fill.2.1 8 = .ok (.if_icmp .ge 13, 3) := by decide +kernel
theorem d_Tab_fill_11 : decode M_Tab_fill.2.1 11 = .ok (.lconst 1, 1) := by decide +kernel
theorem d_Tab_fill_12 : decode M_Tab_fill.2.1 12 = .ok (.iconst 1, 1) := by decide +kernel
theorem d_Tab_fill_13 : decode M_Tab_fill.2.1 13 = .ok (.iload_n 1, 1) := by decide +kernel
theorem d_Tab_fill_14 : decode M_Tab_fill.2.1 14 = .ok (.ishl, 1) := by decide +kernel
theorem d_Tab_fill_15 : decode M_Tab_fill.2.1 15 = .ok (.lshl, 1) := by decide +kernel
theorem d_Tab_fill_16 : decode M_Tab_fill.2.1 16 = .ok (.lconst 1, 1) := by decide +kernel
theorem d_Tab_fill_17 : decode M_Tab_fill.2.1 17 = .ok (.lsub, 1) := by decide +kernel
theorem d_Tab_fill_18 : decode M_Tab_fill.2.1 18 = .ok (.goto 6, 3) := by decide +kernel
theorem d_Tab_fill_21 : decode M_Tab_fill.2.1 21 = .ok (.ldc2_w 19, 3) := by decide +kernel
theorem d_Tab_fill_24 : decode M_Tab_fill.2.1 24 = .ok (.lstore_n 2, 1) := by decide +kernel
theorem d_Tab_fill_25 : decode M_Tab_fill.2.1 25 = .ok (.aload_n 0, 1) := by decide +kernel
theorem d_Tab_fill_26 : decode M_Tab_fill.2.1 26 = .ok (.getfield 9, 3) := by decide +kernel
theorem d_Tab_fill_29 : decode M_Tab_fill.2.1 29 = .ok (.lload_n 2, 1) := by decide +kernel
theorem d_Tab_fill_30 : decode M_Tab_fill.2.1 30 = .ok (.invokestatic 21, 3) := by decide +kernel
theorem d_Tab_fill_33 : decode M_Tab_fill.2.1 33 = .ok (.return_, 1) := by decide +kernel
theorem d_Tab_first_0 : decode M_Tab_first.2.1 0 = .ok (.iconst 0, 1) := by decide +kernel
theorem d_Tab_first_1 : decode M_Tab_first.2.1 1 = .ok (.istore_n 1, 1) := by decide +kernel
theorem d_Tab_first_2 : decode M_Tab_first.2.1 2 = .ok (.iload_n 1, 1) := by decide +kernel
theorem d_Tab_first_3 : decode M_Tab_first.2.1 3 = .ok (.iconst 1, 1) := by decide +kernel
theorem d_Tab_first_4 : decode M_Tab_first.2.1 4 = .ok (.aload_n 0, 1) := by decide +kernel
theorem d_Tab_first_5 : decode M_Tab_first.2.1 5 = .ok (.getfield 51, 3) := by decide +kernel
theorem d_Tab_first_8 : decode M_Tab_first.2.1 8 = .ok (.ishl, 1) := by decide +kernel
theorem d_Tab_first_9 : decode M_Tab_first.2.1 9 = .ok (.if_icmp .ge 19, 3) := by decide +kernel
theorem d_Tab_first_12 : decode M_Tab_first.2.1 12 = .ok (.aload_n 0, 1) := by decide +kernel
theorem d_Tab_first_13 : decode M_Tab_first.2.1 13 = .ok (.iload_n 1, 1) := by decide +kernel
theorem d_Tab_first_14 : decode M_Tab_first.2.1 14 = .ok (.invokevirtual 54, 3) := by decide +kernel
theorem d_Tab_first_17 : decode M_Tab_first.2.1 17 = .ok (.ifCond .eq 5, 3) := by decide +kernel
theorem d_Tab_first_20 : decode M_Tab_first.2.1 20 = .ok (.iload_n 1, 1) := by decide +kernel
theorem d_Tab_first_21 : decode M_Tab_first.2.1 21 = .ok (.ireturn, 1) := by decide +kernel
theorem d_Tab_first_22 : decode M_Tab_first.2.1 22 = .ok (.iinc 1 1, 3) := by decide +kernel
theorem d_Tab_first_25 : decode M_Tab_first.2.1 25 = .ok (.goto (-23), 3) := by decide +kernel
theorem d_Tab_first_28 : decode M_Tab_first.2.1 28 = .ok (.iconst (-1), 1) := by decide +kernel
theorem d_Tab_first_29 : decode M_Tab_first.2.1 29 = .ok (.ireturn, 1) := by decide +kernel
theorem d_Tab_has_0 : decode M_Tab_has.2.1 0 = .ok (.aload_n 0, 1) := by decide +kernel
theorem d_Tab_has_1 : decode M_Tab_has.2.1 1 = .ok (.getfield 9, 3) := by decide +kernel
theorem d_Tab_has_4 : decode M_Tab_has.2.1 4 = .ok (.iload_n 1, 1) := by decide +kernel
theorem d_Tab_has_5 : decode M_Tab_has.2.1 5 = .ok (.bipush 6, 2) := by decide +kernel
theorem d_Tab_has_7 : decode M_Tab_has.2.1 7 = .ok (.ishr, 1) := by decide +kernel
theorem d_Tab_has_8 : decode M_Tab_has.2.1 8 = .ok (.laload, 1) := by decide +kernel
theorem d_Tab_has_9 : decode M_Tab_has.2.1 9 = .ok (.iload_n 1, 1) := by decide +kernel
theorem d_Tab_has_10 : decode M_Tab_has.2.1 10 = .ok (.lushr, 1) := by decide +kernel
theorem d_Tab_has_11 : decode M_Tab_has.2.1 11 = .ok (.lconst 1, 1) := by decide +kernel
theorem d_Tab_has_12 : decode M_Tab_has.2.1 12 = .ok (.land, 1) := by decide +kernel
theorem d_Tab_has_13 : decode M_Tab_has.2.1 13 = .ok (.lconst 0, 1) := by decide +kernel
theorem d_Tab_has_14 : decode M_Tab_has.2.1 14 = .ok (.lcmp, 1) := by decide +kernel
theorem d_Tab_has_15 : decode M_Tab_has.2.1 15 = .ok (.ifCond .eq 7, 3) := by decide +kernel
theorem d_Tab_has_18 : decode M_Tab_has.2.1 18 = .ok (.iconst 1, 1) := by decide +kernel
theorem d_Tab_has_19 : decode M_Tab_has.2.1 19 = .ok (.goto 4, 3) := by decide +kernel
theorem d_Tab_has_22 : decode M_Tab_has.2.1 22 = .ok (.iconst 0, 1) := by decide +kernel
theorem d_Tab_has_23 : decode M_Tab_has.2.1 23 = .ok (.ireturn, 1) := by decide +kernel
theorem d_Tab_hasTableWith_0 : decode M_Tab_hasTableWith.2.1 0 = .ok (.iconst 0, 1) := by decide +kernel
theorem d_Tab_hasTableWith_1 : decode M_Tab_hasTableWith.2.1 1 = .ok (.istore_n 3, 1) := by decide +kernel
theorem d_Tab_hasTableWith_2 : decode M_Tab_hasTableWith.2.1 2 = .ok (.iload_n 3, 1) := by decide +kernel
theorem d_Tab_hasTableWith_3 : decode M_Tab_hasTableWith.2.1 3 = .ok (.aload_n 0, 1) := by decide +kernel
theorem d_Tab_hasTableWith_4 : decode M_Tab_hasTableWith.2.1 4 = .ok (.getfield 37, 3) := by decide +kernel
theorem d_Tab_hasTableWith_7 : decode M_Tab_hasTableWith.2.1 7 = .ok (.if_icmp .ge 30, 3) := by decide +kernel
theorem d_Tab_hasTableWith_10 : decode M_Tab_hasTableWith.2.1 10 = .ok (.aload_n 0, 1) := by decide +kernel
theorem d_Tab_hasTableWith_11 : decode M_Tab_hasTableWith.2.1 11 = .ok (.getfield 9, 3) := by decide +kernel
theorem d_Tab_hasTableWith_14 : decode M_Tab_hasTableWith.2.1 14 = .ok (.iload_n 3, 1) := by decide +kernel
theorem d_Tab_hasTableWith_15 : decode M_Tab_hasTableWith.2.1 15 = .ok (.laload, 1) := by decide +kernel
theorem d_Tab_hasTableWith_16 : decode M_Tab_hasTableWith.2.1 16 = .ok (.aload_n 0, 1) := by decide +kernel
theorem d_Tab_hasTableWith_17 : decode M_Tab_hasTableWith.2.1 17 = .ok (.iload_n 3, 1) := by decide +kernel
theorem d_Tab_hasTableWith_18 : decode M_Tab_hasTableWith.2.1 18 = .ok (.iload_n 1, 1) := by decide +kernel
theorem d_Tab_hasTableWith_19 : decode M_Tab_hasTableWith.2.1 19 = .ok (.iload_n 2, 1) := by decide +kernel
theorem d_Tab_hasTableWith_20 : decode M_Tab_hasTableWith.2.1 20 = .ok (.invokevirtual 58, 3) := by decide +kernel
theorem d_Tab_hasTableWith_23 : decode M_Tab_hasTableWith.2.1 23 = .ok (.land, 1) := by decide +kernel
theorem d_Tab_hasTableWith_24 : decode M_Tab_hasTableWith.2.1 24 = .ok (.lconst 0, 1) := by decide +kernel
theorem d_Tab_hasTableWith_25 : decode M_Tab_hasTableWith.2.1 25 = .ok (.lcmp, 1) := by decide +kernel
theorem d_Tab_hasTableWith_26 : decode M_Tab_hasTableWith.2.1 26 = .ok (.ifCond .eq 5, 3) := by decide +kernel
theorem d_Tab_hasTableWith_29 : decode M_Tab_hasTableWith.2.1 29 = .ok (.iconst 1, 1) := by decide +kernel
theorem d_Tab_hasTableWith_30 : decode M_Tab_hasTableWith.2.1 30 = .ok (.ireturn, 1) := by decide +kernel
theorem d_Tab_hasTableWith_31 : decode M_Tab_hasTableWith.2.1 31 = .ok (.iinc 3 1, 3) := by decide +kernel
theorem d_Tab_hasTableWith_34 : decode M_Tab_hasTableWith.2.1 34 = .ok (.goto (-32), 3) := by decide +kernel
theorem d_Tab_hasTableWith_37 : decode M_Tab_hasTableWith.2.1 37 = .ok (.iconst 0, 1) := by decide +kernel
theorem d_Tab_hasTableWith_38 : decode M_Tab_hasTableWith.2.1 38 = .ok (.ireturn, 1) := by decide +kernel
theorem d_Tab_init_0 : decode M_Tab_init.2.1 0 = .ok (.aload_n 0, 1) := by decide +kernel
theorem d_Tab_init_1 : decode M_Tab_init.2.1 1 = .ok (.invokespecial 3, 3) := by decide +kernel
theorem d_Tab_init_4 : decode M_Tab_init.2.1 4 = .ok (.aload_n 0, 1) := by decide +kernel
theorem d_Tab_init_5 : decode M_Tab_init.2.1 5 = .ok (.bipush 64, 2) := by decide +kernel
theorem d_Tab_init_7 : decode M_Tab_init.2.1 7 = .ok (.newarray .long, 2) := by decide +kernel
theorem d_Tab_init_9 : decode M_Tab_init.2.1 9 = .ok (.putfield 9, 3) := by decide +kernel
theorem d_Tab_init_12 : decode M_Tab_init.2.1 12 = .ok (.return_, 1) := by decide +kernel
theorem d_Tab_isEmpty_0 : decode M_Tab_isEmpty.2.1 0 = .ok (.aload_n 0, 1) := by decide +kernel
theorem d_Tab_isEmpty_1 : decode M_Tab_isEmpty.2.1 1 = .ok (.invokevirtual 41, 3) := by decide +kernel
theorem d_Tab_isEmpty_4 : decode M_Tab_isEmpty.2.1 4 = .ok (.ifCond .ne 7, 3) := by decide +kernel
theorem d_Tab_isEmpty_7 : decode M_Tab_isEmpty.2.1 7 = .ok (.iconst 1, 1) := by decide +kernel
theorem d_Tab_isEmpty_8 : decode M_Tab_isEmpty.2.1 8 = .ok (.goto 4, 3) := by decide +kernel
theorem d_Tab_isEmpty_11 : decode M_Tab_isEmpty.2.1 11 = .ok (.iconst 0, 1) := by decide +kernel
theorem d_Tab_isEmpty_12 : decode M_Tab_isEmpty.2.1 12 = .ok (.ireturn, 1) := by decide +kernel
theorem d_Tab_keepCommon_0 : decode M_Tab_keepCommon.2.1 0 = .ok (.iconst 0, 1) := by decide +kernel
theorem d_Tab_keepCommon_1 : decode M_Tab_keepCommon.2.1 1 = .ok (.istore_n 2, 1) := by decide +kernel
theorem d_Tab_keepCommon_2 : decode M_Tab_keepCommon.2.1 2 = .ok (.iload_n 2, 1) := by decide +kernel
theorem d_Tab_keepCommon_3 : decode M_Tab_keepCommon.2.1 3 = .ok (.aload_n 0, 1) := by decide +kernel
theorem d_Tab_keepCommon_4 : decode M_Tab_keepCommon.2.1 4 = .ok (.getfield 37, 3) := by decide +kernel
theorem d_Tab_keepCommon_7 : decode M_Tab_keepCommon.2.1 7 = .ok (.if_icmp .ge 24, 3) := by decide +kernel
theorem d_Tab_keepCommon_10 : decode M_Tab_keepCommon.2.1 10 = .ok (.aload_n 0, 1) := by decide +kernel
theorem d_Tab_keepCommon_11 : decode M_Tab_keepCommon.2.1 11 = .ok (.getfield 9, 3) := by decide +kernel
theorem d_Tab_keepCommon_14 : decode M_Tab_keepCommon.2.1 14 = .ok (.iload_n 2, 1) := by decide +kernel
theorem d_Tab_keepCommon_15 : decode M_Tab_keepCommon.2.1 15 = .ok (.dup2, 1) := by decide +kernel
theorem d_Tab_keepCommon_16 : decode M_Tab_keepCommon.2.1 16 = .ok (.laload, 1) := by decide +kernel
theorem d_Tab_keepCommon_17 : decode M_Tab_keepCommon.2.1 17 = .ok (.aload_n 1, 1) := by decide +kernel
theorem d_Tab_keepCommon_18 : decode M_Tab_keepCommon.2.1 18 = .ok (.getfield 9, 3) := by decide +kernel
theorem d_Tab_keepCommon_21 : decode M_Tab_keepCommon.2.1 21 = .ok (.iload_n 2, 1) := by decide +kernel
theorem d_Tab_keepCommon_22 : decode M_Tab_keepCommon.2.1 22 = .ok (.laload, 1) := by decide +kernel
theorem d_Tab_keepCommon_23 : decode M_Tab_keepCommon.2.1 23 = .ok (.land, 1) := by decide +kernel
theorem d_Tab_keepCommon_24 : decode M_Tab_keepCommon.2.1 24 = .ok (.lastore, 1) := by decide +kernel
theorem d_Tab_keepCommon_25 : decode M_Tab_keepCommon.2.1 25 = .ok (.iinc 2 1, 3) := by decide +kernel
theorem d_Tab_keepCommon_28 : decode M_Tab_keepCommon.2.1 28 = .ok (.goto (-26), 3) := by decide +kernel
theorem d_Tab_keepCommon_31 : decode M_Tab_keepCommon.2.1 31 = .ok (.return_, 1) := by decide +kernel
theorem d_Tab_last_0 : decode M_Tab_last.2.1 0 = .ok (.iconst 1, 1) := by decide +kernel
theorem d_Tab_last_1 : decode M_Tab_last.2.1 1 = .ok (.aload_n 0, 1) := by decide +kernel
theorem d_Tab_last_2 : decode M_Tab_last.2.1 2 = .ok (.getfield 51, 3) := by decide +kernel
theorem d_Tab_last_5 : decode M_Tab_last.2.1 5 = .ok (.ishl, 1) := by decide +kernel
theorem d_Tab_last_6 : decode M_Tab_last.2.1 6 = .ok (.iconst 1, 1) := by decide +kernel
theorem d_Tab_last_7 : decode M_Tab_last.2.1 7 = .ok (.isub, 1) := by decide +kernel
theorem d_Tab_last_8 : decode M_Tab_last.2.1 8 = .ok (.istore_n 1, 1) := by decide +kernel
theorem d_Tab_last_9 : decode M_Tab_last.2.1 9 = .ok (.iload_n 1, 1) := by decide +kernel
theorem d_Tab_last_10 : decode M_Tab_last.2.1 10 = .ok (.ifCond .lt 19, 3) := by decide +kernel
theorem d_Tab_last_13 : decode M_Tab_last.2.1 13 = .ok (.aload_n 0, 1) := by decide +kernel
theorem d_Tab_last_14 : decode M_Tab_last.2.1 14 = .ok (.iload_n 1, 1) := by decide +kernel
theorem d_Tab_last_15 : decode M_Tab_last.2.1 15 = .ok (.invokevirtual 54, 3) := by decide +kernel
theorem d_Tab_last_18 : decode M_Tab_last.2.1 18 = .ok (.ifCond .eq 5, 3) := by decide +kernel
theorem d_Tab_last_21 : decode M_Tab_last.2.1 21 = .ok (.iload_n 1, 1) := by decide +kernel
theorem d_Tab_last_22 : decode M_Tab_last.2.1 22 = .ok (.ireturn, 1) := by decide +kernel
theorem d_Tab_last_23 : decode M_Tab_last.2.1 23 = .ok (.iinc 1 (-1), 3) := by decide +kernel
theorem d_Tab_last_26 : decode M_Tab_last.2.1 26 = .ok (.goto (-17), 3) := by decide +kernel
theorem d_Tab_last_29 : decode M_Tab_last.2.1 29 = .ok (.iconst (-1), 1) := by decide +kernel
theorem d_Tab_last_30 : decode M_Tab_last.2.1 30 = .ok (.ireturn, 1) := by decide +kernel
theorem d_Tab_measure_0 : decode M_Tab_measure.2.1 0 = .ok (.aload_n 0, 1) := by decide +kernel
theorem d_Tab_measure_1 : decode M_Tab_measure.2.1 1 = .ok (.iload_n 1, 1) := by decide +kernel
theorem d_Tab_measure_2 : decode M_Tab_measure.2.1 2 = .ok (.putfield 51, 3) := by decide +kernel
theorem d_Tab_measure_5 : decode M_Tab_measure.2.1 5 = .ok (.aload_n 0, 1) := by decide +kernel
theorem d_Tab_measure_6 : decode M_Tab_measure.2.1 6 = .ok (.iload_n 1, 1) := by decide +kernel
theorem d_Tab_measure_7 : decode M_Tab_measure.2.1 7 = .ok (.bipush 6, 2) := by decide +kernel
theorem d_Tab_measure_9 : decode M_Tab_measure.2.1 9 = .ok (.if_icmp .ge 7, 3) := by decide +kernel
theorem d_Tab_measure_12 : decode M_Tab_measure.2.1 12 = .ok (.iconst 1, 1) := by decide +kernel
theorem d_Tab_measure_13 : decode M_Tab_measure.2.1 13 = .ok (.goto 9, 3) := by decide +kernel
theorem d_Tab_measure_16 : decode M_Tab_measure.2.1 16 = .ok (.iconst 1, 1) := by decide +kernel
theorem d_Tab_measure_17 : decode M_Tab_measure.2.1 17 = .ok (.iload_n 1, 1) := by decide +kernel
theorem d_Tab_measure_18 : decode M_Tab_measure.2.1 18 = .ok (.bipush 6, 2) := by decide +kernel
theorem d_Tab_measure_20 : decode M_Tab_measure.2.1 20 = .ok (.isub, 1) := by decide +kernel
theorem d_Tab_measure_21 : decode M_Tab_measure.2.1 21 = .ok (.ishl, 1) := by decide +kernel
theorem d_Tab_measure_22 : decode M_Tab_measure.2.1 22 = .ok (.putfield 37, 3) := by decide +kernel
theorem d_Tab_measure_25 : decode M_Tab_measure.2.1 25 = .ok (.return_, 1) := by decide +kernel
theorem d_Tab_size_0 : decode M_Tab_size.2.1 0 = .ok (.iconst 0, 1) := by decide +kernel
theorem d_Tab_size_1 : decode M_Tab_size.2.1 1 = .ok (.istore_n 1, 1) := by decide +kernel
theorem d_Tab_size_2 : decode M_Tab_size.2.1 2 = .ok (.iconst 0, 1) := by decide +kernel
theorem d_Tab_size_3 : decode M_Tab_size.2.1 3 = .ok (.istore_n 2, 1) := by decide +kernel
theorem d_Tab_size_4 : decode M_Tab_size.2.1 4 = .ok (.iload_n 2, 1) := by decide +kernel
theorem d_Tab_size_5 : decode M_Tab_size.2.1 5 = .ok (.aload_n 0, 1) := by decide +kernel
theorem d_Tab_size_6 : decode M_Tab_size.2.1 6 = .ok (.getfield 37, 3) := by decide +kernel
theorem d_Tab_size_9 : decode M_Tab_size.2.1 9 = .ok (.if_icmp .ge 21, 3) := by decide +kernel
theorem d_Tab_size_12 : decode M_Tab_size.2.1 12 = .ok (.iload_n 1, 1) := by decide +kernel
theorem d_Tab_size_13 : decode M_Tab_size.2.1 13 = .ok (.aload_n 0, 1) := by decide +kernel
theorem d_Tab_size_14 : decode M_Tab_size.2.1 14 = .ok (.getfield 9, 3) := by decide +kernel
theorem d_Tab_size_17 : decode M_Tab_size.2.1 17 = .ok (.iload_n 2, 1) := by decide +kernel
theorem d_Tab_size_18 : decode M_Tab_size.2.1 18 = .ok (.laload, 1) := by decide +kernel
theorem d_Tab_size_19 : decode M_Tab_size.2.1 19 = .ok (.invokestatic 45, 3) := by decide +kernel
theorem d_Tab_size_22 : decode M_Tab_size.2.1 22 = .ok (.iadd, 1) := by decide +kernel
theorem d_Tab_size_23 : decode M_Tab_size.2.1 23 = .ok (.istore_n 1, 1) := by decide +kernel
theorem d_Tab_size_24 : decode M_Tab_size.2.1 24 = .ok (.iinc 2 1, 3) := by decide +kernel
theorem d_Tab_size_27 : decode M_Tab_size.2.1 27 = .ok (.goto (-23), 3) := by decide +kernel
theorem d_Tab_size_30 : decode M_Tab_size.2.1 30 = .ok (.iload_n 1, 1) := by decide +kernel
theorem d_Tab_size_31 : decode M_Tab_size.2.1 31 = .ok (.ireturn, 1) := by decide +kernel
theorem d_Tab_trueAtoms_0 : decode M_Tab_trueAtoms.2.1 0 = .ok (.iconst 0, 1) := by decide +kernel
theorem d_Tab_trueAtoms_1 : decode M_Tab_trueAtoms.2.1 1 = .ok (.istore_n 2, 1) := by decide +kernel
theorem d_Tab_trueAtoms_2 : decode M_Tab_trueAtoms.2.1 2 = .ok (.iconst 0, 1) := by decide +kernel
theorem d_Tab_trueAtoms_3 : decode M_Tab_trueAtoms.2.1 3 = .ok (.istore_n 3, 1) := by decide +kernel
theorem d_Tab_trueAtoms_4 : decode M_Tab_trueAtoms.2.1 4 = .ok (.iload_n 3, 1) := by decide +kernel
theorem d_Tab_trueAtoms_5 : decode M_Tab_trueAtoms.2.1 5 = .ok (.aload_n 0, 1) := by decide +kernel
theorem d_Tab_trueAtoms_6 : decode M_Tab_trueAtoms.2.1 6 = .ok (.getfield 51, 3) := by decide +kernel
theorem d_Tab_trueAtoms_9 : decode M_Tab_trueAtoms.2.1 9 = .ok (.if_icmp .ge 26, 3) := by decide +kernel
theorem d_Tab_trueAtoms_12 : decode M_Tab_trueAtoms.2.1 12 = .ok (.iload_n 2, 1) := by decide +kernel
theorem d_Tab_trueAtoms_13 : decode M_Tab_trueAtoms.2.1 13 = .ok (.iload_n 1, 1) := by decide +kernel
theorem d_Tab_trueAtoms_14 : decode M_Tab_trueAtoms.2.1 14 = .ok (.aload_n 0, 1) := by decide +kernel
theorem d_Tab_trueAtoms_15 : decode M_Tab_trueAtoms.2.1 15 = .ok (.getfield 51, 3) := by decide +kernel
theorem d_Tab_trueAtoms_18 : decode M_Tab_trueAtoms.2.1 18 = .ok (.iconst 1, 1) := by decide +kernel
theorem d_Tab_trueAtoms_19 : decode M_Tab_trueAtoms.2.1 19 = .ok (.isub, 1) := by decide +kernel
theorem d_Tab_trueAtoms_20 : decode M_Tab_trueAtoms.2.1 20 = .ok (.iload_n 3, 1) := by decide +kernel
theorem d_Tab_trueAtoms_21 : decode M_Tab_trueAtoms.2.1 21 = .ok (.isub, 1) := by decide +kernel
theorem d_Tab_trueAtoms_22 : decode M_Tab_trueAtoms.2.1 22 = .ok (.ishr, 1) := by decide +kernel
theorem d_Tab_trueAtoms_23 : decode M_Tab_trueAtoms.2.1 23 = .ok (.iconst 1, 1) := by decide +kernel
theorem d_Tab_trueAtoms_24 : decode M_Tab_trueAtoms.2.1 24 = .ok (.iand, 1) := by decide +kernel
theorem d_Tab_trueAtoms_25 : decode M_Tab_trueAtoms.2.1 25 = .ok (.iload_n 3, 1) := by decide +kernel
theorem d_Tab_trueAtoms_26 : decode M_Tab_trueAtoms.2.1 26 = .ok (.ishl, 1) := by decide +kernel
theorem d_Tab_trueAtoms_27 : decode M_Tab_trueAtoms.2.1 27 = .ok (.ior, 1) := by decide +kernel
theorem d_Tab_trueAtoms_28 : decode M_Tab_trueAtoms.2.1 28 = .ok (.istore_n 2, 1) := by decide +kernel
theorem d_Tab_trueAtoms_29 : decode M_Tab_trueAtoms.2.1 29 = .ok (.iinc 3 1, 3) := by decide +kernel
theorem d_Tab_trueAtoms_32 : decode M_Tab_trueAtoms.2.1 32 = .ok (.goto (-28), 3) := by decide +kernel
theorem d_Tab_trueAtoms_35 : decode M_Tab_trueAtoms.2.1 35 = .ok (.iload_n 2, 1) := by decide +kernel
theorem d_Tab_trueAtoms_36 : decode M_Tab_trueAtoms.2.1 36 = .ok (.ireturn, 1) := by decide +kernel
theorem d_Tab_wordWith_0 : decode M_Tab_wordWith.2.1 0 = .ok (.aload_n 0, 1) := by decide +kernel
theorem d_Tab_wordWith_1 : decode M_Tab_wordWith.2.1 1 = .ok (.getfield 51, 3) := by decide +kernel
theorem d_Tab_wordWith_4 : decode M_Tab_wordWith.2.1 4 = .ok (.iconst 1, 1) := by decide +kernel
theorem d_Tab_wordWith_5 : decode M_Tab_wordWith.2.1 5 = .ok (.isub, 1) := by decide +kernel
theorem d_Tab_wordWith_6 : decode M_Tab_wordWith.2.1 6 = .ok (.iload_n 2, 1) := by decide +kernel
theorem d_Tab_wordWith_7 : decode M_Tab_wordWith.2.1 7 = .ok (.isub, 1) := by decide +kernel
theorem d_Tab_wordWith_8 : decode M_Tab_wordWith.2.1 8 = .ok (.istore 4, 2) := by decide +kernel
theorem d_Tab_wordWith_10 : decode M_Tab_wordWith.2.1 10 = .ok (.iload 4, 2) := by decide +kernel
theorem d_Tab_wordWith_12 : decode M_Tab_wordWith.2.1 12 = .ok (.bipush 6, 2) := by decide +kernel
theorem d_Tab_wordWith_14 : decode M_Tab_wordWith.2.1 14 = .ok (.if_icmp .ge 14, 3) := by decide +kernel
theorem d_Tab_wordWith_17 : decode M_Tab_wordWith.2.1 17 = .ok (.getstatic 62, 3) := by decide +kernel
theorem d_Tab_wordWith_20 : decode M_Tab_wordWith.2.1 20 = .ok (.iload 4, 2) := by decide +kernel
theorem d_Tab_wordWith_22 : decode M_Tab_wordWith.2.1 22 = .ok (.laload, 1) := by decide +kernel
theorem d_Tab_wordWith_23 : decode M_Tab_wordWith.2.1 23 = .ok (.lstore 5, 2) := by decide +kernel
theorem d_Tab_wordWith_25 : decode M_Tab_wordWith.2.1 25 = .ok (.goto 24, 3) := by decide +kernel
theorem d_Tab_wordWith_28 : decode M_Tab_wordWith.2.1 28 = .ok (.iload_n 1, 1) := by decide +kernel
theorem d_Tab_wordWith_29 : decode M_Tab_wordWith.2.1 29 = .ok (.iload 4, 2) := by decide +kernel
theorem d_Tab_wordWith_31 : decode M_Tab_wordWith.2.1 31 = .ok (.bipush 6, 2) := by decide +kernel
theorem d_Tab_wordWith_33 : decode M_Tab_wordWith.2.1 33 = .ok (.isub, 1) := by decide +kernel
theorem d_Tab_wordWith_34 : decode M_Tab_wordWith.2.1 34 = .ok (.ishr, 1) := by decide +kernel
theorem d_Tab_wordWith_35 : decode M_Tab_wordWith.2.1 35 = .ok (.iconst 1, 1) := by decide +kernel
theorem d_Tab_wordWith_36 : decode M_Tab_wordWith.2.1 36 = .ok (.iand, 1) := by decide +kernel
theorem d_Tab_wordWith_37 : decode M_Tab_wordWith.2.1 37 = .ok (.ifCond .eq 9, 3) := by decide +kernel
theorem d_Tab_wordWith_40 : decode M_Tab_wordWith.2.1 40 = .ok (.ldc2_w 19, 3) := by decide +kernel
theorem d_Tab_wordWith_43 : decode M_Tab_wordWith.2.1 43 = .ok (.goto 4, 3) := by decide +kernel
theorem d_Tab_wordWith_46 : decode M_Tab_wordWith.2.1 46 = .ok (.lconst 0, 1) := by decide +kernel
theorem d_Tab_wordWith_47 : decode M_Tab_wordWith.2.1 47 = .ok (.lstore 5, 2) := by decide +kernel
theorem d_Tab_wordWith_49 : decode M_Tab_wordWith.2.1 49 = .ok (.iload_n 3, 1) := by decide +kernel
theorem d_Tab_wordWith_50 : decode M_Tab_wordWith.2.1 50 = .ok (.ifCond .eq 8, 3) := by decide +kernel
theorem d_Tab_wordWith_53 : decode M_Tab_wordWith.2.1 53 = .ok (.lload 5, 2) := by decide +kernel
theorem d_Tab_wordWith_55 : decode M_Tab_wordWith.2.1 55 = .ok (.goto 9, 3) := by decide +kernel
theorem d_Tab_wordWith_58 : decode M_Tab_wordWith.2.1 58 = .ok (.lload 5, 2) := by decide +kernel
theorem d_Tab_wordWith_60 : decode M_Tab_wordWith.2.1 60 = .ok (.ldc2_w 19, 3) := by decide +kernel
theorem d_Tab_wordWith_63 : decode M_Tab_wordWith.2.1 63 = .ok (.lxor, 1) := by decide +kernel
theorem d_Tab_wordWith_64 : decode M_Tab_wordWith.2.1 64 = .ok (.lreturn, 1) := by decide +kernel
theorem d_HT_atom_0 : decode M_HT_atom.2.1 0 = .ok (.aload_n 0, 1) := by decide +kernel
theorem d_HT_atom_1 : decode M_HT_atom.2.1 1 = .ok (.getfield 26, 3) := by decide +kernel
theorem d_HT_atom_4 : decode M_HT_atom.2.1 4 = .ok (.getfield 59, 3) := by decide +kernel
theorem d_HT_atom_7 : decode M_HT_atom.2.1 7 = .ok (.iload_n 1, 1) := by decide +kernel
theorem d_HT_atom_8 : decode M_HT_atom.2.1 8 = .ok (.iload_n 2, 1) := by decide +kernel
theorem d_HT_atom_9 : decode M_HT_atom.2.1 9 = .ok (.iload_n 3, 1) := by decide +kernel
theorem d_HT_atom_10 : decode M_HT_atom.2.1 10 = .ok (.invokevirtual 68, 3) := by decide +kernel
theorem d_HT_atom_13 : decode M_HT_atom.2.1 13 = .ok (.ireturn, 1) := by decide +kernel
theorem d_HT_atoms_0 : decode M_HT_atoms.2.1 0 = .ok (.aload_n 0, 1) := by decide +kernel
theorem d_HT_atoms_1 : decode M_HT_atoms.2.1 1 = .ok (.getfield 26, 3) := by decide +kernel
theorem d_HT_atoms_4 : decode M_HT_atoms.2.1 4 = .ok (.getfield 59, 3) := by decide +kernel
theorem d_HT_atoms_7 : decode M_HT_atoms.2.1 7 = .ok (.getfield 63, 3) := by decide +kernel
theorem d_HT_atoms_10 : decode M_HT_atoms.2.1 10 = .ok (.ireturn, 1) := by decide +kernel
theorem d_HT_clauses_0 : decode M_HT_clauses.2.1 0 = .ok (.aload_n 0, 1) := by decide +kernel
theorem d_HT_clauses_1 : decode M_HT_clauses.2.1 1 = .ok (.getfield 26, 3) := by decide +kernel
theorem d_HT_clauses_4 : decode M_HT_clauses.2.1 4 = .ok (.getfield 56, 3) := by decide +kernel
theorem d_HT_clauses_7 : decode M_HT_clauses.2.1 7 = .ok (.ireturn, 1) := by decide +kernel
theorem d_HT_core_0 : decode M_HT_core.2.1 0 = .ok (.aload_n 0, 1) := by decide +kernel
theorem d_HT_core_1 : decode M_HT_core.2.1 1 = .ok (.invokevirtual 86, 3) := by decide +kernel
theorem d_HT_core_4 : decode M_HT_core.2.1 4 = .ok (.iload_n 1, 1) := by decide +kernel
theorem d_HT_core_5 : decode M_HT_core.2.1 5 = .ok (.ifCond .lt 14, 3) := by decide +kernel
theorem d_HT_core_8 : decode M_HT_core.2.1 8 = .ok (.iload_n 1, 1) := by decide +kernel
theorem d_HT_core_9 : decode M_HT_core.2.1 9 = .ok (.aload_n 0, 1) := by decide +kernel
theorem d_HT_core_10 : decode M_HT_core.2.1 10 = .ok (.getfield 26, 3) := by decide +kernel
theorem d_HT_core_13 : decode M_HT_core.2.1 13 = .ok (.invokevirtual 80, 3) := by decide +kernel
theorem d_HT_core_16 : decode M_HT_core.2.1 16 = .ok (.if_icmp .le 11, 3) := by decide +kernel
theorem d_HT_core_19 : decode M_HT_core.2.1 19 = .ok (.new 112, 3) := by decide +kernel
theorem d_HT_core_22 : decode M_HT_core.2.1 22 = .ok (.dup, 1) := by decide +kernel
theorem d_HT_core_23 : decode M_HT_core.2.1 23 = .ok (.invokespecial 114, 3) := by decide +kernel
theorem d_HT_core_26 : decode M_HT_core.2.1 26 = .ok (.athrow, 1) := by decide +kernel
theorem d_HT_core_27 : decode M_HT_core.2.1 27 = .ok (.aload_n 0, 1) := by decide +kernel
theorem d_HT_core_28 : decode M_HT_core.2.1 28 = .ok (.getfield 26, 3) := by decide +kernel
theorem d_HT_core_31 : decode M_HT_core.2.1 31 = .ok (.iload_n 1, 1) := by decide +kernel
theorem d_HT_core_32 : decode M_HT_core.2.1 32 = .ok (.invokevirtual 83, 3) := by decide +kernel
theorem d_HT_core_35 : decode M_HT_core.2.1 35 = .ok (.ifCond .ne 18, 3) := by decide +kernel
theorem d_HT_core_38 : decode M_HT_core.2.1 38 = .ok (.aload_n 0, 1) := by decide +kernel
theorem d_HT_core_39 : decode M_HT_core.2.1 39 = .ok (.getfield 26, 3) := by decide +kernel
theorem d_HT_core_42 : decode M_HT_core.2.1 42 = .ok (.iload_n 1, 1) := by decide +kernel
theorem d_HT_core_43 : decode M_HT_core.2.1 43 = .ok (.invokevirtual 119, 3) := by decide +kernel
theorem d_HT_core_46 : decode M_HT_core.2.1 46 = .ok (.ifCond .eq 7, 3) := by decide +kernel
theorem d_HT_core_49 : decode M_HT_core.2.1 49 = .ok (.iconst 1, 1) := by decide +kernel
theorem d_HT_core_50 : decode M_HT_core.2.1 50 = .ok (.goto 4, 3) := by decide +kernel
theorem d_HT_core_53 : decode M_HT_core.2.1 53 = .ok (.iconst 0, 1) := by decide +kernel
theorem d_HT_core_54 : decode M_HT_core.2.1 54 = .ok (.ireturn, 1) := by decide +kernel
theorem d_HT_erase_0 : decode M_HT_erase.2.1 0 = .ok (.aload_n 0, 1) := by decide +kernel
theorem d_HT_erase_1 : decode M_HT_erase.2.1 1 = .ok (.getfield 12, 3) := by decide +kernel
theorem d_HT_erase_4 : decode M_HT_erase.2.1 4 = .ok (.invokevirtual 38, 3) := by decide +kernel
theorem d_HT_erase_7 : decode M_HT_erase.2.1 7 = .ok (.ireturn, 1) := by decide +kernel
theorem d_HT_fault_0 : decode M_HT_fault.2.1 0 = .ok (.aload_n 0, 1) := by decide +kernel
theorem d_HT_fault_1 : decode M_HT_fault.2.1 1 = .ok (.getfield 30, 3) := by decide +kernel
theorem d_HT_fault_4 : decode M_HT_fault.2.1 4 = .ok (.ireturn, 1) := by decide +kernel
theorem d_HT_forced_0 : decode M_HT_forced.2.1 0 = .ok (.aload_n 0, 1) := by decide +kernel
theorem d_HT_forced_1 : decode M_HT_forced.2.1 1 = .ok (.invokevirtual 86, 3) := by decide +kernel
theorem d_HT_forced_4 : decode M_HT_forced.2.1 4 = .ok (.iload_n 1, 1) := by decide +kernel
theorem d_HT_forced_5 : decode M_HT_forced.2.1 5 = .ok (.ifCond .lt 17, 3) := by decide +kernel
theorem d_HT_forced_8 : decode M_HT_forced.2.1 8 = .ok (.iload_n 1, 1) := by decide +kernel
theorem d_HT_forced_9 : decode M_HT_forced.2.1 9 = .ok (.aload_n 0, 1) := by decide +kernel
theorem d_HT_forced_10 : decode M_HT_forced.2.1 10 = .ok (.getfield 26, 3) := by decide +kernel
theorem d_HT_forced_13 : decode M_HT_forced.2.1 13 = .ok (.getfield 59, 3) := by decide +kernel
theorem d_HT_forced_16 : decode M_HT_forced.2.1 16 = .ok (.getfield 63, 3) := by decide +kernel
theorem d_HT_forced_19 : decode M_HT_forced.2.1 19 = .ok (.if_icmp .lt 11, 3) := by decide +kernel
theorem d_HT_forced_22 : decode M_HT_forced.2.1 22 = .ok (.new 112, 3) := by decide +kernel
theorem d_HT_forced_25 : decode M_HT_forced.2.1 25 = .ok (.dup, 1) := by decide +kernel
theorem d_HT_forced_26 : decode M_HT_forced.2.1 26 = .ok (.invokespecial 114, 3) := by decide +kernel
theorem d_HT_forced_29 : decode M_HT_forced.2.1 29 = .ok (.athrow, 1) := by decide +kernel
theorem d_HT_forced_30 : decode M_HT_forced.2.1 30 = .ok (.aload_n 0, 1) := by decide +kernel
theorem d_HT_forced_31 : decode M_HT_forced.2.1 31 = .ok (.invokevirtual 98, 3) := by decide +kernel
theorem d_HT_forced_34 : decode M_HT_forced.2.1 34 = .ok (.astore_n 2, 1) := by decide +kernel
theorem d_HT_forced_35 : decode M_HT_forced.2.1 35 = .ok (.aload_n 2, 1) := by decide +kernel
theorem d_HT_forced_36 : decode M_HT_forced.2.1 36 = .ok (.iload_n 1, 1) := by decide +kernel
theorem d_HT_forced_37 : decode M_HT_forced.2.1 37 = .ok (.iconst 1, 1) := by decide +kernel
theorem d_HT_forced_38 : decode M_HT_forced.2.1 38 = .ok (.invokevirtual 115, 3) := by decide +kernel
theorem d_HT_forced_41 : decode M_HT_forced.2.1 41 = .ok (.istore_n 3, 1) := by decide +kernel
theorem d_HT_forced_42 : decode M_HT_forced.2.1 42 = .ok (.aload_n 2, 1) := by decide +kernel
theorem d_HT_forced_43 : decode M_HT_forced.2.1 43 = .ok (.iload_n 1, 1) := by decide +kernel
theorem d_HT_forced_44 : decode M_HT_forced.2.1 44 = .ok (.iconst 0, 1) := by decide +kernel
theorem d_HT_forced_45 : decode M_HT_forced.2.1 45 = .ok (.invokevirtual 115, 3) := by decide +kernel
theorem d_HT_forced_48 : decode M_HT_forced.2.1 48 = .ok (.istore 4, 2) := by decide +kernel
theorem d_HT_forced_50 : decode M_HT_forced.2.1 50 = .ok (.iload_n 3, 1) := by decide +kernel
theorem d_HT_forced_51 : decode M_HT_forced.2.1 51 = .ok (.ifCond .eq 10, 3) := by decide +kernel
theorem d_HT_forced_54 : decode M_HT_forced.2.1 54 = .ok (.iload 4, 2) := by decide +kernel
theorem d_HT_forced_56 : decode M_HT_forced.2.1 56 = .ok (.ifCond .eq 5, 3) := by decide +kernel
theorem d_HT_forced_59 : decode M_HT_forced.2.1 59 = .ok (.iconst 2, 1) := by decide +kernel
theorem d_HT_forced_60 : decode M_HT_forced.2.1 60 = .ok (.ireturn, 1) := by decide +kernel
theorem d_HT_forced_61 : decode M_HT_forced.2.1 61 = .ok (.iload_n 3, 1) := by decide +kernel
theorem d_HT_forced_62 : decode M_HT_forced.2.1 62 = .ok (.ifCond .eq 7, 3) := by decide +kernel
theorem d_HT_forced_65 : decode M_HT_forced.2.1 65 = .ok (.iconst 1, 1) := by decide +kernel
theorem d_HT_forced_66 : decode M_HT_forced.2.1 66 = .ok (.goto 4, 3) := by decide +kernel
theorem d_HT_forced_69 : decode M_HT_forced.2.1 69 = .ok (.iconst 0, 1) := by decide +kernel
theorem d_HT_forced_70 : decode M_HT_forced.2.1 70 = .ok (.ireturn, 1) := by decide +kernel
theorem d_HT_greatest_0 : decode M_HT_greatest.2.1 0 = .ok (.aload_n 0, 1) := by decide +kernel
theorem d_HT_greatest_1 : decode M_HT_greatest.2.1 1 = .ok (.invokevirtual 86, 3) := by decide +kernel
theorem d_HT_greatest_4 : decode M_HT_greatest.2.1 4 = .ok (.aload_n 0, 1) := by decide +kernel
theorem d_HT_greatest_5 : decode M_HT_greatest.2.1 5 = .ok (.invokevirtual 98, 3) := by decide +kernel
theorem d_HT_greatest_8 : decode M_HT_greatest.2.1 8 = .ok (.astore_n 1, 1) := by decide +kernel
theorem d_HT_greatest_9 : decode M_HT_greatest.2.1 9 = .ok (.aload_n 1, 1) := by decide +kernel
theorem d_HT_greatest_10 : decode M_HT_greatest.2.1 10 = .ok (.aload_n 1, 1) := by decide +kernel
theorem d_HT_greatest_11 : decode M_HT_greatest.2.1 11 = .ok (.invokevirtual 109, 3) := by decide +kernel
theorem d_HT_greatest_14 : decode M_HT_greatest.2.1 14 = .ok (.invokevirtual 105, 3) := by decide +kernel
theorem d_HT_greatest_17 : decode M_HT_greatest.2.1 17 = .ok (.ireturn, 1) := by decide +kernel
theorem d_HT_holds_0 : decode M_HT_holds.2.1 0 = .ok (.aload_n 0, 1) := by decide +kernel
theorem d_HT_holds_1 : decode M_HT_holds.2.1 1 = .ok (.getfield 26, 3) := by decide +kernel
theorem d_HT_holds_4 : decode M_HT_holds.2.1 4 = .ok (.aload_n 0, 1) := by decide +kernel
theorem d_HT_holds_5 : decode M_HT_holds.2.1 5 = .ok (.getfield 26, 3) := by decide +kernel
theorem d_HT_holds_8 : decode M_HT_holds.2.1 8 = .ok (.invokevirtual 80, 3) := by decide +kernel
theorem d_HT_holds_11 : decode M_HT_holds.2.1 11 = .ok (.invokevirtual 83, 3) := by decide +kernel
theorem d_HT_holds_14 : decode M_HT_holds.2.1 14 = .ok (.ireturn, 1) := by decide +kernel
theorem d_HT_init_0 : decode M_HT_init.2.1 0 = .ok (.aload_n 0, 1) := by decide +kernel
theorem d_HT_init_1 : decode M_HT_init.2.1 1 = .ok (.invokespecial 3, 3) := by decide +kernel
theorem d_HT_init_4 : decode M_HT_init.2.1 4 = .ok (.aload_n 0, 1) := by decide +kernel
theorem d_HT_init_5 : decode M_HT_init.2.1 5 = .ok (.new 9, 3) := by decide +kernel
theorem d_HT_init_8 : decode M_HT_init.2.1 8 = .ok (.dup, 1) := by decide +kernel
theorem d_HT_init_9 : decode M_HT_init.2.1 9 = .ok (.invokespecial 11, 3) := by decide +kernel
theorem d_HT_init_12 : decode M_HT_init.2.1 12 = .ok (.putfield 12, 3) := by decide +kernel
theorem d_HT_init_15 : decode M_HT_init.2.1 15 = .ok (.aload_n 0, 1) := by decide +kernel
theorem d_HT_init_16 : decode M_HT_init.2.1 16 = .ok (.new 16, 3) := by decide +kernel
theorem d_HT_init_19 : decode M_HT_init.2.1 19 = .ok (.dup, 1) := by decide +kernel
theorem d_HT_init_20 : decode M_HT_init.2.1 20 = .ok (.invokespecial 18, 3) := by decide +kernel
theorem d_HT_init_23 : decode M_HT_init.2.1 23 = .ok (.putfield 19, 3) := by decide +kernel
theorem d_HT_init_26 : decode M_HT_init.2.1 26 = .ok (.aload_n 0, 1) := by decide +kernel
theorem d_HT_init_27 : decode M_HT_init.2.1 27 = .ok (.new 23, 3) := by decide +kernel
theorem d_HT_init_30 : decode M_HT_init.2.1 30 = .ok (.dup, 1) := by decide +kernel
theorem d_HT_init_31 : decode M_HT_init.2.1 31 = .ok (.invokespecial 25, 3) := by decide +kernel
theorem d_HT_init_34 : decode M_HT_init.2.1 34 = .ok (.putfield 26, 3) := by decide +kernel
theorem d_HT_init_37 : decode M_HT_init.2.1 37 = .ok (.aload_n 0, 1) := by decide +kernel
theorem d_HT_init_38 : decode M_HT_init.2.1 38 = .ok (.iconst (-1), 1) := by decide +kernel
theorem d_HT_init_39 : decode M_HT_init.2.1 39 = .ok (.putfield 30, 3) := by decide +kernel
theorem d_HT_init_42 : decode M_HT_init.2.1 42 = .ok (.return_, 1) := by decide +kernel
theorem d_HT_instances_0 : decode M_HT_instances.2.1 0 = .ok (.aload_n 0, 1) := by decide +kernel
theorem d_HT_instances_1 : decode M_HT_instances.2.1 1 = .ok (.getfield 26, 3) := by decide +kernel
theorem d_HT_instances_4 : decode M_HT_instances.2.1 4 = .ok (.invokevirtual 53, 3) := by decide +kernel
theorem d_HT_instances_7 : decode M_HT_instances.2.1 7 = .ok (.ireturn, 1) := by decide +kernel
theorem d_HT_instancesOf_0 : decode M_HT_instancesOf.2.1 0 = .ok (.aload_n 0, 1) := by decide +kernel
theorem d_HT_instancesOf_1 : decode M_HT_instancesOf.2.1 1 = .ok (.getfield 26, 3) := by decide +kernel
theorem d_HT_instancesOf_4 : decode M_HT_instancesOf.2.1 4 = .ok (.iload_n 1, 1) := by decide +kernel
theorem d_HT_instancesOf_5 : decode M_HT_instancesOf.2.1 5 = .ok (.invokevirtual 72, 3) := by decide +kernel
theorem d_HT_instancesOf_8 : decode M_HT_instancesOf.2.1 8 = .ok (.ifCond .eq 15, 3) := by decide +kernel
theorem d_HT_instancesOf_11 : decode M_HT_instancesOf.2.1 11 = .ok (.aload_n 0, 1) := by decide +kernel
theorem d_HT_instancesOf_12 : decode M_HT_instancesOf.2.1 12 = .ok (.getfield 26, 3) := by decide +kernel
theorem d_HT_instancesOf_15 : decode M_HT_instancesOf.2.1 15 = .ok (.getfield 76, 3) := by decide +kernel
theorem d_HT_instancesOf_18 : decode M_HT_instancesOf.2.1 18 = .ok (.iload_n 1, 1) := by decide +kernel
theorem d_HT_instancesOf_19 : decode M_HT_instancesOf.2.1 19 = .ok (.iaload, 1) := by decide +kernel
theorem d_HT_instancesOf_20 : decode M_HT_instancesOf.2.1 20 = .ok (.goto 4, 3) := by decide +kernel
theorem d_HT_instancesOf_23 : decode M_HT_instancesOf.2.1 23 = .ok (.iconst (-1), 1) := by decide +kernel
theorem d_HT_instancesOf_24 : decode M_HT_instancesOf.2.1 24 = .ok (.ireturn, 1) := by decide +kernel
theorem d_HT_least_0 : decode M_HT_least.2.1 0 = .ok (.aload_n 0, 1) := by decide +kernel
theorem d_HT_least_1 : decode M_HT_least.2.1 1 = .ok (.invokevirtual 86, 3) := by decide +kernel
theorem d_HT_least_4 : decode M_HT_least.2.1 4 = .ok (.aload_n 0, 1) := by decide +kernel
theorem d_HT_least_5 : decode M_HT_least.2.1 5 = .ok (.invokevirtual 98, 3) := by decide +kernel
theorem d_HT_least_8 : decode M_HT_least.2.1 8 = .ok (.astore_n 1, 1) := by decide +kernel
theorem d_HT_least_9 : decode M_HT_least.2.1 9 = .ok (.aload_n 1, 1) := by decide +kernel
theorem d_HT_least_10 : decode M_HT_least.2.1 10 = .ok (.aload_n 1, 1) := by decide +kernel
theorem d_HT_least_11 : decode M_HT_least.2.1 11 = .ok (.invokevirtual 102, 3) := by decide +kernel
theorem d_HT_least_14 : decode M_HT_least.2.1 14 = .ok (.invokevirtual 105, 3) := by decide +kernel
theorem d_HT_least_17 : decode M_HT_least.2.1 17 = .ok (.ireturn, 1) := by decide +kernel
theorem d_HT_read_0 : decode M_HT_read.2.1 0 = .ok (.aload_n 0, 1) := by decide +kernel
theorem d_HT_read_1 : decode M_HT_read.2.1 1 = .ok (.aload_n 0, 1) := by decide +kernel
theorem d_HT_read_2 : decode M_HT_read.2.1 2 = .ok (.getfield 19, 3) := by decide +kernel
theorem d_HT_read_5 : decode M_HT_read.2.1 5 = .ok (.aload_n 0, 1) := by decide +kernel
theorem d_HT_read_6 : decode M_HT_read.2.1 6 = .ok (.getfield 12, 3) := by decide +kernel
theorem d_HT_read_9 : decode M_HT_read.2.1 9 = .ok (.invokevirtual 42, 3) := by decide +kernel
theorem d_HT_read_12 : decode M_HT_read.2.1 12 = .ok (.putfield 30, 3) := by decide +kernel
theorem d_HT_read_15 : decode M_HT_read.2.1 15 = .ok (.aload_n 0, 1) := by decide +kernel
theorem d_HT_read_16 : decode M_HT_read.2.1 16 = .ok (.getfield 30, 3) := by decide +kernel
theorem d_HT_read_19 : decode M_HT_read.2.1 19 = .ok (.iconst (-1), 1) := by decide +kernel
theorem d_HT_read_20 : decode M_HT_read.2.1 20 = .ok (.if_icmp .eq 11, 3) := by decide +kernel
theorem d_HT_read_23 : decode M_HT_read.2.1 23 = .ok (.new 46, 3) := by decide +kernel
theorem d_HT_read_26 : decode M_HT_read.2.1 26 = .ok (.dup, 1) := by decide +kernel
theorem d_HT_read_27 : decode M_HT_read.2.1 27 = .ok (.invokespecial 48, 3) := by decide +kernel
theorem d_HT_read_30 : decode M_HT_read.2.1 30 = .ok (.athrow, 1) := by decide +kernel
theorem d_HT_read_31 : decode M_HT_read.2.1 31 = .ok (.aload_n 0, 1) := by decide +kernel
theorem d_HT_read_32 : decode M_HT_read.2.1 32 = .ok (.getfield 26, 3) := by decide +kernel
theorem d_HT_read_35 : decode M_HT_read.2.1 35 = .ok (.aload_n 0, 1) := by decide +kernel
theorem d_HT_read_36 : decode M_HT_read.2.1 36 = .ok (.getfield 19, 3) := by decide +kernel
theorem d_HT_read_39 : decode M_HT_read.2.1 39 = .ok (.invokevirtual 49, 3) := by decide +kernel
theorem d_HT_read_42 : decode M_HT_read.2.1 42 = .ok (.aload_n 0, 1) := by decide +kernel
theorem d_HT_read_43 : decode M_HT_read.2.1 43 = .ok (.getfield 12, 3) := by decide +kernel
theorem d_HT_read_46 : decode M_HT_read.2.1 46 = .ok (.invokevirtual 38, 3) := by decide +kernel
theorem d_HT_read_49 : decode M_HT_read.2.1 49 = .ok (.pop, 1) := by decide +kernel
theorem d_HT_read_50 : decode M_HT_read.2.1 50 = .ok (.aload_n 0, 1) := by decide +kernel
theorem d_HT_read_51 : decode M_HT_read.2.1 51 = .ok (.getfield 26, 3) := by decide +kernel
theorem d_HT_read_54 : decode M_HT_read.2.1 54 = .ok (.invokevirtual 53, 3) := by decide +kernel
theorem d_HT_read_57 : decode M_HT_read.2.1 57 = .ok (.ireturn, 1) := by decide +kernel
theorem d_HT_requireSentence_0 : decode M_HT_requireSentence.2.1 0 = .ok (.aload_n 0, 1) := by decide +kernel
theorem d_HT_requireSentence_1 : decode M_HT_requireSentence.2.1 1 = .ok (.getfield 26, 3) := by decide +kernel
theorem d_HT_requireSentence_4 : decode M_HT_requireSentence.2.1 4 = .ok (.getfield 56, 3) := by decide +kernel
theorem d_HT_requireSentence_7 : decode M_HT_requireSentence.2.1 7 = .ok (.ifCond .ne 11, 3) := by decide +kernel
theorem d_HT_requireSentence_10 : decode M_HT_requireSentence.2.1 10 = .ok (.new 122, 3) := by decide +kernel
theorem d_HT_requireSentence_13 : decode M_HT_requireSentence.2.1 13 = .ok (.dup, 1) := by decide +kernel
theorem d_HT_requireSentence_14 : decode M_HT_requireSentence.2.1 14 = .ok (.invokespecial 124, 3) := by decide +kernel
theorem d_HT_requireSentence_17 : decode M_HT_requireSentence.2.1 17 = .ok (.athrow, 1) := by decide +kernel
theorem d_HT_requireSentence_18 : decode M_HT_requireSentence.2.1 18 = .ok (.return_, 1) := by decide +kernel
theorem d_HT_someTables_0 : decode M_HT_someTables.2.1 0 = .ok (.aload_n 0, 1) := by decide +kernel
theorem d_HT_someTables_1 : decode M_HT_someTables.2.1 1 = .ok (.getfield 26, 3) := by decide +kernel
theorem d_HT_someTables_4 : decode M_HT_someTables.2.1 4 = .ok (.aload_n 0, 1) := by decide +kernel
theorem d_HT_someTables_5 : decode M_HT_someTables.2.1 5 = .ok (.getfield 26, 3) := by decide +kernel
theorem d_HT_someTables_8 : decode M_HT_someTables.2.1 8 = .ok (.invokevirtual 80, 3) := by decide +kernel
theorem d_HT_someTables_11 : decode M_HT_someTables.2.1 11 = .ok (.invokevirtual 89, 3) := by decide +kernel
theorem d_HT_someTables_14 : decode M_HT_someTables.2.1 14 = .ok (.astore_n 1, 1) := by decide +kernel
theorem d_HT_someTables_15 : decode M_HT_someTables.2.1 15 = .ok (.aload_n 1, 1) := by decide +kernel
theorem d_HT_someTables_16 : decode M_HT_someTables.2.1 16 = .ok (.invokevirtual 125, 3) := by decide +kernel
theorem d_HT_someTables_19 : decode M_HT_someTables.2.1 19 = .ok (.ifCond .eq 11, 3) := by decide +kernel
theorem d_HT_someTables_22 : decode M_HT_someTables.2.1 22 = .ok (.new 129, 3) := by decide +kernel
theorem d_HT_someTables_25 : decode M_HT_someTables.2.1 25 = .ok (.dup, 1) := by decide +kernel
theorem d_HT_someTables_26 : decode M_HT_someTables.2.1 26 = .ok (.invokespecial 131, 3) := by decide +kernel
theorem d_HT_someTables_29 : decode M_HT_someTables.2.1 29 = .ok (.athrow, 1) := by decide +kernel
theorem d_HT_someTables_30 : decode M_HT_someTables.2.1 30 = .ok (.aload_n 1, 1) := by decide +kernel
theorem d_HT_someTables_31 : decode M_HT_someTables.2.1 31 = .ok (.areturn, 1) := by decide +kernel
theorem d_HT_tables_0 : decode M_HT_tables.2.1 0 = .ok (.aload_n 0, 1) := by decide +kernel
theorem d_HT_tables_1 : decode M_HT_tables.2.1 1 = .ok (.invokevirtual 86, 3) := by decide +kernel
theorem d_HT_tables_4 : decode M_HT_tables.2.1 4 = .ok (.aload_n 0, 1) := by decide +kernel
theorem d_HT_tables_5 : decode M_HT_tables.2.1 5 = .ok (.getfield 26, 3) := by decide +kernel
theorem d_HT_tables_8 : decode M_HT_tables.2.1 8 = .ok (.aload_n 0, 1) := by decide +kernel
theorem d_HT_tables_9 : decode M_HT_tables.2.1 9 = .ok (.getfield 26, 3) := by decide +kernel
theorem d_HT_tables_12 : decode M_HT_tables.2.1 12 = .ok (.invokevirtual 80, 3) := by decide +kernel
theorem d_HT_tables_15 : decode M_HT_tables.2.1 15 = .ok (.invokevirtual 89, 3) := by decide +kernel
theorem d_HT_tables_18 : decode M_HT_tables.2.1 18 = .ok (.invokevirtual 93, 3) := by decide +kernel
theorem d_HT_tables_21 : decode M_HT_tables.2.1 21 = .ok (.ireturn, 1) := by decide +kernel
theorem d_HT_type_0 : decode M_HT_type.2.1 0 = .ok (.aload_n 0, 1) := by decide +kernel
theorem d_HT_type_1 : decode M_HT_type.2.1 1 = .ok (.getfield 12, 3) := by decide +kernel
theorem d_HT_type_4 : decode M_HT_type.2.1 4 = .ok (.lload_n 1, 1) := by decide +kernel
theorem d_HT_type_5 : decode M_HT_type.2.1 5 = .ok (.invokevirtual 34, 3) := by decide +kernel
theorem d_HT_type_8 : decode M_HT_type.2.1 8 = .ok (.ireturn, 1) := by decide +kernel
theorem d_HT_without_0 : decode M_HT_without.2.1 0 = .ok (.aload_n 0, 1) := by decide +kernel
theorem d_HT_without_1 : decode M_HT_without.2.1 1 = .ok (.invokevirtual 86, 3) := by decide +kernel
theorem d_HT_without_4 : decode M_HT_without.2.1 4 = .ok (.aload_n 0, 1) := by decide +kernel
theorem d_HT_without_5 : decode M_HT_without.2.1 5 = .ok (.getfield 26, 3) := by decide +kernel
theorem d_HT_without_8 : decode M_HT_without.2.1 8 = .ok (.iload_n 1, 1) := by decide +kernel
theorem d_HT_without_9 : decode M_HT_without.2.1 9 = .ok (.invokevirtual 72, 3) := by decide +kernel
theorem d_HT_without_12 : decode M_HT_without.2.1 12 = .ok (.ifCond .ne 11, 3) := by decide +kernel
theorem d_HT_without_15 : decode M_HT_without.2.1 15 = .ok (.new 112, 3) := by decide +kernel
theorem d_HT_without_18 : decode M_HT_without.2.1 18 = .ok (.dup, 1) := by decide +kernel
theorem d_HT_without_19 : decode M_HT_without.2.1 19 = .ok (.invokespecial 114, 3) := by decide +kernel
theorem d_HT_without_22 : decode M_HT_without.2.1 22 = .ok (.athrow, 1) := by decide +kernel
theorem d_HT_without_23 : decode M_HT_without.2.1 23 = .ok (.aload_n 0, 1) := by decide +kernel
theorem d_HT_without_24 : decode M_HT_without.2.1 24 = .ok (.getfield 26, 3) := by decide +kernel
theorem d_HT_without_27 : decode M_HT_without.2.1 27 = .ok (.aload_n 0, 1) := by decide +kernel
theorem d_HT_without_28 : decode M_HT_without.2.1 28 = .ok (.getfield 26, 3) := by decide +kernel
theorem d_HT_without_31 : decode M_HT_without.2.1 31 = .ok (.invokevirtual 80, 3) := by decide +kernel
theorem d_HT_without_34 : decode M_HT_without.2.1 34 = .ok (.iconst 1, 1) := by decide +kernel
theorem d_HT_without_35 : decode M_HT_without.2.1 35 = .ok (.iload_n 1, 1) := by decide +kernel
theorem d_HT_without_36 : decode M_HT_without.2.1 36 = .ok (.ishl, 1) := by decide +kernel
theorem d_HT_without_37 : decode M_HT_without.2.1 37 = .ok (.isub, 1) := by decide +kernel
theorem d_HT_without_38 : decode M_HT_without.2.1 38 = .ok (.invokevirtual 83, 3) := by decide +kernel
theorem d_HT_without_41 : decode M_HT_without.2.1 41 = .ok (.ireturn, 1) := by decide +kernel
theorem d_Arr_fillI_0 : decode M_Arr_fillI.2.1 0 = .ok (.iconst 0, 1) := by decide +kernel
theorem d_Arr_fillI_1 : decode M_Arr_fillI.2.1 1 = .ok (.istore_n 2, 1) := by decide +kernel
theorem d_Arr_fillI_2 : decode M_Arr_fillI.2.1 2 = .ok (.aload_n 0, 1) := by decide +kernel
theorem d_Arr_fillI_3 : decode M_Arr_fillI.2.1 3 = .ok (.arraylength, 1) := by decide +kernel
theorem d_Arr_fillI_4 : decode M_Arr_fillI.2.1 4 = .ok (.istore_n 3, 1) := by decide +kernel
theorem d_Arr_fillI_5 : decode M_Arr_fillI.2.1 5 = .ok (.iload_n 2, 1) := by decide +kernel
theorem d_Arr_fillI_6 : decode M_Arr_fillI.2.1 6 = .ok (.iload_n 3, 1) := by decide +kernel
theorem d_Arr_fillI_7 : decode M_Arr_fillI.2.1 7 = .ok (.if_icmp .ge 13, 3) := by decide +kernel
theorem d_Arr_fillI_10 : decode M_Arr_fillI.2.1 10 = .ok (.aload_n 0, 1) := by decide +kernel
theorem d_Arr_fillI_11 : decode M_Arr_fillI.2.1 11 = .ok (.iload_n 2, 1) := by decide +kernel
theorem d_Arr_fillI_12 : decode M_Arr_fillI.2.1 12 = .ok (.iload_n 1, 1) := by decide +kernel
theorem d_Arr_fillI_13 : decode M_Arr_fillI.2.1 13 = .ok (.iastore, 1) := by decide +kernel
theorem d_Arr_fillI_14 : decode M_Arr_fillI.2.1 14 = .ok (.iinc 2 1, 3) := by decide +kernel
theorem d_Arr_fillI_17 : decode M_Arr_fillI.2.1 17 = .ok (.goto (-12), 3) := by decide +kernel
theorem d_Arr_fillI_20 : decode M_Arr_fillI.2.1 20 = .ok (.return_, 1) := by decide +kernel
theorem d_Arr_fillJ_0 : decode M_Arr_fillJ.2.1 0 = .ok (.iconst 0, 1) := by decide +kernel
theorem d_Arr_fillJ_1 : decode M_Arr_fillJ.2.1 1 = .ok (.istore_n 3, 1) := by decide +kernel
theorem d_Arr_fillJ_2 : decode M_Arr_fillJ.2.1 2 = .ok (.aload_n 0, 1) := by decide +kernel
theorem d_Arr_fillJ_3 : decode M_Arr_fillJ.2.1 3 = .ok (.arraylength, 1) := by decide +kernel
theorem d_Arr_fillJ_4 : decode M_Arr_fillJ.2.1 4 = .ok (.istore 4, 2) := by decide +kernel
theorem d_Arr_fillJ_6 : decode M_Arr_fillJ.2.1 6 = .ok (.iload_n 3, 1) := by decide +kernel
theorem d_Arr_fillJ_7 : decode M_Arr_fillJ.2.1 7 = .ok (.iload 4, 2) := by decide +kernel
theorem d_Arr_fillJ_9 : decode M_Arr_fillJ.2.1 9 = .ok (.if_icmp .ge 13, 3) := by decide +kernel
theorem d_Arr_fillJ_12 : decode M_Arr_fillJ.2.1 12 = .ok (.aload_n 0, 1) := by decide +kernel
theorem d_Arr_fillJ_13 : decode M_Arr_fillJ.2.1 13 = .ok (.iload_n 3, 1) := by decide +kernel
theorem d_Arr_fillJ_14 : decode M_Arr_fillJ.2.1 14 = .ok (.lload_n 1, 1) := by decide +kernel
theorem d_Arr_fillJ_15 : decode M_Arr_fillJ.2.1 15 = .ok (.lastore, 1) := by decide +kernel
theorem d_Arr_fillJ_16 : decode M_Arr_fillJ.2.1 16 = .ok (.iinc 3 1, 3) := by decide +kernel
theorem d_Arr_fillJ_19 : decode M_Arr_fillJ.2.1 19 = .ok (.goto (-13), 3) := by decide +kernel
theorem d_Arr_fillJ_22 : decode M_Arr_fillJ.2.1 22 = .ok (.return_, 1) := by decide +kernel
theorem d_Int_bitCount_0 : decode M_Int_bitCount.2.1 0 = .ok (.iload_n 0, 1) := by decide +kernel
theorem d_Int_bitCount_1 : decode M_Int_bitCount.2.1 1 = .ok (.iload_n 0, 1) := by decide +kernel
theorem d_Int_bitCount_2 : decode M_Int_bitCount.2.1 2 = .ok (.iconst 1, 1) := by decide +kernel
theorem d_Int_bitCount_3 : decode M_Int_bitCount.2.1 3 = .ok (.iushr, 1) := by decide +kernel
theorem d_Int_bitCount_4 : decode M_Int_bitCount.2.1 4 = .ok (.ldc_w 265, 3) := by decide +kernel
theorem d_Int_bitCount_7 : decode M_Int_bitCount.2.1 7 = .ok (.iand, 1) := by decide +kernel
theorem d_Int_bitCount_8 : decode M_Int_bitCount.2.1 8 = .ok (.isub, 1) := by decide +kernel
theorem d_Int_bitCount_9 : decode M_Int_bitCount.2.1 9 = .ok (.istore_n 0, 1) := by decide +kernel
theorem d_Int_bitCount_10 : decode M_Int_bitCount.2.1 10 = .ok (.iload_n 0, 1) := by decide +kernel
theorem d_Int_bitCount_11 : decode M_Int_bitCount.2.1 11 = .ok (.ldc_w 266, 3) := by decide +kernel
theorem d_Int_bitCount_14 : decode M_Int_bitCount.2.1 14 = .ok (.iand, 1) := by decide +kernel
theorem d_Int_bitCount_15 : decode M_Int_bitCount.2.1 15 = .ok (.iload_n 0, 1) := by decide +kernel
theorem d_Int_bitCount_16 : decode M_Int_bitCount.2.1 16 = .ok (.iconst 2, 1) := by decide +kernel
theorem d_Int_bitCount_17 : decode M_Int_bitCount.2.1 17 = .ok (.iushr, 1) := by decide +kernel
theorem d_Int_bitCount_18 : decode M_Int_bitCount.2.1 18 = .ok (.ldc_w 266, 3) := by decide +kernel
theorem d_Int_bitCount_21 : decode M_Int_bitCount.2.1 21 = .ok (.iand, 1) := by decide +kernel
theorem d_Int_bitCount_22 : decode M_Int_bitCount.2.1 22 = .ok (.iadd, 1) := by decide +kernel
theorem d_Int_bitCount_23 : decode M_Int_bitCount.2.1 23 = .ok (.istore_n 0, 1) := by decide +kernel
theorem d_Int_bitCount_24 : decode M_Int_bitCount.2.1 24 = .ok (.iload_n 0, 1) := by decide +kernel
theorem d_Int_bitCount_25 : decode M_Int_bitCount.2.1 25 = .ok (.iload_n 0, 1) := by decide +kernel
theorem d_Int_bitCount_26 : decode M_Int_bitCount.2.1 26 = .ok (.iconst 4, 1) := by decide +kernel
theorem d_Int_bitCount_27 : decode M_Int_bitCount.2.1 27 = .ok (.iushr, 1) := by decide +kernel
theorem d_Int_bitCount_28 : decode M_Int_bitCount.2.1 28 = .ok (.iadd, 1) := by decide +kernel
theorem d_Int_bitCount_29 : decode M_Int_bitCount.2.1 29 = .ok (.ldc_w 267, 3) := by decide +kernel
theorem d_Int_bitCount_32 : decode M_Int_bitCount.2.1 32 = .ok (.iand, 1) := by decide +kernel
theorem d_Int_bitCount_33 : decode M_Int_bitCount.2.1 33 = .ok (.istore_n 0, 1) := by decide +kernel
theorem d_Int_bitCount_34 : decode M_Int_bitCount.2.1 34 = .ok (.iload_n 0, 1) := by decide +kernel
theorem d_Int_bitCount_35 : decode M_Int_bitCount.2.1 35 = .ok (.iload_n 0, 1) := by decide +kernel
theorem d_Int_bitCount_36 : decode M_Int_bitCount.2.1 36 = .ok (.bipush 8, 2) := by decide +kernel
theorem d_Int_bitCount_38 : decode M_Int_bitCount.2.1 38 = .ok (.iushr, 1) := by decide +kernel
theorem d_Int_bitCount_39 : decode M_Int_bitCount.2.1 39 = .ok (.iadd, 1) := by decide +kernel
theorem d_Int_bitCount_40 : decode M_Int_bitCount.2.1 40 = .ok (.istore_n 0, 1) := by decide +kernel
theorem d_Int_bitCount_41 : decode M_Int_bitCount.2.1 41 = .ok (.iload_n 0, 1) := by decide +kernel
theorem d_Int_bitCount_42 : decode M_Int_bitCount.2.1 42 = .ok (.iload_n 0, 1) := by decide +kernel
theorem d_Int_bitCount_43 : decode M_Int_bitCount.2.1 43 = .ok (.bipush 16, 2) := by decide +kernel
theorem d_Int_bitCount_45 : decode M_Int_bitCount.2.1 45 = .ok (.iushr, 1) := by decide +kernel
theorem d_Int_bitCount_46 : decode M_Int_bitCount.2.1 46 = .ok (.iadd, 1) := by decide +kernel
theorem d_Int_bitCount_47 : decode M_Int_bitCount.2.1 47 = .ok (.istore_n 0, 1) := by decide +kernel
theorem d_Int_bitCount_48 : decode M_Int_bitCount.2.1 48 = .ok (.iload_n 0, 1) := by decide +kernel
theorem d_Int_bitCount_49 : decode M_Int_bitCount.2.1 49 = .ok (.bipush 63, 2) := by decide +kernel
theorem d_Int_bitCount_51 : decode M_Int_bitCount.2.1 51 = .ok (.iand, 1) := by decide +kernel
theorem d_Int_bitCount_52 : decode M_Int_bitCount.2.1 52 = .ok (.ireturn, 1) := by decide +kernel
theorem d_Lng_bitCount_0 : decode M_Lng_bitCount.2.1 0 = .ok (.lload_n 0, 1) := by decide +kernel
theorem d_Lng_bitCount_1 : decode M_Lng_bitCount.2.1 1 = .ok (.lload_n 0, 1) := by decide +kernel
theorem d_Lng_bitCount_2 : decode M_Lng_bitCount.2.1 2 = .ok (.iconst 1, 1) := by decide +kernel
theorem d_Lng_bitCount_3 : decode M_Lng_bitCount.2.1 3 = .ok (.lushr, 1) := by decide +kernel
theorem d_Lng_bitCount_4 : decode M_Lng_bitCount.2.1 4 = .ok (.ldc2_w 314, 3) := by decide +kernel
theorem d_Lng_bitCount_7 : decode M_Lng_bitCount.2.1 7 = .ok (.land, 1) := by decide +kernel
theorem d_Lng_bitCount_8 : decode M_Lng_bitCount.2.1 8 = .ok (.lsub, 1) := by decide +kernel
theorem d_Lng_bitCount_9 : decode M_Lng_bitCount.2.1 9 = .ok (.lstore_n 0, 1) := by decide +kernel
theorem d_Lng_bitCount_10 : decode M_Lng_bitCount.2.1 10 = .ok (.lload_n 0, 1) := by decide +kernel
theorem d_Lng_bitCount_11 : decode M_Lng_bitCount.2.1 11 = .ok (.ldc2_w 316, 3) := by decide +kernel
theorem d_Lng_bitCount_14 : decode M_Lng_bitCount.2.1 14 = .ok (.land, 1) := by decide +kernel
theorem d_Lng_bitCount_15 : decode M_Lng_bitCount.2.1 15 = .ok (.lload_n 0, 1) := by decide +kernel
theorem d_Lng_bitCount_16 : decode M_Lng_bitCount.2.1 16 = .ok (.iconst 2, 1) := by decide +kernel
theorem d_Lng_bitCount_17 : decode M_Lng_bitCount.2.1 17 = .ok (.lushr, 1) := by decide +kernel
theorem d_Lng_bitCount_18 : decode M_Lng_bitCount.2.1 18 = .ok (.ldc2_w 316, 3) := by decide +kernel
theorem d_Lng_bitCount_21 : decode M_Lng_bitCount.2.1 21 = .ok (.land, 1) := by decide +kernel
theorem d_Lng_bitCount_22 : decode M_Lng_bitCount.2.1 22 = .ok (.ladd, 1) := by decide +kernel
theorem d_Lng_bitCount_23 : decode M_Lng_bitCount.2.1 23 = .ok (.lstore_n 0, 1) := by decide +kernel
theorem d_Lng_bitCount_24 : decode M_Lng_bitCount.2.1 24 = .ok (.lload_n 0, 1) := by decide +kernel
theorem d_Lng_bitCount_25 : decode M_Lng_bitCount.2.1 25 = .ok (.lload_n 0, 1) := by decide +kernel
theorem d_Lng_bitCount_26 : decode M_Lng_bitCount.2.1 26 = .ok (.iconst 4, 1) := by decide +kernel
theorem d_Lng_bitCount_27 : decode M_Lng_bitCount.2.1 27 = .ok (.lushr, 1) := by decide +kernel
theorem d_Lng_bitCount_28 : decode M_Lng_bitCount.2.1 28 = .ok (.ladd, 1) := by decide +kernel
theorem d_Lng_bitCount_29 : decode M_Lng_bitCount.2.1 29 = .ok (.ldc2_w 318, 3) := by decide +kernel
theorem d_Lng_bitCount_32 : decode M_Lng_bitCount.2.1 32 = .ok (.land, 1) := by decide +kernel
theorem d_Lng_bitCount_33 : decode M_Lng_bitCount.2.1 33 = .ok (.lstore_n 0, 1) := by decide +kernel
theorem d_Lng_bitCount_34 : decode M_Lng_bitCount.2.1 34 = .ok (.lload_n 0, 1) := by decide +kernel
theorem d_Lng_bitCount_35 : decode M_Lng_bitCount.2.1 35 = .ok (.lload_n 0, 1) := by decide +kernel
theorem d_Lng_bitCount_36 : decode M_Lng_bitCount.2.1 36 = .ok (.bipush 8, 2) := by decide +kernel
theorem d_Lng_bitCount_38 : decode M_Lng_bitCount.2.1 38 = .ok (.lushr, 1) := by decide +kernel
theorem d_Lng_bitCount_39 : decode M_Lng_bitCount.2.1 39 = .ok (.ladd, 1) := by decide +kernel
theorem d_Lng_bitCount_40 : decode M_Lng_bitCount.2.1 40 = .ok (.lstore_n 0, 1) := by decide +kernel
theorem d_Lng_bitCount_41 : decode M_Lng_bitCount.2.1 41 = .ok (.lload_n 0, 1) := by decide +kernel
theorem d_Lng_bitCount_42 : decode M_Lng_bitCount.2.1 42 = .ok (.lload_n 0, 1) := by decide +kernel
theorem d_Lng_bitCount_43 : decode M_Lng_bitCount.2.1 43 = .ok (.bipush 16, 2) := by decide +kernel
theorem d_Lng_bitCount_45 : decode M_Lng_bitCount.2.1 45 = .ok (.lushr, 1) := by decide +kernel
theorem d_Lng_bitCount_46 : decode M_Lng_bitCount.2.1 46 = .ok (.ladd, 1) := by decide +kernel
theorem d_Lng_bitCount_47 : decode M_Lng_bitCount.2.1 47 = .ok (.lstore_n 0, 1) := by decide +kernel
theorem d_Lng_bitCount_48 : decode M_Lng_bitCount.2.1 48 = .ok (.lload_n 0, 1) := by decide +kernel
theorem d_Lng_bitCount_49 : decode M_Lng_bitCount.2.1 49 = .ok (.lload_n 0, 1) := by decide +kernel
theorem d_Lng_bitCount_50 : decode M_Lng_bitCount.2.1 50 = .ok (.bipush 32, 2) := by decide +kernel
theorem d_Lng_bitCount_52 : decode M_Lng_bitCount.2.1 52 = .ok (.lushr, 1) := by decide +kernel
theorem d_Lng_bitCount_53 : decode M_Lng_bitCount.2.1 53 = .ok (.ladd, 1) := by decide +kernel
theorem d_Lng_bitCount_54 : decode M_Lng_bitCount.2.1 54 = .ok (.lstore_n 0, 1) := by decide +kernel
theorem d_Lng_bitCount_55 : decode M_Lng_bitCount.2.1 55 = .ok (.lload_n 0, 1) := by decide +kernel
theorem d_Lng_bitCount_56 : decode M_Lng_bitCount.2.1 56 = .ok (.l2i, 1) := by decide +kernel
theorem d_Lng_bitCount_57 : decode M_Lng_bitCount.2.1 57 = .ok (.bipush 127, 2) := by decide +kernel
theorem d_Lng_bitCount_59 : decode M_Lng_bitCount.2.1 59 = .ok (.iand, 1) := by decide +kernel
theorem d_Lng_bitCount_60 : decode M_Lng_bitCount.2.1 60 = .ok (.ireturn, 1) := by decide +kernel
