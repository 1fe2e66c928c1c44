/-! NAMES: methods and their decode rows, printed by an own text program out of the Statement. -/
abbrev b_Le_value : ByteArray := prog_1_method_18_code
def y_Le_value : MethodName := ⟨"CommitLedger", "value", "(II)I"⟩
theorem d_Le_value_0 : decode b_Le_value 0 = .ok (.aload_n 0, 1) := by decide +kernel
theorem d_Le_value_1 : decode b_Le_value 1 = .ok (.iload_n 1, 1) := by decide +kernel
theorem d_Le_value_2 : decode b_Le_value 2 = .ok (.invokevirtual 226, 3) := by decide +kernel
theorem d_Le_value_5 : decode b_Le_value 5 = .ok (.getfield 233, 3) := by decide +kernel
theorem d_Le_value_8 : decode b_Le_value 8 = .ok (.astore_n 3, 1) := by decide +kernel
theorem d_Le_value_9 : decode b_Le_value 9 = .ok (.aload_n 0, 1) := by decide +kernel
theorem d_Le_value_10 : decode b_Le_value 10 = .ok (.getfield 10, 3) := by decide +kernel
theorem d_Le_value_13 : decode b_Le_value 13 = .ok (.getfield 94, 3) := by decide +kernel
theorem d_Le_value_16 : decode b_Le_value 16 = .ok (.iconst 1, 1) := by decide +kernel
theorem d_Le_value_17 : decode b_Le_value 17 = .ok (.isub, 1) := by decide +kernel
theorem d_Le_value_18 : decode b_Le_value 18 = .ok (.istore 4, 2) := by decide +kernel
theorem d_Le_value_20 : decode b_Le_value 20 = .ok (.iload 4, 2) := by decide +kernel
theorem d_Le_value_22 : decode b_Le_value 22 = .ok (.ifCond .lt 44, 3) := by decide +kernel
theorem d_Le_value_25 : decode b_Le_value 25 = .ok (.aload_n 3, 1) := by decide +kernel
theorem d_Le_value_26 : decode b_Le_value 26 = .ok (.getfield 134, 3) := by decide +kernel
theorem d_Le_value_29 : decode b_Le_value 29 = .ok (.iload 4, 2) := by decide +kernel
theorem d_Le_value_31 : decode b_Le_value 31 = .ok (.baload, 1) := by decide +kernel
theorem d_Le_value_32 : decode b_Le_value 32 = .ok (.ifCond .eq 28, 3) := by decide +kernel
theorem d_Le_value_35 : decode b_Le_value 35 = .ok (.aload_n 0, 1) := by decide +kernel
theorem d_Le_value_36 : decode b_Le_value 36 = .ok (.getfield 10, 3) := by decide +kernel
theorem d_Le_value_39 : decode b_Le_value 39 = .ok (.getfield 138, 3) := by decide +kernel
theorem d_Le_value_42 : decode b_Le_value 42 = .ok (.iload 4, 2) := by decide +kernel
theorem d_Le_value_44 : decode b_Le_value 44 = .ok (.iaload, 1) := by decide +kernel
theorem d_Le_value_45 : decode b_Le_value 45 = .ok (.iload_n 2, 1) := by decide +kernel
theorem d_Le_value_46 : decode b_Le_value 46 = .ok (.if_icmp .ne 14, 3) := by decide +kernel
theorem d_Le_value_49 : decode b_Le_value 49 = .ok (.aload_n 0, 1) := by decide +kernel
theorem d_Le_value_50 : decode b_Le_value 50 = .ok (.getfield 10, 3) := by decide +kernel
theorem d_Le_value_53 : decode b_Le_value 53 = .ok (.getfield 236, 3) := by decide +kernel
theorem d_Le_value_56 : decode b_Le_value 56 = .ok (.iload 4, 2) := by decide +kernel
theorem d_Le_value_58 : decode b_Le_value 58 = .ok (.iaload, 1) := by decide +kernel
theorem d_Le_value_59 : decode b_Le_value 59 = .ok (.ireturn, 1) := by decide +kernel
theorem d_Le_value_60 : decode b_Le_value 60 = .ok (.iinc 4 (-1), 3) := by decide +kernel
theorem d_Le_value_63 : decode b_Le_value 63 = .ok (.goto (-43), 3) := by decide +kernel
theorem d_Le_value_66 : decode b_Le_value 66 = .ok (.new 150, 3) := by decide +kernel
theorem d_Le_value_69 : decode b_Le_value 69 = .ok (.dup, 1) := by decide +kernel
theorem d_Le_value_70 : decode b_Le_value 70 = .ok (.ldc 239, 2) := by decide +kernel
theorem d_Le_value_72 : decode b_Le_value 72 = .ok (.invokespecial 154, 3) := by decide +kernel
theorem d_Le_value_75 : decode b_Le_value 75 = .ok (.athrow, 1) := by decide +kernel
theorem kc_Le_value : Cond.code y_Le_value b_Le_value 5 (some .int) ∈ gx_all := gx_in 874 (by decide +kernel)
abbrev b_Le_writeLists : ByteArray := prog_1_method_44_code
def y_Le_writeLists : MethodName := ⟨"CommitLedger", "writeLists", "()V"⟩
theorem d_Le_writeLists_0 : decode b_Le_writeLists 0 = .ok (.iconst 0, 1) := by decide +kernel
theorem d_Le_writeLists_1 : decode b_Le_writeLists 1 = .ok (.istore_n 1, 1) := by decide +kernel
theorem d_Le_writeLists_2 : decode b_Le_writeLists 2 = .ok (.iload_n 1, 1) := by decide +kernel
theorem d_Le_writeLists_3 : decode b_Le_writeLists 3 = .ok (.aload_n 0, 1) := by decide +kernel
theorem d_Le_writeLists_4 : decode b_Le_writeLists 4 = .ok (.getfield 26, 3) := by decide +kernel
theorem d_Le_writeLists_7 : decode b_Le_writeLists 7 = .ok (.getfield 109, 3) := by decide +kernel
theorem d_Le_writeLists_10 : decode b_Le_writeLists 10 = .ok (.if_icmp .ge 56, 3) := by decide +kernel
theorem d_Le_writeLists_13 : decode b_Le_writeLists 13 = .ok (.aload_n 0, 1) := by decide +kernel
theorem d_Le_writeLists_14 : decode b_Le_writeLists 14 = .ok (.getfield 26, 3) := by decide +kernel
theorem d_Le_writeLists_17 : decode b_Le_writeLists 17 = .ok (.iload_n 1, 1) := by decide +kernel
theorem d_Le_writeLists_18 : decode b_Le_writeLists 18 = .ok (.invokevirtual 366, 3) := by decide +kernel
theorem d_Le_writeLists_21 : decode b_Le_writeLists 21 = .ok (.ifCond .ne 39, 3) := by decide +kernel
theorem d_Le_writeLists_24 : decode b_Le_writeLists 24 = .ok (.aload_n 0, 1) := by decide +kernel
theorem d_Le_writeLists_25 : decode b_Le_writeLists 25 = .ok (.invokevirtual 311, 3) := by decide +kernel
theorem d_Le_writeLists_28 : decode b_Le_writeLists 28 = .ok (.aload_n 0, 1) := by decide +kernel
theorem d_Le_writeLists_29 : decode b_Le_writeLists 29 = .ok (.getfield 26, 3) := by decide +kernel
theorem d_Le_writeLists_32 : decode b_Le_writeLists 32 = .ok (.getfield 323, 3) := by decide +kernel
theorem d_Le_writeLists_35 : decode b_Le_writeLists 35 = .ok (.iload_n 1, 1) := by decide +kernel
theorem d_Le_writeLists_36 : decode b_Le_writeLists 36 = .ok (.aload_n 0, 1) := by decide +kernel
theorem d_Le_writeLists_37 : decode b_Le_writeLists 37 = .ok (.getfield 19, 3) := by decide +kernel
theorem d_Le_writeLists_40 : decode b_Le_writeLists 40 = .ok (.aload_n 0, 1) := by decide +kernel
theorem d_Le_writeLists_41 : decode b_Le_writeLists 41 = .ok (.getfield 26, 3) := by decide +kernel
theorem d_Le_writeLists_44 : decode b_Le_writeLists 44 = .ok (.aload_n 0, 1) := by decide +kernel
theorem d_Le_writeLists_45 : decode b_Le_writeLists 45 = .ok (.getfield 26, 3) := by decide +kernel
theorem d_Le_writeLists_48 : decode b_Le_writeLists 48 = .ok (.getfield 254, 3) := by decide +kernel
theorem d_Le_writeLists_51 : decode b_Le_writeLists 51 = .ok (.iload_n 1, 1) := by decide +kernel
theorem d_Le_writeLists_52 : decode b_Le_writeLists 52 = .ok (.aaload, 1) := by decide +kernel
theorem d_Le_writeLists_53 : decode b_Le_writeLists 53 = .ok (.invokevirtual 261, 3) := by decide +kernel
theorem d_Le_writeLists_56 : decode b_Le_writeLists 56 = .ok (.invokevirtual 314, 3) := by decide +kernel
theorem d_Le_writeLists_59 : decode b_Le_writeLists 59 = .ok (.aastore, 1) := by decide +kernel
theorem d_Le_writeLists_60 : decode b_Le_writeLists 60 = .ok (.iinc 1 1, 3) := by decide +kernel
theorem d_Le_writeLists_63 : decode b_Le_writeLists 63 = .ok (.goto (-61), 3) := by decide +kernel
theorem d_Le_writeLists_66 : decode b_Le_writeLists 66 = .ok (.return_, 1) := by decide +kernel
theorem kc_Le_writeLists : Cond.code y_Le_writeLists b_Le_writeLists 2 none ∈ gx_all := gx_in 778 (by decide +kernel)
abbrev b_Di_init : ByteArray := prog_2_method_1_code
def y_Di_init : MethodName := ⟨"CommitLedger$Directory", "<init>", "()V"⟩
theorem d_Di_init_0 : decode b_Di_init 0 = .ok (.aload_n 0, 1) := by decide +kernel
theorem d_Di_init_1 : decode b_Di_init 1 = .ok (.invokespecial 1, 3) := by decide +kernel
theorem d_Di_init_4 : decode b_Di_init 4 = .ok (.aload_n 0, 1) := by decide +kernel
theorem d_Di_init_5 : decode b_Di_init 5 = .ok (.new 7, 3) := by decide +kernel
theorem d_Di_init_8 : decode b_Di_init 8 = .ok (.dup, 1) := by decide +kernel
theorem d_Di_init_9 : decode b_Di_init 9 = .ok (.invokespecial 9, 3) := by decide +kernel
theorem d_Di_init_12 : decode b_Di_init 12 = .ok (.putfield 10, 3) := by decide +kernel
theorem d_Di_init_15 : decode b_Di_init 15 = .ok (.aload_n 0, 1) := by decide +kernel
theorem d_Di_init_16 : decode b_Di_init 16 = .ok (.new 7, 3) := by decide +kernel
theorem d_Di_init_19 : decode b_Di_init 19 = .ok (.dup, 1) := by decide +kernel
theorem d_Di_init_20 : decode b_Di_init 20 = .ok (.invokespecial 9, 3) := by decide +kernel
theorem d_Di_init_23 : decode b_Di_init 23 = .ok (.putfield 16, 3) := by decide +kernel
theorem d_Di_init_26 : decode b_Di_init 26 = .ok (.return_, 1) := by decide +kernel
theorem kc_Di_init : Cond.code y_Di_init b_Di_init 1 none ∈ gx_all := gx_in 64 (by decide +kernel)
abbrev b_Di_dropUnneeded : ByteArray := prog_2_method_6_code
def y_Di_dropUnneeded : MethodName := ⟨"CommitLedger$Directory", "dropUnneeded", "()V"⟩
theorem d_Di_dropUnneeded_0 : decode b_Di_dropUnneeded 0 = .ok (.iconst 0, 1) := by decide +kernel
theorem d_Di_dropUnneeded_1 : decode b_Di_dropUnneeded 1 = .ok (.istore_n 1, 1) := by decide +kernel
theorem d_Di_dropUnneeded_2 : decode b_Di_dropUnneeded 2 = .ok (.iconst 0, 1) := by decide +kernel
theorem d_Di_dropUnneeded_3 : decode b_Di_dropUnneeded 3 = .ok (.istore_n 2, 1) := by decide +kernel
theorem d_Di_dropUnneeded_4 : decode b_Di_dropUnneeded 4 = .ok (.iload_n 2, 1) := by decide +kernel
theorem d_Di_dropUnneeded_5 : decode b_Di_dropUnneeded 5 = .ok (.aload_n 0, 1) := by decide +kernel
theorem d_Di_dropUnneeded_6 : decode b_Di_dropUnneeded 6 = .ok (.getfield 10, 3) := by decide +kernel
theorem d_Di_dropUnneeded_9 : decode b_Di_dropUnneeded 9 = .ok (.invokevirtual 26, 3) := by decide +kernel
theorem d_Di_dropUnneeded_12 : decode b_Di_dropUnneeded 12 = .ok (.if_icmp .ge 53, 3) := by decide +kernel
theorem d_Di_dropUnneeded_15 : decode b_Di_dropUnneeded 15 = .ok (.aload_n 0, 1) := by decide +kernel
theorem d_Di_dropUnneeded_16 : decode b_Di_dropUnneeded 16 = .ok (.getfield 10, 3) := by decide +kernel
theorem d_Di_dropUnneeded_19 : decode b_Di_dropUnneeded 19 = .ok (.iload_n 2, 1) := by decide +kernel
theorem d_Di_dropUnneeded_20 : decode b_Di_dropUnneeded 20 = .ok (.invokevirtual 64, 3) := by decide +kernel
theorem d_Di_dropUnneeded_23 : decode b_Di_dropUnneeded 23 = .ok (.checkcast 23, 3) := by decide +kernel
theorem d_Di_dropUnneeded_26 : decode b_Di_dropUnneeded 26 = .ok (.astore_n 3, 1) := by decide +kernel
theorem d_Di_dropUnneeded_27 : decode b_Di_dropUnneeded 27 = .ok (.aload_n 3, 1) := by decide +kernel
theorem d_Di_dropUnneeded_28 : decode b_Di_dropUnneeded 28 = .ok (.getfield 48, 3) := by decide +kernel
theorem d_Di_dropUnneeded_31 : decode b_Di_dropUnneeded 31 = .ok (.ifCond .eq 19, 3) := by decide +kernel
theorem d_Di_dropUnneeded_34 : decode b_Di_dropUnneeded 34 = .ok (.aload_n 0, 1) := by decide +kernel
theorem d_Di_dropUnneeded_35 : decode b_Di_dropUnneeded 35 = .ok (.getfield 10, 3) := by decide +kernel
theorem d_Di_dropUnneeded_38 : decode b_Di_dropUnneeded 38 = .ok (.iload_n 1, 1) := by decide +kernel
theorem d_Di_dropUnneeded_39 : decode b_Di_dropUnneeded 39 = .ok (.aload_n 3, 1) := by decide +kernel
theorem d_Di_dropUnneeded_40 : decode b_Di_dropUnneeded 40 = .ok (.invokevirtual 67, 3) := by decide +kernel
theorem d_Di_dropUnneeded_43 : decode b_Di_dropUnneeded 43 = .ok (.pop, 1) := by decide +kernel
theorem d_Di_dropUnneeded_44 : decode b_Di_dropUnneeded 44 = .ok (.iinc 1 1, 3) := by decide +kernel
theorem d_Di_dropUnneeded_47 : decode b_Di_dropUnneeded 47 = .ok (.goto 12, 3) := by decide +kernel
theorem d_Di_dropUnneeded_50 : decode b_Di_dropUnneeded 50 = .ok (.aload_n 0, 1) := by decide +kernel
theorem d_Di_dropUnneeded_51 : decode b_Di_dropUnneeded 51 = .ok (.getfield 16, 3) := by decide +kernel
theorem d_Di_dropUnneeded_54 : decode b_Di_dropUnneeded 54 = .ok (.aload_n 3, 1) := by decide +kernel
theorem d_Di_dropUnneeded_55 : decode b_Di_dropUnneeded 55 = .ok (.invokevirtual 60, 3) := by decide +kernel
theorem d_Di_dropUnneeded_58 : decode b_Di_dropUnneeded 58 = .ok (.pop, 1) := by decide +kernel
theorem d_Di_dropUnneeded_59 : decode b_Di_dropUnneeded 59 = .ok (.iinc 2 1, 3) := by decide +kernel
theorem d_Di_dropUnneeded_62 : decode b_Di_dropUnneeded 62 = .ok (.goto (-58), 3) := by decide +kernel
theorem d_Di_dropUnneeded_65 : decode b_Di_dropUnneeded 65 = .ok (.aload_n 0, 1) := by decide +kernel
theorem d_Di_dropUnneeded_66 : decode b_Di_dropUnneeded 66 = .ok (.getfield 10, 3) := by decide +kernel
theorem d_Di_dropUnneeded_69 : decode b_Di_dropUnneeded 69 = .ok (.invokevirtual 26, 3) := by decide +kernel
theorem d_Di_dropUnneeded_72 : decode b_Di_dropUnneeded 72 = .ok (.iconst 1, 1) := by decide +kernel
theorem d_Di_dropUnneeded_73 : decode b_Di_dropUnneeded 73 = .ok (.isub, 1) := by decide +kernel
theorem d_Di_dropUnneeded_74 : decode b_Di_dropUnneeded 74 = .ok (.istore_n 2, 1) := by decide +kernel
theorem d_Di_dropUnneeded_75 : decode b_Di_dropUnneeded 75 = .ok (.iload_n 2, 1) := by decide +kernel
theorem d_Di_dropUnneeded_76 : decode b_Di_dropUnneeded 76 = .ok (.iload_n 1, 1) := by decide +kernel
theorem d_Di_dropUnneeded_77 : decode b_Di_dropUnneeded 77 = .ok (.if_icmp .lt 18, 3) := by decide +kernel
theorem d_Di_dropUnneeded_80 : decode b_Di_dropUnneeded 80 = .ok (.aload_n 0, 1) := by decide +kernel
theorem d_Di_dropUnneeded_81 : decode b_Di_dropUnneeded 81 = .ok (.getfield 10, 3) := by decide +kernel
theorem d_Di_dropUnneeded_84 : decode b_Di_dropUnneeded 84 = .ok (.iload_n 2, 1) := by decide +kernel
theorem d_Di_dropUnneeded_85 : decode b_Di_dropUnneeded 85 = .ok (.invokevirtual 30, 3) := by decide +kernel
theorem d_Di_dropUnneeded_88 : decode b_Di_dropUnneeded 88 = .ok (.pop, 1) := by decide +kernel
theorem d_Di_dropUnneeded_89 : decode b_Di_dropUnneeded 89 = .ok (.iinc 2 (-1), 3) := by decide +kernel
theorem d_Di_dropUnneeded_92 : decode b_Di_dropUnneeded 92 = .ok (.goto (-17), 3) := by decide +kernel
theorem d_Di_dropUnneeded_95 : decode b_Di_dropUnneeded 95 = .ok (.return_, 1) := by decide +kernel
theorem kc_Di_dropUnneeded : Cond.code y_Di_dropUnneeded b_Di_dropUnneeded 4 none ∈ gx_all := gx_in 276 (by decide +kernel)
abbrev b_Di_find : ByteArray := prog_2_method_3_code
def y_Di_find : MethodName := ⟨"CommitLedger$Directory", "find", "(I)LCommitLedger$LedgerFile;"⟩
theorem d_Di_find_0 : decode b_Di_find 0 = .ok (.iconst 0, 1) := by decide +kernel
theorem d_Di_find_1 : decode b_Di_find 1 = .ok (.istore_n 2, 1) := by decide +kernel
theorem d_Di_find_2 : decode b_Di_find 2 = .ok (.iload_n 2, 1) := by decide +kernel
theorem d_Di_find_3 : decode b_Di_find 3 = .ok (.aload_n 0, 1) := by decide +kernel
theorem d_Di_find_4 : decode b_Di_find 4 = .ok (.getfield 10, 3) := by decide +kernel
theorem d_Di_find_7 : decode b_Di_find 7 = .ok (.invokevirtual 26, 3) := by decide +kernel
theorem d_Di_find_10 : decode b_Di_find 10 = .ok (.if_icmp .ge 39, 3) := by decide +kernel
theorem d_Di_find_13 : decode b_Di_find 13 = .ok (.aload_n 0, 1) := by decide +kernel
theorem d_Di_find_14 : decode b_Di_find 14 = .ok (.getfield 10, 3) := by decide +kernel
theorem d_Di_find_17 : decode b_Di_find 17 = .ok (.iload_n 2, 1) := by decide +kernel
theorem d_Di_find_18 : decode b_Di_find 18 = .ok (.invokevirtual 64, 3) := by decide +kernel
theorem d_Di_find_21 : decode b_Di_find 21 = .ok (.checkcast 23, 3) := by decide +kernel
theorem d_Di_find_24 : decode b_Di_find 24 = .ok (.getfield 38, 3) := by decide +kernel
theorem d_Di_find_27 : decode b_Di_find 27 = .ok (.iload_n 1, 1) := by decide +kernel
theorem d_Di_find_28 : decode b_Di_find 28 = .ok (.if_icmp .ne 15, 3) := by decide +kernel
theorem d_Di_find_31 : decode b_Di_find 31 = .ok (.aload_n 0, 1) := by decide +kernel
theorem d_Di_find_32 : decode b_Di_find 32 = .ok (.getfield 10, 3) := by decide +kernel
theorem d_Di_find_35 : decode b_Di_find 35 = .ok (.iload_n 2, 1) := by decide +kernel
theorem d_Di_find_36 : decode b_Di_find 36 = .ok (.invokevirtual 64, 3) := by decide +kernel
theorem d_Di_find_39 : decode b_Di_find 39 = .ok (.checkcast 23, 3) := by decide +kernel
theorem d_Di_find_42 : decode b_Di_find 42 = .ok (.areturn, 1) := by decide +kernel
theorem d_Di_find_43 : decode b_Di_find 43 = .ok (.iinc 2 1, 3) := by decide +kernel
theorem d_Di_find_46 : decode b_Di_find 46 = .ok (.goto (-44), 3) := by decide +kernel
theorem d_Di_find_49 : decode b_Di_find 49 = .ok (.aconst_null, 1) := by decide +kernel
theorem d_Di_find_50 : decode b_Di_find 50 = .ok (.areturn, 1) := by decide +kernel
theorem kc_Di_find : Cond.code y_Di_find b_Di_find 3 (some (.object "CommitLedger$LedgerFile")) ∈ gx_all := gx_in 836 (by decide +kernel)
abbrev b_Di_needNone : ByteArray := prog_2_method_4_code
def y_Di_needNone : MethodName := ⟨"CommitLedger$Directory", "needNone", "()V"⟩
theorem d_Di_needNone_0 : decode b_Di_needNone 0 = .ok (.iconst 0, 1) := by decide +kernel
theorem d_Di_needNone_1 : decode b_Di_needNone 1 = .ok (.istore_n 1, 1) := by decide +kernel
theorem d_Di_needNone_2 : decode b_Di_needNone 2 = .ok (.iload_n 1, 1) := by decide +kernel
theorem d_Di_needNone_3 : decode b_Di_needNone 3 = .ok (.aload_n 0, 1) := by decide +kernel
theorem d_Di_needNone_4 : decode b_Di_needNone 4 = .ok (.getfield 10, 3) := by decide +kernel
theorem d_Di_needNone_7 : decode b_Di_needNone 7 = .ok (.invokevirtual 26, 3) := by decide +kernel
theorem d_Di_needNone_10 : decode b_Di_needNone 10 = .ok (.if_icmp .ge 24, 3) := by decide +kernel
theorem d_Di_needNone_13 : decode b_Di_needNone 13 = .ok (.aload_n 0, 1) := by decide +kernel
theorem d_Di_needNone_14 : decode b_Di_needNone 14 = .ok (.getfield 10, 3) := by decide +kernel
theorem d_Di_needNone_17 : decode b_Di_needNone 17 = .ok (.iload_n 1, 1) := by decide +kernel
theorem d_Di_needNone_18 : decode b_Di_needNone 18 = .ok (.invokevirtual 64, 3) := by decide +kernel
theorem d_Di_needNone_21 : decode b_Di_needNone 21 = .ok (.checkcast 23, 3) := by decide +kernel
theorem d_Di_needNone_24 : decode b_Di_needNone 24 = .ok (.iconst 0, 1) := by decide +kernel
theorem d_Di_needNone_25 : decode b_Di_needNone 25 = .ok (.putfield 48, 3) := by decide +kernel
theorem d_Di_needNone_28 : decode b_Di_needNone 28 = .ok (.iinc 1 1, 3) := by decide +kernel
theorem d_Di_needNone_31 : decode b_Di_needNone 31 = .ok (.goto (-29), 3) := by decide +kernel
theorem d_Di_needNone_34 : decode b_Di_needNone 34 = .ok (.return_, 1) := by decide +kernel
theorem kc_Di_needNone : Cond.code y_Di_needNone b_Di_needNone 2 none ∈ gx_all := gx_in 538 (by decide +kernel)
abbrev b_Di_needSynced : ByteArray := prog_2_method_5_code
def y_Di_needSynced : MethodName := ⟨"CommitLedger$Directory", "needSynced", "()V"⟩
theorem d_Di_needSynced_0 : decode b_Di_needSynced 0 = .ok (.iconst 0, 1) := by decide +kernel
theorem d_Di_needSynced_1 : decode b_Di_needSynced 1 = .ok (.istore_n 1, 1) := by decide +kernel
theorem d_Di_needSynced_2 : decode b_Di_needSynced 2 = .ok (.iload_n 1, 1) := by decide +kernel
theorem d_Di_needSynced_3 : decode b_Di_needSynced 3 = .ok (.aload_n 0, 1) := by decide +kernel
theorem d_Di_needSynced_4 : decode b_Di_needSynced 4 = .ok (.getfield 10, 3) := by decide +kernel
theorem d_Di_needSynced_7 : decode b_Di_needSynced 7 = .ok (.invokevirtual 26, 3) := by decide +kernel
theorem d_Di_needSynced_10 : decode b_Di_needSynced 10 = .ok (.if_icmp .ge 37, 3) := by decide +kernel
theorem d_Di_needSynced_13 : decode b_Di_needSynced 13 = .ok (.aload_n 0, 1) := by decide +kernel
theorem d_Di_needSynced_14 : decode b_Di_needSynced 14 = .ok (.getfield 10, 3) := by decide +kernel
theorem d_Di_needSynced_17 : decode b_Di_needSynced 17 = .ok (.iload_n 1, 1) := by decide +kernel
theorem d_Di_needSynced_18 : decode b_Di_needSynced 18 = .ok (.invokevirtual 64, 3) := by decide +kernel
theorem d_Di_needSynced_21 : decode b_Di_needSynced 21 = .ok (.checkcast 23, 3) := by decide +kernel
theorem d_Di_needSynced_24 : decode b_Di_needSynced 24 = .ok (.aload_n 0, 1) := by decide +kernel
theorem d_Di_needSynced_25 : decode b_Di_needSynced 25 = .ok (.getfield 10, 3) := by decide +kernel
theorem d_Di_needSynced_28 : decode b_Di_needSynced 28 = .ok (.iload_n 1, 1) := by decide +kernel
theorem d_Di_needSynced_29 : decode b_Di_needSynced 29 = .ok (.invokevirtual 64, 3) := by decide +kernel
theorem d_Di_needSynced_32 : decode b_Di_needSynced 32 = .ok (.checkcast 23, 3) := by decide +kernel
theorem d_Di_needSynced_35 : decode b_Di_needSynced 35 = .ok (.getfield 41, 3) := by decide +kernel
theorem d_Di_needSynced_38 : decode b_Di_needSynced 38 = .ok (.putfield 48, 3) := by decide +kernel
theorem d_Di_needSynced_41 : decode b_Di_needSynced 41 = .ok (.iinc 1 1, 3) := by decide +kernel
theorem d_Di_needSynced_44 : decode b_Di_needSynced 44 = .ok (.goto (-42), 3) := by decide +kernel
theorem d_Di_needSynced_47 : decode b_Di_needSynced 47 = .ok (.return_, 1) := by decide +kernel
theorem kc_Di_needSynced : Cond.code y_Di_needSynced b_Di_needSynced 2 none ∈ gx_all := gx_in 253 (by decide +kernel)
abbrev b_Di_newFile : ByteArray := prog_2_method_2_code
def y_Di_newFile : MethodName := ⟨"CommitLedger$Directory", "newFile", "(I)LCommitLedger$LedgerFile;"⟩
theorem d_Di_newFile_0 : decode b_Di_newFile 0 = .ok (.aload_n 0, 1) := by decide +kernel
theorem d_Di_newFile_1 : decode b_Di_newFile 1 = .ok (.getfield 16, 3) := by decide +kernel
theorem d_Di_newFile_4 : decode b_Di_newFile 4 = .ok (.invokevirtual 19, 3) := by decide +kernel
theorem d_Di_newFile_7 : decode b_Di_newFile 7 = .ok (.ifCond .eq 13, 3) := by decide +kernel
theorem d_Di_newFile_10 : decode b_Di_newFile 10 = .ok (.new 23, 3) := by decide +kernel
theorem d_Di_newFile_13 : decode b_Di_newFile 13 = .ok (.dup, 1) := by decide +kernel
theorem d_Di_newFile_14 : decode b_Di_newFile 14 = .ok (.invokespecial 25, 3) := by decide +kernel
theorem d_Di_newFile_17 : decode b_Di_newFile 17 = .ok (.goto 22, 3) := by decide +kernel
theorem d_Di_newFile_20 : decode b_Di_newFile 20 = .ok (.aload_n 0, 1) := by decide +kernel
theorem d_Di_newFile_21 : decode b_Di_newFile 21 = .ok (.getfield 16, 3) := by decide +kernel
theorem d_Di_newFile_24 : decode b_Di_newFile 24 = .ok (.aload_n 0, 1) := by decide +kernel
theorem d_Di_newFile_25 : decode b_Di_newFile 25 = .ok (.getfield 16, 3) := by decide +kernel
theorem d_Di_newFile_28 : decode b_Di_newFile 28 = .ok (.invokevirtual 26, 3) := by decide +kernel
theorem d_Di_newFile_31 : decode b_Di_newFile 31 = .ok (.iconst 1, 1) := by decide +kernel
theorem d_Di_newFile_32 : decode b_Di_newFile 32 = .ok (.isub, 1) := by decide +kernel
theorem d_Di_newFile_33 : decode b_Di_newFile 33 = .ok (.invokevirtual 30, 3) := by decide +kernel
theorem d_Di_newFile_36 : decode b_Di_newFile 36 = .ok (.checkcast 23, 3) := by decide +kernel
theorem d_Di_newFile_39 : decode b_Di_newFile 39 = .ok (.astore_n 2, 1) := by decide +kernel
theorem d_Di_newFile_40 : decode b_Di_newFile 40 = .ok (.aload_n 2, 1) := by decide +kernel
theorem d_Di_newFile_41 : decode b_Di_newFile 41 = .ok (.aload_n 0, 1) := by decide +kernel
theorem d_Di_newFile_42 : decode b_Di_newFile 42 = .ok (.getfield 34, 3) := by decide +kernel
theorem d_Di_newFile_45 : decode b_Di_newFile 45 = .ok (.putfield 38, 3) := by decide +kernel
theorem d_Di_newFile_48 : decode b_Di_newFile 48 = .ok (.aload_n 2, 1) := by decide +kernel
theorem d_Di_newFile_49 : decode b_Di_newFile 49 = .ok (.iconst 0, 1) := by decide +kernel
theorem d_Di_newFile_50 : decode b_Di_newFile 50 = .ok (.putfield 41, 3) := by decide +kernel
theorem d_Di_newFile_53 : decode b_Di_newFile 53 = .ok (.aload_n 2, 1) := by decide +kernel
theorem d_Di_newFile_54 : decode b_Di_newFile 54 = .ok (.iconst 0, 1) := by decide +kernel
theorem d_Di_newFile_55 : decode b_Di_newFile 55 = .ok (.putfield 45, 3) := by decide +kernel
theorem d_Di_newFile_58 : decode b_Di_newFile 58 = .ok (.aload_n 2, 1) := by decide +kernel
theorem d_Di_newFile_59 : decode b_Di_newFile 59 = .ok (.iconst 1, 1) := by decide +kernel
theorem d_Di_newFile_60 : decode b_Di_newFile 60 = .ok (.putfield 48, 3) := by decide +kernel
theorem d_Di_newFile_63 : decode b_Di_newFile 63 = .ok (.aload_n 2, 1) := by decide +kernel
theorem d_Di_newFile_64 : decode b_Di_newFile 64 = .ok (.iload_n 1, 1) := by decide +kernel
theorem d_Di_newFile_65 : decode b_Di_newFile 65 = .ok (.putfield 51, 3) := by decide +kernel
theorem d_Di_newFile_68 : decode b_Di_newFile 68 = .ok (.aload_n 2, 1) := by decide +kernel
theorem d_Di_newFile_69 : decode b_Di_newFile 69 = .ok (.iconst 0, 1) := by decide +kernel
theorem d_Di_newFile_70 : decode b_Di_newFile 70 = .ok (.putfield 54, 3) := by decide +kernel
theorem d_Di_newFile_73 : decode b_Di_newFile 73 = .ok (.aload_n 2, 1) := by decide +kernel
theorem d_Di_newFile_74 : decode b_Di_newFile 74 = .ok (.iconst 0, 1) := by decide +kernel
theorem d_Di_newFile_75 : decode b_Di_newFile 75 = .ok (.putfield 57, 3) := by decide +kernel
theorem d_Di_newFile_78 : decode b_Di_newFile 78 = .ok (.aload_n 0, 1) := by decide +kernel
theorem d_Di_newFile_79 : decode b_Di_newFile 79 = .ok (.dup, 1) := by decide +kernel
theorem d_Di_newFile_80 : decode b_Di_newFile 80 = .ok (.getfield 34, 3) := by decide +kernel
theorem d_Di_newFile_83 : decode b_Di_newFile 83 = .ok (.iconst 1, 1) := by decide +kernel
theorem d_Di_newFile_84 : decode b_Di_newFile 84 = .ok (.iadd, 1) := by decide +kernel
theorem d_Di_newFile_85 : decode b_Di_newFile 85 = .ok (.putfield 34, 3) := by decide +kernel
theorem d_Di_newFile_88 : decode b_Di_newFile 88 = .ok (.aload_n 0, 1) := by decide +kernel
theorem d_Di_newFile_89 : decode b_Di_newFile 89 = .ok (.getfield 10, 3) := by decide +kernel
theorem d_Di_newFile_92 : decode b_Di_newFile 92 = .ok (.aload_n 2, 1) := by decide +kernel
theorem d_Di_newFile_93 : decode b_Di_newFile 93 = .ok (.invokevirtual 60, 3) := by decide +kernel
theorem d_Di_newFile_96 : decode b_Di_newFile 96 = .ok (.pop, 1) := by decide +kernel
theorem d_Di_newFile_97 : decode b_Di_newFile 97 = .ok (.aload_n 2, 1) := by decide +kernel
theorem d_Di_newFile_98 : decode b_Di_newFile 98 = .ok (.areturn, 1) := by decide +kernel
theorem kc_Di_newFile : Cond.code y_Di_newFile b_Di_newFile 3 (some (.object "CommitLedger$LedgerFile")) ∈ gx_all := gx_in 623 (by decide +kernel)
abbrev b_En_init : ByteArray := prog_3_method_1_code
def y_En_init : MethodName := ⟨"CommitLedger$Entries", "<init>", "()V"⟩
theorem d_En_init_0 : decode b_En_init 0 = .ok (.aload_n 0, 1) := by decide +kernel
theorem d_En_init_1 : decode b_En_init 1 = .ok (.invokespecial 3, 3) := by decide +kernel
theorem d_En_init_4 : decode b_En_init 4 = .ok (.aload_n 0, 1) := by decide +kernel
theorem d_En_init_5 : decode b_En_init 5 = .ok (.sipush 4096, 3) := by decide +kernel
theorem d_En_init_8 : decode b_En_init 8 = .ok (.newarray .int, 2) := by decide +kernel
theorem d_En_init_10 : decode b_En_init 10 = .ok (.putfield 9, 3) := by decide +kernel
theorem d_En_init_13 : decode b_En_init 13 = .ok (.aload_n 0, 1) := by decide +kernel
theorem d_En_init_14 : decode b_En_init 14 = .ok (.sipush 4096, 3) := by decide +kernel
theorem d_En_init_17 : decode b_En_init 17 = .ok (.newarray .int, 2) := by decide +kernel
theorem d_En_init_19 : decode b_En_init 19 = .ok (.putfield 15, 3) := by decide +kernel
theorem d_En_init_22 : decode b_En_init 22 = .ok (.aload_n 0, 1) := by decide +kernel
theorem d_En_init_23 : decode b_En_init 23 = .ok (.sipush 4096, 3) := by decide +kernel
theorem d_En_init_26 : decode b_En_init 26 = .ok (.newarray .int, 2) := by decide +kernel
theorem d_En_init_28 : decode b_En_init 28 = .ok (.putfield 18, 3) := by decide +kernel
theorem d_En_init_31 : decode b_En_init 31 = .ok (.return_, 1) := by decide +kernel
theorem kc_En_init : Cond.code y_En_init b_En_init 1 none ∈ gx_all := gx_in 40 (by decide +kernel)
abbrev b_En_append : ByteArray := prog_3_method_2_code
def y_En_append : MethodName := ⟨"CommitLedger$Entries", "append", "(III)V"⟩
theorem d_En_append_0 : decode b_En_append 0 = .ok (.aload_n 0, 1) := by decide +kernel
theorem d_En_append_1 : decode b_En_append 1 = .ok (.getfield 9, 3) := by decide +kernel
theorem d_En_append_4 : decode b_En_append 4 = .ok (.aload_n 0, 1) := by decide +kernel
theorem d_En_append_5 : decode b_En_append 5 = .ok (.getfield 21, 3) := by decide +kernel
theorem d_En_append_8 : decode b_En_append 8 = .ok (.iload_n 1, 1) := by decide +kernel
theorem d_En_append_9 : decode b_En_append 9 = .ok (.iastore, 1) := by decide +kernel
theorem d_En_append_10 : decode b_En_append 10 = .ok (.aload_n 0, 1) := by decide +kernel
theorem d_En_append_11 : decode b_En_append 11 = .ok (.getfield 15, 3) := by decide +kernel
theorem d_En_append_14 : decode b_En_append 14 = .ok (.aload_n 0, 1) := by decide +kernel
theorem d_En_append_15 : decode b_En_append 15 = .ok (.getfield 21, 3) := by decide +kernel
theorem d_En_append_18 : decode b_En_append 18 = .ok (.iload_n 2, 1) := by decide +kernel
theorem d_En_append_19 : decode b_En_append 19 = .ok (.iastore, 1) := by decide +kernel
theorem d_En_append_20 : decode b_En_append 20 = .ok (.aload_n 0, 1) := by decide +kernel
theorem d_En_append_21 : decode b_En_append 21 = .ok (.getfield 18, 3) := by decide +kernel
theorem d_En_append_24 : decode b_En_append 24 = .ok (.aload_n 0, 1) := by decide +kernel
theorem d_En_append_25 : decode b_En_append 25 = .ok (.getfield 21, 3) := by decide +kernel
theorem d_En_append_28 : decode b_En_append 28 = .ok (.iload_n 3, 1) := by decide +kernel
theorem d_En_append_29 : decode b_En_append 29 = .ok (.iastore, 1) := by decide +kernel
theorem d_En_append_30 : decode b_En_append 30 = .ok (.aload_n 0, 1) := by decide +kernel
theorem d_En_append_31 : decode b_En_append 31 = .ok (.dup, 1) := by decide +kernel
theorem d_En_append_32 : decode b_En_append 32 = .ok (.getfield 21, 3) := by decide +kernel
theorem d_En_append_35 : decode b_En_append 35 = .ok (.iconst 1, 1) := by decide +kernel
theorem d_En_append_36 : decode b_En_append 36 = .ok (.iadd, 1) := by decide +kernel
theorem d_En_append_37 : decode b_En_append 37 = .ok (.putfield 21, 3) := by decide +kernel
theorem d_En_append_40 : decode b_En_append 40 = .ok (.return_, 1) := by decide +kernel
theorem kc_En_append : Cond.code y_En_append b_En_append 4 none ∈ gx_all := gx_in 595 (by decide +kernel)
abbrev b_Fi_init : ByteArray := prog_4_method_1_code
def y_Fi_init : MethodName := ⟨"CommitLedger$LedgerFile", "<init>", "()V"⟩
theorem d_Fi_init_0 : decode b_Fi_init 0 = .ok (.aload_n 0, 1) := by decide +kernel
theorem d_Fi_init_1 : decode b_Fi_init 1 = .ok (.invokespecial 1, 3) := by decide +kernel
theorem d_Fi_init_4 : decode b_Fi_init 4 = .ok (.return_, 1) := by decide +kernel
theorem kc_Fi_init : Cond.code y_Fi_init b_Fi_init 1 none ∈ gx_all := gx_in 631 (by decide +kernel)
abbrev b_Me_init : ByteArray := prog_5_method_1_code
def y_Me_init : MethodName := ⟨"CommitLedger$Merge", "<init>", "()V"⟩
theorem d_Me_init_0 : decode b_Me_init 0 = .ok (.aload_n 0, 1) := by decide +kernel
theorem d_Me_init_1 : decode b_Me_init 1 = .ok (.invokespecial 1, 3) := by decide +kernel
theorem d_Me_init_4 : decode b_Me_init 4 = .ok (.return_, 1) := by decide +kernel
theorem kc_Me_init : Cond.code y_Me_init b_Me_init 1 none ∈ gx_all := gx_in 145 (by decide +kernel)
abbrev b_Me_begin : ByteArray := prog_5_method_2_code
def y_Me_begin : MethodName := ⟨"CommitLedger$Merge", "begin", "(IIILCommitLedger$LedgerFile;)V"⟩
theorem d_Me_begin_0 : decode b_Me_begin 0 = .ok (.aload_n 0, 1) := by decide +kernel
theorem d_Me_begin_1 : decode b_Me_begin 1 = .ok (.iload_n 1, 1) := by decide +kernel
theorem d_Me_begin_2 : decode b_Me_begin 2 = .ok (.putfield 7, 3) := by decide +kernel
theorem d_Me_begin_5 : decode b_Me_begin 5 = .ok (.aload_n 0, 1) := by decide +kernel
theorem d_Me_begin_6 : decode b_Me_begin 6 = .ok (.iload_n 2, 1) := by decide +kernel
theorem d_Me_begin_7 : decode b_Me_begin 7 = .ok (.putfield 13, 3) := by decide +kernel
theorem d_Me_begin_10 : decode b_Me_begin 10 = .ok (.aload_n 0, 1) := by decide +kernel
theorem d_Me_begin_11 : decode b_Me_begin 11 = .ok (.iload_n 3, 1) := by decide +kernel
theorem d_Me_begin_12 : decode b_Me_begin 12 = .ok (.putfield 16, 3) := by decide +kernel
theorem d_Me_begin_15 : decode b_Me_begin 15 = .ok (.aload_n 0, 1) := by decide +kernel
theorem d_Me_begin_16 : decode b_Me_begin 16 = .ok (.aload 4, 2) := by decide +kernel
theorem d_Me_begin_18 : decode b_Me_begin 18 = .ok (.putfield 19, 3) := by decide +kernel
theorem d_Me_begin_21 : decode b_Me_begin 21 = .ok (.return_, 1) := by decide +kernel
theorem kc_Me_begin : Cond.code y_Me_begin b_Me_begin 5 none ∈ gx_all := gx_in 725 (by decide +kernel)
abbrev b_Me_covers : ByteArray := prog_5_method_3_code
def y_Me_covers : MethodName := ⟨"CommitLedger$Merge", "covers", "(LCommitLedger$LedgerFile;)Z"⟩
theorem d_Me_covers_0 : decode b_Me_covers 0 = .ok (.aload_n 0, 1) := by decide +kernel
theorem d_Me_covers_1 : decode b_Me_covers 1 = .ok (.getfield 13, 3) := by decide +kernel
theorem d_Me_covers_4 : decode b_Me_covers 4 = .ok (.aload_n 1, 1) := by decide +kernel
theorem d_Me_covers_5 : decode b_Me_covers 5 = .ok (.getfield 23, 3) := by decide +kernel
theorem d_Me_covers_8 : decode b_Me_covers 8 = .ok (.if_icmp .gt 18, 3) := by decide +kernel
theorem d_Me_covers_11 : decode b_Me_covers 11 = .ok (.aload_n 1, 1) := by decide +kernel
theorem d_Me_covers_12 : decode b_Me_covers 12 = .ok (.getfield 23, 3) := by decide +kernel
theorem d_Me_covers_15 : decode b_Me_covers 15 = .ok (.aload_n 0, 1) := by decide +kernel
theorem d_Me_covers_16 : decode b_Me_covers 16 = .ok (.getfield 16, 3) := by decide +kernel
theorem d_Me_covers_19 : decode b_Me_covers 19 = .ok (.if_icmp .ge 7, 3) := by decide +kernel
theorem d_Me_covers_22 : decode b_Me_covers 22 = .ok (.iconst 1, 1) := by decide +kernel
theorem d_Me_covers_23 : decode b_Me_covers 23 = .ok (.goto 4, 3) := by decide +kernel
theorem d_Me_covers_26 : decode b_Me_covers 26 = .ok (.iconst 0, 1) := by decide +kernel
theorem d_Me_covers_27 : decode b_Me_covers 27 = .ok (.ireturn, 1) := by decide +kernel
theorem kc_Me_covers : Cond.code y_Me_covers b_Me_covers 2 (some .boolean) ∈ gx_all := gx_in 526 (by decide +kernel)
abbrev b_Re_init : ByteArray := prog_6_method_1_code
def y_Re_init : MethodName := ⟨"CommitLedger$Reader", "<init>", "()V"⟩
theorem d_Re_init_0 : decode b_Re_init 0 = .ok (.aload_n 0, 1) := by decide +kernel
theorem d_Re_init_1 : decode b_Re_init 1 = .ok (.invokespecial 1, 3) := by decide +kernel
theorem d_Re_init_4 : decode b_Re_init 4 = .ok (.aload_n 0, 1) := by decide +kernel
theorem d_Re_init_5 : decode b_Re_init 5 = .ok (.new 7, 3) := by decide +kernel
theorem d_Re_init_8 : decode b_Re_init 8 = .ok (.dup, 1) := by decide +kernel
theorem d_Re_init_9 : decode b_Re_init 9 = .ok (.invokespecial 9, 3) := by decide +kernel
theorem d_Re_init_12 : decode b_Re_init 12 = .ok (.putfield 10, 3) := by decide +kernel
theorem d_Re_init_15 : decode b_Re_init 15 = .ok (.return_, 1) := by decide +kernel
theorem kc_Re_init : Cond.code y_Re_init b_Re_init 1 none ∈ gx_all := gx_in 168 (by decide +kernel)
abbrev b_Vi_init : ByteArray := prog_7_method_1_code
def y_Vi_init : MethodName := ⟨"CommitLedger$View", "<init>", "()V"⟩
theorem d_Vi_init_0 : decode b_Vi_init 0 = .ok (.aload_n 0, 1) := by decide +kernel
theorem d_Vi_init_1 : decode b_Vi_init 1 = .ok (.invokespecial 3, 3) := by decide +kernel
theorem d_Vi_init_4 : decode b_Vi_init 4 = .ok (.aload_n 0, 1) := by decide +kernel
theorem d_Vi_init_5 : decode b_Vi_init 5 = .ok (.sipush 4096, 3) := by decide +kernel
theorem d_Vi_init_8 : decode b_Vi_init 8 = .ok (.anewarray 9, 3) := by decide +kernel
theorem d_Vi_init_11 : decode b_Vi_init 11 = .ok (.putfield 11, 3) := by decide +kernel
theorem d_Vi_init_14 : decode b_Vi_init 14 = .ok (.aload_n 0, 1) := by decide +kernel
theorem d_Vi_init_15 : decode b_Vi_init 15 = .ok (.sipush 4096, 3) := by decide +kernel
theorem d_Vi_init_18 : decode b_Vi_init 18 = .ok (.anewarray 9, 3) := by decide +kernel
theorem d_Vi_init_21 : decode b_Vi_init 21 = .ok (.putfield 17, 3) := by decide +kernel
theorem d_Vi_init_24 : decode b_Vi_init 24 = .ok (.aload_n 0, 1) := by decide +kernel
theorem d_Vi_init_25 : decode b_Vi_init 25 = .ok (.sipush 4096, 3) := by decide +kernel
theorem d_Vi_init_28 : decode b_Vi_init 28 = .ok (.newarray .boolean, 2) := by decide +kernel
theorem d_Vi_init_30 : decode b_Vi_init 30 = .ok (.putfield 20, 3) := by decide +kernel
theorem d_Vi_init_33 : decode b_Vi_init 33 = .ok (.return_, 1) := by decide +kernel
theorem kc_Vi_init : Cond.code y_Vi_init b_Vi_init 1 none ∈ gx_all := gx_in 110 (by decide +kernel)
abbrev b_Vi_append : ByteArray := prog_7_method_6_code
def y_Vi_append : MethodName := ⟨"CommitLedger$View", "append", "(LCommitLedger$LedgerFile;)V"⟩
theorem d_Vi_append_0 : decode b_Vi_append 0 = .ok (.aload_n 0, 1) := by decide +kernel
theorem d_Vi_append_1 : decode b_Vi_append 1 = .ok (.getfield 24, 3) := by decide +kernel
theorem d_Vi_append_4 : decode b_Vi_append 4 = .ok (.sipush 4096, 3) := by decide +kernel
theorem d_Vi_append_7 : decode b_Vi_append 7 = .ok (.if_icmp .ge 23, 3) := by decide +kernel
theorem d_Vi_append_10 : decode b_Vi_append 10 = .ok (.aload_n 0, 1) := by decide +kernel
theorem d_Vi_append_11 : decode b_Vi_append 11 = .ok (.aload_n 0, 1) := by decide +kernel
theorem d_Vi_append_12 : decode b_Vi_append 12 = .ok (.getfield 24, 3) := by decide +kernel
theorem d_Vi_append_15 : decode b_Vi_append 15 = .ok (.aload_n 1, 1) := by decide +kernel
theorem d_Vi_append_16 : decode b_Vi_append 16 = .ok (.aconst_null, 1) := by decide +kernel
theorem d_Vi_append_17 : decode b_Vi_append 17 = .ok (.invokevirtual 31, 3) := by decide +kernel
theorem d_Vi_append_20 : decode b_Vi_append 20 = .ok (.aload_n 0, 1) := by decide +kernel
theorem d_Vi_append_21 : decode b_Vi_append 21 = .ok (.dup, 1) := by decide +kernel
theorem d_Vi_append_22 : decode b_Vi_append 22 = .ok (.getfield 24, 3) := by decide +kernel
theorem d_Vi_append_25 : decode b_Vi_append 25 = .ok (.iconst 1, 1) := by decide +kernel
theorem d_Vi_append_26 : decode b_Vi_append 26 = .ok (.iadd, 1) := by decide +kernel
theorem d_Vi_append_27 : decode b_Vi_append 27 = .ok (.putfield 24, 3) := by decide +kernel
theorem d_Vi_append_30 : decode b_Vi_append 30 = .ok (.return_, 1) := by decide +kernel
theorem kc_Vi_append : Cond.code y_Vi_append b_Vi_append 2 none ∈ gx_all := gx_in 669 (by decide +kernel)
