/-! NAMES: methods and their decode rows, printed by an own text program out of the Statement. -/
abbrev b_Le_prepareAll : ByteArray := prog_1_method_43_code
def y_Le_prepareAll : MethodName := ⟨"CommitLedger", "prepareAll", "()Z"⟩
theorem d_Le_prepareAll_0 : decode b_Le_prepareAll 0 = .ok (.aload_n 0, 1) := by decide +kernel
theorem d_Le_prepareAll_1 : decode b_Le_prepareAll 1 = .ok (.invokevirtual 128, 3) := by decide +kernel
theorem d_Le_prepareAll_4 : decode b_Le_prepareAll 4 = .ok (.aload_n 0, 1) := by decide +kernel
theorem d_Le_prepareAll_5 : decode b_Le_prepareAll 5 = .ok (.getfield 84, 3) := by decide +kernel
theorem d_Le_prepareAll_8 : decode b_Le_prepareAll 8 = .ok (.ifCond .le 19, 3) := by decide +kernel
theorem d_Le_prepareAll_11 : decode b_Le_prepareAll 11 = .ok (.aload_n 0, 1) := by decide +kernel
theorem d_Le_prepareAll_12 : decode b_Le_prepareAll 12 = .ok (.getfield 26, 3) := by decide +kernel
theorem d_Le_prepareAll_15 : decode b_Le_prepareAll 15 = .ok (.aload_n 0, 1) := by decide +kernel
theorem d_Le_prepareAll_16 : decode b_Le_prepareAll 16 = .ok (.getfield 30, 3) := by decide +kernel
theorem d_Le_prepareAll_19 : decode b_Le_prepareAll 19 = .ok (.invokevirtual 349, 3) := by decide +kernel
theorem d_Le_prepareAll_22 : decode b_Le_prepareAll 22 = .ok (.ifCond .eq 5, 3) := by decide +kernel
theorem d_Le_prepareAll_25 : decode b_Le_prepareAll 25 = .ok (.iconst 0, 1) := by decide +kernel
theorem d_Le_prepareAll_26 : decode b_Le_prepareAll 26 = .ok (.ireturn, 1) := by decide +kernel
theorem d_Le_prepareAll_27 : decode b_Le_prepareAll 27 = .ok (.aload_n 0, 1) := by decide +kernel
theorem d_Le_prepareAll_28 : decode b_Le_prepareAll 28 = .ok (.invokevirtual 353, 3) := by decide +kernel
theorem d_Le_prepareAll_31 : decode b_Le_prepareAll 31 = .ok (.aload_n 0, 1) := by decide +kernel
theorem d_Le_prepareAll_32 : decode b_Le_prepareAll 32 = .ok (.invokevirtual 356, 3) := by decide +kernel
theorem d_Le_prepareAll_35 : decode b_Le_prepareAll 35 = .ok (.aload_n 0, 1) := by decide +kernel
theorem d_Le_prepareAll_36 : decode b_Le_prepareAll 36 = .ok (.invokevirtual 311, 3) := by decide +kernel
theorem d_Le_prepareAll_39 : decode b_Le_prepareAll 39 = .ok (.aload_n 0, 1) := by decide +kernel
theorem d_Le_prepareAll_40 : decode b_Le_prepareAll 40 = .ok (.getfield 19, 3) := by decide +kernel
theorem d_Le_prepareAll_43 : decode b_Le_prepareAll 43 = .ok (.iconst 0, 1) := by decide +kernel
theorem d_Le_prepareAll_44 : decode b_Le_prepareAll 44 = .ok (.invokevirtual 314, 3) := by decide +kernel
theorem d_Le_prepareAll_47 : decode b_Le_prepareAll 47 = .ok (.astore_n 1, 1) := by decide +kernel
theorem d_Le_prepareAll_48 : decode b_Le_prepareAll 48 = .ok (.aload_n 0, 1) := by decide +kernel
theorem d_Le_prepareAll_49 : decode b_Le_prepareAll 49 = .ok (.aload_n 1, 1) := by decide +kernel
theorem d_Le_prepareAll_50 : decode b_Le_prepareAll 50 = .ok (.invokevirtual 359, 3) := by decide +kernel
theorem d_Le_prepareAll_53 : decode b_Le_prepareAll 53 = .ok (.aload_n 0, 1) := by decide +kernel
theorem d_Le_prepareAll_54 : decode b_Le_prepareAll 54 = .ok (.getfield 33, 3) := by decide +kernel
theorem d_Le_prepareAll_57 : decode b_Le_prepareAll 57 = .ok (.aload_n 0, 1) := by decide +kernel
theorem d_Le_prepareAll_58 : decode b_Le_prepareAll 58 = .ok (.getfield 26, 3) := by decide +kernel
theorem d_Le_prepareAll_61 : decode b_Le_prepareAll 61 = .ok (.invokevirtual 87, 3) := by decide +kernel
theorem d_Le_prepareAll_64 : decode b_Le_prepareAll 64 = .ok (.aload_n 0, 1) := by decide +kernel
theorem d_Le_prepareAll_65 : decode b_Le_prepareAll 65 = .ok (.getfield 33, 3) := by decide +kernel
theorem d_Le_prepareAll_68 : decode b_Le_prepareAll 68 = .ok (.aload_n 1, 1) := by decide +kernel
theorem d_Le_prepareAll_69 : decode b_Le_prepareAll 69 = .ok (.putfield 362, 3) := by decide +kernel
theorem d_Le_prepareAll_72 : decode b_Le_prepareAll 72 = .ok (.aload_n 0, 1) := by decide +kernel
theorem d_Le_prepareAll_73 : decode b_Le_prepareAll 73 = .ok (.iconst 1, 1) := by decide +kernel
theorem d_Le_prepareAll_74 : decode b_Le_prepareAll 74 = .ok (.putfield 178, 3) := by decide +kernel
theorem d_Le_prepareAll_77 : decode b_Le_prepareAll 77 = .ok (.iconst 1, 1) := by decide +kernel
theorem d_Le_prepareAll_78 : decode b_Le_prepareAll 78 = .ok (.ireturn, 1) := by decide +kernel
theorem kc_Le_prepareAll : Cond.code y_Le_prepareAll b_Le_prepareAll 2 (some .boolean) ∈ gx_all := gx_in 770 (by decide +kernel)
abbrev b_Le_reader : ByteArray := prog_1_method_16_code
def y_Le_reader : MethodName := ⟨"CommitLedger", "reader", "(I)I"⟩
theorem d_Le_reader_0 : decode b_Le_reader 0 = .ok (.iload_n 1, 1) := by decide +kernel
theorem d_Le_reader_1 : decode b_Le_reader 1 = .ok (.iconst 0, 1) := by decide +kernel
theorem d_Le_reader_2 : decode b_Le_reader 2 = .ok (.iconst 1, 1) := by decide +kernel
theorem d_Le_reader_3 : decode b_Le_reader 3 = .ok (.invokestatic 60, 3) := by decide +kernel
theorem d_Le_reader_6 : decode b_Le_reader 6 = .ok (.iload_n 1, 1) := by decide +kernel
theorem d_Le_reader_7 : decode b_Le_reader 7 = .ok (.iconst 1, 1) := by decide +kernel
theorem d_Le_reader_8 : decode b_Le_reader 8 = .ok (.if_icmp .ne 7, 3) := by decide +kernel
theorem d_Le_reader_11 : decode b_Le_reader 11 = .ok (.aload_n 0, 1) := by decide +kernel
theorem d_Le_reader_12 : decode b_Le_reader 12 = .ok (.invokevirtual 112, 3) := by decide +kernel
theorem d_Le_reader_15 : decode b_Le_reader 15 = .ok (.aload_n 0, 1) := by decide +kernel
theorem d_Le_reader_16 : decode b_Le_reader 16 = .ok (.invokevirtual 214, 3) := by decide +kernel
theorem d_Le_reader_19 : decode b_Le_reader 19 = .ok (.astore_n 2, 1) := by decide +kernel
theorem d_Le_reader_20 : decode b_Le_reader 20 = .ok (.aload_n 2, 1) := by decide +kernel
theorem d_Le_reader_21 : decode b_Le_reader 21 = .ok (.ifnonnull 13, 3) := by decide +kernel
theorem d_Le_reader_24 : decode b_Le_reader 24 = .ok (.new 115, 3) := by decide +kernel
theorem d_Le_reader_27 : decode b_Le_reader 27 = .ok (.dup, 1) := by decide +kernel
theorem d_Le_reader_28 : decode b_Le_reader 28 = .ok (.ldc 218, 2) := by decide +kernel
theorem d_Le_reader_30 : decode b_Le_reader 30 = .ok (.invokespecial 119, 3) := by decide +kernel
theorem d_Le_reader_33 : decode b_Le_reader 33 = .ok (.athrow, 1) := by decide +kernel
theorem d_Le_reader_34 : decode b_Le_reader 34 = .ok (.iload_n 1, 1) := by decide +kernel
theorem d_Le_reader_35 : decode b_Le_reader 35 = .ok (.iconst 1, 1) := by decide +kernel
theorem d_Le_reader_36 : decode b_Le_reader 36 = .ok (.if_icmp .ne 17, 3) := by decide +kernel
theorem d_Le_reader_39 : decode b_Le_reader 39 = .ok (.aload_n 0, 1) := by decide +kernel
theorem d_Le_reader_40 : decode b_Le_reader 40 = .ok (.invokevirtual 128, 3) := by decide +kernel
theorem d_Le_reader_43 : decode b_Le_reader 43 = .ok (.aload_n 0, 1) := by decide +kernel
theorem d_Le_reader_44 : decode b_Le_reader 44 = .ok (.aload_n 2, 1) := by decide +kernel
theorem d_Le_reader_45 : decode b_Le_reader 45 = .ok (.aload_n 0, 1) := by decide +kernel
theorem d_Le_reader_46 : decode b_Le_reader 46 = .ok (.getfield 26, 3) := by decide +kernel
theorem d_Le_reader_49 : decode b_Le_reader 49 = .ok (.invokevirtual 220, 3) := by decide +kernel
theorem d_Le_reader_52 : decode b_Le_reader 52 = .ok (.ireturn, 1) := by decide +kernel
theorem d_Le_reader_53 : decode b_Le_reader 53 = .ok (.aload_n 0, 1) := by decide +kernel
theorem d_Le_reader_54 : decode b_Le_reader 54 = .ok (.getfield 84, 3) := by decide +kernel
theorem d_Le_reader_57 : decode b_Le_reader 57 = .ok (.ifCond .ne 13, 3) := by decide +kernel
theorem d_Le_reader_60 : decode b_Le_reader 60 = .ok (.new 150, 3) := by decide +kernel
theorem d_Le_reader_63 : decode b_Le_reader 63 = .ok (.dup, 1) := by decide +kernel
theorem d_Le_reader_64 : decode b_Le_reader 64 = .ok (.ldc 224, 2) := by decide +kernel
theorem d_Le_reader_66 : decode b_Le_reader 66 = .ok (.invokespecial 154, 3) := by decide +kernel
theorem d_Le_reader_69 : decode b_Le_reader 69 = .ok (.athrow, 1) := by decide +kernel
theorem d_Le_reader_70 : decode b_Le_reader 70 = .ok (.aload_n 0, 1) := by decide +kernel
theorem d_Le_reader_71 : decode b_Le_reader 71 = .ok (.invokevirtual 75, 3) := by decide +kernel
theorem d_Le_reader_74 : decode b_Le_reader 74 = .ok (.ifCond .eq 13, 3) := by decide +kernel
theorem d_Le_reader_77 : decode b_Le_reader 77 = .ok (.new 79, 3) := by decide +kernel
theorem d_Le_reader_80 : decode b_Le_reader 80 = .ok (.dup, 1) := by decide +kernel
theorem d_Le_reader_81 : decode b_Le_reader 81 = .ok (.ldc 81, 2) := by decide +kernel
theorem d_Le_reader_83 : decode b_Le_reader 83 = .ok (.invokespecial 83, 3) := by decide +kernel
theorem d_Le_reader_86 : decode b_Le_reader 86 = .ok (.athrow, 1) := by decide +kernel
theorem d_Le_reader_87 : decode b_Le_reader 87 = .ok (.aload_n 0, 1) := by decide +kernel
theorem d_Le_reader_88 : decode b_Le_reader 88 = .ok (.aload_n 2, 1) := by decide +kernel
theorem d_Le_reader_89 : decode b_Le_reader 89 = .ok (.aload_n 0, 1) := by decide +kernel
theorem d_Le_reader_90 : decode b_Le_reader 90 = .ok (.getfield 30, 3) := by decide +kernel
theorem d_Le_reader_93 : decode b_Le_reader 93 = .ok (.invokevirtual 220, 3) := by decide +kernel
theorem d_Le_reader_96 : decode b_Le_reader 96 = .ok (.ireturn, 1) := by decide +kernel
theorem kc_Le_reader : Cond.code y_Le_reader b_Le_reader 3 (some .int) ∈ gx_all := gx_in 845 (by decide +kernel)
abbrev b_Le_release : ByteArray := prog_1_method_17_code
def y_Le_release : MethodName := ⟨"CommitLedger", "release", "(I)V"⟩
theorem d_Le_release_0 : decode b_Le_release 0 = .ok (.aload_n 0, 1) := by decide +kernel
theorem d_Le_release_1 : decode b_Le_release 1 = .ok (.iload_n 1, 1) := by decide +kernel
theorem d_Le_release_2 : decode b_Le_release 2 = .ok (.invokevirtual 226, 3) := by decide +kernel
theorem d_Le_release_5 : decode b_Le_release 5 = .ok (.iconst 0, 1) := by decide +kernel
theorem d_Le_release_6 : decode b_Le_release 6 = .ok (.putfield 230, 3) := by decide +kernel
theorem d_Le_release_9 : decode b_Le_release 9 = .ok (.aload_n 0, 1) := by decide +kernel
theorem d_Le_release_10 : decode b_Le_release 10 = .ok (.invokevirtual 106, 3) := by decide +kernel
theorem d_Le_release_13 : decode b_Le_release 13 = .ok (.return_, 1) := by decide +kernel
theorem kc_Le_release : Cond.code y_Le_release b_Le_release 2 none ∈ gx_all := gx_in 862 (by decide +kernel)
abbrev b_Le_renamePrepared : ByteArray := prog_1_method_47_code
def y_Le_renamePrepared : MethodName := ⟨"CommitLedger", "renamePrepared", "()V"⟩
theorem d_Le_renamePrepared_0 : decode b_Le_renamePrepared 0 = .ok (.aload_n 0, 1) := by decide +kernel
theorem d_Le_renamePrepared_1 : decode b_Le_renamePrepared 1 = .ok (.invokevirtual 311, 3) := by decide +kernel
theorem d_Le_renamePrepared_4 : decode b_Le_renamePrepared 4 = .ok (.aload_n 0, 1) := by decide +kernel
theorem d_Le_renamePrepared_5 : decode b_Le_renamePrepared 5 = .ok (.getfield 30, 3) := by decide +kernel
theorem d_Le_renamePrepared_8 : decode b_Le_renamePrepared 8 = .ok (.astore_n 1, 1) := by decide +kernel
theorem d_Le_renamePrepared_9 : decode b_Le_renamePrepared 9 = .ok (.aload_n 0, 1) := by decide +kernel
theorem d_Le_renamePrepared_10 : decode b_Le_renamePrepared 10 = .ok (.aload_n 0, 1) := by decide +kernel
theorem d_Le_renamePrepared_11 : decode b_Le_renamePrepared 11 = .ok (.getfield 33, 3) := by decide +kernel
theorem d_Le_renamePrepared_14 : decode b_Le_renamePrepared 14 = .ok (.putfield 30, 3) := by decide +kernel
theorem d_Le_renamePrepared_17 : decode b_Le_renamePrepared 17 = .ok (.aload_n 0, 1) := by decide +kernel
theorem d_Le_renamePrepared_18 : decode b_Le_renamePrepared 18 = .ok (.aload_n 1, 1) := by decide +kernel
theorem d_Le_renamePrepared_19 : decode b_Le_renamePrepared 19 = .ok (.putfield 33, 3) := by decide +kernel
theorem d_Le_renamePrepared_22 : decode b_Le_renamePrepared 22 = .ok (.aload_n 0, 1) := by decide +kernel
theorem d_Le_renamePrepared_23 : decode b_Le_renamePrepared 23 = .ok (.iconst 0, 1) := by decide +kernel
theorem d_Le_renamePrepared_24 : decode b_Le_renamePrepared 24 = .ok (.putfield 178, 3) := by decide +kernel
theorem d_Le_renamePrepared_27 : decode b_Le_renamePrepared 27 = .ok (.aload_n 0, 1) := by decide +kernel
theorem d_Le_renamePrepared_28 : decode b_Le_renamePrepared 28 = .ok (.dup, 1) := by decide +kernel
theorem d_Le_renamePrepared_29 : decode b_Le_renamePrepared 29 = .ok (.getfield 84, 3) := by decide +kernel
theorem d_Le_renamePrepared_32 : decode b_Le_renamePrepared 32 = .ok (.iconst 1, 1) := by decide +kernel
theorem d_Le_renamePrepared_33 : decode b_Le_renamePrepared 33 = .ok (.iadd, 1) := by decide +kernel
theorem d_Le_renamePrepared_34 : decode b_Le_renamePrepared 34 = .ok (.putfield 84, 3) := by decide +kernel
theorem d_Le_renamePrepared_37 : decode b_Le_renamePrepared 37 = .ok (.aload_n 0, 1) := by decide +kernel
theorem d_Le_renamePrepared_38 : decode b_Le_renamePrepared 38 = .ok (.invokevirtual 106, 3) := by decide +kernel
theorem d_Le_renamePrepared_41 : decode b_Le_renamePrepared 41 = .ok (.return_, 1) := by decide +kernel
theorem kc_Le_renamePrepared : Cond.code y_Le_renamePrepared b_Le_renamePrepared 2 none ∈ gx_all := gx_in 802 (by decide +kernel)
abbrev b_Le_requireNothingPrepared : ByteArray := prog_1_method_27_code
def y_Le_requireNothingPrepared : MethodName := ⟨"CommitLedger", "requireNothingPrepared", "()V"⟩
theorem d_Le_requireNothingPrepared_0 : decode b_Le_requireNothingPrepared 0 = .ok (.aload_n 0, 1) := by decide +kernel
theorem d_Le_requireNothingPrepared_1 : decode b_Le_requireNothingPrepared 1 = .ok (.getfield 178, 3) := by decide +kernel
theorem d_Le_requireNothingPrepared_4 : decode b_Le_requireNothingPrepared 4 = .ok (.ifCond .eq 14, 3) := by decide +kernel
theorem d_Le_requireNothingPrepared_7 : decode b_Le_requireNothingPrepared 7 = .ok (.new 68, 3) := by decide +kernel
theorem d_Le_requireNothingPrepared_10 : decode b_Le_requireNothingPrepared 10 = .ok (.dup, 1) := by decide +kernel
theorem d_Le_requireNothingPrepared_11 : decode b_Le_requireNothingPrepared 11 = .ok (.ldc_w 290, 3) := by decide +kernel
theorem d_Le_requireNothingPrepared_14 : decode b_Le_requireNothingPrepared 14 = .ok (.invokespecial 72, 3) := by decide +kernel
theorem d_Le_requireNothingPrepared_17 : decode b_Le_requireNothingPrepared 17 = .ok (.athrow, 1) := by decide +kernel
theorem d_Le_requireNothingPrepared_18 : decode b_Le_requireNothingPrepared 18 = .ok (.return_, 1) := by decide +kernel
theorem kc_Le_requireNothingPrepared : Cond.code y_Le_requireNothingPrepared b_Le_requireNothingPrepared 1 none ∈ gx_all := gx_in 765 (by decide +kernel)
abbrev b_Le_requireRange : ByteArray := prog_1_method_25_code
def y_Le_requireRange : MethodName := ⟨"CommitLedger", "requireRange", "(III)V"⟩
theorem d_Le_requireRange_0 : decode b_Le_requireRange 0 = .ok (.iload_n 0, 1) := by decide +kernel
theorem d_Le_requireRange_1 : decode b_Le_requireRange 1 = .ok (.iload_n 1, 1) := by decide +kernel
theorem d_Le_requireRange_2 : decode b_Le_requireRange 2 = .ok (.if_icmp .lt 8, 3) := by decide +kernel
theorem d_Le_requireRange_5 : decode b_Le_requireRange 5 = .ok (.iload_n 0, 1) := by decide +kernel
theorem d_Le_requireRange_6 : decode b_Le_requireRange 6 = .ok (.iload_n 2, 1) := by decide +kernel
theorem d_Le_requireRange_7 : decode b_Le_requireRange 7 = .ok (.if_icmp .le 13, 3) := by decide +kernel
theorem d_Le_requireRange_10 : decode b_Le_requireRange 10 = .ok (.new 191, 3) := by decide +kernel
theorem d_Le_requireRange_13 : decode b_Le_requireRange 13 = .ok (.dup, 1) := by decide +kernel
theorem d_Le_requireRange_14 : decode b_Le_requireRange 14 = .ok (.ldc 193, 2) := by decide +kernel
theorem d_Le_requireRange_16 : decode b_Le_requireRange 16 = .ok (.invokespecial 195, 3) := by decide +kernel
theorem d_Le_requireRange_19 : decode b_Le_requireRange 19 = .ok (.athrow, 1) := by decide +kernel
theorem d_Le_requireRange_20 : decode b_Le_requireRange 20 = .ok (.return_, 1) := by decide +kernel
theorem kc_Le_requireRange : Cond.code y_Le_requireRange b_Le_requireRange 3 none ∈ gx_all := gx_in 390 (by decide +kernel)
abbrev b_Le_requireReader : ByteArray := prog_1_method_28_code
def y_Le_requireReader : MethodName := ⟨"CommitLedger", "requireReader", "(I)LCommitLedger$Reader;"⟩
theorem d_Le_requireReader_0 : decode b_Le_requireReader 0 = .ok (.iconst 0, 1) := by decide +kernel
theorem d_Le_requireReader_1 : decode b_Le_requireReader 1 = .ok (.istore_n 2, 1) := by decide +kernel
theorem d_Le_requireReader_2 : decode b_Le_requireReader 2 = .ok (.iload_n 2, 1) := by decide +kernel
theorem d_Le_requireReader_3 : decode b_Le_requireReader 3 = .ok (.iconst 4, 1) := by decide +kernel
theorem d_Le_requireReader_4 : decode b_Le_requireReader 4 = .ok (.if_icmp .ge 41, 3) := by decide +kernel
theorem d_Le_requireReader_7 : decode b_Le_requireReader 7 = .ok (.aload_n 0, 1) := by decide +kernel
theorem d_Le_requireReader_8 : decode b_Le_requireReader 8 = .ok (.getfield 45, 3) := by decide +kernel
theorem d_Le_requireReader_11 : decode b_Le_requireReader 11 = .ok (.iload_n 2, 1) := by decide +kernel
theorem d_Le_requireReader_12 : decode b_Le_requireReader 12 = .ok (.aaload, 1) := by decide +kernel
theorem d_Le_requireReader_13 : decode b_Le_requireReader 13 = .ok (.getfield 230, 3) := by decide +kernel
theorem d_Le_requireReader_16 : decode b_Le_requireReader 16 = .ok (.ifCond .eq 23, 3) := by decide +kernel
theorem d_Le_requireReader_19 : decode b_Le_requireReader 19 = .ok (.aload_n 0, 1) := by decide +kernel
theorem d_Le_requireReader_20 : decode b_Le_requireReader 20 = .ok (.getfield 45, 3) := by decide +kernel
theorem d_Le_requireReader_23 : decode b_Le_requireReader 23 = .ok (.iload_n 2, 1) := by decide +kernel
theorem d_Le_requireReader_24 : decode b_Le_requireReader 24 = .ok (.aaload, 1) := by decide +kernel
theorem d_Le_requireReader_25 : decode b_Le_requireReader 25 = .ok (.getfield 292, 3) := by decide +kernel
theorem d_Le_requireReader_28 : decode b_Le_requireReader 28 = .ok (.iload_n 1, 1) := by decide +kernel
theorem d_Le_requireReader_29 : decode b_Le_requireReader 29 = .ok (.if_icmp .ne 10, 3) := by decide +kernel
theorem d_Le_requireReader_32 : decode b_Le_requireReader 32 = .ok (.aload_n 0, 1) := by decide +kernel
theorem d_Le_requireReader_33 : decode b_Le_requireReader 33 = .ok (.getfield 45, 3) := by decide +kernel
theorem d_Le_requireReader_36 : decode b_Le_requireReader 36 = .ok (.iload_n 2, 1) := by decide +kernel
theorem d_Le_requireReader_37 : decode b_Le_requireReader 37 = .ok (.aaload, 1) := by decide +kernel
theorem d_Le_requireReader_38 : decode b_Le_requireReader 38 = .ok (.areturn, 1) := by decide +kernel
theorem d_Le_requireReader_39 : decode b_Le_requireReader 39 = .ok (.iinc 2 1, 3) := by decide +kernel
theorem d_Le_requireReader_42 : decode b_Le_requireReader 42 = .ok (.goto (-40), 3) := by decide +kernel
theorem d_Le_requireReader_45 : decode b_Le_requireReader 45 = .ok (.new 150, 3) := by decide +kernel
theorem d_Le_requireReader_48 : decode b_Le_requireReader 48 = .ok (.dup, 1) := by decide +kernel
theorem d_Le_requireReader_49 : decode b_Le_requireReader 49 = .ok (.ldc_w 295, 3) := by decide +kernel
theorem d_Le_requireReader_52 : decode b_Le_requireReader 52 = .ok (.invokespecial 154, 3) := by decide +kernel
theorem d_Le_requireReader_55 : decode b_Le_requireReader 55 = .ok (.athrow, 1) := by decide +kernel
theorem kc_Le_requireReader : Cond.code y_Le_requireReader b_Le_requireReader 3 (some (.object "CommitLedger$Reader")) ∈ gx_all := gx_in 866 (by decide +kernel)
abbrev b_Le_requireWriter : ByteArray := prog_1_method_26_code
def y_Le_requireWriter : MethodName := ⟨"CommitLedger", "requireWriter", "()V"⟩
theorem d_Le_requireWriter_0 : decode b_Le_requireWriter 0 = .ok (.aload_n 0, 1) := by decide +kernel
theorem d_Le_requireWriter_1 : decode b_Le_requireWriter 1 = .ok (.getfield 64, 3) := by decide +kernel
theorem d_Le_requireWriter_4 : decode b_Le_requireWriter 4 = .ok (.ifCond .ne 14, 3) := by decide +kernel
theorem d_Le_requireWriter_7 : decode b_Le_requireWriter 7 = .ok (.new 68, 3) := by decide +kernel
theorem d_Le_requireWriter_10 : decode b_Le_requireWriter 10 = .ok (.dup, 1) := by decide +kernel
theorem d_Le_requireWriter_11 : decode b_Le_requireWriter 11 = .ok (.ldc_w 288, 3) := by decide +kernel
theorem d_Le_requireWriter_14 : decode b_Le_requireWriter 14 = .ok (.invokespecial 72, 3) := by decide +kernel
theorem d_Le_requireWriter_17 : decode b_Le_requireWriter 17 = .ok (.athrow, 1) := by decide +kernel
theorem d_Le_requireWriter_18 : decode b_Le_requireWriter 18 = .ok (.return_, 1) := by decide +kernel
theorem kc_Le_requireWriter : Cond.code y_Le_requireWriter b_Le_requireWriter 1 none ∈ gx_all := gx_in 570 (by decide +kernel)
abbrev b_Le_rollback : ByteArray := prog_1_method_11_code
def y_Le_rollback : MethodName := ⟨"CommitLedger", "rollback", "()V"⟩
theorem d_Le_rollback_0 : decode b_Le_rollback 0 = .ok (.aload_n 0, 1) := by decide +kernel
theorem d_Le_rollback_1 : decode b_Le_rollback 1 = .ok (.invokevirtual 112, 3) := by decide +kernel
theorem d_Le_rollback_4 : decode b_Le_rollback 4 = .ok (.aload_n 0, 1) := by decide +kernel
theorem d_Le_rollback_5 : decode b_Le_rollback 5 = .ok (.invokevirtual 184, 3) := by decide +kernel
theorem d_Le_rollback_8 : decode b_Le_rollback 8 = .ok (.aload_n 0, 1) := by decide +kernel
theorem d_Le_rollback_9 : decode b_Le_rollback 9 = .ok (.invokevirtual 106, 3) := by decide +kernel
theorem d_Le_rollback_12 : decode b_Le_rollback 12 = .ok (.return_, 1) := by decide +kernel
theorem kc_Le_rollback : Cond.code y_Le_rollback b_Le_rollback 1 none ∈ gx_all := gx_in 809 (by decide +kernel)
abbrev b_Le_seen : ByteArray := prog_1_method_21_code
def y_Le_seen : MethodName := ⟨"CommitLedger", "seen", "(II)I"⟩
theorem d_Le_seen_0 : decode b_Le_seen 0 = .ok (.iload_n 2, 1) := by decide +kernel
theorem d_Le_seen_1 : decode b_Le_seen 1 = .ok (.iconst 0, 1) := by decide +kernel
theorem d_Le_seen_2 : decode b_Le_seen 2 = .ok (.iconst 2, 1) := by decide +kernel
theorem d_Le_seen_3 : decode b_Le_seen 3 = .ok (.invokestatic 60, 3) := by decide +kernel
theorem d_Le_seen_6 : decode b_Le_seen 6 = .ok (.aload_n 0, 1) := by decide +kernel
theorem d_Le_seen_7 : decode b_Le_seen 7 = .ok (.iload_n 1, 1) := by decide +kernel
theorem d_Le_seen_8 : decode b_Le_seen 8 = .ok (.invokevirtual 226, 3) := by decide +kernel
theorem d_Le_seen_11 : decode b_Le_seen 11 = .ok (.getfield 233, 3) := by decide +kernel
theorem d_Le_seen_14 : decode b_Le_seen 14 = .ok (.astore_n 3, 1) := by decide +kernel
theorem d_Le_seen_15 : decode b_Le_seen 15 = .ok (.iload_n 2, 1) := by decide +kernel
theorem d_Le_seen_16 : decode b_Le_seen 16 = .ok (.lookupswitch 46 #[(0, 28), (1, 41)], 28) := by decide +kernel
theorem d_Le_seen_44 : decode b_Le_seen 44 = .ok (.aload_n 3, 1) := by decide +kernel
theorem d_Le_seen_45 : decode b_Le_seen 45 = .ok (.iconst 0, 1) := by decide +kernel
theorem d_Le_seen_46 : decode b_Le_seen 46 = .ok (.aload_n 0, 1) := by decide +kernel
theorem d_Le_seen_47 : decode b_Le_seen 47 = .ok (.getfield 10, 3) := by decide +kernel
theorem d_Le_seen_50 : decode b_Le_seen 50 = .ok (.getfield 94, 3) := by decide +kernel
theorem d_Le_seen_53 : decode b_Le_seen 53 = .ok (.invokevirtual 246, 3) := by decide +kernel
theorem d_Le_seen_56 : decode b_Le_seen 56 = .ok (.ireturn, 1) := by decide +kernel
theorem d_Le_seen_57 : decode b_Le_seen 57 = .ok (.aload_n 3, 1) := by decide +kernel
theorem d_Le_seen_58 : decode b_Le_seen 58 = .ok (.invokevirtual 249, 3) := by decide +kernel
theorem d_Le_seen_61 : decode b_Le_seen 61 = .ok (.ireturn, 1) := by decide +kernel
theorem d_Le_seen_62 : decode b_Le_seen 62 = .ok (.aload_n 3, 1) := by decide +kernel
theorem d_Le_seen_63 : decode b_Le_seen 63 = .ok (.getfield 109, 3) := by decide +kernel
theorem d_Le_seen_66 : decode b_Le_seen 66 = .ok (.ireturn, 1) := by decide +kernel
theorem kc_Le_seen : Cond.code y_Le_seen b_Le_seen 4 (some .int) ∈ gx_all := gx_in 897 (by decide +kernel)
abbrev b_Le_segment : ByteArray := prog_1_method_22_code
def y_Le_segment : MethodName := ⟨"CommitLedger", "segment", "(II)I"⟩
theorem d_Le_segment_0 : decode b_Le_segment 0 = .ok (.iload_n 2, 1) := by decide +kernel
theorem d_Le_segment_1 : decode b_Le_segment 1 = .ok (.iconst 0, 1) := by decide +kernel
theorem d_Le_segment_2 : decode b_Le_segment 2 = .ok (.iconst 4, 1) := by decide +kernel
theorem d_Le_segment_3 : decode b_Le_segment 3 = .ok (.invokestatic 60, 3) := by decide +kernel
theorem d_Le_segment_6 : decode b_Le_segment 6 = .ok (.aload_n 0, 1) := by decide +kernel
theorem d_Le_segment_7 : decode b_Le_segment 7 = .ok (.invokevirtual 112, 3) := by decide +kernel
theorem d_Le_segment_10 : decode b_Le_segment 10 = .ok (.iload_n 1, 1) := by decide +kernel
theorem d_Le_segment_11 : decode b_Le_segment 11 = .ok (.ifCond .lt 14, 3) := by decide +kernel
theorem d_Le_segment_14 : decode b_Le_segment 14 = .ok (.iload_n 1, 1) := by decide +kernel
theorem d_Le_segment_15 : decode b_Le_segment 15 = .ok (.aload_n 0, 1) := by decide +kernel
theorem d_Le_segment_16 : decode b_Le_segment 16 = .ok (.getfield 26, 3) := by decide +kernel
theorem d_Le_segment_19 : decode b_Le_segment 19 = .ok (.getfield 109, 3) := by decide +kernel
theorem d_Le_segment_22 : decode b_Le_segment 22 = .ok (.if_icmp .lt 13, 3) := by decide +kernel
theorem d_Le_segment_25 : decode b_Le_segment 25 = .ok (.new 150, 3) := by decide +kernel
theorem d_Le_segment_28 : decode b_Le_segment 28 = .ok (.dup, 1) := by decide +kernel
theorem d_Le_segment_29 : decode b_Le_segment 29 = .ok (.ldc 252, 2) := by decide +kernel
theorem d_Le_segment_31 : decode b_Le_segment 31 = .ok (.invokespecial 154, 3) := by decide +kernel
theorem d_Le_segment_34 : decode b_Le_segment 34 = .ok (.athrow, 1) := by decide +kernel
theorem d_Le_segment_35 : decode b_Le_segment 35 = .ok (.aload_n 0, 1) := by decide +kernel
theorem d_Le_segment_36 : decode b_Le_segment 36 = .ok (.getfield 26, 3) := by decide +kernel
theorem d_Le_segment_39 : decode b_Le_segment 39 = .ok (.getfield 254, 3) := by decide +kernel
theorem d_Le_segment_42 : decode b_Le_segment 42 = .ok (.iload_n 1, 1) := by decide +kernel
theorem d_Le_segment_43 : decode b_Le_segment 43 = .ok (.aaload, 1) := by decide +kernel
theorem d_Le_segment_44 : decode b_Le_segment 44 = .ok (.astore_n 3, 1) := by decide +kernel
theorem d_Le_segment_45 : decode b_Le_segment 45 = .ok (.iload_n 2, 1) := by decide +kernel
theorem d_Le_segment_46 : decode b_Le_segment 46 = .ok (.tableswitch 61 0 3 #[30, 35, 49, 55], 30) := by decide +kernel
theorem d_Le_segment_76 : decode b_Le_segment 76 = .ok (.aload_n 3, 1) := by decide +kernel
theorem d_Le_segment_77 : decode b_Le_segment 77 = .ok (.getfield 258, 3) := by decide +kernel
theorem d_Le_segment_80 : decode b_Le_segment 80 = .ok (.ireturn, 1) := by decide +kernel
theorem d_Le_segment_81 : decode b_Le_segment 81 = .ok (.aload_n 3, 1) := by decide +kernel
theorem d_Le_segment_82 : decode b_Le_segment 82 = .ok (.getfield 258, 3) := by decide +kernel
theorem d_Le_segment_85 : decode b_Le_segment 85 = .ok (.aload_n 0, 1) := by decide +kernel
theorem d_Le_segment_86 : decode b_Le_segment 86 = .ok (.getfield 26, 3) := by decide +kernel
theorem d_Le_segment_89 : decode b_Le_segment 89 = .ok (.aload_n 3, 1) := by decide +kernel
theorem d_Le_segment_90 : decode b_Le_segment 90 = .ok (.invokevirtual 261, 3) := by decide +kernel
theorem d_Le_segment_93 : decode b_Le_segment 93 = .ok (.isub, 1) := by decide +kernel
theorem d_Le_segment_94 : decode b_Le_segment 94 = .ok (.ireturn, 1) := by decide +kernel
theorem d_Le_segment_95 : decode b_Le_segment 95 = .ok (.aload_n 0, 1) := by decide +kernel
theorem d_Le_segment_96 : decode b_Le_segment 96 = .ok (.aload_n 3, 1) := by decide +kernel
theorem d_Le_segment_97 : decode b_Le_segment 97 = .ok (.invokevirtual 265, 3) := by decide +kernel
theorem d_Le_segment_100 : decode b_Le_segment 100 = .ok (.ireturn, 1) := by decide +kernel
theorem d_Le_segment_101 : decode b_Le_segment 101 = .ok (.aload_n 0, 1) := by decide +kernel
theorem d_Le_segment_102 : decode b_Le_segment 102 = .ok (.aload_n 3, 1) := by decide +kernel
theorem d_Le_segment_103 : decode b_Le_segment 103 = .ok (.invokevirtual 268, 3) := by decide +kernel
theorem d_Le_segment_106 : decode b_Le_segment 106 = .ok (.ireturn, 1) := by decide +kernel
theorem d_Le_segment_107 : decode b_Le_segment 107 = .ok (.aload_n 0, 1) := by decide +kernel
theorem d_Le_segment_108 : decode b_Le_segment 108 = .ok (.getfield 10, 3) := by decide +kernel
theorem d_Le_segment_111 : decode b_Le_segment 111 = .ok (.getfield 241, 3) := by decide +kernel
theorem d_Le_segment_114 : decode b_Le_segment 114 = .ok (.aload_n 3, 1) := by decide +kernel
theorem d_Le_segment_115 : decode b_Le_segment 115 = .ok (.getfield 271, 3) := by decide +kernel
theorem d_Le_segment_118 : decode b_Le_segment 118 = .ok (.iaload, 1) := by decide +kernel
theorem d_Le_segment_119 : decode b_Le_segment 119 = .ok (.ireturn, 1) := by decide +kernel
theorem kc_Le_segment : Cond.code y_Le_segment b_Le_segment 4 (some .int) ∈ gx_all := gx_in 904 (by decide +kernel)
abbrev b_Le_serial : ByteArray := prog_1_method_20_code
def y_Le_serial : MethodName := ⟨"CommitLedger", "serial", "(II)I"⟩
theorem d_Le_serial_0 : decode b_Le_serial 0 = .ok (.aload_n 0, 1) := by decide +kernel
theorem d_Le_serial_1 : decode b_Le_serial 1 = .ok (.iload_n 1, 1) := by decide +kernel
theorem d_Le_serial_2 : decode b_Le_serial 2 = .ok (.invokevirtual 226, 3) := by decide +kernel
theorem d_Le_serial_5 : decode b_Le_serial 5 = .ok (.getfield 233, 3) := by decide +kernel
theorem d_Le_serial_8 : decode b_Le_serial 8 = .ok (.astore_n 3, 1) := by decide +kernel
theorem d_Le_serial_9 : decode b_Le_serial 9 = .ok (.iconst 0, 1) := by decide +kernel
theorem d_Le_serial_10 : decode b_Le_serial 10 = .ok (.istore 4, 2) := by decide +kernel
theorem d_Le_serial_12 : decode b_Le_serial 12 = .ok (.iconst 0, 1) := by decide +kernel
theorem d_Le_serial_13 : decode b_Le_serial 13 = .ok (.istore 5, 2) := by decide +kernel
theorem d_Le_serial_15 : decode b_Le_serial 15 = .ok (.iload 5, 2) := by decide +kernel
theorem d_Le_serial_17 : decode b_Le_serial 17 = .ok (.aload_n 0, 1) := by decide +kernel
theorem d_Le_serial_18 : decode b_Le_serial 18 = .ok (.getfield 10, 3) := by decide +kernel
theorem d_Le_serial_21 : decode b_Le_serial 21 = .ok (.getfield 94, 3) := by decide +kernel
theorem d_Le_serial_24 : decode b_Le_serial 24 = .ok (.if_icmp .ge 39, 3) := by decide +kernel
theorem d_Le_serial_27 : decode b_Le_serial 27 = .ok (.aload_n 3, 1) := by decide +kernel
theorem d_Le_serial_28 : decode b_Le_serial 28 = .ok (.getfield 134, 3) := by decide +kernel
theorem d_Le_serial_31 : decode b_Le_serial 31 = .ok (.iload 5, 2) := by decide +kernel
theorem d_Le_serial_33 : decode b_Le_serial 33 = .ok (.baload, 1) := by decide +kernel
theorem d_Le_serial_34 : decode b_Le_serial 34 = .ok (.ifCond .eq 23, 3) := by decide +kernel
theorem d_Le_serial_37 : decode b_Le_serial 37 = .ok (.iload 4, 2) := by decide +kernel
theorem d_Le_serial_39 : decode b_Le_serial 39 = .ok (.iload_n 2, 1) := by decide +kernel
theorem d_Le_serial_40 : decode b_Le_serial 40 = .ok (.if_icmp .ne 14, 3) := by decide +kernel
theorem d_Le_serial_43 : decode b_Le_serial 43 = .ok (.aload_n 0, 1) := by decide +kernel
theorem d_Le_serial_44 : decode b_Le_serial 44 = .ok (.getfield 10, 3) := by decide +kernel
theorem d_Le_serial_47 : decode b_Le_serial 47 = .ok (.getfield 241, 3) := by decide +kernel
theorem d_Le_serial_50 : decode b_Le_serial 50 = .ok (.iload 5, 2) := by decide +kernel
theorem d_Le_serial_52 : decode b_Le_serial 52 = .ok (.iaload, 1) := by decide +kernel
theorem d_Le_serial_53 : decode b_Le_serial 53 = .ok (.ireturn, 1) := by decide +kernel
theorem d_Le_serial_54 : decode b_Le_serial 54 = .ok (.iinc 4 1, 3) := by decide +kernel
theorem d_Le_serial_57 : decode b_Le_serial 57 = .ok (.iinc 5 1, 3) := by decide +kernel
theorem d_Le_serial_60 : decode b_Le_serial 60 = .ok (.goto (-45), 3) := by decide +kernel
theorem d_Le_serial_63 : decode b_Le_serial 63 = .ok (.new 150, 3) := by decide +kernel
theorem d_Le_serial_66 : decode b_Le_serial 66 = .ok (.dup, 1) := by decide +kernel
theorem d_Le_serial_67 : decode b_Le_serial 67 = .ok (.ldc 244, 2) := by decide +kernel
theorem d_Le_serial_69 : decode b_Le_serial 69 = .ok (.invokespecial 154, 3) := by decide +kernel
theorem d_Le_serial_72 : decode b_Le_serial 72 = .ok (.athrow, 1) := by decide +kernel
theorem kc_Le_serial : Cond.code y_Le_serial b_Le_serial 6 (some .int) ∈ gx_all := gx_in 889 (by decide +kernel)
abbrev b_Le_syncIfNeeded : ByteArray := prog_1_method_46_code
def y_Le_syncIfNeeded : MethodName := ⟨"CommitLedger", "syncIfNeeded", "(LCommitLedger$LedgerFile;)V"⟩
theorem d_Le_syncIfNeeded_0 : decode b_Le_syncIfNeeded 0 = .ok (.aload_n 1, 1) := by decide +kernel
theorem d_Le_syncIfNeeded_1 : decode b_Le_syncIfNeeded 1 = .ok (.ifnull 19, 3) := by decide +kernel
theorem d_Le_syncIfNeeded_4 : decode b_Le_syncIfNeeded 4 = .ok (.aload_n 1, 1) := by decide +kernel
theorem d_Le_syncIfNeeded_5 : decode b_Le_syncIfNeeded 5 = .ok (.getfield 370, 3) := by decide +kernel
theorem d_Le_syncIfNeeded_8 : decode b_Le_syncIfNeeded 8 = .ok (.ifCond .ne 12, 3) := by decide +kernel
theorem d_Le_syncIfNeeded_11 : decode b_Le_syncIfNeeded 11 = .ok (.aload_n 0, 1) := by decide +kernel
theorem d_Le_syncIfNeeded_12 : decode b_Le_syncIfNeeded 12 = .ok (.invokevirtual 311, 3) := by decide +kernel
theorem d_Le_syncIfNeeded_15 : decode b_Le_syncIfNeeded 15 = .ok (.aload_n 1, 1) := by decide +kernel
theorem d_Le_syncIfNeeded_16 : decode b_Le_syncIfNeeded 16 = .ok (.iconst 1, 1) := by decide +kernel
theorem d_Le_syncIfNeeded_17 : decode b_Le_syncIfNeeded 17 = .ok (.putfield 370, 3) := by decide +kernel
theorem d_Le_syncIfNeeded_20 : decode b_Le_syncIfNeeded 20 = .ok (.return_, 1) := by decide +kernel
theorem kc_Le_syncIfNeeded : Cond.code y_Le_syncIfNeeded b_Le_syncIfNeeded 2 none ∈ gx_all := gx_in 791 (by decide +kernel)
abbrev b_Le_syncSegments : ByteArray := prog_1_method_45_code
def y_Le_syncSegments : MethodName := ⟨"CommitLedger", "syncSegments", "()V"⟩
theorem d_Le_syncSegments_0 : decode b_Le_syncSegments 0 = .ok (.iconst 0, 1) := by decide +kernel
theorem d_Le_syncSegments_1 : decode b_Le_syncSegments 1 = .ok (.istore_n 1, 1) := by decide +kernel
theorem d_Le_syncSegments_2 : decode b_Le_syncSegments 2 = .ok (.iload_n 1, 1) := by decide +kernel
theorem d_Le_syncSegments_3 : decode b_Le_syncSegments 3 = .ok (.aload_n 0, 1) := by decide +kernel
theorem d_Le_syncSegments_4 : decode b_Le_syncSegments 4 = .ok (.getfield 26, 3) := by decide +kernel
theorem d_Le_syncSegments_7 : decode b_Le_syncSegments 7 = .ok (.getfield 109, 3) := by decide +kernel
theorem d_Le_syncSegments_10 : decode b_Le_syncSegments 10 = .ok (.if_icmp .ge 35, 3) := by decide +kernel
theorem d_Le_syncSegments_13 : decode b_Le_syncSegments 13 = .ok (.aload_n 0, 1) := by decide +kernel
theorem d_Le_syncSegments_14 : decode b_Le_syncSegments 14 = .ok (.aload_n 0, 1) := by decide +kernel
theorem d_Le_syncSegments_15 : decode b_Le_syncSegments 15 = .ok (.getfield 26, 3) := by decide +kernel
theorem d_Le_syncSegments_18 : decode b_Le_syncSegments 18 = .ok (.getfield 254, 3) := by decide +kernel
theorem d_Le_syncSegments_21 : decode b_Le_syncSegments 21 = .ok (.iload_n 1, 1) := by decide +kernel
theorem d_Le_syncSegments_22 : decode b_Le_syncSegments 22 = .ok (.aaload, 1) := by decide +kernel
theorem d_Le_syncSegments_23 : decode b_Le_syncSegments 23 = .ok (.invokevirtual 359, 3) := by decide +kernel
theorem d_Le_syncSegments_26 : decode b_Le_syncSegments 26 = .ok (.aload_n 0, 1) := by decide +kernel
theorem d_Le_syncSegments_27 : decode b_Le_syncSegments 27 = .ok (.aload_n 0, 1) := by decide +kernel
theorem d_Le_syncSegments_28 : decode b_Le_syncSegments 28 = .ok (.getfield 26, 3) := by decide +kernel
theorem d_Le_syncSegments_31 : decode b_Le_syncSegments 31 = .ok (.getfield 323, 3) := by decide +kernel
theorem d_Le_syncSegments_34 : decode b_Le_syncSegments 34 = .ok (.iload_n 1, 1) := by decide +kernel
theorem d_Le_syncSegments_35 : decode b_Le_syncSegments 35 = .ok (.aaload, 1) := by decide +kernel
theorem d_Le_syncSegments_36 : decode b_Le_syncSegments 36 = .ok (.invokevirtual 359, 3) := by decide +kernel
theorem d_Le_syncSegments_39 : decode b_Le_syncSegments 39 = .ok (.iinc 1 1, 3) := by decide +kernel
theorem d_Le_syncSegments_42 : decode b_Le_syncSegments 42 = .ok (.goto (-40), 3) := by decide +kernel
theorem d_Le_syncSegments_45 : decode b_Le_syncSegments 45 = .ok (.return_, 1) := by decide +kernel
theorem kc_Le_syncSegments : Cond.code y_Le_syncSegments b_Le_syncSegments 2 none ∈ gx_all := gx_in 787 (by decide +kernel)
