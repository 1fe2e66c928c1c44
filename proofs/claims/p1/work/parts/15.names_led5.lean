/-! NAMES: methods and their decode rows, printed by an own text program out of the Statement. -/
abbrev b_Vi_becomeEmpty : ByteArray := prog_7_method_2_code
def y_Vi_becomeEmpty : MethodName := ⟨"CommitLedger$View", "becomeEmpty", "()V"⟩
theorem d_Vi_becomeEmpty_0 : decode b_Vi_becomeEmpty 0 = .ok (.aload_n 0, 1) := by decide +kernel
theorem d_Vi_becomeEmpty_1 : decode b_Vi_becomeEmpty 1 = .ok (.iconst 0, 1) := by decide +kernel
theorem d_Vi_becomeEmpty_2 : decode b_Vi_becomeEmpty 2 = .ok (.putfield 24, 3) := by decide +kernel
theorem d_Vi_becomeEmpty_5 : decode b_Vi_becomeEmpty 5 = .ok (.aload_n 0, 1) := by decide +kernel
theorem d_Vi_becomeEmpty_6 : decode b_Vi_becomeEmpty 6 = .ok (.iconst 0, 1) := by decide +kernel
theorem d_Vi_becomeEmpty_7 : decode b_Vi_becomeEmpty 7 = .ok (.putfield 28, 3) := by decide +kernel
theorem d_Vi_becomeEmpty_10 : decode b_Vi_becomeEmpty 10 = .ok (.iconst 0, 1) := by decide +kernel
theorem d_Vi_becomeEmpty_11 : decode b_Vi_becomeEmpty 11 = .ok (.istore_n 1, 1) := by decide +kernel
theorem d_Vi_becomeEmpty_12 : decode b_Vi_becomeEmpty 12 = .ok (.iload_n 1, 1) := by decide +kernel
theorem d_Vi_becomeEmpty_13 : decode b_Vi_becomeEmpty 13 = .ok (.sipush 4096, 3) := by decide +kernel
theorem d_Vi_becomeEmpty_16 : decode b_Vi_becomeEmpty 16 = .ok (.if_icmp .ge 16, 3) := by decide +kernel
theorem d_Vi_becomeEmpty_19 : decode b_Vi_becomeEmpty 19 = .ok (.aload_n 0, 1) := by decide +kernel
theorem d_Vi_becomeEmpty_20 : decode b_Vi_becomeEmpty 20 = .ok (.getfield 20, 3) := by decide +kernel
theorem d_Vi_becomeEmpty_23 : decode b_Vi_becomeEmpty 23 = .ok (.iload_n 1, 1) := by decide +kernel
theorem d_Vi_becomeEmpty_24 : decode b_Vi_becomeEmpty 24 = .ok (.iconst 0, 1) := by decide +kernel
theorem d_Vi_becomeEmpty_25 : decode b_Vi_becomeEmpty 25 = .ok (.bastore, 1) := by decide +kernel
theorem d_Vi_becomeEmpty_26 : decode b_Vi_becomeEmpty 26 = .ok (.iinc 1 1, 3) := by decide +kernel
theorem d_Vi_becomeEmpty_29 : decode b_Vi_becomeEmpty 29 = .ok (.goto (-17), 3) := by decide +kernel
theorem d_Vi_becomeEmpty_32 : decode b_Vi_becomeEmpty 32 = .ok (.return_, 1) := by decide +kernel
theorem kc_Vi_becomeEmpty : Cond.code y_Vi_becomeEmpty b_Vi_becomeEmpty 2 none ∈ gx_all := gx_in 509 (by decide +kernel)
abbrev b_Vi_copyFrom : ByteArray := prog_7_method_3_code
def y_Vi_copyFrom : MethodName := ⟨"CommitLedger$View", "copyFrom", "(LCommitLedger$View;)V"⟩
theorem d_Vi_copyFrom_0 : decode b_Vi_copyFrom 0 = .ok (.aload_n 0, 1) := by decide +kernel
theorem d_Vi_copyFrom_1 : decode b_Vi_copyFrom 1 = .ok (.aload_n 1, 1) := by decide +kernel
theorem d_Vi_copyFrom_2 : decode b_Vi_copyFrom 2 = .ok (.getfield 24, 3) := by decide +kernel
theorem d_Vi_copyFrom_5 : decode b_Vi_copyFrom 5 = .ok (.putfield 24, 3) := by decide +kernel
theorem d_Vi_copyFrom_8 : decode b_Vi_copyFrom 8 = .ok (.aload_n 0, 1) := by decide +kernel
theorem d_Vi_copyFrom_9 : decode b_Vi_copyFrom 9 = .ok (.aload_n 1, 1) := by decide +kernel
theorem d_Vi_copyFrom_10 : decode b_Vi_copyFrom 10 = .ok (.getfield 28, 3) := by decide +kernel
theorem d_Vi_copyFrom_13 : decode b_Vi_copyFrom 13 = .ok (.putfield 28, 3) := by decide +kernel
theorem d_Vi_copyFrom_16 : decode b_Vi_copyFrom 16 = .ok (.iconst 0, 1) := by decide +kernel
theorem d_Vi_copyFrom_17 : decode b_Vi_copyFrom 17 = .ok (.istore_n 2, 1) := by decide +kernel
theorem d_Vi_copyFrom_18 : decode b_Vi_copyFrom 18 = .ok (.iload_n 2, 1) := by decide +kernel
theorem d_Vi_copyFrom_19 : decode b_Vi_copyFrom 19 = .ok (.aload_n 0, 1) := by decide +kernel
theorem d_Vi_copyFrom_20 : decode b_Vi_copyFrom 20 = .ok (.getfield 24, 3) := by decide +kernel
theorem d_Vi_copyFrom_23 : decode b_Vi_copyFrom 23 = .ok (.if_icmp .ge 33, 3) := by decide +kernel
theorem d_Vi_copyFrom_26 : decode b_Vi_copyFrom 26 = .ok (.aload_n 0, 1) := by decide +kernel
theorem d_Vi_copyFrom_27 : decode b_Vi_copyFrom 27 = .ok (.getfield 11, 3) := by decide +kernel
theorem d_Vi_copyFrom_30 : decode b_Vi_copyFrom 30 = .ok (.iload_n 2, 1) := by decide +kernel
theorem d_Vi_copyFrom_31 : decode b_Vi_copyFrom 31 = .ok (.aload_n 1, 1) := by decide +kernel
theorem d_Vi_copyFrom_32 : decode b_Vi_copyFrom 32 = .ok (.getfield 11, 3) := by decide +kernel
theorem d_Vi_copyFrom_35 : decode b_Vi_copyFrom 35 = .ok (.iload_n 2, 1) := by decide +kernel
theorem d_Vi_copyFrom_36 : decode b_Vi_copyFrom 36 = .ok (.aaload, 1) := by decide +kernel
theorem d_Vi_copyFrom_37 : decode b_Vi_copyFrom 37 = .ok (.aastore, 1) := by decide +kernel
theorem d_Vi_copyFrom_38 : decode b_Vi_copyFrom 38 = .ok (.aload_n 0, 1) := by decide +kernel
theorem d_Vi_copyFrom_39 : decode b_Vi_copyFrom 39 = .ok (.getfield 17, 3) := by decide +kernel
theorem d_Vi_copyFrom_42 : decode b_Vi_copyFrom 42 = .ok (.iload_n 2, 1) := by decide +kernel
theorem d_Vi_copyFrom_43 : decode b_Vi_copyFrom 43 = .ok (.aload_n 1, 1) := by decide +kernel
theorem d_Vi_copyFrom_44 : decode b_Vi_copyFrom 44 = .ok (.getfield 17, 3) := by decide +kernel
theorem d_Vi_copyFrom_47 : decode b_Vi_copyFrom 47 = .ok (.iload_n 2, 1) := by decide +kernel
theorem d_Vi_copyFrom_48 : decode b_Vi_copyFrom 48 = .ok (.aaload, 1) := by decide +kernel
theorem d_Vi_copyFrom_49 : decode b_Vi_copyFrom 49 = .ok (.aastore, 1) := by decide +kernel
theorem d_Vi_copyFrom_50 : decode b_Vi_copyFrom 50 = .ok (.iinc 2 1, 3) := by decide +kernel
theorem d_Vi_copyFrom_53 : decode b_Vi_copyFrom 53 = .ok (.goto (-35), 3) := by decide +kernel
theorem d_Vi_copyFrom_56 : decode b_Vi_copyFrom 56 = .ok (.iconst 0, 1) := by decide +kernel
theorem d_Vi_copyFrom_57 : decode b_Vi_copyFrom 57 = .ok (.istore_n 2, 1) := by decide +kernel
theorem d_Vi_copyFrom_58 : decode b_Vi_copyFrom 58 = .ok (.iload_n 2, 1) := by decide +kernel
theorem d_Vi_copyFrom_59 : decode b_Vi_copyFrom 59 = .ok (.sipush 4096, 3) := by decide +kernel
theorem d_Vi_copyFrom_62 : decode b_Vi_copyFrom 62 = .ok (.if_icmp .ge 21, 3) := by decide +kernel
theorem d_Vi_copyFrom_65 : decode b_Vi_copyFrom 65 = .ok (.aload_n 0, 1) := by decide +kernel
theorem d_Vi_copyFrom_66 : decode b_Vi_copyFrom 66 = .ok (.getfield 20, 3) := by decide +kernel
theorem d_Vi_copyFrom_69 : decode b_Vi_copyFrom 69 = .ok (.iload_n 2, 1) := by decide +kernel
theorem d_Vi_copyFrom_70 : decode b_Vi_copyFrom 70 = .ok (.aload_n 1, 1) := by decide +kernel
theorem d_Vi_copyFrom_71 : decode b_Vi_copyFrom 71 = .ok (.getfield 20, 3) := by decide +kernel
theorem d_Vi_copyFrom_74 : decode b_Vi_copyFrom 74 = .ok (.iload_n 2, 1) := by decide +kernel
theorem d_Vi_copyFrom_75 : decode b_Vi_copyFrom 75 = .ok (.baload, 1) := by decide +kernel
theorem d_Vi_copyFrom_76 : decode b_Vi_copyFrom 76 = .ok (.bastore, 1) := by decide +kernel
theorem d_Vi_copyFrom_77 : decode b_Vi_copyFrom 77 = .ok (.iinc 2 1, 3) := by decide +kernel
theorem d_Vi_copyFrom_80 : decode b_Vi_copyFrom 80 = .ok (.goto (-22), 3) := by decide +kernel
theorem d_Vi_copyFrom_83 : decode b_Vi_copyFrom 83 = .ok (.return_, 1) := by decide +kernel
theorem kc_Vi_copyFrom : Cond.code y_Vi_copyFrom b_Vi_copyFrom 3 none ∈ gx_all := gx_in 505 (by decide +kernel)
abbrev b_Vi_entriesInSegments : ByteArray := prog_7_method_12_code
def y_Vi_entriesInSegments : MethodName := ⟨"CommitLedger$View", "entriesInSegments", "()I"⟩
theorem d_Vi_entriesInSegments_0 : decode b_Vi_entriesInSegments 0 = .ok (.iconst 0, 1) := by decide +kernel
theorem d_Vi_entriesInSegments_1 : decode b_Vi_entriesInSegments 1 = .ok (.istore_n 1, 1) := by decide +kernel
theorem d_Vi_entriesInSegments_2 : decode b_Vi_entriesInSegments 2 = .ok (.iconst 0, 1) := by decide +kernel
theorem d_Vi_entriesInSegments_3 : decode b_Vi_entriesInSegments 3 = .ok (.istore_n 2, 1) := by decide +kernel
theorem d_Vi_entriesInSegments_4 : decode b_Vi_entriesInSegments 4 = .ok (.iload_n 2, 1) := by decide +kernel
theorem d_Vi_entriesInSegments_5 : decode b_Vi_entriesInSegments 5 = .ok (.aload_n 0, 1) := by decide +kernel
theorem d_Vi_entriesInSegments_6 : decode b_Vi_entriesInSegments 6 = .ok (.getfield 24, 3) := by decide +kernel
theorem d_Vi_entriesInSegments_9 : decode b_Vi_entriesInSegments 9 = .ok (.if_icmp .ge 21, 3) := by decide +kernel
theorem d_Vi_entriesInSegments_12 : decode b_Vi_entriesInSegments 12 = .ok (.iload_n 1, 1) := by decide +kernel
theorem d_Vi_entriesInSegments_13 : decode b_Vi_entriesInSegments 13 = .ok (.aload_n 0, 1) := by decide +kernel
theorem d_Vi_entriesInSegments_14 : decode b_Vi_entriesInSegments 14 = .ok (.getfield 11, 3) := by decide +kernel
theorem d_Vi_entriesInSegments_17 : decode b_Vi_entriesInSegments 17 = .ok (.iload_n 2, 1) := by decide +kernel
theorem d_Vi_entriesInSegments_18 : decode b_Vi_entriesInSegments 18 = .ok (.aaload, 1) := by decide +kernel
theorem d_Vi_entriesInSegments_19 : decode b_Vi_entriesInSegments 19 = .ok (.getfield 55, 3) := by decide +kernel
theorem d_Vi_entriesInSegments_22 : decode b_Vi_entriesInSegments 22 = .ok (.iadd, 1) := by decide +kernel
theorem d_Vi_entriesInSegments_23 : decode b_Vi_entriesInSegments 23 = .ok (.istore_n 1, 1) := by decide +kernel
theorem d_Vi_entriesInSegments_24 : decode b_Vi_entriesInSegments 24 = .ok (.iinc 2 1, 3) := by decide +kernel
theorem d_Vi_entriesInSegments_27 : decode b_Vi_entriesInSegments 27 = .ok (.goto (-23), 3) := by decide +kernel
theorem d_Vi_entriesInSegments_30 : decode b_Vi_entriesInSegments 30 = .ok (.iload_n 1, 1) := by decide +kernel
theorem d_Vi_entriesInSegments_31 : decode b_Vi_entriesInSegments 31 = .ok (.ireturn, 1) := by decide +kernel
theorem kc_Vi_entriesInSegments : Cond.code y_Vi_entriesInSegments b_Vi_entriesInSegments 3 (some .int) ∈ gx_all := gx_in 377 (by decide +kernel)
abbrev b_Vi_firstLive : ByteArray := prog_7_method_9_code
def y_Vi_firstLive : MethodName := ⟨"CommitLedger$View", "firstLive", "(II)I"⟩
theorem d_Vi_firstLive_0 : decode b_Vi_firstLive 0 = .ok (.iload_n 1, 1) := by decide +kernel
theorem d_Vi_firstLive_1 : decode b_Vi_firstLive 1 = .ok (.istore_n 3, 1) := by decide +kernel
theorem d_Vi_firstLive_2 : decode b_Vi_firstLive 2 = .ok (.iload_n 3, 1) := by decide +kernel
theorem d_Vi_firstLive_3 : decode b_Vi_firstLive 3 = .ok (.iload_n 2, 1) := by decide +kernel
theorem d_Vi_firstLive_4 : decode b_Vi_firstLive 4 = .ok (.if_icmp .ge 20, 3) := by decide +kernel
theorem d_Vi_firstLive_7 : decode b_Vi_firstLive 7 = .ok (.aload_n 0, 1) := by decide +kernel
theorem d_Vi_firstLive_8 : decode b_Vi_firstLive 8 = .ok (.getfield 20, 3) := by decide +kernel
theorem d_Vi_firstLive_11 : decode b_Vi_firstLive 11 = .ok (.iload_n 3, 1) := by decide +kernel
theorem d_Vi_firstLive_12 : decode b_Vi_firstLive 12 = .ok (.baload, 1) := by decide +kernel
theorem d_Vi_firstLive_13 : decode b_Vi_firstLive 13 = .ok (.ifCond .eq 5, 3) := by decide +kernel
theorem d_Vi_firstLive_16 : decode b_Vi_firstLive 16 = .ok (.iload_n 3, 1) := by decide +kernel
theorem d_Vi_firstLive_17 : decode b_Vi_firstLive 17 = .ok (.ireturn, 1) := by decide +kernel
theorem d_Vi_firstLive_18 : decode b_Vi_firstLive 18 = .ok (.iinc 3 1, 3) := by decide +kernel
theorem d_Vi_firstLive_21 : decode b_Vi_firstLive 21 = .ok (.goto (-19), 3) := by decide +kernel
theorem d_Vi_firstLive_24 : decode b_Vi_firstLive 24 = .ok (.iload_n 1, 1) := by decide +kernel
theorem d_Vi_firstLive_25 : decode b_Vi_firstLive 25 = .ok (.ireturn, 1) := by decide +kernel
theorem kc_Vi_firstLive : Cond.code y_Vi_firstLive b_Vi_firstLive 4 (some .int) ∈ gx_all := gx_in 721 (by decide +kernel)
abbrev b_Vi_hasHarmedFile : ByteArray := prog_7_method_13_code
def y_Vi_hasHarmedFile : MethodName := ⟨"CommitLedger$View", "hasHarmedFile", "()Z"⟩
theorem d_Vi_hasHarmedFile_0 : decode b_Vi_hasHarmedFile 0 = .ok (.iconst 0, 1) := by decide +kernel
theorem d_Vi_hasHarmedFile_1 : decode b_Vi_hasHarmedFile 1 = .ok (.istore_n 1, 1) := by decide +kernel
theorem d_Vi_hasHarmedFile_2 : decode b_Vi_hasHarmedFile 2 = .ok (.iload_n 1, 1) := by decide +kernel
theorem d_Vi_hasHarmedFile_3 : decode b_Vi_hasHarmedFile 3 = .ok (.aload_n 0, 1) := by decide +kernel
theorem d_Vi_hasHarmedFile_4 : decode b_Vi_hasHarmedFile 4 = .ok (.getfield 24, 3) := by decide +kernel
theorem d_Vi_hasHarmedFile_7 : decode b_Vi_hasHarmedFile 7 = .ok (.if_icmp .ge 44, 3) := by decide +kernel
theorem d_Vi_hasHarmedFile_10 : decode b_Vi_hasHarmedFile 10 = .ok (.aload_n 0, 1) := by decide +kernel
theorem d_Vi_hasHarmedFile_11 : decode b_Vi_hasHarmedFile 11 = .ok (.getfield 11, 3) := by decide +kernel
theorem d_Vi_hasHarmedFile_14 : decode b_Vi_hasHarmedFile 14 = .ok (.iload_n 1, 1) := by decide +kernel
theorem d_Vi_hasHarmedFile_15 : decode b_Vi_hasHarmedFile 15 = .ok (.aaload, 1) := by decide +kernel
theorem d_Vi_hasHarmedFile_16 : decode b_Vi_hasHarmedFile 16 = .ok (.getfield 62, 3) := by decide +kernel
theorem d_Vi_hasHarmedFile_19 : decode b_Vi_hasHarmedFile 19 = .ok (.ifCond .ne 24, 3) := by decide +kernel
theorem d_Vi_hasHarmedFile_22 : decode b_Vi_hasHarmedFile 22 = .ok (.aload_n 0, 1) := by decide +kernel
theorem d_Vi_hasHarmedFile_23 : decode b_Vi_hasHarmedFile 23 = .ok (.getfield 17, 3) := by decide +kernel
theorem d_Vi_hasHarmedFile_26 : decode b_Vi_hasHarmedFile 26 = .ok (.iload_n 1, 1) := by decide +kernel
theorem d_Vi_hasHarmedFile_27 : decode b_Vi_hasHarmedFile 27 = .ok (.aaload, 1) := by decide +kernel
theorem d_Vi_hasHarmedFile_28 : decode b_Vi_hasHarmedFile 28 = .ok (.ifnull 17, 3) := by decide +kernel
theorem d_Vi_hasHarmedFile_31 : decode b_Vi_hasHarmedFile 31 = .ok (.aload_n 0, 1) := by decide +kernel
theorem d_Vi_hasHarmedFile_32 : decode b_Vi_hasHarmedFile 32 = .ok (.getfield 17, 3) := by decide +kernel
theorem d_Vi_hasHarmedFile_35 : decode b_Vi_hasHarmedFile 35 = .ok (.iload_n 1, 1) := by decide +kernel
theorem d_Vi_hasHarmedFile_36 : decode b_Vi_hasHarmedFile 36 = .ok (.aaload, 1) := by decide +kernel
theorem d_Vi_hasHarmedFile_37 : decode b_Vi_hasHarmedFile 37 = .ok (.getfield 62, 3) := by decide +kernel
theorem d_Vi_hasHarmedFile_40 : decode b_Vi_hasHarmedFile 40 = .ok (.ifCond .eq 5, 3) := by decide +kernel
theorem d_Vi_hasHarmedFile_43 : decode b_Vi_hasHarmedFile 43 = .ok (.iconst 1, 1) := by decide +kernel
theorem d_Vi_hasHarmedFile_44 : decode b_Vi_hasHarmedFile 44 = .ok (.ireturn, 1) := by decide +kernel
theorem d_Vi_hasHarmedFile_45 : decode b_Vi_hasHarmedFile 45 = .ok (.iinc 1 1, 3) := by decide +kernel
theorem d_Vi_hasHarmedFile_48 : decode b_Vi_hasHarmedFile 48 = .ok (.goto (-46), 3) := by decide +kernel
theorem d_Vi_hasHarmedFile_51 : decode b_Vi_hasHarmedFile 51 = .ok (.aload_n 0, 1) := by decide +kernel
theorem d_Vi_hasHarmedFile_52 : decode b_Vi_hasHarmedFile 52 = .ok (.getfield 66, 3) := by decide +kernel
theorem d_Vi_hasHarmedFile_55 : decode b_Vi_hasHarmedFile 55 = .ok (.ifnull 17, 3) := by decide +kernel
theorem d_Vi_hasHarmedFile_58 : decode b_Vi_hasHarmedFile 58 = .ok (.aload_n 0, 1) := by decide +kernel
theorem d_Vi_hasHarmedFile_59 : decode b_Vi_hasHarmedFile 59 = .ok (.getfield 66, 3) := by decide +kernel
theorem d_Vi_hasHarmedFile_62 : decode b_Vi_hasHarmedFile 62 = .ok (.getfield 62, 3) := by decide +kernel
theorem d_Vi_hasHarmedFile_65 : decode b_Vi_hasHarmedFile 65 = .ok (.ifCond .eq 7, 3) := by decide +kernel
theorem d_Vi_hasHarmedFile_68 : decode b_Vi_hasHarmedFile 68 = .ok (.iconst 1, 1) := by decide +kernel
theorem d_Vi_hasHarmedFile_69 : decode b_Vi_hasHarmedFile 69 = .ok (.goto 4, 3) := by decide +kernel
theorem d_Vi_hasHarmedFile_72 : decode b_Vi_hasHarmedFile 72 = .ok (.iconst 0, 1) := by decide +kernel
theorem d_Vi_hasHarmedFile_73 : decode b_Vi_hasHarmedFile 73 = .ok (.ireturn, 1) := by decide +kernel
theorem kc_Vi_hasHarmedFile : Cond.code y_Vi_hasHarmedFile b_Vi_hasHarmedFile 2 (some .boolean) ∈ gx_all := gx_in 485 (by decide +kernel)
abbrev b_Vi_isSameAs : ByteArray := prog_7_method_4_code
def y_Vi_isSameAs : MethodName := ⟨"CommitLedger$View", "isSameAs", "(LCommitLedger$View;)Z"⟩
theorem d_Vi_isSameAs_0 : decode b_Vi_isSameAs 0 = .ok (.aload_n 0, 1) := by decide +kernel
theorem d_Vi_isSameAs_1 : decode b_Vi_isSameAs 1 = .ok (.getfield 24, 3) := by decide +kernel
theorem d_Vi_isSameAs_4 : decode b_Vi_isSameAs 4 = .ok (.aload_n 1, 1) := by decide +kernel
theorem d_Vi_isSameAs_5 : decode b_Vi_isSameAs 5 = .ok (.getfield 24, 3) := by decide +kernel
theorem d_Vi_isSameAs_8 : decode b_Vi_isSameAs 8 = .ok (.if_icmp .ne 14, 3) := by decide +kernel
theorem d_Vi_isSameAs_11 : decode b_Vi_isSameAs 11 = .ok (.aload_n 0, 1) := by decide +kernel
theorem d_Vi_isSameAs_12 : decode b_Vi_isSameAs 12 = .ok (.getfield 28, 3) := by decide +kernel
theorem d_Vi_isSameAs_15 : decode b_Vi_isSameAs 15 = .ok (.aload_n 1, 1) := by decide +kernel
theorem d_Vi_isSameAs_16 : decode b_Vi_isSameAs 16 = .ok (.getfield 28, 3) := by decide +kernel
theorem d_Vi_isSameAs_19 : decode b_Vi_isSameAs 19 = .ok (.if_icmp .eq 5, 3) := by decide +kernel
theorem d_Vi_isSameAs_22 : decode b_Vi_isSameAs 22 = .ok (.iconst 0, 1) := by decide +kernel
theorem d_Vi_isSameAs_23 : decode b_Vi_isSameAs 23 = .ok (.ireturn, 1) := by decide +kernel
theorem d_Vi_isSameAs_24 : decode b_Vi_isSameAs 24 = .ok (.iconst 0, 1) := by decide +kernel
theorem d_Vi_isSameAs_25 : decode b_Vi_isSameAs 25 = .ok (.istore_n 2, 1) := by decide +kernel
theorem d_Vi_isSameAs_26 : decode b_Vi_isSameAs 26 = .ok (.iload_n 2, 1) := by decide +kernel
theorem d_Vi_isSameAs_27 : decode b_Vi_isSameAs 27 = .ok (.aload_n 0, 1) := by decide +kernel
theorem d_Vi_isSameAs_28 : decode b_Vi_isSameAs 28 = .ok (.getfield 24, 3) := by decide +kernel
theorem d_Vi_isSameAs_31 : decode b_Vi_isSameAs 31 = .ok (.if_icmp .ge 26, 3) := by decide +kernel
theorem d_Vi_isSameAs_34 : decode b_Vi_isSameAs 34 = .ok (.aload_n 0, 1) := by decide +kernel
theorem d_Vi_isSameAs_35 : decode b_Vi_isSameAs 35 = .ok (.getfield 11, 3) := by decide +kernel
theorem d_Vi_isSameAs_38 : decode b_Vi_isSameAs 38 = .ok (.iload_n 2, 1) := by decide +kernel
theorem d_Vi_isSameAs_39 : decode b_Vi_isSameAs 39 = .ok (.aaload, 1) := by decide +kernel
theorem d_Vi_isSameAs_40 : decode b_Vi_isSameAs 40 = .ok (.aload_n 1, 1) := by decide +kernel
theorem d_Vi_isSameAs_41 : decode b_Vi_isSameAs 41 = .ok (.getfield 11, 3) := by decide +kernel
theorem d_Vi_isSameAs_44 : decode b_Vi_isSameAs 44 = .ok (.iload_n 2, 1) := by decide +kernel
theorem d_Vi_isSameAs_45 : decode b_Vi_isSameAs 45 = .ok (.aaload, 1) := by decide +kernel
theorem d_Vi_isSameAs_46 : decode b_Vi_isSameAs 46 = .ok (.if_acmp .eq 5, 3) := by decide +kernel
theorem d_Vi_isSameAs_49 : decode b_Vi_isSameAs 49 = .ok (.iconst 0, 1) := by decide +kernel
theorem d_Vi_isSameAs_50 : decode b_Vi_isSameAs 50 = .ok (.ireturn, 1) := by decide +kernel
theorem d_Vi_isSameAs_51 : decode b_Vi_isSameAs 51 = .ok (.iinc 2 1, 3) := by decide +kernel
theorem d_Vi_isSameAs_54 : decode b_Vi_isSameAs 54 = .ok (.goto (-28), 3) := by decide +kernel
theorem d_Vi_isSameAs_57 : decode b_Vi_isSameAs 57 = .ok (.iconst 0, 1) := by decide +kernel
theorem d_Vi_isSameAs_58 : decode b_Vi_isSameAs 58 = .ok (.istore_n 2, 1) := by decide +kernel
theorem d_Vi_isSameAs_59 : decode b_Vi_isSameAs 59 = .ok (.iload_n 2, 1) := by decide +kernel
theorem d_Vi_isSameAs_60 : decode b_Vi_isSameAs 60 = .ok (.sipush 4096, 3) := by decide +kernel
theorem d_Vi_isSameAs_63 : decode b_Vi_isSameAs 63 = .ok (.if_icmp .ge 26, 3) := by decide +kernel
theorem d_Vi_isSameAs_66 : decode b_Vi_isSameAs 66 = .ok (.aload_n 0, 1) := by decide +kernel
theorem d_Vi_isSameAs_67 : decode b_Vi_isSameAs 67 = .ok (.getfield 20, 3) := by decide +kernel
theorem d_Vi_isSameAs_70 : decode b_Vi_isSameAs 70 = .ok (.iload_n 2, 1) := by decide +kernel
theorem d_Vi_isSameAs_71 : decode b_Vi_isSameAs 71 = .ok (.baload, 1) := by decide +kernel
theorem d_Vi_isSameAs_72 : decode b_Vi_isSameAs 72 = .ok (.aload_n 1, 1) := by decide +kernel
theorem d_Vi_isSameAs_73 : decode b_Vi_isSameAs 73 = .ok (.getfield 20, 3) := by decide +kernel
theorem d_Vi_isSameAs_76 : decode b_Vi_isSameAs 76 = .ok (.iload_n 2, 1) := by decide +kernel
theorem d_Vi_isSameAs_77 : decode b_Vi_isSameAs 77 = .ok (.baload, 1) := by decide +kernel
theorem d_Vi_isSameAs_78 : decode b_Vi_isSameAs 78 = .ok (.if_icmp .eq 5, 3) := by decide +kernel
theorem d_Vi_isSameAs_81 : decode b_Vi_isSameAs 81 = .ok (.iconst 0, 1) := by decide +kernel
theorem d_Vi_isSameAs_82 : decode b_Vi_isSameAs 82 = .ok (.ireturn, 1) := by decide +kernel
theorem d_Vi_isSameAs_83 : decode b_Vi_isSameAs 83 = .ok (.iinc 2 1, 3) := by decide +kernel
theorem d_Vi_isSameAs_86 : decode b_Vi_isSameAs 86 = .ok (.goto (-27), 3) := by decide +kernel
theorem d_Vi_isSameAs_89 : decode b_Vi_isSameAs 89 = .ok (.iconst 1, 1) := by decide +kernel
theorem d_Vi_isSameAs_90 : decode b_Vi_isSameAs 90 = .ok (.ireturn, 1) := by decide +kernel
theorem kc_Vi_isSameAs : Cond.code y_Vi_isSameAs b_Vi_isSameAs 3 (some .boolean) ∈ gx_all := gx_in 774 (by decide +kernel)
abbrev b_Vi_listIsRight : ByteArray := prog_7_method_11_code
def y_Vi_listIsRight : MethodName := ⟨"CommitLedger$View", "listIsRight", "(I)Z"⟩
theorem d_Vi_listIsRight_0 : decode b_Vi_listIsRight 0 = .ok (.aload_n 0, 1) := by decide +kernel
theorem d_Vi_listIsRight_1 : decode b_Vi_listIsRight 1 = .ok (.getfield 17, 3) := by decide +kernel
theorem d_Vi_listIsRight_4 : decode b_Vi_listIsRight 4 = .ok (.iload_n 1, 1) := by decide +kernel
theorem d_Vi_listIsRight_5 : decode b_Vi_listIsRight 5 = .ok (.aaload, 1) := by decide +kernel
theorem d_Vi_listIsRight_6 : decode b_Vi_listIsRight 6 = .ok (.ifnull 12, 3) := by decide +kernel
theorem d_Vi_listIsRight_9 : decode b_Vi_listIsRight 9 = .ok (.aload_n 0, 1) := by decide +kernel
theorem d_Vi_listIsRight_10 : decode b_Vi_listIsRight 10 = .ok (.getfield 17, 3) := by decide +kernel
theorem d_Vi_listIsRight_13 : decode b_Vi_listIsRight 13 = .ok (.iload_n 1, 1) := by decide +kernel
theorem d_Vi_listIsRight_14 : decode b_Vi_listIsRight 14 = .ok (.aaload, 1) := by decide +kernel
theorem d_Vi_listIsRight_15 : decode b_Vi_listIsRight 15 = .ok (.goto 9, 3) := by decide +kernel
theorem d_Vi_listIsRight_18 : decode b_Vi_listIsRight 18 = .ok (.aload_n 0, 1) := by decide +kernel
theorem d_Vi_listIsRight_19 : decode b_Vi_listIsRight 19 = .ok (.getfield 11, 3) := by decide +kernel
theorem d_Vi_listIsRight_22 : decode b_Vi_listIsRight 22 = .ok (.iload_n 1, 1) := by decide +kernel
theorem d_Vi_listIsRight_23 : decode b_Vi_listIsRight 23 = .ok (.aaload, 1) := by decide +kernel
theorem d_Vi_listIsRight_24 : decode b_Vi_listIsRight 24 = .ok (.astore_n 2, 1) := by decide +kernel
theorem d_Vi_listIsRight_25 : decode b_Vi_listIsRight 25 = .ok (.aload_n 2, 1) := by decide +kernel
theorem d_Vi_listIsRight_26 : decode b_Vi_listIsRight 26 = .ok (.getfield 55, 3) := by decide +kernel
theorem d_Vi_listIsRight_29 : decode b_Vi_listIsRight 29 = .ok (.aload_n 0, 1) := by decide +kernel
theorem d_Vi_listIsRight_30 : decode b_Vi_listIsRight 30 = .ok (.aload_n 0, 1) := by decide +kernel
theorem d_Vi_listIsRight_31 : decode b_Vi_listIsRight 31 = .ok (.getfield 11, 3) := by decide +kernel
theorem d_Vi_listIsRight_34 : decode b_Vi_listIsRight 34 = .ok (.iload_n 1, 1) := by decide +kernel
theorem d_Vi_listIsRight_35 : decode b_Vi_listIsRight 35 = .ok (.aaload, 1) := by decide +kernel
theorem d_Vi_listIsRight_36 : decode b_Vi_listIsRight 36 = .ok (.invokevirtual 58, 3) := by decide +kernel
theorem d_Vi_listIsRight_39 : decode b_Vi_listIsRight 39 = .ok (.if_icmp .ne 7, 3) := by decide +kernel
theorem d_Vi_listIsRight_42 : decode b_Vi_listIsRight 42 = .ok (.iconst 1, 1) := by decide +kernel
theorem d_Vi_listIsRight_43 : decode b_Vi_listIsRight 43 = .ok (.goto 4, 3) := by decide +kernel
theorem d_Vi_listIsRight_46 : decode b_Vi_listIsRight 46 = .ok (.iconst 0, 1) := by decide +kernel
theorem d_Vi_listIsRight_47 : decode b_Vi_listIsRight 47 = .ok (.ireturn, 1) := by decide +kernel
theorem kc_Vi_listIsRight : Cond.code y_Vi_listIsRight b_Vi_listIsRight 3 (some .boolean) ∈ gx_all := gx_in 782 (by decide +kernel)
abbrev b_Vi_liveBetween : ByteArray := prog_7_method_8_code
def y_Vi_liveBetween : MethodName := ⟨"CommitLedger$View", "liveBetween", "(II)I"⟩
theorem d_Vi_liveBetween_0 : decode b_Vi_liveBetween 0 = .ok (.iconst 0, 1) := by decide +kernel
theorem d_Vi_liveBetween_1 : decode b_Vi_liveBetween 1 = .ok (.istore_n 3, 1) := by decide +kernel
theorem d_Vi_liveBetween_2 : decode b_Vi_liveBetween 2 = .ok (.iload_n 1, 1) := by decide +kernel
theorem d_Vi_liveBetween_3 : decode b_Vi_liveBetween 3 = .ok (.istore 4, 2) := by decide +kernel
theorem d_Vi_liveBetween_5 : decode b_Vi_liveBetween 5 = .ok (.iload 4, 2) := by decide +kernel
theorem d_Vi_liveBetween_7 : decode b_Vi_liveBetween 7 = .ok (.iload_n 2, 1) := by decide +kernel
theorem d_Vi_liveBetween_8 : decode b_Vi_liveBetween 8 = .ok (.if_icmp .ge 22, 3) := by decide +kernel
theorem d_Vi_liveBetween_11 : decode b_Vi_liveBetween 11 = .ok (.aload_n 0, 1) := by decide +kernel
theorem d_Vi_liveBetween_12 : decode b_Vi_liveBetween 12 = .ok (.getfield 20, 3) := by decide +kernel
theorem d_Vi_liveBetween_15 : decode b_Vi_liveBetween 15 = .ok (.iload 4, 2) := by decide +kernel
theorem d_Vi_liveBetween_17 : decode b_Vi_liveBetween 17 = .ok (.baload, 1) := by decide +kernel
theorem d_Vi_liveBetween_18 : decode b_Vi_liveBetween 18 = .ok (.ifCond .eq 6, 3) := by decide +kernel
theorem d_Vi_liveBetween_21 : decode b_Vi_liveBetween 21 = .ok (.iinc 3 1, 3) := by decide +kernel
theorem d_Vi_liveBetween_24 : decode b_Vi_liveBetween 24 = .ok (.iinc 4 1, 3) := by decide +kernel
theorem d_Vi_liveBetween_27 : decode b_Vi_liveBetween 27 = .ok (.goto (-22), 3) := by decide +kernel
theorem d_Vi_liveBetween_30 : decode b_Vi_liveBetween 30 = .ok (.iload_n 3, 1) := by decide +kernel
theorem d_Vi_liveBetween_31 : decode b_Vi_liveBetween 31 = .ok (.ireturn, 1) := by decide +kernel
theorem kc_Vi_liveBetween : Cond.code y_Vi_liveBetween b_Vi_liveBetween 5 (some .int) ∈ gx_all := gx_in 369 (by decide +kernel)
abbrev b_Vi_liveIn : ByteArray := prog_7_method_10_code
def y_Vi_liveIn : MethodName := ⟨"CommitLedger$View", "liveIn", "(LCommitLedger$LedgerFile;)I"⟩
theorem d_Vi_liveIn_0 : decode b_Vi_liveIn 0 = .ok (.aload_n 0, 1) := by decide +kernel
theorem d_Vi_liveIn_1 : decode b_Vi_liveIn 1 = .ok (.aload_n 1, 1) := by decide +kernel
theorem d_Vi_liveIn_2 : decode b_Vi_liveIn 2 = .ok (.getfield 45, 3) := by decide +kernel
theorem d_Vi_liveIn_5 : decode b_Vi_liveIn 5 = .ok (.aload_n 1, 1) := by decide +kernel
theorem d_Vi_liveIn_6 : decode b_Vi_liveIn 6 = .ok (.getfield 48, 3) := by decide +kernel
theorem d_Vi_liveIn_9 : decode b_Vi_liveIn 9 = .ok (.invokevirtual 51, 3) := by decide +kernel
theorem d_Vi_liveIn_12 : decode b_Vi_liveIn 12 = .ok (.ireturn, 1) := by decide +kernel
theorem kc_Vi_liveIn : Cond.code y_Vi_liveIn b_Vi_liveIn 2 (some .int) ∈ gx_all := gx_in 517 (by decide +kernel)
abbrev b_Vi_needListsAndOwn : ByteArray := prog_7_method_15_code
def y_Vi_needListsAndOwn : MethodName := ⟨"CommitLedger$View", "needListsAndOwn", "()V"⟩
theorem d_Vi_needListsAndOwn_0 : decode b_Vi_needListsAndOwn 0 = .ok (.iconst 0, 1) := by decide +kernel
theorem d_Vi_needListsAndOwn_1 : decode b_Vi_needListsAndOwn 1 = .ok (.istore_n 1, 1) := by decide +kernel
theorem d_Vi_needListsAndOwn_2 : decode b_Vi_needListsAndOwn 2 = .ok (.iload_n 1, 1) := by decide +kernel
theorem d_Vi_needListsAndOwn_3 : decode b_Vi_needListsAndOwn 3 = .ok (.aload_n 0, 1) := by decide +kernel
theorem d_Vi_needListsAndOwn_4 : decode b_Vi_needListsAndOwn 4 = .ok (.getfield 24, 3) := by decide +kernel
theorem d_Vi_needListsAndOwn_7 : decode b_Vi_needListsAndOwn 7 = .ok (.if_icmp .ge 18, 3) := by decide +kernel
theorem d_Vi_needListsAndOwn_10 : decode b_Vi_needListsAndOwn 10 = .ok (.aload_n 0, 1) := by decide +kernel
theorem d_Vi_needListsAndOwn_11 : decode b_Vi_needListsAndOwn 11 = .ok (.getfield 17, 3) := by decide +kernel
theorem d_Vi_needListsAndOwn_14 : decode b_Vi_needListsAndOwn 14 = .ok (.iload_n 1, 1) := by decide +kernel
theorem d_Vi_needListsAndOwn_15 : decode b_Vi_needListsAndOwn 15 = .ok (.aaload, 1) := by decide +kernel
theorem d_Vi_needListsAndOwn_16 : decode b_Vi_needListsAndOwn 16 = .ok (.invokestatic 69, 3) := by decide +kernel
theorem d_Vi_needListsAndOwn_19 : decode b_Vi_needListsAndOwn 19 = .ok (.iinc 1 1, 3) := by decide +kernel
theorem d_Vi_needListsAndOwn_22 : decode b_Vi_needListsAndOwn 22 = .ok (.goto (-20), 3) := by decide +kernel
theorem d_Vi_needListsAndOwn_25 : decode b_Vi_needListsAndOwn 25 = .ok (.aload_n 0, 1) := by decide +kernel
theorem d_Vi_needListsAndOwn_26 : decode b_Vi_needListsAndOwn 26 = .ok (.getfield 66, 3) := by decide +kernel
theorem d_Vi_needListsAndOwn_29 : decode b_Vi_needListsAndOwn 29 = .ok (.invokestatic 69, 3) := by decide +kernel
theorem d_Vi_needListsAndOwn_32 : decode b_Vi_needListsAndOwn 32 = .ok (.return_, 1) := by decide +kernel
theorem kc_Vi_needListsAndOwn : Cond.code y_Vi_needListsAndOwn b_Vi_needListsAndOwn 2 none ∈ gx_all := gx_in 549 (by decide +kernel)
abbrev b_Vi_needSegments : ByteArray := prog_7_method_14_code
def y_Vi_needSegments : MethodName := ⟨"CommitLedger$View", "needSegments", "()V"⟩
theorem d_Vi_needSegments_0 : decode b_Vi_needSegments 0 = .ok (.iconst 0, 1) := by decide +kernel
theorem d_Vi_needSegments_1 : decode b_Vi_needSegments 1 = .ok (.istore_n 1, 1) := by decide +kernel
theorem d_Vi_needSegments_2 : decode b_Vi_needSegments 2 = .ok (.iload_n 1, 1) := by decide +kernel
theorem d_Vi_needSegments_3 : decode b_Vi_needSegments 3 = .ok (.aload_n 0, 1) := by decide +kernel
theorem d_Vi_needSegments_4 : decode b_Vi_needSegments 4 = .ok (.getfield 24, 3) := by decide +kernel
theorem d_Vi_needSegments_7 : decode b_Vi_needSegments 7 = .ok (.if_icmp .ge 18, 3) := by decide +kernel
theorem d_Vi_needSegments_10 : decode b_Vi_needSegments 10 = .ok (.aload_n 0, 1) := by decide +kernel
theorem d_Vi_needSegments_11 : decode b_Vi_needSegments 11 = .ok (.getfield 11, 3) := by decide +kernel
theorem d_Vi_needSegments_14 : decode b_Vi_needSegments 14 = .ok (.iload_n 1, 1) := by decide +kernel
theorem d_Vi_needSegments_15 : decode b_Vi_needSegments 15 = .ok (.aaload, 1) := by decide +kernel
theorem d_Vi_needSegments_16 : decode b_Vi_needSegments 16 = .ok (.invokestatic 69, 3) := by decide +kernel
theorem d_Vi_needSegments_19 : decode b_Vi_needSegments 19 = .ok (.iinc 1 1, 3) := by decide +kernel
theorem d_Vi_needSegments_22 : decode b_Vi_needSegments 22 = .ok (.goto (-20), 3) := by decide +kernel
theorem d_Vi_needSegments_25 : decode b_Vi_needSegments 25 = .ok (.return_, 1) := by decide +kernel
theorem kc_Vi_needSegments : Cond.code y_Vi_needSegments b_Vi_needSegments 2 none ∈ gx_all := gx_in 542 (by decide +kernel)
abbrev b_Vi_put : ByteArray := prog_7_method_5_code
def y_Vi_put : MethodName := ⟨"CommitLedger$View", "put", "(ILCommitLedger$LedgerFile;LCommitLedger$LedgerFile;)V"⟩
theorem d_Vi_put_0 : decode b_Vi_put 0 = .ok (.aload_n 0, 1) := by decide +kernel
theorem d_Vi_put_1 : decode b_Vi_put 1 = .ok (.getfield 11, 3) := by decide +kernel
theorem d_Vi_put_4 : decode b_Vi_put 4 = .ok (.iload_n 1, 1) := by decide +kernel
theorem d_Vi_put_5 : decode b_Vi_put 5 = .ok (.aload_n 2, 1) := by decide +kernel
theorem d_Vi_put_6 : decode b_Vi_put 6 = .ok (.aastore, 1) := by decide +kernel
theorem d_Vi_put_7 : decode b_Vi_put 7 = .ok (.aload_n 0, 1) := by decide +kernel
theorem d_Vi_put_8 : decode b_Vi_put 8 = .ok (.getfield 17, 3) := by decide +kernel
theorem d_Vi_put_11 : decode b_Vi_put 11 = .ok (.iload_n 1, 1) := by decide +kernel
theorem d_Vi_put_12 : decode b_Vi_put 12 = .ok (.aload_n 3, 1) := by decide +kernel
theorem d_Vi_put_13 : decode b_Vi_put 13 = .ok (.aastore, 1) := by decide +kernel
theorem d_Vi_put_14 : decode b_Vi_put 14 = .ok (.return_, 1) := by decide +kernel
theorem kc_Vi_put : Cond.code y_Vi_put b_Vi_put 4 none ∈ gx_all := gx_in 530 (by decide +kernel)
abbrev b_Vi_replaceMerged : ByteArray := prog_7_method_7_code
def y_Vi_replaceMerged : MethodName := ⟨"CommitLedger$View", "replaceMerged", "(LCommitLedger$Merge;)V"⟩
theorem d_Vi_replaceMerged_0 : decode b_Vi_replaceMerged 0 = .ok (.iconst 0, 1) := by decide +kernel
theorem d_Vi_replaceMerged_1 : decode b_Vi_replaceMerged 1 = .ok (.istore_n 2, 1) := by decide +kernel
theorem d_Vi_replaceMerged_2 : decode b_Vi_replaceMerged 2 = .ok (.iconst 0, 1) := by decide +kernel
theorem d_Vi_replaceMerged_3 : decode b_Vi_replaceMerged 3 = .ok (.istore_n 3, 1) := by decide +kernel
theorem d_Vi_replaceMerged_4 : decode b_Vi_replaceMerged 4 = .ok (.iconst 0, 1) := by decide +kernel
theorem d_Vi_replaceMerged_5 : decode b_Vi_replaceMerged 5 = .ok (.istore 4, 2) := by decide +kernel
theorem d_Vi_replaceMerged_7 : decode b_Vi_replaceMerged 7 = .ok (.iload 4, 2) := by decide +kernel
theorem d_Vi_replaceMerged_9 : decode b_Vi_replaceMerged 9 = .ok (.aload_n 0, 1) := by decide +kernel
theorem d_Vi_replaceMerged_10 : decode b_Vi_replaceMerged 10 = .ok (.getfield 24, 3) := by decide +kernel
theorem d_Vi_replaceMerged_13 : decode b_Vi_replaceMerged 13 = .ok (.if_icmp .ge 67, 3) := by decide +kernel
theorem d_Vi_replaceMerged_16 : decode b_Vi_replaceMerged 16 = .ok (.aload_n 1, 1) := by decide +kernel
theorem d_Vi_replaceMerged_17 : decode b_Vi_replaceMerged 17 = .ok (.aload_n 0, 1) := by decide +kernel
theorem d_Vi_replaceMerged_18 : decode b_Vi_replaceMerged 18 = .ok (.getfield 11, 3) := by decide +kernel
theorem d_Vi_replaceMerged_21 : decode b_Vi_replaceMerged 21 = .ok (.iload 4, 2) := by decide +kernel
theorem d_Vi_replaceMerged_23 : decode b_Vi_replaceMerged 23 = .ok (.aaload, 1) := by decide +kernel
theorem d_Vi_replaceMerged_24 : decode b_Vi_replaceMerged 24 = .ok (.invokevirtual 35, 3) := by decide +kernel
theorem d_Vi_replaceMerged_27 : decode b_Vi_replaceMerged 27 = .ok (.ifCond .ne 28, 3) := by decide +kernel
theorem d_Vi_replaceMerged_30 : decode b_Vi_replaceMerged 30 = .ok (.aload_n 0, 1) := by decide +kernel
theorem d_Vi_replaceMerged_31 : decode b_Vi_replaceMerged 31 = .ok (.iload_n 2, 1) := by decide +kernel
theorem d_Vi_replaceMerged_32 : decode b_Vi_replaceMerged 32 = .ok (.aload_n 0, 1) := by decide +kernel
theorem d_Vi_replaceMerged_33 : decode b_Vi_replaceMerged 33 = .ok (.getfield 11, 3) := by decide +kernel
theorem d_Vi_replaceMerged_36 : decode b_Vi_replaceMerged 36 = .ok (.iload 4, 2) := by decide +kernel
theorem d_Vi_replaceMerged_38 : decode b_Vi_replaceMerged 38 = .ok (.aaload, 1) := by decide +kernel
theorem d_Vi_replaceMerged_39 : decode b_Vi_replaceMerged 39 = .ok (.aload_n 0, 1) := by decide +kernel
theorem d_Vi_replaceMerged_40 : decode b_Vi_replaceMerged 40 = .ok (.getfield 17, 3) := by decide +kernel
theorem d_Vi_replaceMerged_43 : decode b_Vi_replaceMerged 43 = .ok (.iload 4, 2) := by decide +kernel
theorem d_Vi_replaceMerged_45 : decode b_Vi_replaceMerged 45 = .ok (.aaload, 1) := by decide +kernel
theorem d_Vi_replaceMerged_46 : decode b_Vi_replaceMerged 46 = .ok (.invokevirtual 31, 3) := by decide +kernel
theorem d_Vi_replaceMerged_49 : decode b_Vi_replaceMerged 49 = .ok (.iinc 2 1, 3) := by decide +kernel
theorem d_Vi_replaceMerged_52 : decode b_Vi_replaceMerged 52 = .ok (.goto 22, 3) := by decide +kernel
theorem d_Vi_replaceMerged_55 : decode b_Vi_replaceMerged 55 = .ok (.iload_n 3, 1) := by decide +kernel
theorem d_Vi_replaceMerged_56 : decode b_Vi_replaceMerged 56 = .ok (.ifCond .ne 18, 3) := by decide +kernel
theorem d_Vi_replaceMerged_59 : decode b_Vi_replaceMerged 59 = .ok (.aload_n 0, 1) := by decide +kernel
theorem d_Vi_replaceMerged_60 : decode b_Vi_replaceMerged 60 = .ok (.iload_n 2, 1) := by decide +kernel
theorem d_Vi_replaceMerged_61 : decode b_Vi_replaceMerged 61 = .ok (.aload_n 1, 1) := by decide +kernel
theorem d_Vi_replaceMerged_62 : decode b_Vi_replaceMerged 62 = .ok (.getfield 41, 3) := by decide +kernel
theorem d_Vi_replaceMerged_65 : decode b_Vi_replaceMerged 65 = .ok (.aconst_null, 1) := by decide +kernel
theorem d_Vi_replaceMerged_66 : decode b_Vi_replaceMerged 66 = .ok (.invokevirtual 31, 3) := by decide +kernel
theorem d_Vi_replaceMerged_69 : decode b_Vi_replaceMerged 69 = .ok (.iinc 2 1, 3) := by decide +kernel
theorem d_Vi_replaceMerged_72 : decode b_Vi_replaceMerged 72 = .ok (.iconst 1, 1) := by decide +kernel
theorem d_Vi_replaceMerged_73 : decode b_Vi_replaceMerged 73 = .ok (.istore_n 3, 1) := by decide +kernel
theorem d_Vi_replaceMerged_74 : decode b_Vi_replaceMerged 74 = .ok (.iinc 4 1, 3) := by decide +kernel
theorem d_Vi_replaceMerged_77 : decode b_Vi_replaceMerged 77 = .ok (.goto (-70), 3) := by decide +kernel
theorem d_Vi_replaceMerged_80 : decode b_Vi_replaceMerged 80 = .ok (.aload_n 0, 1) := by decide +kernel
theorem d_Vi_replaceMerged_81 : decode b_Vi_replaceMerged 81 = .ok (.iload_n 2, 1) := by decide +kernel
theorem d_Vi_replaceMerged_82 : decode b_Vi_replaceMerged 82 = .ok (.putfield 24, 3) := by decide +kernel
theorem d_Vi_replaceMerged_85 : decode b_Vi_replaceMerged 85 = .ok (.return_, 1) := by decide +kernel
theorem kc_Vi_replaceMerged : Cond.code y_Vi_replaceMerged b_Vi_replaceMerged 5 none ∈ gx_all := gx_in 753 (by decide +kernel)
