/-! NAMES: methods and their decode rows, printed by an own text program out of the Statement. -/
abbrev b_Ac_init : ByteArray := prog_25_method_1_code
def y_Ac_init : MethodName := ⟨"java/util/AbstractCollection", "<init>", "()V"⟩
theorem d_Ac_init_0 : decode b_Ac_init 0 = .ok (.aload_n 0, 1) := by decide +kernel
theorem d_Ac_init_1 : decode b_Ac_init 1 = .ok (.invokespecial 1, 3) := by decide +kernel
theorem d_Ac_init_4 : decode b_Ac_init 4 = .ok (.return_, 1) := by decide +kernel
theorem kc_Ac_init : Cond.code y_Ac_init b_Ac_init 1 none ∈ gx_all := gx_in 76 (by decide +kernel)
abbrev b_Ab_init : ByteArray := prog_26_method_1_code
def y_Ab_init : MethodName := ⟨"java/util/AbstractList", "<init>", "()V"⟩
theorem d_Ab_init_0 : decode b_Ab_init 0 = .ok (.aload_n 0, 1) := by decide +kernel
theorem d_Ab_init_1 : decode b_Ab_init 1 = .ok (.invokespecial 1, 3) := by decide +kernel
theorem d_Ab_init_4 : decode b_Ab_init 4 = .ok (.aload_n 0, 1) := by decide +kernel
theorem d_Ab_init_5 : decode b_Ab_init 5 = .ok (.iconst 0, 1) := by decide +kernel
theorem d_Ab_init_6 : decode b_Ab_init 6 = .ok (.putfield 7, 3) := by decide +kernel
theorem d_Ab_init_9 : decode b_Ab_init 9 = .ok (.return_, 1) := by decide +kernel
theorem kc_Ab_init : Cond.code y_Ab_init b_Ab_init 1 none ∈ gx_all := gx_in 73 (by decide +kernel)
abbrev b_Al_init : ByteArray := prog_27_method_2_code
def y_Al_init : MethodName := ⟨"java/util/ArrayList", "<init>", "()V"⟩
theorem d_Al_init_0 : decode b_Al_init 0 = .ok (.aload_n 0, 1) := by decide +kernel
theorem d_Al_init_1 : decode b_Al_init 1 = .ok (.invokespecial 1, 3) := by decide +kernel
theorem d_Al_init_4 : decode b_Al_init 4 = .ok (.aload_n 0, 1) := by decide +kernel
theorem d_Al_init_5 : decode b_Al_init 5 = .ok (.getstatic 39, 3) := by decide +kernel
theorem d_Al_init_8 : decode b_Al_init 8 = .ok (.putfield 9, 3) := by decide +kernel
theorem d_Al_init_11 : decode b_Al_init 11 = .ok (.return_, 1) := by decide +kernel
theorem kc_Al_init : Cond.code y_Al_init b_Al_init 1 none ∈ gx_all := gx_in 70 (by decide +kernel)
abbrev b_Al_add0 : ByteArray := prog_27_method_25_code
def y_Al_add0 : MethodName := ⟨"java/util/ArrayList", "add", "(Ljava/lang/Object;)Z"⟩
theorem d_Al_add0_0 : decode b_Al_add0 0 = .ok (.aload_n 0, 1) := by decide +kernel
theorem d_Al_add0_1 : decode b_Al_add0 1 = .ok (.dup, 1) := by decide +kernel
theorem d_Al_add0_2 : decode b_Al_add0 2 = .ok (.getfield 63, 3) := by decide +kernel
theorem d_Al_add0_5 : decode b_Al_add0 5 = .ok (.iconst 1, 1) := by decide +kernel
theorem d_Al_add0_6 : decode b_Al_add0 6 = .ok (.iadd, 1) := by decide +kernel
theorem d_Al_add0_7 : decode b_Al_add0 7 = .ok (.putfield 63, 3) := by decide +kernel
theorem d_Al_add0_10 : decode b_Al_add0 10 = .ok (.aload_n 0, 1) := by decide +kernel
theorem d_Al_add0_11 : decode b_Al_add0 11 = .ok (.aload_n 1, 1) := by decide +kernel
theorem d_Al_add0_12 : decode b_Al_add0 12 = .ok (.aload_n 0, 1) := by decide +kernel
theorem d_Al_add0_13 : decode b_Al_add0 13 = .ok (.getfield 9, 3) := by decide +kernel
theorem d_Al_add0_16 : decode b_Al_add0 16 = .ok (.aload_n 0, 1) := by decide +kernel
theorem d_Al_add0_17 : decode b_Al_add0 17 = .ok (.getfield 48, 3) := by decide +kernel
theorem d_Al_add0_20 : decode b_Al_add0 20 = .ok (.invokevirtual 131, 3) := by decide +kernel
theorem d_Al_add0_23 : decode b_Al_add0 23 = .ok (.iconst 1, 1) := by decide +kernel
theorem d_Al_add0_24 : decode b_Al_add0 24 = .ok (.ireturn, 1) := by decide +kernel
theorem kc_Al_add0 : Cond.code y_Al_add0 b_Al_add0 2 (some .boolean) ∈ gx_all := gx_in 284 (by decide +kernel)
abbrev b_Al_add1 : ByteArray := prog_27_method_24_code
def y_Al_add1 : MethodName := ⟨"java/util/ArrayList", "add", "(Ljava/lang/Object;[Ljava/lang/Object;I)V"⟩
theorem d_Al_add1_0 : decode b_Al_add1 0 = .ok (.iload_n 3, 1) := by decide +kernel
theorem d_Al_add1_1 : decode b_Al_add1 1 = .ok (.aload_n 2, 1) := by decide +kernel
theorem d_Al_add1_2 : decode b_Al_add1 2 = .ok (.arraylength, 1) := by decide +kernel
theorem d_Al_add1_3 : decode b_Al_add1 3 = .ok (.if_icmp .ne 8, 3) := by decide +kernel
theorem d_Al_add1_6 : decode b_Al_add1 6 = .ok (.aload_n 0, 1) := by decide +kernel
theorem d_Al_add1_7 : decode b_Al_add1 7 = .ok (.invokevirtual 129, 3) := by decide +kernel
theorem d_Al_add1_10 : decode b_Al_add1 10 = .ok (.astore_n 2, 1) := by decide +kernel
theorem d_Al_add1_11 : decode b_Al_add1 11 = .ok (.aload_n 2, 1) := by decide +kernel
theorem d_Al_add1_12 : decode b_Al_add1 12 = .ok (.iload_n 3, 1) := by decide +kernel
theorem d_Al_add1_13 : decode b_Al_add1 13 = .ok (.aload_n 1, 1) := by decide +kernel
theorem d_Al_add1_14 : decode b_Al_add1 14 = .ok (.aastore, 1) := by decide +kernel
theorem d_Al_add1_15 : decode b_Al_add1 15 = .ok (.aload_n 0, 1) := by decide +kernel
theorem d_Al_add1_16 : decode b_Al_add1 16 = .ok (.iload_n 3, 1) := by decide +kernel
theorem d_Al_add1_17 : decode b_Al_add1 17 = .ok (.iconst 1, 1) := by decide +kernel
theorem d_Al_add1_18 : decode b_Al_add1 18 = .ok (.iadd, 1) := by decide +kernel
theorem d_Al_add1_19 : decode b_Al_add1 19 = .ok (.putfield 48, 3) := by decide +kernel
theorem d_Al_add1_22 : decode b_Al_add1 22 = .ok (.return_, 1) := by decide +kernel
theorem kc_Al_add1 : Cond.code y_Al_add1 b_Al_add1 4 none ∈ gx_all := gx_in 288 (by decide +kernel)
abbrev b_Al_elementData : ByteArray := prog_27_method_18_code
def y_Al_elementData : MethodName := ⟨"java/util/ArrayList", "elementData", "(I)Ljava/lang/Object;"⟩
theorem d_Al_elementData_0 : decode b_Al_elementData 0 = .ok (.aload_n 0, 1) := by decide +kernel
theorem d_Al_elementData_1 : decode b_Al_elementData 1 = .ok (.getfield 9, 3) := by decide +kernel
theorem d_Al_elementData_4 : decode b_Al_elementData 4 = .ok (.iload_n 1, 1) := by decide +kernel
theorem d_Al_elementData_5 : decode b_Al_elementData 5 = .ok (.aaload, 1) := by decide +kernel
theorem d_Al_elementData_6 : decode b_Al_elementData 6 = .ok (.areturn, 1) := by decide +kernel
theorem kc_Al_elementData : Cond.code y_Al_elementData b_Al_elementData 2 (some (.object "java/lang/Object")) ∈ gx_all := gx_in 271 (by decide +kernel)
abbrev b_Al_fastRemove : ByteArray := prog_27_method_39_code
def y_Al_fastRemove : MethodName := ⟨"java/util/ArrayList", "fastRemove", "([Ljava/lang/Object;I)V"⟩
theorem d_Al_fastRemove_0 : decode b_Al_fastRemove 0 = .ok (.aload_n 0, 1) := by decide +kernel
theorem d_Al_fastRemove_1 : decode b_Al_fastRemove 1 = .ok (.dup, 1) := by decide +kernel
theorem d_Al_fastRemove_2 : decode b_Al_fastRemove 2 = .ok (.getfield 63, 3) := by decide +kernel
theorem d_Al_fastRemove_5 : decode b_Al_fastRemove 5 = .ok (.iconst 1, 1) := by decide +kernel
theorem d_Al_fastRemove_6 : decode b_Al_fastRemove 6 = .ok (.iadd, 1) := by decide +kernel
theorem d_Al_fastRemove_7 : decode b_Al_fastRemove 7 = .ok (.putfield 63, 3) := by decide +kernel
theorem d_Al_fastRemove_10 : decode b_Al_fastRemove 10 = .ok (.aload_n 0, 1) := by decide +kernel
theorem d_Al_fastRemove_11 : decode b_Al_fastRemove 11 = .ok (.getfield 48, 3) := by decide +kernel
theorem d_Al_fastRemove_14 : decode b_Al_fastRemove 14 = .ok (.iconst 1, 1) := by decide +kernel
theorem d_Al_fastRemove_15 : decode b_Al_fastRemove 15 = .ok (.isub, 1) := by decide +kernel
theorem d_Al_fastRemove_16 : decode b_Al_fastRemove 16 = .ok (.dup, 1) := by decide +kernel
theorem d_Al_fastRemove_17 : decode b_Al_fastRemove 17 = .ok (.istore_n 3, 1) := by decide +kernel
theorem d_Al_fastRemove_18 : decode b_Al_fastRemove 18 = .ok (.iload_n 2, 1) := by decide +kernel
theorem d_Al_fastRemove_19 : decode b_Al_fastRemove 19 = .ok (.if_icmp .le 15, 3) := by decide +kernel
theorem d_Al_fastRemove_22 : decode b_Al_fastRemove 22 = .ok (.aload_n 1, 1) := by decide +kernel
theorem d_Al_fastRemove_23 : decode b_Al_fastRemove 23 = .ok (.iload_n 2, 1) := by decide +kernel
theorem d_Al_fastRemove_24 : decode b_Al_fastRemove 24 = .ok (.iconst 1, 1) := by decide +kernel
theorem d_Al_fastRemove_25 : decode b_Al_fastRemove 25 = .ok (.iadd, 1) := by decide +kernel
theorem d_Al_fastRemove_26 : decode b_Al_fastRemove 26 = .ok (.aload_n 1, 1) := by decide +kernel
theorem d_Al_fastRemove_27 : decode b_Al_fastRemove 27 = .ok (.iload_n 2, 1) := by decide +kernel
theorem d_Al_fastRemove_28 : decode b_Al_fastRemove 28 = .ok (.iload_n 3, 1) := by decide +kernel
theorem d_Al_fastRemove_29 : decode b_Al_fastRemove 29 = .ok (.iload_n 2, 1) := by decide +kernel
theorem d_Al_fastRemove_30 : decode b_Al_fastRemove 30 = .ok (.isub, 1) := by decide +kernel
theorem d_Al_fastRemove_31 : decode b_Al_fastRemove 31 = .ok (.invokestatic 112, 3) := by decide +kernel
theorem d_Al_fastRemove_34 : decode b_Al_fastRemove 34 = .ok (.aload_n 1, 1) := by decide +kernel
theorem d_Al_fastRemove_35 : decode b_Al_fastRemove 35 = .ok (.aload_n 0, 1) := by decide +kernel
theorem d_Al_fastRemove_36 : decode b_Al_fastRemove 36 = .ok (.iload_n 3, 1) := by decide +kernel
theorem d_Al_fastRemove_37 : decode b_Al_fastRemove 37 = .ok (.dup_x1, 1) := by decide +kernel
theorem d_Al_fastRemove_38 : decode b_Al_fastRemove 38 = .ok (.putfield 48, 3) := by decide +kernel
theorem d_Al_fastRemove_41 : decode b_Al_fastRemove 41 = .ok (.aconst_null, 1) := by decide +kernel
theorem d_Al_fastRemove_42 : decode b_Al_fastRemove 42 = .ok (.aastore, 1) := by decide +kernel
theorem d_Al_fastRemove_43 : decode b_Al_fastRemove 43 = .ok (.return_, 1) := by decide +kernel
theorem kc_Al_fastRemove : Cond.code y_Al_fastRemove b_Al_fastRemove 4 none ∈ gx_all := gx_in 351 (by decide +kernel)
abbrev b_Al_get : ByteArray := prog_27_method_20_code
def y_Al_get : MethodName := ⟨"java/util/ArrayList", "get", "(I)Ljava/lang/Object;"⟩
theorem d_Al_get_0 : decode b_Al_get 0 = .ok (.iload_n 1, 1) := by decide +kernel
theorem d_Al_get_1 : decode b_Al_get 1 = .ok (.aload_n 0, 1) := by decide +kernel
theorem d_Al_get_2 : decode b_Al_get 2 = .ok (.getfield 48, 3) := by decide +kernel
theorem d_Al_get_5 : decode b_Al_get 5 = .ok (.invokestatic 118, 3) := by decide +kernel
theorem d_Al_get_8 : decode b_Al_get 8 = .ok (.pop, 1) := by decide +kernel
theorem d_Al_get_9 : decode b_Al_get 9 = .ok (.aload_n 0, 1) := by decide +kernel
theorem d_Al_get_10 : decode b_Al_get 10 = .ok (.iload_n 1, 1) := by decide +kernel
theorem d_Al_get_11 : decode b_Al_get 11 = .ok (.invokevirtual 123, 3) := by decide +kernel
theorem d_Al_get_14 : decode b_Al_get 14 = .ok (.areturn, 1) := by decide +kernel
theorem kc_Al_get : Cond.code y_Al_get b_Al_get 2 (some (.object "java/lang/Object")) ∈ gx_all := gx_in 261 (by decide +kernel)
abbrev b_Al_grow0 : ByteArray := prog_27_method_7_code
def y_Al_grow0 : MethodName := ⟨"java/util/ArrayList", "grow", "()[Ljava/lang/Object;"⟩
theorem d_Al_grow0_0 : decode b_Al_grow0 0 = .ok (.aload_n 0, 1) := by decide +kernel
theorem d_Al_grow0_1 : decode b_Al_grow0 1 = .ok (.aload_n 0, 1) := by decide +kernel
theorem d_Al_grow0_2 : decode b_Al_grow0 2 = .ok (.getfield 48, 3) := by decide +kernel
theorem d_Al_grow0_5 : decode b_Al_grow0 5 = .ok (.iconst 1, 1) := by decide +kernel
theorem d_Al_grow0_6 : decode b_Al_grow0 6 = .ok (.iadd, 1) := by decide +kernel
theorem d_Al_grow0_7 : decode b_Al_grow0 7 = .ok (.invokevirtual 69, 3) := by decide +kernel
theorem d_Al_grow0_10 : decode b_Al_grow0 10 = .ok (.areturn, 1) := by decide +kernel
theorem kc_Al_grow0 : Cond.code y_Al_grow0 b_Al_grow0 1 (some (.array (.object "java/lang/Object"))) ∈ gx_all := gx_in 292 (by decide +kernel)
abbrev b_Al_grow1 : ByteArray := prog_27_method_6_code
def y_Al_grow1 : MethodName := ⟨"java/util/ArrayList", "grow", "(I)[Ljava/lang/Object;"⟩
theorem d_Al_grow1_0 : decode b_Al_grow1 0 = .ok (.aload_n 0, 1) := by decide +kernel
theorem d_Al_grow1_1 : decode b_Al_grow1 1 = .ok (.getfield 9, 3) := by decide +kernel
theorem d_Al_grow1_4 : decode b_Al_grow1 4 = .ok (.arraylength, 1) := by decide +kernel
theorem d_Al_grow1_5 : decode b_Al_grow1 5 = .ok (.istore_n 2, 1) := by decide +kernel
theorem d_Al_grow1_6 : decode b_Al_grow1 6 = .ok (.iload_n 2, 1) := by decide +kernel
theorem d_Al_grow1_7 : decode b_Al_grow1 7 = .ok (.ifCond .gt 13, 3) := by decide +kernel
theorem d_Al_grow1_10 : decode b_Al_grow1 10 = .ok (.aload_n 0, 1) := by decide +kernel
theorem d_Al_grow1_11 : decode b_Al_grow1 11 = .ok (.getfield 9, 3) := by decide +kernel
theorem d_Al_grow1_14 : decode b_Al_grow1 14 = .ok (.getstatic 39, 3) := by decide +kernel
theorem d_Al_grow1_17 : decode b_Al_grow1 17 = .ok (.if_acmp .eq 28, 3) := by decide +kernel
theorem d_Al_grow1_20 : decode b_Al_grow1 20 = .ok (.iload_n 2, 1) := by decide +kernel
theorem d_Al_grow1_21 : decode b_Al_grow1 21 = .ok (.iload_n 1, 1) := by decide +kernel
theorem d_Al_grow1_22 : decode b_Al_grow1 22 = .ok (.iload_n 2, 1) := by decide +kernel
theorem d_Al_grow1_23 : decode b_Al_grow1 23 = .ok (.isub, 1) := by decide +kernel
theorem d_Al_grow1_24 : decode b_Al_grow1 24 = .ok (.iload_n 2, 1) := by decide +kernel
theorem d_Al_grow1_25 : decode b_Al_grow1 25 = .ok (.iconst 1, 1) := by decide +kernel
theorem d_Al_grow1_26 : decode b_Al_grow1 26 = .ok (.ishr, 1) := by decide +kernel
theorem d_Al_grow1_27 : decode b_Al_grow1 27 = .ok (.invokestatic 73, 3) := by decide +kernel
theorem d_Al_grow1_30 : decode b_Al_grow1 30 = .ok (.istore_n 3, 1) := by decide +kernel
theorem d_Al_grow1_31 : decode b_Al_grow1 31 = .ok (.aload_n 0, 1) := by decide +kernel
theorem d_Al_grow1_32 : decode b_Al_grow1 32 = .ok (.aload_n 0, 1) := by decide +kernel
theorem d_Al_grow1_33 : decode b_Al_grow1 33 = .ok (.getfield 9, 3) := by decide +kernel
theorem d_Al_grow1_36 : decode b_Al_grow1 36 = .ok (.iload_n 3, 1) := by decide +kernel
theorem d_Al_grow1_37 : decode b_Al_grow1 37 = .ok (.invokestatic 66, 3) := by decide +kernel
theorem d_Al_grow1_40 : decode b_Al_grow1 40 = .ok (.dup_x1, 1) := by decide +kernel
theorem d_Al_grow1_41 : decode b_Al_grow1 41 = .ok (.putfield 9, 3) := by decide +kernel
theorem d_Al_grow1_44 : decode b_Al_grow1 44 = .ok (.areturn, 1) := by decide +kernel
theorem d_Al_grow1_45 : decode b_Al_grow1 45 = .ok (.aload_n 0, 1) := by decide +kernel
theorem d_Al_grow1_46 : decode b_Al_grow1 46 = .ok (.bipush 10, 2) := by decide +kernel
theorem d_Al_grow1_48 : decode b_Al_grow1 48 = .ok (.iload_n 1, 1) := by decide +kernel
theorem d_Al_grow1_49 : decode b_Al_grow1 49 = .ok (.invokestatic 79, 3) := by decide +kernel
theorem d_Al_grow1_52 : decode b_Al_grow1 52 = .ok (.anewarray 7, 3) := by decide +kernel
theorem d_Al_grow1_55 : decode b_Al_grow1 55 = .ok (.dup_x1, 1) := by decide +kernel
theorem d_Al_grow1_56 : decode b_Al_grow1 56 = .ok (.putfield 9, 3) := by decide +kernel
theorem d_Al_grow1_59 : decode b_Al_grow1 59 = .ok (.areturn, 1) := by decide +kernel
theorem kc_Al_grow1 : Cond.code y_Al_grow1 b_Al_grow1 4 (some (.array (.object "java/lang/Object"))) ∈ gx_all := gx_in 296 (by decide +kernel)
abbrev b_Al_isEmpty : ByteArray := prog_27_method_9_code
def y_Al_isEmpty : MethodName := ⟨"java/util/ArrayList", "isEmpty", "()Z"⟩
theorem d_Al_isEmpty_0 : decode b_Al_isEmpty 0 = .ok (.aload_n 0, 1) := by decide +kernel
theorem d_Al_isEmpty_1 : decode b_Al_isEmpty 1 = .ok (.getfield 48, 3) := by decide +kernel
theorem d_Al_isEmpty_4 : decode b_Al_isEmpty 4 = .ok (.ifCond .ne 7, 3) := by decide +kernel
theorem d_Al_isEmpty_7 : decode b_Al_isEmpty 7 = .ok (.iconst 1, 1) := by decide +kernel
theorem d_Al_isEmpty_8 : decode b_Al_isEmpty 8 = .ok (.goto 4, 3) := by decide +kernel
theorem d_Al_isEmpty_11 : decode b_Al_isEmpty 11 = .ok (.iconst 0, 1) := by decide +kernel
theorem d_Al_isEmpty_12 : decode b_Al_isEmpty 12 = .ok (.ireturn, 1) := by decide +kernel
theorem kc_Al_isEmpty : Cond.code y_Al_isEmpty b_Al_isEmpty 1 (some .boolean) ∈ gx_all := gx_in 627 (by decide +kernel)
abbrev b_Al_remove : ByteArray := prog_27_method_29_code
def y_Al_remove : MethodName := ⟨"java/util/ArrayList", "remove", "(I)Ljava/lang/Object;"⟩
theorem d_Al_remove_0 : decode b_Al_remove 0 = .ok (.iload_n 1, 1) := by decide +kernel
theorem d_Al_remove_1 : decode b_Al_remove 1 = .ok (.aload_n 0, 1) := by decide +kernel
theorem d_Al_remove_2 : decode b_Al_remove 2 = .ok (.getfield 48, 3) := by decide +kernel
theorem d_Al_remove_5 : decode b_Al_remove 5 = .ok (.invokestatic 118, 3) := by decide +kernel
theorem d_Al_remove_8 : decode b_Al_remove 8 = .ok (.pop, 1) := by decide +kernel
theorem d_Al_remove_9 : decode b_Al_remove 9 = .ok (.aload_n 0, 1) := by decide +kernel
theorem d_Al_remove_10 : decode b_Al_remove 10 = .ok (.getfield 9, 3) := by decide +kernel
theorem d_Al_remove_13 : decode b_Al_remove 13 = .ok (.astore_n 2, 1) := by decide +kernel
theorem d_Al_remove_14 : decode b_Al_remove 14 = .ok (.aload_n 2, 1) := by decide +kernel
theorem d_Al_remove_15 : decode b_Al_remove 15 = .ok (.iload_n 1, 1) := by decide +kernel
theorem d_Al_remove_16 : decode b_Al_remove 16 = .ok (.aaload, 1) := by decide +kernel
theorem d_Al_remove_17 : decode b_Al_remove 17 = .ok (.astore_n 3, 1) := by decide +kernel
theorem d_Al_remove_18 : decode b_Al_remove 18 = .ok (.aload_n 0, 1) := by decide +kernel
theorem d_Al_remove_19 : decode b_Al_remove 19 = .ok (.aload_n 2, 1) := by decide +kernel
theorem d_Al_remove_20 : decode b_Al_remove 20 = .ok (.iload_n 1, 1) := by decide +kernel
theorem d_Al_remove_21 : decode b_Al_remove 21 = .ok (.invokevirtual 144, 3) := by decide +kernel
theorem d_Al_remove_24 : decode b_Al_remove 24 = .ok (.aload_n 3, 1) := by decide +kernel
theorem d_Al_remove_25 : decode b_Al_remove 25 = .ok (.areturn, 1) := by decide +kernel
theorem kc_Al_remove : Cond.code y_Al_remove b_Al_remove 4 (some (.object "java/lang/Object")) ∈ gx_all := gx_in 347 (by decide +kernel)
abbrev b_Al_set : ByteArray := prog_27_method_23_code
def y_Al_set : MethodName := ⟨"java/util/ArrayList", "set", "(ILjava/lang/Object;)Ljava/lang/Object;"⟩
theorem d_Al_set_0 : decode b_Al_set 0 = .ok (.iload_n 1, 1) := by decide +kernel
theorem d_Al_set_1 : decode b_Al_set 1 = .ok (.aload_n 0, 1) := by decide +kernel
theorem d_Al_set_2 : decode b_Al_set 2 = .ok (.getfield 48, 3) := by decide +kernel
theorem d_Al_set_5 : decode b_Al_set 5 = .ok (.invokestatic 118, 3) := by decide +kernel
theorem d_Al_set_8 : decode b_Al_set 8 = .ok (.pop, 1) := by decide +kernel
theorem d_Al_set_9 : decode b_Al_set 9 = .ok (.aload_n 0, 1) := by decide +kernel
theorem d_Al_set_10 : decode b_Al_set 10 = .ok (.iload_n 1, 1) := by decide +kernel
theorem d_Al_set_11 : decode b_Al_set 11 = .ok (.invokevirtual 123, 3) := by decide +kernel
theorem d_Al_set_14 : decode b_Al_set 14 = .ok (.astore_n 3, 1) := by decide +kernel
theorem d_Al_set_15 : decode b_Al_set 15 = .ok (.aload_n 0, 1) := by decide +kernel
theorem d_Al_set_16 : decode b_Al_set 16 = .ok (.getfield 9, 3) := by decide +kernel
theorem d_Al_set_19 : decode b_Al_set 19 = .ok (.iload_n 1, 1) := by decide +kernel
theorem d_Al_set_20 : decode b_Al_set 20 = .ok (.aload_n 2, 1) := by decide +kernel
theorem d_Al_set_21 : decode b_Al_set 21 = .ok (.aastore, 1) := by decide +kernel
theorem d_Al_set_22 : decode b_Al_set 22 = .ok (.aload_n 3, 1) := by decide +kernel
theorem d_Al_set_23 : decode b_Al_set 23 = .ok (.areturn, 1) := by decide +kernel
theorem kc_Al_set : Cond.code y_Al_set b_Al_set 4 (some (.object "java/lang/Object")) ∈ gx_all := gx_in 280 (by decide +kernel)
abbrev b_Al_size : ByteArray := prog_27_method_8_code
def y_Al_size : MethodName := ⟨"java/util/ArrayList", "size", "()I"⟩
theorem d_Al_size_0 : decode b_Al_size 0 = .ok (.aload_n 0, 1) := by decide +kernel
theorem d_Al_size_1 : decode b_Al_size 1 = .ok (.getfield 48, 3) := by decide +kernel
theorem d_Al_size_4 : decode b_Al_size 4 = .ok (.ireturn, 1) := by decide +kernel
theorem kc_Al_size : Cond.code y_Al_size b_Al_size 1 (some .int) ∈ gx_all := gx_in 257 (by decide +kernel)
abbrev b_Arrays_copyOf0 : ByteArray := prog_28_method_119_code
def y_Arrays_copyOf0 : MethodName := ⟨"java/util/Arrays", "copyOf", "([Ljava/lang/Object;I)[Ljava/lang/Object;"⟩
theorem d_Arrays_copyOf0_0 : decode b_Arrays_copyOf0 0 = .ok (.aload_n 0, 1) := by decide +kernel
theorem d_Arrays_copyOf0_1 : decode b_Arrays_copyOf0 1 = .ok (.iload_n 1, 1) := by decide +kernel
theorem d_Arrays_copyOf0_2 : decode b_Arrays_copyOf0 2 = .ok (.aload_n 0, 1) := by decide +kernel
theorem d_Arrays_copyOf0_3 : decode b_Arrays_copyOf0 3 = .ok (.invokevirtual 86, 3) := by decide +kernel
theorem d_Arrays_copyOf0_6 : decode b_Arrays_copyOf0 6 = .ok (.invokestatic 300, 3) := by decide +kernel
theorem d_Arrays_copyOf0_9 : decode b_Arrays_copyOf0 9 = .ok (.areturn, 1) := by decide +kernel
theorem kc_Arrays_copyOf0 : Cond.code y_Arrays_copyOf0 b_Arrays_copyOf0 2 (some (.array (.object "java/lang/Object"))) ∈ gx_all := gx_in 309 (by decide +kernel)
abbrev b_Arrays_copyOf1 : ByteArray := prog_28_method_120_code
def y_Arrays_copyOf1 : MethodName := ⟨"java/util/Arrays", "copyOf", "([Ljava/lang/Object;ILjava/lang/Class;)[Ljava/lang/Object;"⟩
theorem d_Arrays_copyOf1_0 : decode b_Arrays_copyOf1 0 = .ok (.aload_n 2, 1) := by decide +kernel
theorem d_Arrays_copyOf1_1 : decode b_Arrays_copyOf1 1 = .ok (.ldc 110, 2) := by decide +kernel
theorem d_Arrays_copyOf1_3 : decode b_Arrays_copyOf1 3 = .ok (.if_acmp .ne 10, 3) := by decide +kernel
theorem d_Arrays_copyOf1_6 : decode b_Arrays_copyOf1 6 = .ok (.iload_n 1, 1) := by decide +kernel
theorem d_Arrays_copyOf1_7 : decode b_Arrays_copyOf1 7 = .ok (.anewarray 2, 3) := by decide +kernel
theorem d_Arrays_copyOf1_10 : decode b_Arrays_copyOf1 10 = .ok (.goto 14, 3) := by decide +kernel
theorem d_Arrays_copyOf1_13 : decode b_Arrays_copyOf1 13 = .ok (.aload_n 2, 1) := by decide +kernel
theorem d_Arrays_copyOf1_14 : decode b_Arrays_copyOf1 14 = .ok (.invokevirtual 90, 3) := by decide +kernel
theorem d_Arrays_copyOf1_17 : decode b_Arrays_copyOf1 17 = .ok (.iload_n 1, 1) := by decide +kernel
theorem d_Arrays_copyOf1_18 : decode b_Arrays_copyOf1 18 = .ok (.invokestatic 95, 3) := by decide +kernel
theorem d_Arrays_copyOf1_21 : decode b_Arrays_copyOf1 21 = .ok (.checkcast 110, 3) := by decide +kernel
theorem d_Arrays_copyOf1_24 : decode b_Arrays_copyOf1 24 = .ok (.astore_n 3, 1) := by decide +kernel
theorem d_Arrays_copyOf1_25 : decode b_Arrays_copyOf1 25 = .ok (.aload_n 0, 1) := by decide +kernel
theorem d_Arrays_copyOf1_26 : decode b_Arrays_copyOf1 26 = .ok (.iconst 0, 1) := by decide +kernel
theorem d_Arrays_copyOf1_27 : decode b_Arrays_copyOf1 27 = .ok (.aload_n 3, 1) := by decide +kernel
theorem d_Arrays_copyOf1_28 : decode b_Arrays_copyOf1 28 = .ok (.iconst 0, 1) := by decide +kernel
theorem d_Arrays_copyOf1_29 : decode b_Arrays_copyOf1 29 = .ok (.aload_n 0, 1) := by decide +kernel
theorem d_Arrays_copyOf1_30 : decode b_Arrays_copyOf1 30 = .ok (.arraylength, 1) := by decide +kernel
theorem d_Arrays_copyOf1_31 : decode b_Arrays_copyOf1 31 = .ok (.iload_n 1, 1) := by decide +kernel
theorem d_Arrays_copyOf1_32 : decode b_Arrays_copyOf1 32 = .ok (.invokestatic 304, 3) := by decide +kernel
theorem d_Arrays_copyOf1_35 : decode b_Arrays_copyOf1 35 = .ok (.invokestatic 150, 3) := by decide +kernel
theorem d_Arrays_copyOf1_38 : decode b_Arrays_copyOf1 38 = .ok (.aload_n 3, 1) := by decide +kernel
theorem d_Arrays_copyOf1_39 : decode b_Arrays_copyOf1 39 = .ok (.areturn, 1) := by decide +kernel
theorem kc_Arrays_copyOf1 : Cond.code y_Arrays_copyOf1 b_Arrays_copyOf1 4 (some (.array (.object "java/lang/Object"))) ∈ gx_all := gx_in 332 (by decide +kernel)
abbrev b_NoSuchElementException_init : ByteArray := prog_31_method_4_code
def y_NoSuchElementException_init : MethodName := ⟨"java/util/NoSuchElementException", "<init>", "(Ljava/lang/String;)V"⟩
theorem d_NoSuchElementException_init_0 : decode b_NoSuchElementException_init 0 = .ok (.aload_n 0, 1) := by decide +kernel
theorem d_NoSuchElementException_init_1 : decode b_NoSuchElementException_init 1 = .ok (.aload_n 1, 1) := by decide +kernel
theorem d_NoSuchElementException_init_2 : decode b_NoSuchElementException_init 2 = .ok (.invokespecial 13, 3) := by decide +kernel
theorem d_NoSuchElementException_init_5 : decode b_NoSuchElementException_init 5 = .ok (.return_, 1) := by decide +kernel
theorem kc_NoSuchElementException_init : Cond.code y_NoSuchElementException_init b_NoSuchElementException_init 2 none ∈ gx_all := gx_in 710 (by decide +kernel)
abbrev b_Objects_checkIndex : ByteArray := prog_32_method_17_code
def y_Objects_checkIndex : MethodName := ⟨"java/util/Objects", "checkIndex", "(II)I"⟩
theorem d_Objects_checkIndex_0 : decode b_Objects_checkIndex 0 = .ok (.iload_n 0, 1) := by decide +kernel
theorem d_Objects_checkIndex_1 : decode b_Objects_checkIndex 1 = .ok (.iload_n 1, 1) := by decide +kernel
theorem d_Objects_checkIndex_2 : decode b_Objects_checkIndex 2 = .ok (.aconst_null, 1) := by decide +kernel
theorem d_Objects_checkIndex_3 : decode b_Objects_checkIndex 3 = .ok (.invokestatic 105, 3) := by decide +kernel
theorem d_Objects_checkIndex_6 : decode b_Objects_checkIndex 6 = .ok (.ireturn, 1) := by decide +kernel
theorem kc_Objects_checkIndex : Cond.code y_Objects_checkIndex b_Objects_checkIndex 2 (some .int) ∈ gx_all := gx_in 264 (by decide +kernel)
abbrev b_ArraysSupport_hugeLength : ByteArray := prog_35_method_28_code
def y_ArraysSupport_hugeLength : MethodName := ⟨"jdk/internal/util/ArraysSupport", "hugeLength", "(II)I"⟩
theorem d_ArraysSupport_hugeLength_0 : decode b_ArraysSupport_hugeLength 0 = .ok (.iload_n 0, 1) := by decide +kernel
theorem d_ArraysSupport_hugeLength_1 : decode b_ArraysSupport_hugeLength 1 = .ok (.iload_n 1, 1) := by decide +kernel
theorem d_ArraysSupport_hugeLength_2 : decode b_ArraysSupport_hugeLength 2 = .ok (.iadd, 1) := by decide +kernel
theorem d_ArraysSupport_hugeLength_3 : decode b_ArraysSupport_hugeLength 3 = .ok (.istore_n 2, 1) := by decide +kernel
theorem d_ArraysSupport_hugeLength_4 : decode b_ArraysSupport_hugeLength 4 = .ok (.iload_n 2, 1) := by decide +kernel
theorem d_ArraysSupport_hugeLength_5 : decode b_ArraysSupport_hugeLength 5 = .ok (.ifCond .ge 44, 3) := by decide +kernel
theorem d_ArraysSupport_hugeLength_8 : decode b_ArraysSupport_hugeLength 8 = .ok (.new 204, 3) := by decide +kernel
theorem d_ArraysSupport_hugeLength_11 : decode b_ArraysSupport_hugeLength 11 = .ok (.dup, 1) := by decide +kernel
theorem d_ArraysSupport_hugeLength_12 : decode b_ArraysSupport_hugeLength 12 = .ok (.new 89, 3) := by decide +kernel
theorem d_ArraysSupport_hugeLength_15 : decode b_ArraysSupport_hugeLength 15 = .ok (.dup, 1) := by decide +kernel
theorem d_ArraysSupport_hugeLength_16 : decode b_ArraysSupport_hugeLength 16 = .ok (.invokespecial 91, 3) := by decide +kernel
theorem d_ArraysSupport_hugeLength_19 : decode b_ArraysSupport_hugeLength 19 = .ok (.ldc 206, 2) := by decide +kernel
theorem d_ArraysSupport_hugeLength_21 : decode b_ArraysSupport_hugeLength 21 = .ok (.invokevirtual 94, 3) := by decide +kernel
theorem d_ArraysSupport_hugeLength_24 : decode b_ArraysSupport_hugeLength 24 = .ok (.iload_n 0, 1) := by decide +kernel
theorem d_ArraysSupport_hugeLength_25 : decode b_ArraysSupport_hugeLength 25 = .ok (.invokevirtual 98, 3) := by decide +kernel
theorem d_ArraysSupport_hugeLength_28 : decode b_ArraysSupport_hugeLength 28 = .ok (.ldc 208, 2) := by decide +kernel
theorem d_ArraysSupport_hugeLength_30 : decode b_ArraysSupport_hugeLength 30 = .ok (.invokevirtual 94, 3) := by decide +kernel
theorem d_ArraysSupport_hugeLength_33 : decode b_ArraysSupport_hugeLength 33 = .ok (.iload_n 1, 1) := by decide +kernel
theorem d_ArraysSupport_hugeLength_34 : decode b_ArraysSupport_hugeLength 34 = .ok (.invokevirtual 98, 3) := by decide +kernel
theorem d_ArraysSupport_hugeLength_37 : decode b_ArraysSupport_hugeLength 37 = .ok (.ldc 210, 2) := by decide +kernel
theorem d_ArraysSupport_hugeLength_39 : decode b_ArraysSupport_hugeLength 39 = .ok (.invokevirtual 94, 3) := by decide +kernel
theorem d_ArraysSupport_hugeLength_42 : decode b_ArraysSupport_hugeLength 42 = .ok (.invokevirtual 101, 3) := by decide +kernel
theorem d_ArraysSupport_hugeLength_45 : decode b_ArraysSupport_hugeLength 45 = .ok (.invokespecial 212, 3) := by decide +kernel
theorem d_ArraysSupport_hugeLength_48 : decode b_ArraysSupport_hugeLength 48 = .ok (.athrow, 1) := by decide +kernel
theorem d_ArraysSupport_hugeLength_49 : decode b_ArraysSupport_hugeLength 49 = .ok (.iload_n 2, 1) := by decide +kernel
theorem d_ArraysSupport_hugeLength_50 : decode b_ArraysSupport_hugeLength 50 = .ok (.ldc 200, 2) := by decide +kernel
theorem d_ArraysSupport_hugeLength_52 : decode b_ArraysSupport_hugeLength 52 = .ok (.if_icmp .gt 6, 3) := by decide +kernel
theorem d_ArraysSupport_hugeLength_55 : decode b_ArraysSupport_hugeLength 55 = .ok (.ldc 200, 2) := by decide +kernel
theorem d_ArraysSupport_hugeLength_57 : decode b_ArraysSupport_hugeLength 57 = .ok (.ireturn, 1) := by decide +kernel
theorem d_ArraysSupport_hugeLength_58 : decode b_ArraysSupport_hugeLength 58 = .ok (.iload_n 2, 1) := by decide +kernel
theorem d_ArraysSupport_hugeLength_59 : decode b_ArraysSupport_hugeLength 59 = .ok (.ireturn, 1) := by decide +kernel
theorem kc_ArraysSupport_hugeLength : Cond.code y_ArraysSupport_hugeLength b_ArraysSupport_hugeLength 3 (some .int) ∈ gx_all := gx_in 306 (by decide +kernel)
abbrev b_ArraysSupport_newLength : ByteArray := prog_35_method_27_code
def y_ArraysSupport_newLength : MethodName := ⟨"jdk/internal/util/ArraysSupport", "newLength", "(III)I"⟩
theorem d_ArraysSupport_newLength_0 : decode b_ArraysSupport_newLength 0 = .ok (.iload_n 0, 1) := by decide +kernel
theorem d_ArraysSupport_newLength_1 : decode b_ArraysSupport_newLength 1 = .ok (.iload_n 1, 1) := by decide +kernel
theorem d_ArraysSupport_newLength_2 : decode b_ArraysSupport_newLength 2 = .ok (.iload_n 2, 1) := by decide +kernel
theorem d_ArraysSupport_newLength_3 : decode b_ArraysSupport_newLength 3 = .ok (.invokestatic 194, 3) := by decide +kernel
theorem d_ArraysSupport_newLength_6 : decode b_ArraysSupport_newLength 6 = .ok (.iadd, 1) := by decide +kernel
theorem d_ArraysSupport_newLength_7 : decode b_ArraysSupport_newLength 7 = .ok (.istore_n 3, 1) := by decide +kernel
theorem d_ArraysSupport_newLength_8 : decode b_ArraysSupport_newLength 8 = .ok (.iconst 0, 1) := by decide +kernel
theorem d_ArraysSupport_newLength_9 : decode b_ArraysSupport_newLength 9 = .ok (.iload_n 3, 1) := by decide +kernel
theorem d_ArraysSupport_newLength_10 : decode b_ArraysSupport_newLength 10 = .ok (.if_icmp .ge 11, 3) := by decide +kernel
theorem d_ArraysSupport_newLength_13 : decode b_ArraysSupport_newLength 13 = .ok (.iload_n 3, 1) := by decide +kernel
theorem d_ArraysSupport_newLength_14 : decode b_ArraysSupport_newLength 14 = .ok (.ldc 200, 2) := by decide +kernel
theorem d_ArraysSupport_newLength_16 : decode b_ArraysSupport_newLength 16 = .ok (.if_icmp .gt 5, 3) := by decide +kernel
theorem d_ArraysSupport_newLength_19 : decode b_ArraysSupport_newLength 19 = .ok (.iload_n 3, 1) := by decide +kernel
theorem d_ArraysSupport_newLength_20 : decode b_ArraysSupport_newLength 20 = .ok (.ireturn, 1) := by decide +kernel
theorem d_ArraysSupport_newLength_21 : decode b_ArraysSupport_newLength 21 = .ok (.iload_n 0, 1) := by decide +kernel
theorem d_ArraysSupport_newLength_22 : decode b_ArraysSupport_newLength 22 = .ok (.iload_n 1, 1) := by decide +kernel
theorem d_ArraysSupport_newLength_23 : decode b_ArraysSupport_newLength 23 = .ok (.invokestatic 201, 3) := by decide +kernel
theorem d_ArraysSupport_newLength_26 : decode b_ArraysSupport_newLength 26 = .ok (.ireturn, 1) := by decide +kernel
theorem kc_ArraysSupport_newLength : Cond.code y_ArraysSupport_newLength b_ArraysSupport_newLength 4 (some .int) ∈ gx_all := gx_in 299 (by decide +kernel)
abbrev b_Preconditions_checkIndex : ByteArray := prog_36_method_11_code
def y_Preconditions_checkIndex : MethodName := ⟨"jdk/internal/util/Preconditions", "checkIndex", "(IILjava/util/function/BiFunction;)I"⟩
theorem d_Preconditions_checkIndex_0 : decode b_Preconditions_checkIndex 0 = .ok (.iload_n 0, 1) := by decide +kernel
theorem d_Preconditions_checkIndex_1 : decode b_Preconditions_checkIndex 1 = .ok (.ifCond .lt 8, 3) := by decide +kernel
theorem d_Preconditions_checkIndex_4 : decode b_Preconditions_checkIndex 4 = .ok (.iload_n 0, 1) := by decide +kernel
theorem d_Preconditions_checkIndex_5 : decode b_Preconditions_checkIndex 5 = .ok (.iload_n 1, 1) := by decide +kernel
theorem d_Preconditions_checkIndex_6 : decode b_Preconditions_checkIndex 6 = .ok (.if_icmp .lt 10, 3) := by decide +kernel
theorem d_Preconditions_checkIndex_9 : decode b_Preconditions_checkIndex 9 = .ok (.aload_n 2, 1) := by decide +kernel
theorem d_Preconditions_checkIndex_10 : decode b_Preconditions_checkIndex 10 = .ok (.iload_n 0, 1) := by decide +kernel
theorem d_Preconditions_checkIndex_11 : decode b_Preconditions_checkIndex 11 = .ok (.iload_n 1, 1) := by decide +kernel
theorem d_Preconditions_checkIndex_12 : decode b_Preconditions_checkIndex 12 = .ok (.invokestatic 95, 3) := by decide +kernel
theorem d_Preconditions_checkIndex_15 : decode b_Preconditions_checkIndex 15 = .ok (.athrow, 1) := by decide +kernel
theorem d_Preconditions_checkIndex_16 : decode b_Preconditions_checkIndex 16 = .ok (.iload_n 0, 1) := by decide +kernel
theorem d_Preconditions_checkIndex_17 : decode b_Preconditions_checkIndex 17 = .ok (.ireturn, 1) := by decide +kernel
theorem kc_Preconditions_checkIndex : Cond.code y_Preconditions_checkIndex b_Preconditions_checkIndex 3 (some .int) ∈ gx_all := gx_in 267 (by decide +kernel)
