/-! fillUp, lastOrBegin, giveBackBefore, mend; frames -/
section
variable {l : Launch} {D : va_G} {cI cF cZ cJ : ClassId} {ad : Nat → Nat} {σ : Mem}
set_option maxRecDepth 20000 in
theorem m_494 : Cond.methodLink "PagePool$ChangeLog" 43 (⟨"PagePool$ChangeLog", "forceTo", "(I)Z"⟩ : MethodName) ∈ gt := gt_in 494 (by decide +kernel) (by decide +kernel)
set_option maxRecDepth 20000 in
theorem m_310 : Cond.code (⟨"PagePool$ChangeLog", "forceTo", "(I)Z"⟩ : MethodName) prog_2_method_4_code 3 (some .boolean) ∈ gt := gt_in 310 (by decide +kernel) (by decide +kernel)
set_option maxRecDepth 20000 in
theorem m_308 : Cond.instanceMethod (⟨"PagePool$ChangeLog", "forceTo", "(I)Z"⟩ : MethodName) ∈ gt := gt_in 308 (by decide +kernel) (by decide +kernel)
set_option maxRecDepth 20000 in
theorem m_309 : Cond.selects "PagePool$ChangeLog" (⟨"PagePool$ChangeLog", "forceTo", "(I)Z"⟩ : MethodName) (⟨"PagePool$ChangeLog", "forceTo", "(I)Z"⟩ : MethodName) ∈ gt := gt_in 309 (by decide +kernel) (by decide +kernel)
set_option maxRecDepth 20000 in
theorem m_437 : Cond.methodLink "PagePool$ChangeLog" 54 (⟨"java/lang/Math", "min", "(II)I"⟩ : MethodName) ∈ gt := gt_in 437 (by decide +kernel) (by decide +kernel)
set_option maxRecDepth 20000 in
theorem m_438 : Cond.static (⟨"java/lang/Math", "min", "(II)I"⟩ : MethodName) ∈ gt := gt_in 438 (by decide +kernel) (by decide +kernel)
set_option maxRecDepth 20000 in
theorem m_13 : Cond.initialized "java/lang/Math" ∈ gt := gt_in 13 (by decide +kernel) (by decide +kernel)
set_option maxRecDepth 20000 in
theorem m_439 : Cond.code (⟨"java/lang/Math", "min", "(II)I"⟩ : MethodName) prog_12_method_69_code 2 (some .int) ∈ gt := gt_in 439 (by decide +kernel) (by decide +kernel)
set_option maxRecDepth 20000 in
theorem m_440 : Cond.methodLink "PagePool$ChangeLog" 60 (⟨"java/lang/Math", "max", "(II)I"⟩ : MethodName) ∈ gt := gt_in 440 (by decide +kernel) (by decide +kernel)
set_option maxRecDepth 20000 in
theorem m_441 : Cond.static (⟨"java/lang/Math", "max", "(II)I"⟩ : MethodName) ∈ gt := gt_in 441 (by decide +kernel) (by decide +kernel)
set_option maxRecDepth 20000 in
theorem m_442 : Cond.code (⟨"java/lang/Math", "max", "(II)I"⟩ : MethodName) prog_12_method_65_code 2 (some .int) ∈ gt := gt_in 442 (by decide +kernel) (by decide +kernel)
set_option maxRecDepth 20000 in
theorem m_429 : Cond.methodLink "PagePool$ChangeLog" 51 (⟨"PagePool$ChangeLog", "isChange", "(I)Z"⟩ : MethodName) ∈ gt := gt_in 429 (by decide +kernel) (by decide +kernel)
set_option maxRecDepth 20000 in
theorem m_432 : Cond.code (⟨"PagePool$ChangeLog", "isChange", "(I)Z"⟩ : MethodName) prog_2_method_7_code 2 (some .boolean) ∈ gt := gt_in 432 (by decide +kernel) (by decide +kernel)
set_option maxRecDepth 20000 in
theorem m_430 : Cond.instanceMethod (⟨"PagePool$ChangeLog", "isChange", "(I)Z"⟩ : MethodName) ∈ gt := gt_in 430 (by decide +kernel) (by decide +kernel)
set_option maxRecDepth 20000 in
theorem m_431 : Cond.selects "PagePool$ChangeLog" (⟨"PagePool$ChangeLog", "isChange", "(I)Z"⟩ : MethodName) (⟨"PagePool$ChangeLog", "isChange", "(I)Z"⟩ : MethodName) ∈ gt := gt_in 431 (by decide +kernel) (by decide +kernel)
set_option maxRecDepth 20000 in
theorem m_425 : Cond.methodLink "PagePool$ChangeLog" 47 (⟨"PagePool$ChangeLog", "count", "()I"⟩ : MethodName) ∈ gt := gt_in 425 (by decide +kernel) (by decide +kernel)
set_option maxRecDepth 20000 in
theorem m_428 : Cond.code (⟨"PagePool$ChangeLog", "count", "()I"⟩ : MethodName) prog_2_method_6_code 1 (some .int) ∈ gt := gt_in 428 (by decide +kernel) (by decide +kernel)
set_option maxRecDepth 20000 in
theorem m_426 : Cond.instanceMethod (⟨"PagePool$ChangeLog", "count", "()I"⟩ : MethodName) ∈ gt := gt_in 426 (by decide +kernel) (by decide +kernel)
set_option maxRecDepth 20000 in
theorem m_427 : Cond.selects "PagePool$ChangeLog" (⟨"PagePool$ChangeLog", "count", "()I"⟩ : MethodName) (⟨"PagePool$ChangeLog", "count", "()I"⟩ : MethodName) ∈ gt := gt_in 427 (by decide +kernel) (by decide +kernel)
set_option maxRecDepth 20000 in
theorem m_126 : Cond.fieldLink "PagePool" 34 "PagePool" "frames" "[LPagePool$Frame;" ∈ gt := gt_in 126 (by decide +kernel) (by decide +kernel)
set_option maxRecDepth 20000 in
theorem m_105 : Cond.fieldLink "PagePool" 77 "PagePool$Frame" "page" "I" ∈ gt := gt_in 105 (by decide +kernel) (by decide +kernel)
set_option maxRecDepth 20000 in
theorem m_143 : Cond.methodLink "PagePool" 101 (⟨"PagePool$Frame", "isChanged", "()Z"⟩ : MethodName) ∈ gt := gt_in 143 (by decide +kernel) (by decide +kernel)
set_option maxRecDepth 20000 in
theorem m_146 : Cond.code (⟨"PagePool$Frame", "isChanged", "()Z"⟩ : MethodName) prog_3_method_3_code 1 (some .boolean) ∈ gt := gt_in 146 (by decide +kernel) (by decide +kernel)
set_option maxRecDepth 20000 in
theorem m_144 : Cond.instanceMethod (⟨"PagePool$Frame", "isChanged", "()Z"⟩ : MethodName) ∈ gt := gt_in 144 (by decide +kernel) (by decide +kernel)
set_option maxRecDepth 20000 in
theorem m_145 : Cond.selects "PagePool$Frame" (⟨"PagePool$Frame", "isChanged", "()Z"⟩ : MethodName) (⟨"PagePool$Frame", "isChanged", "()Z"⟩ : MethodName) ∈ gt := gt_in 145 (by decide +kernel) (by decide +kernel)
set_option maxRecDepth 20000 in
theorem m_5 : Cond.initialized "PagePool$Frame" ∈ gt := gt_in 5 (by decide +kernel) (by decide +kernel)
set_option maxRecDepth 20000 in
theorem m_111 : Cond.fieldLink "PagePool" 104 "PagePool$Frame" "first" "I" ∈ gt := gt_in 111 (by decide +kernel) (by decide +kernel)
set_option maxRecDepth 20000 in
theorem m_151 : Cond.methodLink "PagePool" 139 (⟨"PagePool", "olderThan", "(I)I"⟩ : MethodName) ∈ gt := gt_in 151 (by decide +kernel) (by decide +kernel)
set_option maxRecDepth 20000 in
theorem m_154 : Cond.code (⟨"PagePool", "olderThan", "(I)I"⟩ : MethodName) prog_1_method_27_code 4 (some .int) ∈ gt := gt_in 154 (by decide +kernel) (by decide +kernel)
set_option maxRecDepth 20000 in
theorem m_153 : Cond.instanceMethod (⟨"PagePool", "olderThan", "(I)I"⟩ : MethodName) ∈ gt := gt_in 153 (by decide +kernel) (by decide +kernel)
set_option maxRecDepth 20000 in
theorem ms_0 : Cond.selects "PagePool" (⟨"PagePool", "olderThan", "(I)I"⟩ : MethodName) (⟨"PagePool", "olderThan", "(I)I"⟩ : MethodName) ∈ gt := gt_sel 0 (by decide +kernel) (by decide +kernel)
set_option maxRecDepth 20000 in
theorem m_1 : Cond.initialized "PagePool" ∈ gt := gt_in 1 (by decide +kernel) (by decide +kernel)
set_option maxRecDepth 20000 in
theorem m_127 : Cond.fieldLink "PagePool" 39 "PagePool" "hand" "I" ∈ gt := gt_in 127 (by decide +kernel) (by decide +kernel)
set_option maxRecDepth 20000 in
theorem m_125 : Cond.fieldLink "PagePool" 28 "PagePool" "changes" "LPagePool$ChangeLog;" ∈ gt := gt_in 125 (by decide +kernel) (by decide +kernel)
set_option maxRecDepth 20000 in
theorem m_79 : Cond.fieldLink "PagePool" 119 "PagePool$ChangeLog" "forced" "I" ∈ gt := gt_in 79 (by decide +kernel) (by decide +kernel)
set_option maxRecDepth 20000 in
theorem m_81 : Cond.fieldLink "PagePool" 122 "PagePool$ChangeLog" "end" "I" ∈ gt := gt_in 81 (by decide +kernel) (by decide +kernel)
set_option maxRecDepth 20000 in
theorem m_175 : Cond.methodLink "PagePool" 226 (⟨"PagePool$Frame", "empty", "()V"⟩ : MethodName) ∈ gt := gt_in 175 (by decide +kernel) (by decide +kernel)
set_option maxRecDepth 20000 in
theorem m_178 : Cond.code (⟨"PagePool$Frame", "empty", "()V"⟩ : MethodName) prog_3_method_2_code 1 none ∈ gt := gt_in 178 (by decide +kernel) (by decide +kernel)
set_option maxRecDepth 20000 in
theorem m_176 : Cond.instanceMethod (⟨"PagePool$Frame", "empty", "()V"⟩ : MethodName) ∈ gt := gt_in 176 (by decide +kernel) (by decide +kernel)
set_option maxRecDepth 20000 in
theorem m_177 : Cond.selects "PagePool$Frame" (⟨"PagePool$Frame", "empty", "()V"⟩ : MethodName) (⟨"PagePool$Frame", "empty", "()V"⟩ : MethodName) ∈ gt := gt_in 177 (by decide +kernel) (by decide +kernel)
theorem d_C_fillUp_0 : decode b_C_fillUp 0 = .ok (.aload_n 0, 1) := by decide +kernel
theorem d_C_fillUp_1 : decode b_C_fillUp 1 = .ok (.getfield 26, 3) := by decide +kernel
theorem d_C_fillUp_4 : decode b_C_fillUp 4 = .ok (.bipush 8, 2) := by decide +kernel
theorem d_C_fillUp_6 : decode b_C_fillUp 6 = .ok (.irem, 1) := by decide +kernel
theorem d_C_fillUp_7 : decode b_C_fillUp 7 = .ok (.istore_n 1, 1) := by decide +kernel
theorem d_C_fillUp_8 : decode b_C_fillUp 8 = .ok (.iload_n 1, 1) := by decide +kernel
theorem d_C_fillUp_9 : decode b_C_fillUp 9 = .ok (.ifCond .ne 5, 3) := by decide +kernel
theorem d_C_fillUp_12 : decode b_C_fillUp 12 = .ok (.iconst 1, 1) := by decide +kernel
theorem d_C_fillUp_13 : decode b_C_fillUp 13 = .ok (.ireturn, 1) := by decide +kernel
theorem d_C_fillUp_14 : decode b_C_fillUp 14 = .ok (.aload_n 0, 1) := by decide +kernel
theorem d_C_fillUp_15 : decode b_C_fillUp 15 = .ok (.getfield 15, 3) := by decide +kernel
theorem d_C_fillUp_18 : decode b_C_fillUp 18 = .ok (.aload_n 0, 1) := by decide +kernel
theorem d_C_fillUp_19 : decode b_C_fillUp 19 = .ok (.getfield 26, 3) := by decide +kernel
theorem d_C_fillUp_22 : decode b_C_fillUp 22 = .ok (.invokestatic 33, 3) := by decide +kernel
theorem d_C_fillUp_25 : decode b_C_fillUp 25 = .ok (.iconst (-1), 1) := by decide +kernel
theorem d_C_fillUp_26 : decode b_C_fillUp 26 = .ok (.iastore, 1) := by decide +kernel
theorem d_C_fillUp_27 : decode b_C_fillUp 27 = .ok (.aload_n 0, 1) := by decide +kernel
theorem d_C_fillUp_28 : decode b_C_fillUp 28 = .ok (.aload_n 0, 1) := by decide +kernel
theorem d_C_fillUp_29 : decode b_C_fillUp 29 = .ok (.getfield 26, 3) := by decide +kernel
theorem d_C_fillUp_32 : decode b_C_fillUp 32 = .ok (.iload_n 1, 1) := by decide +kernel
theorem d_C_fillUp_33 : decode b_C_fillUp 33 = .ok (.isub, 1) := by decide +kernel
theorem d_C_fillUp_34 : decode b_C_fillUp 34 = .ok (.bipush 8, 2) := by decide +kernel
theorem d_C_fillUp_36 : decode b_C_fillUp 36 = .ok (.iadd, 1) := by decide +kernel
theorem d_C_fillUp_37 : decode b_C_fillUp 37 = .ok (.putfield 29, 3) := by decide +kernel
theorem d_C_fillUp_40 : decode b_C_fillUp 40 = .ok (.aload_n 0, 1) := by decide +kernel
theorem d_C_fillUp_41 : decode b_C_fillUp 41 = .ok (.aload_n 0, 1) := by decide +kernel
theorem d_C_fillUp_42 : decode b_C_fillUp 42 = .ok (.getfield 29, 3) := by decide +kernel
theorem d_C_fillUp_45 : decode b_C_fillUp 45 = .ok (.invokevirtual 43, 3) := by decide +kernel
theorem d_C_fillUp_48 : decode b_C_fillUp 48 = .ok (.ireturn, 1) := by decide +kernel
set_option maxRecDepth 20000 in
theorem g_C_fillUp_22 : GoodIn (kws (y_C_fillUp) b_C_fillUp 2 (some .boolean)) (wsS R_C 33 y_C_slotOf (kws (y_C_slotOf) b_C_slotOf 1 (some .int))) := kwS m_369 m_370 m_4 m_371
set_option maxRecDepth 20000 in
theorem g_C_fillUp_45 : GoodIn (kws (y_C_fillUp) b_C_fillUp 2 (some .boolean)) (wsV R_C 43 R_C y_C_forceTo (kws (y_C_forceTo) b_C_forceTo 3 (some .boolean))) := kwV m_494 m_308 m_309 m_4 m_310
theorem d_C_giveBackBefore_0 : decode b_C_giveBackBefore 0 = .ok (.aload_n 0, 1) := by decide +kernel
theorem d_C_giveBackBefore_1 : decode b_C_giveBackBefore 1 = .ok (.getfield 26, 3) := by decide +kernel
theorem d_C_giveBackBefore_4 : decode b_C_giveBackBefore 4 = .ok (.aload_n 0, 1) := by decide +kernel
theorem d_C_giveBackBefore_5 : decode b_C_giveBackBefore 5 = .ok (.getfield 26, 3) := by decide +kernel
theorem d_C_giveBackBefore_8 : decode b_C_giveBackBefore 8 = .ok (.bipush 8, 2) := by decide +kernel
theorem d_C_giveBackBefore_10 : decode b_C_giveBackBefore 10 = .ok (.irem, 1) := by decide +kernel
theorem d_C_giveBackBefore_11 : decode b_C_giveBackBefore 11 = .ok (.isub, 1) := by decide +kernel
theorem d_C_giveBackBefore_12 : decode b_C_giveBackBefore 12 = .ok (.istore_n 2, 1) := by decide +kernel
theorem d_C_giveBackBefore_13 : decode b_C_giveBackBefore 13 = .ok (.iconst 0, 1) := by decide +kernel
theorem d_C_giveBackBefore_14 : decode b_C_giveBackBefore 14 = .ok (.iload_n 1, 1) := by decide +kernel
theorem d_C_giveBackBefore_15 : decode b_C_giveBackBefore 15 = .ok (.iload_n 2, 1) := by decide +kernel
theorem d_C_giveBackBefore_16 : decode b_C_giveBackBefore 16 = .ok (.invokestatic 54, 3) := by decide +kernel
theorem d_C_giveBackBefore_19 : decode b_C_giveBackBefore 19 = .ok (.aload_n 0, 1) := by decide +kernel
theorem d_C_giveBackBefore_20 : decode b_C_giveBackBefore 20 = .ok (.getfield 22, 3) := by decide +kernel
theorem d_C_giveBackBefore_23 : decode b_C_giveBackBefore 23 = .ok (.isub, 1) := by decide +kernel
theorem d_C_giveBackBefore_24 : decode b_C_giveBackBefore 24 = .ok (.invokestatic 60, 3) := by decide +kernel
theorem d_C_giveBackBefore_27 : decode b_C_giveBackBefore 27 = .ok (.istore_n 3, 1) := by decide +kernel
theorem d_C_giveBackBefore_28 : decode b_C_giveBackBefore 28 = .ok (.aload_n 0, 1) := by decide +kernel
theorem d_C_giveBackBefore_29 : decode b_C_giveBackBefore 29 = .ok (.dup, 1) := by decide +kernel
theorem d_C_giveBackBefore_30 : decode b_C_giveBackBefore 30 = .ok (.getfield 22, 3) := by decide +kernel
theorem d_C_giveBackBefore_33 : decode b_C_giveBackBefore 33 = .ok (.iload_n 3, 1) := by decide +kernel
theorem d_C_giveBackBefore_34 : decode b_C_giveBackBefore 34 = .ok (.iadd, 1) := by decide +kernel
theorem d_C_giveBackBefore_35 : decode b_C_giveBackBefore 35 = .ok (.putfield 22, 3) := by decide +kernel
theorem d_C_giveBackBefore_38 : decode b_C_giveBackBefore 38 = .ok (.iload_n 3, 1) := by decide +kernel
theorem d_C_giveBackBefore_39 : decode b_C_giveBackBefore 39 = .ok (.ireturn, 1) := by decide +kernel
theorem d_C_lastOrBegin_0 : decode b_C_lastOrBegin 0 = .ok (.aload_n 0, 1) := by decide +kernel
theorem d_C_lastOrBegin_1 : decode b_C_lastOrBegin 1 = .ok (.invokevirtual 47, 3) := by decide +kernel
theorem d_C_lastOrBegin_4 : decode b_C_lastOrBegin 4 = .ok (.iconst 1, 1) := by decide +kernel
theorem d_C_lastOrBegin_5 : decode b_C_lastOrBegin 5 = .ok (.isub, 1) := by decide +kernel
theorem d_C_lastOrBegin_6 : decode b_C_lastOrBegin 6 = .ok (.istore_n 1, 1) := by decide +kernel
theorem d_C_lastOrBegin_7 : decode b_C_lastOrBegin 7 = .ok (.iload_n 1, 1) := by decide +kernel
theorem d_C_lastOrBegin_8 : decode b_C_lastOrBegin 8 = .ok (.ifCond .lt 29, 3) := by decide +kernel
theorem d_C_lastOrBegin_11 : decode b_C_lastOrBegin 11 = .ok (.aload_n 0, 1) := by decide +kernel
theorem d_C_lastOrBegin_12 : decode b_C_lastOrBegin 12 = .ok (.getfield 22, 3) := by decide +kernel
theorem d_C_lastOrBegin_15 : decode b_C_lastOrBegin 15 = .ok (.iload_n 1, 1) := by decide +kernel
theorem d_C_lastOrBegin_16 : decode b_C_lastOrBegin 16 = .ok (.bipush 8, 2) := by decide +kernel
theorem d_C_lastOrBegin_18 : decode b_C_lastOrBegin 18 = .ok (.imul, 1) := by decide +kernel
theorem d_C_lastOrBegin_19 : decode b_C_lastOrBegin 19 = .ok (.iadd, 1) := by decide +kernel
theorem d_C_lastOrBegin_20 : decode b_C_lastOrBegin 20 = .ok (.istore_n 2, 1) := by decide +kernel
theorem d_C_lastOrBegin_21 : decode b_C_lastOrBegin 21 = .ok (.aload_n 0, 1) := by decide +kernel
theorem d_C_lastOrBegin_22 : decode b_C_lastOrBegin 22 = .ok (.iload_n 2, 1) := by decide +kernel
theorem d_C_lastOrBegin_23 : decode b_C_lastOrBegin 23 = .ok (.invokevirtual 51, 3) := by decide +kernel
theorem d_C_lastOrBegin_26 : decode b_C_lastOrBegin 26 = .ok (.ifCond .eq 5, 3) := by decide +kernel
theorem d_C_lastOrBegin_29 : decode b_C_lastOrBegin 29 = .ok (.iload_n 2, 1) := by decide +kernel
theorem d_C_lastOrBegin_30 : decode b_C_lastOrBegin 30 = .ok (.ireturn, 1) := by decide +kernel
theorem d_C_lastOrBegin_31 : decode b_C_lastOrBegin 31 = .ok (.iinc 1 (-1), 3) := by decide +kernel
theorem d_C_lastOrBegin_34 : decode b_C_lastOrBegin 34 = .ok (.goto (-27), 3) := by decide +kernel
theorem d_C_lastOrBegin_37 : decode b_C_lastOrBegin 37 = .ok (.aload_n 0, 1) := by decide +kernel
theorem d_C_lastOrBegin_38 : decode b_C_lastOrBegin 38 = .ok (.getfield 22, 3) := by decide +kernel
theorem d_C_lastOrBegin_41 : decode b_C_lastOrBegin 41 = .ok (.ireturn, 1) := by decide +kernel
set_option maxRecDepth 20000 in
theorem g_C_lastOrBegin_23 : GoodIn (kws (y_C_lastOrBegin) b_C_lastOrBegin 3 (some .int)) (wsV R_C 51 R_C y_C_isChange (kws (y_C_isChange) b_C_isChange 2 (some .boolean))) := kwV m_429 m_430 m_431 m_4 m_432
set_option maxRecDepth 20000 in
theorem g_C_lastOrBegin_1 : GoodIn (kws (y_C_lastOrBegin) b_C_lastOrBegin 3 (some .int)) (wsV R_C 47 R_C y_C_count (kws (y_C_count) b_C_count 1 (some .int))) := kwV m_425 m_426 m_427 m_4 m_428
theorem d_P_frameWith_0 : decode b_P_frameWith 0 = .ok (.iconst 0, 1) := by decide +kernel
theorem d_P_frameWith_1 : decode b_P_frameWith 1 = .ok (.istore_n 2, 1) := by decide +kernel
theorem d_P_frameWith_2 : decode b_P_frameWith 2 = .ok (.iload_n 2, 1) := by decide +kernel
theorem d_P_frameWith_3 : decode b_P_frameWith 3 = .ok (.bipush 8, 2) := by decide +kernel
theorem d_P_frameWith_5 : decode b_P_frameWith 5 = .ok (.if_icmp .ge 24, 3) := by decide +kernel
theorem d_P_frameWith_8 : decode b_P_frameWith 8 = .ok (.aload_n 0, 1) := by decide +kernel
theorem d_P_frameWith_9 : decode b_P_frameWith 9 = .ok (.getfield 34, 3) := by decide +kernel
theorem d_P_frameWith_12 : decode b_P_frameWith 12 = .ok (.iload_n 2, 1) := by decide +kernel
theorem d_P_frameWith_13 : decode b_P_frameWith 13 = .ok (.aaload, 1) := by decide +kernel
theorem d_P_frameWith_14 : decode b_P_frameWith 14 = .ok (.getfield 77, 3) := by decide +kernel
theorem d_P_frameWith_17 : decode b_P_frameWith 17 = .ok (.iload_n 1, 1) := by decide +kernel
theorem d_P_frameWith_18 : decode b_P_frameWith 18 = .ok (.if_icmp .ne 5, 3) := by decide +kernel
theorem d_P_frameWith_21 : decode b_P_frameWith 21 = .ok (.iload_n 2, 1) := by decide +kernel
theorem d_P_frameWith_22 : decode b_P_frameWith 22 = .ok (.ireturn, 1) := by decide +kernel
theorem d_P_frameWith_23 : decode b_P_frameWith 23 = .ok (.iinc 2 1, 3) := by decide +kernel
theorem d_P_frameWith_26 : decode b_P_frameWith 26 = .ok (.goto (-24), 3) := by decide +kernel
theorem d_P_frameWith_29 : decode b_P_frameWith 29 = .ok (.iconst (-1), 1) := by decide +kernel
theorem d_P_frameWith_30 : decode b_P_frameWith 30 = .ok (.ireturn, 1) := by decide +kernel
theorem d_P_changed_0 : decode b_P_changed 0 = .ok (.iconst 0, 1) := by decide +kernel
theorem d_P_changed_1 : decode b_P_changed 1 = .ok (.istore_n 1, 1) := by decide +kernel
theorem d_P_changed_2 : decode b_P_changed 2 = .ok (.iconst 0, 1) := by decide +kernel
theorem d_P_changed_3 : decode b_P_changed 3 = .ok (.istore_n 2, 1) := by decide +kernel
theorem d_P_changed_4 : decode b_P_changed 4 = .ok (.iload_n 2, 1) := by decide +kernel
theorem d_P_changed_5 : decode b_P_changed 5 = .ok (.bipush 8, 2) := by decide +kernel
theorem d_P_changed_7 : decode b_P_changed 7 = .ok (.if_icmp .ge 24, 3) := by decide +kernel
theorem d_P_changed_10 : decode b_P_changed 10 = .ok (.aload_n 0, 1) := by decide +kernel
theorem d_P_changed_11 : decode b_P_changed 11 = .ok (.getfield 34, 3) := by decide +kernel
theorem d_P_changed_14 : decode b_P_changed 14 = .ok (.iload_n 2, 1) := by decide +kernel
theorem d_P_changed_15 : decode b_P_changed 15 = .ok (.aaload, 1) := by decide +kernel
theorem d_P_changed_16 : decode b_P_changed 16 = .ok (.invokevirtual 101, 3) := by decide +kernel
theorem d_P_changed_19 : decode b_P_changed 19 = .ok (.ifCond .eq 6, 3) := by decide +kernel
theorem d_P_changed_22 : decode b_P_changed 22 = .ok (.iinc 1 1, 3) := by decide +kernel
theorem d_P_changed_25 : decode b_P_changed 25 = .ok (.iinc 2 1, 3) := by decide +kernel
theorem d_P_changed_28 : decode b_P_changed 28 = .ok (.goto (-24), 3) := by decide +kernel
theorem d_P_changed_31 : decode b_P_changed 31 = .ok (.iload_n 1, 1) := by decide +kernel
theorem d_P_changed_32 : decode b_P_changed 32 = .ok (.ireturn, 1) := by decide +kernel
set_option maxRecDepth 20000 in
theorem g_P_changed_16 : GoodIn (kws (y_P_changed) b_P_changed 3 (some .int)) (wsV R_P 101 R_F y_F_isChanged (kws (y_F_isChanged) b_F_isChanged 1 (some .boolean))) := kwV m_143 m_144 m_145 m_5 m_146
theorem d_P_olderThan_0 : decode b_P_olderThan 0 = .ok (.iconst 0, 1) := by decide +kernel
theorem d_P_olderThan_1 : decode b_P_olderThan 1 = .ok (.istore_n 2, 1) := by decide +kernel
theorem d_P_olderThan_2 : decode b_P_olderThan 2 = .ok (.iconst 0, 1) := by decide +kernel
theorem d_P_olderThan_3 : decode b_P_olderThan 3 = .ok (.istore_n 3, 1) := by decide +kernel
theorem d_P_olderThan_4 : decode b_P_olderThan 4 = .ok (.iload_n 3, 1) := by decide +kernel
theorem d_P_olderThan_5 : decode b_P_olderThan 5 = .ok (.bipush 8, 2) := by decide +kernel
theorem d_P_olderThan_7 : decode b_P_olderThan 7 = .ok (.if_icmp .ge 37, 3) := by decide +kernel
theorem d_P_olderThan_10 : decode b_P_olderThan 10 = .ok (.aload_n 0, 1) := by decide +kernel
theorem d_P_olderThan_11 : decode b_P_olderThan 11 = .ok (.getfield 34, 3) := by decide +kernel
theorem d_P_olderThan_14 : decode b_P_olderThan 14 = .ok (.iload_n 3, 1) := by decide +kernel
theorem d_P_olderThan_15 : decode b_P_olderThan 15 = .ok (.aaload, 1) := by decide +kernel
theorem d_P_olderThan_16 : decode b_P_olderThan 16 = .ok (.invokevirtual 101, 3) := by decide +kernel
theorem d_P_olderThan_19 : decode b_P_olderThan 19 = .ok (.ifCond .eq 19, 3) := by decide +kernel
theorem d_P_olderThan_22 : decode b_P_olderThan 22 = .ok (.aload_n 0, 1) := by decide +kernel
theorem d_P_olderThan_23 : decode b_P_olderThan 23 = .ok (.getfield 34, 3) := by decide +kernel
theorem d_P_olderThan_26 : decode b_P_olderThan 26 = .ok (.iload_n 3, 1) := by decide +kernel
theorem d_P_olderThan_27 : decode b_P_olderThan 27 = .ok (.aaload, 1) := by decide +kernel
theorem d_P_olderThan_28 : decode b_P_olderThan 28 = .ok (.getfield 104, 3) := by decide +kernel
theorem d_P_olderThan_31 : decode b_P_olderThan 31 = .ok (.iload_n 1, 1) := by decide +kernel
theorem d_P_olderThan_32 : decode b_P_olderThan 32 = .ok (.if_icmp .ge 6, 3) := by decide +kernel
theorem d_P_olderThan_35 : decode b_P_olderThan 35 = .ok (.iinc 2 1, 3) := by decide +kernel
theorem d_P_olderThan_38 : decode b_P_olderThan 38 = .ok (.iinc 3 1, 3) := by decide +kernel
theorem d_P_olderThan_41 : decode b_P_olderThan 41 = .ok (.goto (-37), 3) := by decide +kernel
theorem d_P_olderThan_44 : decode b_P_olderThan 44 = .ok (.iload_n 2, 1) := by decide +kernel
theorem d_P_olderThan_45 : decode b_P_olderThan 45 = .ok (.ireturn, 1) := by decide +kernel
set_option maxRecDepth 20000 in
theorem g_P_olderThan_16 : GoodIn (kws (y_P_olderThan) b_P_olderThan 4 (some .int)) (wsV R_P 101 R_F y_F_isChanged (kws (y_F_isChanged) b_F_isChanged 1 (some .boolean))) := kwV m_143 m_144 m_145 m_5 m_146
theorem d_P_oldest_0 : decode b_P_oldest 0 = .ok (.iconst 0, 1) := by decide +kernel
theorem d_P_oldest_1 : decode b_P_oldest 1 = .ok (.istore_n 2, 1) := by decide +kernel
theorem d_P_oldest_2 : decode b_P_oldest 2 = .ok (.iload_n 2, 1) := by decide +kernel
theorem d_P_oldest_3 : decode b_P_oldest 3 = .ok (.bipush 8, 2) := by decide +kernel
theorem d_P_oldest_5 : decode b_P_oldest 5 = .ok (.if_icmp .ge 40, 3) := by decide +kernel
theorem d_P_oldest_8 : decode b_P_oldest 8 = .ok (.aload_n 0, 1) := by decide +kernel
theorem d_P_oldest_9 : decode b_P_oldest 9 = .ok (.getfield 34, 3) := by decide +kernel
theorem d_P_oldest_12 : decode b_P_oldest 12 = .ok (.iload_n 2, 1) := by decide +kernel
theorem d_P_oldest_13 : decode b_P_oldest 13 = .ok (.aaload, 1) := by decide +kernel
theorem d_P_oldest_14 : decode b_P_oldest 14 = .ok (.invokevirtual 101, 3) := by decide +kernel
theorem d_P_oldest_17 : decode b_P_oldest 17 = .ok (.ifCond .eq 22, 3) := by decide +kernel
theorem d_P_oldest_20 : decode b_P_oldest 20 = .ok (.aload_n 0, 1) := by decide +kernel
theorem d_P_oldest_21 : decode b_P_oldest 21 = .ok (.aload_n 0, 1) := by decide +kernel
theorem d_P_oldest_22 : decode b_P_oldest 22 = .ok (.getfield 34, 3) := by decide +kernel
theorem d_P_oldest_25 : decode b_P_oldest 25 = .ok (.iload_n 2, 1) := by decide +kernel
theorem d_P_oldest_26 : decode b_P_oldest 26 = .ok (.aaload, 1) := by decide +kernel
theorem d_P_oldest_27 : decode b_P_oldest 27 = .ok (.getfield 104, 3) := by decide +kernel
theorem d_P_oldest_30 : decode b_P_oldest 30 = .ok (.invokevirtual 139, 3) := by decide +kernel
theorem d_P_oldest_33 : decode b_P_oldest 33 = .ok (.iload_n 1, 1) := by decide +kernel
theorem d_P_oldest_34 : decode b_P_oldest 34 = .ok (.if_icmp .ne 5, 3) := by decide +kernel
theorem d_P_oldest_37 : decode b_P_oldest 37 = .ok (.iload_n 2, 1) := by decide +kernel
theorem d_P_oldest_38 : decode b_P_oldest 38 = .ok (.ireturn, 1) := by decide +kernel
theorem d_P_oldest_39 : decode b_P_oldest 39 = .ok (.iinc 2 1, 3) := by decide +kernel
theorem d_P_oldest_42 : decode b_P_oldest 42 = .ok (.goto (-40), 3) := by decide +kernel
theorem d_P_oldest_45 : decode b_P_oldest 45 = .ok (.iconst (-1), 1) := by decide +kernel
theorem d_P_oldest_46 : decode b_P_oldest 46 = .ok (.ireturn, 1) := by decide +kernel
set_option maxRecDepth 20000 in
theorem g_P_oldest_14 : GoodIn (kws (y_P_oldest) b_P_oldest 3 (some .int)) (wsV R_P 101 R_F y_F_isChanged (kws (y_F_isChanged) b_F_isChanged 1 (some .boolean))) := kwV m_143 m_144 m_145 m_5 m_146
set_option maxRecDepth 20000 in
theorem g_P_oldest_30 : GoodIn (kws (y_P_oldest) b_P_oldest 3 (some .int)) (wsV R_P 139 R_P y_P_olderThan (kws (y_P_olderThan) b_P_olderThan 4 (some .int))) := kwV m_151 m_153 ms_0 m_1 m_154
theorem d_P_loseMemory_0 : decode b_P_loseMemory 0 = .ok (.iconst 0, 1) := by decide +kernel
theorem d_P_loseMemory_1 : decode b_P_loseMemory 1 = .ok (.istore_n 1, 1) := by decide +kernel
theorem d_P_loseMemory_2 : decode b_P_loseMemory 2 = .ok (.iload_n 1, 1) := by decide +kernel
theorem d_P_loseMemory_3 : decode b_P_loseMemory 3 = .ok (.bipush 8, 2) := by decide +kernel
theorem d_P_loseMemory_5 : decode b_P_loseMemory 5 = .ok (.if_icmp .ge 18, 3) := by decide +kernel
theorem d_P_loseMemory_8 : decode b_P_loseMemory 8 = .ok (.aload_n 0, 1) := by decide +kernel
theorem d_P_loseMemory_9 : decode b_P_loseMemory 9 = .ok (.getfield 34, 3) := by decide +kernel
theorem d_P_loseMemory_12 : decode b_P_loseMemory 12 = .ok (.iload_n 1, 1) := by decide +kernel
theorem d_P_loseMemory_13 : decode b_P_loseMemory 13 = .ok (.aaload, 1) := by decide +kernel
theorem d_P_loseMemory_14 : decode b_P_loseMemory 14 = .ok (.invokevirtual 226, 3) := by decide +kernel
theorem d_P_loseMemory_17 : decode b_P_loseMemory 17 = .ok (.iinc 1 1, 3) := by decide +kernel
theorem d_P_loseMemory_20 : decode b_P_loseMemory 20 = .ok (.goto (-18), 3) := by decide +kernel
theorem d_P_loseMemory_23 : decode b_P_loseMemory 23 = .ok (.aload_n 0, 1) := by decide +kernel
theorem d_P_loseMemory_24 : decode b_P_loseMemory 24 = .ok (.iconst 0, 1) := by decide +kernel
theorem d_P_loseMemory_25 : decode b_P_loseMemory 25 = .ok (.putfield 39, 3) := by decide +kernel
theorem d_P_loseMemory_28 : decode b_P_loseMemory 28 = .ok (.aload_n 0, 1) := by decide +kernel
theorem d_P_loseMemory_29 : decode b_P_loseMemory 29 = .ok (.getfield 28, 3) := by decide +kernel
theorem d_P_loseMemory_32 : decode b_P_loseMemory 32 = .ok (.aload_n 0, 1) := by decide +kernel
theorem d_P_loseMemory_33 : decode b_P_loseMemory 33 = .ok (.getfield 28, 3) := by decide +kernel
theorem d_P_loseMemory_36 : decode b_P_loseMemory 36 = .ok (.getfield 119, 3) := by decide +kernel
theorem d_P_loseMemory_39 : decode b_P_loseMemory 39 = .ok (.putfield 122, 3) := by decide +kernel
theorem d_P_loseMemory_42 : decode b_P_loseMemory 42 = .ok (.return_, 1) := by decide +kernel
set_option maxRecDepth 20000 in
theorem g_P_loseMemory_14 : GoodIn (kws (y_P_loseMemory) b_P_loseMemory 2 none) (wsV R_P 226 R_F y_F_empty (kws (y_F_empty) b_F_empty 1 none)) := kwV m_175 m_176 m_177 m_5 m_178
def kFill (σ : Mem)  : Int32 × Mem :=
  if ((σ 5 4) - (σ 5 4) / (nI 8) * (nI 8)) = 0 then (nI 1, σ)
  else (((kFT (mup (mup σ 6 (kSlot (σ 5 4)) ((-1))) 5 5 ((((mup σ 6 (kSlot (σ 5 4)) ((-1))) 5 4) - ((σ 5 4) - (σ 5 4) / (nI 8) * (nI 8))) + (nI 8))) ((mup (mup σ 6 (kSlot (σ 5 4)) ((-1))) 5 5 ((((mup σ 6 (kSlot (σ 5 4)) ((-1))) 5 4) - ((σ 5 4) - (σ 5 4) / (nI 8) * (nI 8))) + (nI 8))) 5 5)).1), ((kFT (mup (mup σ 6 (kSlot (σ 5 4)) ((-1))) 5 5 ((((mup σ 6 (kSlot (σ 5 4)) ((-1))) 5 4) - ((σ 5 4) - (σ 5 4) / (nI 8) * (nI 8))) + (nI 8))) ((mup (mup σ 6 (kSlot (σ 5 4)) ((-1))) 5 5 ((((mup σ 6 (kSlot (σ 5 4)) ((-1))) 5 4) - ((σ 5 4) - (σ 5 4) / (nI 8) * (nI 8))) + (nI 8))) 5 5)).2))
set_option maxHeartbeats 4000000 in
set_option maxRecDepth 100000 in
theorem c_C_fillUp (σ : Mem) : KIP l D cI cF cZ cJ ad y_C_fillUp b_C_fillUp 2 (some .boolean) 3 70 [.ref (ad 5)] σ (fun r σ' => r = (kFill σ).1 ∧ σ' = (kFill σ).2) := by
  refine KI.of (by decide) (Nat.le_of_ble_eq_true rfl) ?_
  intro p e s m args below meth c A ls F w hl hr hlk
  obtain ⟨hx, hb, hml, hown, hts⟩ := id F
  have hl : lv_has ls 2 [(0, .ref (ad 5))] := hl
  refine lv_aload_n hx hb d_C_fillUp_0 rfl (lv_at hl 0 rfl) ?_
  refine mr_get F w (kin in_C) 5 (by decide) rfl rfl 4 (by decide) (kws_in m_78) (fun _ h => h) rfl d_C_fillUp_1 ?_
  refine lv_bipush (v := nI 8) hx hb d_C_fillUp_4 (by decide) ?_
  refine lv_irem hx hb d_C_fillUp_6 (by decide) ?_
  refine lv_istore_n (lv' := [(1, .int ((σ 5 4) - (σ 5 4) / (nI 8) * (nI 8))), (0, .ref (ad 5))]) hx hb d_C_fillUp_7 rfl hl (by decide) rfl (fun ls hl => ?_)
  refine lv_iload_n hx hb d_C_fillUp_8 rfl (lv_at hl 0 rfl) ?_
  refine lv_if_ne (tgt := 14) hx hb d_C_fillUp_9 (by decide) (fun c1 => ?_) (fun c1 => ?_)
  · refine lv_aload_n hx hb d_C_fillUp_14 rfl (lv_at hl 1 rfl) ?_
    refine mr_get F w (kin in_C) 5 (by decide) rfl rfl 1 (by decide) (kws_in m_74) (fun _ h => h) rfl d_C_fillUp_15 ?_
    refine lv_aload_n hx hb d_C_fillUp_18 rfl (lv_at hl 1 rfl) ?_
    refine mr_get F w (kin in_C) 5 (by decide) rfl rfl 4 (by decide) (kws_in m_78) (fun _ h => h) rfl d_C_fillUp_19 ?_
    refine mr_callSi (As := [.int (σ 5 4)]) F w hl.1 (c_C_slotOf σ (σ 5 4)) (cwS 1 hts g_C_fillUp_22 rfl rfl rfl (by decide +kernel) ⟨Nat.le_of_ble_eq_true rfl, Nat.le_of_ble_eq_true rfl⟩) rfl rfl (Nat.le_of_ble_eq_true rfl) d_C_fillUp_22 ⟨Nat.zero_le _, Nat.zero_le _⟩ (fun r2 σ3 H locs e4 w => ?_)
    obtain ⟨rfl, hs9⟩ := e4
    rw [hs9] at w
    clear hs9
    refine lv_iconst (v := -1) hx hb d_C_fillUp_25 (by decide) ?_
    refine mr_isN F w 6 0 (by decide) (fun _ => rfl) rfl (kSlot (σ 5 4)) (kSlot_lt _) (by decide) rfl d_C_fillUp_26 (fun H locs w => ?_)
    refine lv_aload_n hx hb d_C_fillUp_27 rfl (lv_at hl 1 rfl) ?_
    refine lv_aload_n hx hb d_C_fillUp_28 rfl (lv_at hl 1 rfl) ?_
    refine mr_get F w (kin in_C) 5 (by decide) rfl rfl 4 (by decide) (kws_in m_78) (fun _ h => h) rfl d_C_fillUp_29 ?_
    refine lv_iload_n hx hb d_C_fillUp_32 rfl (lv_at hl 0 rfl) ?_
    refine lv_isub hx hb d_C_fillUp_33 ?_
    refine lv_bipush (v := nI 8) hx hb d_C_fillUp_34 (by decide) ?_
    refine lv_iadd hx hb d_C_fillUp_36 ?_
    refine mr_put F w (kin in_C) t_C t_C_ok n_C 5 (by decide) rfl rfl 5 (by decide) (kws_in m_80) (fun _ h => h) rfl rfl rfl (Nat.le_of_ble_eq_true rfl) rfl d_C_fillUp_37 (fun H locs w => ?_)
    refine lv_aload_n hx hb d_C_fillUp_40 rfl (lv_at hl 1 rfl) ?_
    refine lv_aload_n hx hb d_C_fillUp_41 rfl (lv_at hl 1 rfl) ?_
    refine mr_get F w (kin in_C) 5 (by decide) rfl rfl 5 (by decide) (kws_in m_80) (fun _ h => h) rfl d_C_fillUp_42 ?_
    refine mr_callVi (As := [.int ((mup (mup σ 6 (kSlot (σ 5 4)) ((-1))) 5 5 ((((mup σ 6 (kSlot (σ 5 4)) ((-1))) 5 4) - ((σ 5 4) - (σ 5 4) / (nI 8) * (nI 8))) + (nI 8))) 5 5)]) F w hl.1 (c_C_forceTo (mup (mup σ 6 (kSlot (σ 5 4)) ((-1))) 5 5 ((((mup σ 6 (kSlot (σ 5 4)) ((-1))) 5 4) - ((σ 5 4) - (σ 5 4) / (nI 8) * (nI 8))) + (nI 8))) ((mup (mup σ 6 (kSlot (σ 5 4)) ((-1))) 5 5 ((((mup σ 6 (kSlot (σ 5 4)) ((-1))) 5 4) - ((σ 5 4) - (σ 5 4) / (nI 8) * (nI 8))) + (nI 8))) 5 5)) (cwV 1 hts g_C_fillUp_45 rfl rfl rfl (by decide +kernel) ⟨Nat.le_of_ble_eq_true rfl, Nat.le_of_ble_eq_true rfl⟩) rfl (by decide) rfl rfl rfl (Nat.le_of_ble_eq_true rfl) d_C_fillUp_45 ⟨Nat.zero_le _, Nat.zero_le _⟩ (fun r5 σ6 H locs e7 w => ?_)
    have e7_r := e7.1.symm
    have e7_s := e7.2.symm
    clear e7
    exact mr_zret F w hr hlk ((by subst e7_r e7_s; exact kForce_01 _ _)) (by subst e7_r e7_s; unfold kFill; rw [if_neg c1]; exact ⟨rfl, rfl⟩) d_C_fillUp_48
  · refine lv_iconst (v := nI 1) hx hb d_C_fillUp_12 (by decide) ?_
    exact mr_zret F w hr hlk (Or.inr rfl) (by unfold kFill; rw [if_pos c1]; exact ⟨rfl, rfl⟩) d_C_fillUp_13
def kGive (σ : Mem) (keep : Int32) : Int32 × Mem :=
  (if (nI 0) < ((if ((σ 5 4) - ((σ 5 4) - (σ 5 4) / (nI 8) * (nI 8))) < keep then ((σ 5 4) - ((σ 5 4) - (σ 5 4) / (nI 8) * (nI 8))) else keep) - (σ 5 3)) then ((if ((σ 5 4) - ((σ 5 4) - (σ 5 4) / (nI 8) * (nI 8))) < keep then ((σ 5 4) - ((σ 5 4) - (σ 5 4) / (nI 8) * (nI 8))) else keep) - (σ 5 3)) else (nI 0), mup σ 5 3 ((σ 5 3) + (if (nI 0) < ((if ((σ 5 4) - ((σ 5 4) - (σ 5 4) / (nI 8) * (nI 8))) < keep then ((σ 5 4) - ((σ 5 4) - (σ 5 4) / (nI 8) * (nI 8))) else keep) - (σ 5 3)) then ((if ((σ 5 4) - ((σ 5 4) - (σ 5 4) / (nI 8) * (nI 8))) < keep then ((σ 5 4) - ((σ 5 4) - (σ 5 4) / (nI 8) * (nI 8))) else keep) - (σ 5 3)) else (nI 0))))
set_option maxHeartbeats 4000000 in
set_option maxRecDepth 100000 in
theorem c_C_giveBackBefore (σ : Mem) (keep : Int32) : KIP l D cI cF cZ cJ ad y_C_giveBackBefore b_C_giveBackBefore 4 (some .int) 1 40 [.ref (ad 5), .int keep] σ (fun r σ' => r = (kGive σ keep).1 ∧ σ' = (kGive σ keep).2) := by
  refine KI.of (by decide) (Nat.le_of_ble_eq_true rfl) ?_
  intro p e s m args below meth c A ls F w hl hr hlk
  obtain ⟨hx, hb, hml, hown, hts⟩ := id F
  have hl : lv_has ls 4 [(0, .ref (ad 5)), (1, .int keep)] := hl
  refine lv_aload_n hx hb d_C_giveBackBefore_0 rfl (lv_at hl 0 rfl) ?_
  refine mr_get F w (kin in_C) 5 (by decide) rfl rfl 4 (by decide) (kws_in m_78) (fun _ h => h) rfl d_C_giveBackBefore_1 ?_
  refine lv_aload_n hx hb d_C_giveBackBefore_4 rfl (lv_at hl 0 rfl) ?_
  refine mr_get F w (kin in_C) 5 (by decide) rfl rfl 4 (by decide) (kws_in m_78) (fun _ h => h) rfl d_C_giveBackBefore_5 ?_
  refine lv_bipush (v := nI 8) hx hb d_C_giveBackBefore_8 (by decide) ?_
  refine lv_irem hx hb d_C_giveBackBefore_10 (by decide) ?_
  refine lv_isub hx hb d_C_giveBackBefore_11 ?_
  refine lv_istore_n (lv' := [(2, .int ((σ 5 4) - ((σ 5 4) - (σ 5 4) / (nI 8) * (nI 8)))), (0, .ref (ad 5)), (1, .int keep)]) hx hb d_C_giveBackBefore_12 rfl hl (by decide) rfl (fun ls hl => ?_)
  refine lv_iconst (v := nI 0) hx hb d_C_giveBackBefore_13 (by decide) ?_
  refine lv_iload_n hx hb d_C_giveBackBefore_14 rfl (lv_at hl 2 rfl) ?_
  refine lv_iload_n hx hb d_C_giveBackBefore_15 rfl (lv_at hl 0 rfl) ?_
  refine va_mmin hx hb (hml.trans hl.1.symm) hown (hts _ (kws_in m_437)) (hts _ (kws_in m_438)) (hts _ (kws_in m_13)) (hts _ (kws_in m_439)) (Nat.le_of_ble_eq_true rfl) (Nat.le_of_ble_eq_true rfl) (Nat.zero_le _) (Nat.zero_le _) d_C_giveBackBefore_16 ?_
  refine lv_aload_n hx hb d_C_giveBackBefore_19 rfl (lv_at hl 1 rfl) ?_
  refine mr_get F w (kin in_C) 5 (by decide) rfl rfl 3 (by decide) (kws_in m_76) (fun _ h => h) rfl d_C_giveBackBefore_20 ?_
  refine lv_isub hx hb d_C_giveBackBefore_23 ?_
  refine va_mmax hx hb (hml.trans hl.1.symm) hown (hts _ (kws_in m_440)) (hts _ (kws_in m_441)) (hts _ (kws_in m_13)) (hts _ (kws_in m_442)) (Nat.le_of_ble_eq_true rfl) (Nat.le_of_ble_eq_true rfl) (Nat.zero_le _) (Nat.zero_le _) d_C_giveBackBefore_24 ?_
  refine lv_istore_n (lv' := [(3, .int (if (nI 0) < ((if ((σ 5 4) - ((σ 5 4) - (σ 5 4) / (nI 8) * (nI 8))) < keep then ((σ 5 4) - ((σ 5 4) - (σ 5 4) / (nI 8) * (nI 8))) else keep) - (σ 5 3)) then ((if ((σ 5 4) - ((σ 5 4) - (σ 5 4) / (nI 8) * (nI 8))) < keep then ((σ 5 4) - ((σ 5 4) - (σ 5 4) / (nI 8) * (nI 8))) else keep) - (σ 5 3)) else (nI 0))), (2, .int ((σ 5 4) - ((σ 5 4) - (σ 5 4) / (nI 8) * (nI 8)))), (0, .ref (ad 5)), (1, .int keep)]) hx hb d_C_giveBackBefore_27 rfl hl (by decide) rfl (fun ls hl => ?_)
  refine lv_aload_n hx hb d_C_giveBackBefore_28 rfl (lv_at hl 2 rfl) ?_
  refine lv_dup hx hb d_C_giveBackBefore_29 rfl ?_
  refine mr_get F w (kin in_C) 5 (by decide) rfl rfl 3 (by decide) (kws_in m_76) (fun _ h => h) rfl d_C_giveBackBefore_30 ?_
  refine lv_iload_n hx hb d_C_giveBackBefore_33 rfl (lv_at hl 0 rfl) ?_
  refine lv_iadd hx hb d_C_giveBackBefore_34 ?_
  refine mr_put F w (kin in_C) t_C t_C_ok n_C 5 (by decide) rfl rfl 3 (by decide) (kws_in m_76) (fun _ h => h) rfl rfl rfl (Nat.le_of_ble_eq_true rfl) rfl d_C_giveBackBefore_35 (fun H locs w => ?_)
  refine lv_iload_n hx hb d_C_giveBackBefore_38 rfl (lv_at hl 0 rfl) ?_
  exact mr_iret F w hr hlk (by unfold kGive; exact ⟨rfl, rfl⟩) d_C_giveBackBefore_39
def kLast (σ : Mem) : Nat → Int32
  | 0 => σ 5 3
  | n + 1 => if kIsCh σ (σ 5 3 + nI (n * 8)) = 0 then kLast σ n else σ 5 3 + nI (n * 8)
def kCnt (σ : Mem) : Nat := ((σ 5 5 - σ 5 3) / nI 8).toNatClampNeg
theorem m1eq (n : Nat) : nI n - nI 1 = nI n + (-1) := by
  apply Int32.toBitVec_inj.mp
  show (nI n).toBitVec - 1#32 = (nI n).toBitVec + (-1#32)
  rw [BitVec.sub_eq_add_neg]
theorem nI_nm1 {g : Nat} (h : g < 8) : ¬ nI g = -1 := by
  intro q
  have h2 : (nI g).toInt = (-1 : Int32).toInt := by rw [q]
  rw [nI_toInt (by omega)] at h2
  have h3 : (-1 : Int32).toInt = -1 := by decide
  omega
/-- a frame's number, or NONE -/
def fr8 (R : Int32) : Prop := R = -1 ∨ ∃ g : Nat, g < 8 ∧ R = nI g
theorem fr8_in {R : Int32} (h : fr8 R) (hn : ¬ R = -1) : R.toNatClampNeg < 8 ∧ R = nI R.toNatClampNeg := by
  rcases h with h | ⟨g, hg, rfl⟩
  · exact absurd h hn
  · rw [nI_clamp (by omega)]; exact ⟨hg, rfl⟩
theorem fr8_nI {g : Nat} (h : g < 8) : fr8 (nI g) := Or.inr ⟨g, h, rfl⟩
set_option maxHeartbeats 4000000 in
set_option maxRecDepth 100000 in
theorem c_C_lastOrBegin (σ : Mem) (hc : (σ 5 5 - σ 5 3) / nI 8 = nI (kCnt σ)) (hc2 : kCnt σ < 2 ^ 30) : KIP l D cI cF cZ cJ ad y_C_lastOrBegin b_C_lastOrBegin 3 (some .int) 2 60 [.ref (ad 5)] σ (fun r σ' => r = kLast σ (kCnt σ) ∧ σ' = σ) := by
  refine KI.of (by decide) (Nat.le_of_ble_eq_true rfl) ?_
  intro p e s m args below meth c A ls F w hl hr hlk
  obtain ⟨hx, hb, hml, hown, hts⟩ := id F
  have hl : lv_has ls 3 [(0, .ref (ad 5))] := hl
  have loop : ∀ (n : Nat)  (hn : n < 2 ^ 30) (hk : kLast σ n = kLast σ (kCnt σ)) (H : Heap) (locs : List Loc) (ls : Array Slot), mW D clP (tyP cI cF cZ cJ) 25 (eP cI cF ad) ad σ s A s.heap H locs → lv_has ls 3 [(1, .int (nI n + (-1))), (0, .ref (ad 5))] → W p l e { frames := 2, cells := 0, slots := 0, locals := 60 } s m args below meth c H locs 0 0 (MQ below (va_Qi (fun r σ' => r = kLast σ (kCnt σ) ∧ σ' = σ) (KB D clP (tyP cI cF cZ cJ) 25 (eP cI cF ad) ad) A) args s 0 0 A) (F0 m 7 ls []) := by
    intro n
    induction n with
    | zero =>
      intro hn hk H locs ls w hl
      skip
      refine lv_iload_n hx hb d_C_lastOrBegin_7 rfl (lv_at hl 0 rfl) ?_
      refine lv_if_lt (tgt := 37) hx hb d_C_lastOrBegin_8 (by decide) (fun c1 => ?_) (fun c1 => absurd (by decide) c1)
      refine lv_aload_n hx hb d_C_lastOrBegin_37 rfl (lv_at hl 1 rfl) ?_
      refine mr_get F w (kin in_C) 5 (by decide) rfl rfl 3 (by decide) (kws_in m_76) (fun _ h => h) rfl d_C_lastOrBegin_38 ?_
      exact mr_iret F w hr hlk (⟨by rw [← hk]; first | rfl | (simp only [kLast]; done) | (simp only [kLast]; rfl), rfl⟩) d_C_lastOrBegin_41
    | succ n ih =>
      intro hn hk H locs ls w hl
      rw [show nI (n + 1) + (-1) = nI n from pk_m1 n] at hl
      refine lv_iload_n hx hb d_C_lastOrBegin_7 rfl (lv_at hl 0 rfl) ?_
      refine lv_if_lt (tgt := 37) hx hb d_C_lastOrBegin_8 (by decide) (fun c2 => absurd c2 (nI_pos (by omega))) (fun c2 => ?_)
      refine lv_aload_n hx hb d_C_lastOrBegin_11 rfl (lv_at hl 1 rfl) ?_
      refine mr_get F w (kin in_C) 5 (by decide) rfl rfl 3 (by decide) (kws_in m_76) (fun _ h => h) rfl d_C_lastOrBegin_12 ?_
      refine lv_iload_n hx hb d_C_lastOrBegin_15 rfl (lv_at hl 0 rfl) ?_
      refine lv_bipush (v := nI 8) hx hb d_C_lastOrBegin_16 (by decide) ?_
      refine nr_imul hx hb d_C_lastOrBegin_18 ?_
      refine lv_iadd hx hb d_C_lastOrBegin_19 ?_
      refine lv_istore_n (lv' := [(2, .int ((σ 5 3) + (nI (n * 8)))), (1, .int (nI n)), (0, .ref (ad 5))]) hx hb d_C_lastOrBegin_20 rfl hl (by decide) rfl (fun ls hl => ?_)
      refine lv_aload_n hx hb d_C_lastOrBegin_21 rfl (lv_at hl 2 rfl) ?_
      refine lv_iload_n hx hb d_C_lastOrBegin_22 rfl (lv_at hl 0 rfl) ?_
      refine mr_callVi (As := [.int ((σ 5 3) + (nI (n * 8)))]) F w hl.1 (c_C_isChange σ ((σ 5 3) + (nI (n * 8)))) (cwV 1 hts g_C_lastOrBegin_23 rfl rfl rfl (by decide +kernel) ⟨Nat.le_of_ble_eq_true rfl, Nat.le_of_ble_eq_true rfl⟩) rfl (by decide) rfl rfl rfl (Nat.le_of_ble_eq_true rfl) d_C_lastOrBegin_23 ⟨Nat.zero_le _, Nat.zero_le _⟩ (fun r3 σ4 H locs e5 w => ?_)
      obtain ⟨rfl, hs9⟩ := e5
      rw [hs9] at w
      clear hs9
      refine lv_if_eq (tgt := 31) hx hb d_C_lastOrBegin_26 (by decide) (fun c6 => ?_) (fun c6 => ?_)
      · refine lv_iinc (v := nI n + (-1)) (lv' := [(1, .int (nI n + (-1))), (2, .int ((σ 5 3) + (nI (n * 8)))), (0, .ref (ad 5))]) hx hb d_C_lastOrBegin_31 hl (k := 1) rfl rfl (by decide) rfl (fun ls hl => ?_)
        refine lv_goto (tgt := 7) hx hb d_C_lastOrBegin_34 (by decide) ?_
        exact ih (by omega) (by rw [← hk]; simp only [kLast, if_pos c6]) _ _ ls w (lv_sub hl [0, 2] rfl)
      · refine lv_iload_n hx hb d_C_lastOrBegin_29 rfl (lv_at hl 0 rfl) ?_
        exact mr_iret F w hr hlk (⟨by rw [← hk]; first | rfl | (simp only [kLast, if_neg c6]; done) | (simp only [kLast, if_neg c6]; rfl), rfl⟩) d_C_lastOrBegin_30
  refine lv_aload_n hx hb d_C_lastOrBegin_0 rfl (lv_at hl 0 rfl) ?_
  refine mr_callVi (As := []) F w hl.1 (c_C_count σ) (cwV 0 hts g_C_lastOrBegin_1 rfl rfl rfl (by decide +kernel) ⟨Nat.le_of_ble_eq_true rfl, Nat.le_of_ble_eq_true rfl⟩) rfl (by decide) rfl rfl rfl (Nat.le_of_ble_eq_true rfl) d_C_lastOrBegin_1 ⟨Nat.zero_le _, Nat.zero_le _⟩ (fun r7 σ8 H locs e9 w => ?_)
  obtain ⟨rfl, hs9⟩ := e9
  rw [hs9] at w
  clear hs9
  refine lv_iconst (v := nI 1) hx hb d_C_lastOrBegin_4 (by decide) ?_
  refine lv_isub hx hb d_C_lastOrBegin_5 ?_
  refine lv_istore_n (lv' := [(1, .int (((σ 5 5 - σ 5 3) / nI 8) - (nI 1))), (0, .ref (ad 5))]) hx hb d_C_lastOrBegin_6 rfl hl (by decide) rfl (fun ls hl => ?_)
  rw [hc, m1eq] at hl
  exact loop (kCnt σ) hc2 rfl _ _ ls w (lv_sub hl [0, 1] rfl)
def kFw (σ : Mem) (pg : Int32) : Nat → Nat → Int32
  | 0, _ => -1
  | n + 1, f => if σ (f + 9) 1 = pg then nI f else kFw σ pg n (f + 1)
theorem kFw_in (σ : Mem) (pg : Int32) : ∀ (n f : Nat), f + n ≤ 8 → fr8 (kFw σ pg n f)
  | 0, _, _ => Or.inl rfl
  | n + 1, f, h => by
    unfold kFw
    split
    · exact fr8_nI (by omega)
    · exact kFw_in σ pg n (f + 1) (by omega)
def kChanged (σ : Mem) : Nat → Nat → Nat → Nat
  | 0, _, k => k
  | n + 1, f, k => if kCh σ f = 0 then kChanged σ n (f + 1) k else kChanged σ n (f + 1) (k + 1)
def kOld (σ : Mem) (x : Int32) : Nat → Nat → Nat → Nat
  | 0, _, k => k
  | n + 1, f, k => if kCh σ f = 0 then kOld σ x n (f + 1) k else if x ≤ σ (f + 9) 4 then kOld σ x n (f + 1) k else kOld σ x n (f + 1) (k + 1)
def kOldest (σ : Mem) (k : Int32) : Nat → Nat → Int32
  | 0, _ => -1
  | n + 1, f => if kCh σ f = 0 then kOldest σ k n (f + 1) else if nI (kOld σ (σ (f + 9) 4) 8 0 0) = k then nI f else kOldest σ k n (f + 1)
theorem kOldest_in (σ : Mem) (k : Int32) : ∀ (n f : Nat), f + n ≤ 8 → fr8 (kOldest σ k n f)
  | 0, _, _ => Or.inl rfl
  | n + 1, f, h => by
    unfold kOldest
    split
    · exact kOldest_in σ k n (f + 1) (by omega)
    · split
      · exact fr8_nI (by omega)
      · exact kOldest_in σ k n (f + 1) (by omega)
def kEmpties : Nat → Nat → Mem → Mem
  | 0, _, σ => σ
  | n + 1, f, σ => kEmpties n (f + 1) (kEmpty σ f)
def kLose (σ : Mem) : Mem := mup (mup (kEmpties 8 0 σ) 0 4 (nI 0)) 5 5 ((mup (kEmpties 8 0 σ) 0 4 (nI 0)) 5 4)
set_option maxHeartbeats 4000000 in
set_option maxRecDepth 100000 in
theorem c_P_frameWith (σ : Mem) (pg : Int32) : KIP l D cI cF cZ cJ ad y_P_frameWith b_P_frameWith 3 (some .int) 0 0 [.ref (ad 0), .int pg] σ (fun r σ' => r = kFw σ pg 8 0 ∧ σ' = σ) := by
  refine KI.of (by decide) (Nat.le_of_ble_eq_true rfl) ?_
  intro p e s m args below meth c A ls F w hl hr hlk
  obtain ⟨hx, hb, hml, hown, hts⟩ := id F
  have hl : lv_has ls 3 [(0, .ref (ad 0)), (1, .int pg)] := hl
  have loop : ∀ (n : Nat) (f : Nat) (hn : f + n = 8) (hk : kFw σ pg n f = kFw σ pg 8 0) (H : Heap) (locs : List Loc) (ls : Array Slot), mW D clP (tyP cI cF cZ cJ) 25 (eP cI cF ad) ad σ s A s.heap H locs → lv_has ls 3 [(2, .int (nI f)), (0, .ref (ad 0)), (1, .int pg)] → W p l e { frames := 0, cells := 0, slots := 0, locals := 0 } s m args below meth c H locs 0 0 (MQ below (va_Qi (fun r σ' => r = kFw σ pg 8 0 ∧ σ' = σ) (KB D clP (tyP cI cF cZ cJ) 25 (eP cI cF ad) ad) A) args s 0 0 A) (F0 m 2 ls []) := by
    intro n
    induction n with
    | zero =>
      intro f hn hk H locs ls w hl
      refine lv_iload_n hx hb d_P_frameWith_2 rfl (lv_at hl 0 rfl) ?_
      refine lv_bipush (v := nI 8) hx hb d_P_frameWith_3 (by decide) ?_
      refine nr_icmp_ge (tgt := 29) hx hb d_P_frameWith_5 (by decide) (by omega) (by omega) (fun c1 => ?_) (fun c1 => absurd (by omega) c1)
      refine lv_iconst (v := -1) hx hb d_P_frameWith_29 (by decide) ?_
      exact mr_iret F w hr hlk (⟨by rw [← hk]; first | rfl | (simp only [kFw]; done) | (simp only [kFw]; rfl), rfl⟩) d_P_frameWith_30
    | succ n ih =>
      intro f hn hk H locs ls w hl
      refine lv_iload_n hx hb d_P_frameWith_2 rfl (lv_at hl 0 rfl) ?_
      refine lv_bipush (v := nI 8) hx hb d_P_frameWith_3 (by decide) ?_
      refine nr_icmp_ge (tgt := 29) hx hb d_P_frameWith_5 (by decide) (by omega) (by omega) (fun c2 => absurd c2 (by omega)) (fun c2 => ?_)
      refine lv_aload_n hx hb d_P_frameWith_8 rfl (lv_at hl 1 rfl) ?_
      refine mr_get F w (kin in_P) 0 (by decide) rfl rfl 3 (by decide) (kws_in m_126) (fun _ h => h) rfl d_P_frameWith_9 ?_
      refine lv_iload_n hx hb d_P_frameWith_12 rfl (lv_at hl 0 rfl) ?_
      refine mr_aldq F w 8 1 (by decide) rfl rfl f (by omega) (by decide) rfl rfl d_P_frameWith_13 ?_
      refine mr_get F w (kin in_F) (f + 9) (by omega) (eP_F (by omega) _) rfl 1 (by decide) (kws_in m_105) (fun _ h => h) rfl d_P_frameWith_14 ?_
      refine lv_iload_n hx hb d_P_frameWith_17 rfl (lv_at hl 2 rfl) ?_
      refine lv_icmp_ne (tgt := 23) hx hb d_P_frameWith_18 (by decide) (fun c3 => ?_) (fun c3 => ?_)
      · refine lv_iinc (v := nI (f + 1)) (lv' := [(2, .int (nI (f + 1))), (0, .ref (ad 0)), (1, .int pg)]) hx hb d_P_frameWith_23 hl (k := 0) rfl (nI_1 _) (by decide) rfl (fun ls hl => ?_)
        refine lv_goto (tgt := 2) hx hb d_P_frameWith_26 (by decide) ?_
        exact ih (f + 1) (by omega) (by rw [← hk]; simp only [kFw, if_neg c3]) _ _ ls w (lv_sub hl [0, 1, 2] rfl)
      · refine lv_iload_n hx hb d_P_frameWith_21 rfl (lv_at hl 0 rfl) ?_
        exact mr_iret F w hr hlk (⟨by rw [← hk]; first | rfl | (simp only [kFw, if_pos c3]; done) | (simp only [kFw, if_pos c3]; rfl), rfl⟩) d_P_frameWith_22
  refine lv_iconst (v := nI 0) hx hb d_P_frameWith_0 (by decide) ?_
  refine lv_istore_n (lv' := [(2, .int (nI 0)), (0, .ref (ad 0)), (1, .int pg)]) hx hb d_P_frameWith_1 rfl hl (by decide) rfl (fun ls hl => ?_)
  exact loop 8 0 rfl rfl _ _ ls w (lv_sub hl [0, 1, 2] rfl)
set_option maxHeartbeats 4000000 in
set_option maxRecDepth 100000 in
theorem c_P_changed (σ : Mem) : KIP l D cI cF cZ cJ ad y_P_changed b_P_changed 3 (some .int) 1 20 [.ref (ad 0)] σ (fun r σ' => r = nI (kChanged σ 8 0 0) ∧ σ' = σ) := by
  refine KI.of (by decide) (Nat.le_of_ble_eq_true rfl) ?_
  intro p e s m args below meth c A ls F w hl hr hlk
  obtain ⟨hx, hb, hml, hown, hts⟩ := id F
  have hl : lv_has ls 3 [(0, .ref (ad 0))] := hl
  have loop : ∀ (n : Nat) (f k : Nat) (hn : f + n = 8) (hk : kChanged σ n f k = kChanged σ 8 0 0) (H : Heap) (locs : List Loc) (ls : Array Slot), mW D clP (tyP cI cF cZ cJ) 25 (eP cI cF ad) ad σ s A s.heap H locs → lv_has ls 3 [(2, .int (nI f)), (1, .int (nI k)), (0, .ref (ad 0))] → W p l e { frames := 1, cells := 0, slots := 0, locals := 20 } s m args below meth c H locs 0 0 (MQ below (va_Qi (fun r σ' => r = nI (kChanged σ 8 0 0) ∧ σ' = σ) (KB D clP (tyP cI cF cZ cJ) 25 (eP cI cF ad) ad) A) args s 0 0 A) (F0 m 4 ls []) := by
    intro n
    induction n with
    | zero =>
      intro f k hn hk H locs ls w hl
      refine lv_iload_n hx hb d_P_changed_4 rfl (lv_at hl 0 rfl) ?_
      refine lv_bipush (v := nI 8) hx hb d_P_changed_5 (by decide) ?_
      refine nr_icmp_ge (tgt := 31) hx hb d_P_changed_7 (by decide) (by omega) (by omega) (fun c1 => ?_) (fun c1 => absurd (by omega) c1)
      refine lv_iload_n hx hb d_P_changed_31 rfl (lv_at hl 1 rfl) ?_
      exact mr_iret F w hr hlk (⟨by rw [← hk]; first | rfl | (simp only [kChanged]; done) | (simp only [kChanged]; rfl), rfl⟩) d_P_changed_32
    | succ n ih =>
      intro f k hn hk H locs ls w hl
      refine lv_iload_n hx hb d_P_changed_4 rfl (lv_at hl 0 rfl) ?_
      refine lv_bipush (v := nI 8) hx hb d_P_changed_5 (by decide) ?_
      refine nr_icmp_ge (tgt := 31) hx hb d_P_changed_7 (by decide) (by omega) (by omega) (fun c2 => absurd c2 (by omega)) (fun c2 => ?_)
      refine lv_aload_n hx hb d_P_changed_10 rfl (lv_at hl 2 rfl) ?_
      refine mr_get F w (kin in_P) 0 (by decide) rfl rfl 3 (by decide) (kws_in m_126) (fun _ h => h) rfl d_P_changed_11 ?_
      refine lv_iload_n hx hb d_P_changed_14 rfl (lv_at hl 0 rfl) ?_
      refine mr_aldq F w 8 1 (by decide) rfl rfl f (by omega) (by decide) rfl rfl d_P_changed_15 ?_
      refine mr_callVi (As := []) F w hl.1 (c_F_isChanged σ f (by omega)) (cwV 0 hts g_P_changed_16 rfl rfl rfl (by decide +kernel) ⟨Nat.le_of_ble_eq_true rfl, Nat.le_of_ble_eq_true rfl⟩) rfl (by omega) (eP_F (by omega) _) rfl rfl (Nat.le_of_ble_eq_true rfl) d_P_changed_16 ⟨Nat.zero_le _, Nat.zero_le _⟩ (fun r3 σ4 H locs e5 w => ?_)
      obtain ⟨rfl, hs9⟩ := e5
      rw [hs9] at w
      clear hs9
      refine lv_if_eq (tgt := 25) hx hb d_P_changed_19 (by decide) (fun c6 => ?_) (fun c6 => ?_)
      · refine lv_iinc (v := nI (f + 1)) (lv' := [(2, .int (nI (f + 1))), (1, .int (nI k)), (0, .ref (ad 0))]) hx hb d_P_changed_25 hl (k := 0) rfl (nI_1 _) (by decide) rfl (fun ls hl => ?_)
        refine lv_goto (tgt := 4) hx hb d_P_changed_28 (by decide) ?_
        exact ih (f + 1) k (by omega) (by rw [← hk]; simp only [kChanged, if_pos c6]) _ _ ls w (lv_sub hl [0, 1, 2] rfl)
      · refine lv_iinc (v := nI (k + 1)) (lv' := [(1, .int (nI (k + 1))), (2, .int (nI f)), (0, .ref (ad 0))]) hx hb d_P_changed_22 hl (k := 1) rfl (nI_1 _) (by decide) rfl (fun ls hl => ?_)
        refine lv_iinc (v := nI (f + 1)) (lv' := [(2, .int (nI (f + 1))), (1, .int (nI (k + 1))), (0, .ref (ad 0))]) hx hb d_P_changed_25 hl (k := 1) rfl (nI_1 _) (by decide) rfl (fun ls hl => ?_)
        refine lv_goto (tgt := 4) hx hb d_P_changed_28 (by decide) ?_
        exact ih (f + 1) (k + 1) (by omega) (by rw [← hk]; simp only [kChanged, if_neg c6]) _ _ ls w (lv_sub hl [0, 1, 2] rfl)
  refine lv_iconst (v := nI 0) hx hb d_P_changed_0 (by decide) ?_
  refine lv_istore_n (lv' := [(1, .int (nI 0)), (0, .ref (ad 0))]) hx hb d_P_changed_1 rfl hl (by decide) rfl (fun ls hl => ?_)
  refine lv_iconst (v := nI 0) hx hb d_P_changed_2 (by decide) ?_
  refine lv_istore_n (lv' := [(2, .int (nI 0)), (1, .int (nI 0)), (0, .ref (ad 0))]) hx hb d_P_changed_3 rfl hl (by decide) rfl (fun ls hl => ?_)
  exact loop 8 0 0 rfl rfl _ _ ls w (lv_sub hl [0, 1, 2] rfl)
set_option maxHeartbeats 4000000 in
set_option maxRecDepth 100000 in
theorem c_P_olderThan (σ : Mem) (x : Int32) : KIP l D cI cF cZ cJ ad y_P_olderThan b_P_olderThan 4 (some .int) 1 20 [.ref (ad 0), .int x] σ (fun r σ' => r = nI (kOld σ x 8 0 0) ∧ σ' = σ) := by
  refine KI.of (by decide) (Nat.le_of_ble_eq_true rfl) ?_
  intro p e s m args below meth c A ls F w hl hr hlk
  obtain ⟨hx, hb, hml, hown, hts⟩ := id F
  have hl : lv_has ls 4 [(0, .ref (ad 0)), (1, .int x)] := hl
  have loop : ∀ (n : Nat) (f k : Nat) (hn : f + n = 8) (hk : kOld σ x n f k = kOld σ x 8 0 0) (H : Heap) (locs : List Loc) (ls : Array Slot), mW D clP (tyP cI cF cZ cJ) 25 (eP cI cF ad) ad σ s A s.heap H locs → lv_has ls 4 [(3, .int (nI f)), (2, .int (nI k)), (0, .ref (ad 0)), (1, .int x)] → W p l e { frames := 1, cells := 0, slots := 0, locals := 20 } s m args below meth c H locs 0 0 (MQ below (va_Qi (fun r σ' => r = nI (kOld σ x 8 0 0) ∧ σ' = σ) (KB D clP (tyP cI cF cZ cJ) 25 (eP cI cF ad) ad) A) args s 0 0 A) (F0 m 4 ls []) := by
    intro n
    induction n with
    | zero =>
      intro f k hn hk H locs ls w hl
      refine lv_iload_n hx hb d_P_olderThan_4 rfl (lv_at hl 0 rfl) ?_
      refine lv_bipush (v := nI 8) hx hb d_P_olderThan_5 (by decide) ?_
      refine nr_icmp_ge (tgt := 44) hx hb d_P_olderThan_7 (by decide) (by omega) (by omega) (fun c1 => ?_) (fun c1 => absurd (by omega) c1)
      refine lv_iload_n hx hb d_P_olderThan_44 rfl (lv_at hl 1 rfl) ?_
      exact mr_iret F w hr hlk (⟨by rw [← hk]; first | rfl | (simp only [kOld]; done) | (simp only [kOld]; rfl), rfl⟩) d_P_olderThan_45
    | succ n ih =>
      intro f k hn hk H locs ls w hl
      refine lv_iload_n hx hb d_P_olderThan_4 rfl (lv_at hl 0 rfl) ?_
      refine lv_bipush (v := nI 8) hx hb d_P_olderThan_5 (by decide) ?_
      refine nr_icmp_ge (tgt := 44) hx hb d_P_olderThan_7 (by decide) (by omega) (by omega) (fun c2 => absurd c2 (by omega)) (fun c2 => ?_)
      refine lv_aload_n hx hb d_P_olderThan_10 rfl (lv_at hl 2 rfl) ?_
      refine mr_get F w (kin in_P) 0 (by decide) rfl rfl 3 (by decide) (kws_in m_126) (fun _ h => h) rfl d_P_olderThan_11 ?_
      refine lv_iload_n hx hb d_P_olderThan_14 rfl (lv_at hl 0 rfl) ?_
      refine mr_aldq F w 8 1 (by decide) rfl rfl f (by omega) (by decide) rfl rfl d_P_olderThan_15 ?_
      refine mr_callVi (As := []) F w hl.1 (c_F_isChanged σ f (by omega)) (cwV 0 hts g_P_olderThan_16 rfl rfl rfl (by decide +kernel) ⟨Nat.le_of_ble_eq_true rfl, Nat.le_of_ble_eq_true rfl⟩) rfl (by omega) (eP_F (by omega) _) rfl rfl (Nat.le_of_ble_eq_true rfl) d_P_olderThan_16 ⟨Nat.zero_le _, Nat.zero_le _⟩ (fun r3 σ4 H locs e5 w => ?_)
      obtain ⟨rfl, hs9⟩ := e5
      rw [hs9] at w
      clear hs9
      refine lv_if_eq (tgt := 38) hx hb d_P_olderThan_19 (by decide) (fun c6 => ?_) (fun c6 => ?_)
      · refine lv_iinc (v := nI (f + 1)) (lv' := [(3, .int (nI (f + 1))), (2, .int (nI k)), (0, .ref (ad 0)), (1, .int x)]) hx hb d_P_olderThan_38 hl (k := 0) rfl (nI_1 _) (by decide) rfl (fun ls hl => ?_)
        refine lv_goto (tgt := 4) hx hb d_P_olderThan_41 (by decide) ?_
        exact ih (f + 1) k (by omega) (by rw [← hk]; simp only [kOld, if_pos c6]) _ _ ls w (lv_sub hl [0, 1, 2, 3] rfl)
      · refine lv_aload_n hx hb d_P_olderThan_22 rfl (lv_at hl 2 rfl) ?_
        refine mr_get F w (kin in_P) 0 (by decide) rfl rfl 3 (by decide) (kws_in m_126) (fun _ h => h) rfl d_P_olderThan_23 ?_
        refine lv_iload_n hx hb d_P_olderThan_26 rfl (lv_at hl 0 rfl) ?_
        refine mr_aldq F w 8 1 (by decide) rfl rfl f (by omega) (by decide) rfl rfl d_P_olderThan_27 ?_
        refine mr_get F w (kin in_F) (f + 9) (by omega) (eP_F (by omega) _) rfl 4 (by decide) (kws_in m_111) (fun _ h => h) rfl d_P_olderThan_28 ?_
        refine lv_iload_n hx hb d_P_olderThan_31 rfl (lv_at hl 3 rfl) ?_
        refine lv_icmp_ge (tgt := 38) hx hb d_P_olderThan_32 (by decide) (fun c7 => ?_) (fun c7 => ?_)
        · refine lv_iinc (v := nI (f + 1)) (lv' := [(3, .int (nI (f + 1))), (2, .int (nI k)), (0, .ref (ad 0)), (1, .int x)]) hx hb d_P_olderThan_38 hl (k := 0) rfl (nI_1 _) (by decide) rfl (fun ls hl => ?_)
          refine lv_goto (tgt := 4) hx hb d_P_olderThan_41 (by decide) ?_
          exact ih (f + 1) k (by omega) (by rw [← hk]; simp only [kOld, if_neg c6, if_pos c7]) _ _ ls w (lv_sub hl [0, 1, 2, 3] rfl)
        · refine lv_iinc (v := nI (k + 1)) (lv' := [(2, .int (nI (k + 1))), (3, .int (nI f)), (0, .ref (ad 0)), (1, .int x)]) hx hb d_P_olderThan_35 hl (k := 1) rfl (nI_1 _) (by decide) rfl (fun ls hl => ?_)
          refine lv_iinc (v := nI (f + 1)) (lv' := [(3, .int (nI (f + 1))), (2, .int (nI (k + 1))), (0, .ref (ad 0)), (1, .int x)]) hx hb d_P_olderThan_38 hl (k := 1) rfl (nI_1 _) (by decide) rfl (fun ls hl => ?_)
          refine lv_goto (tgt := 4) hx hb d_P_olderThan_41 (by decide) ?_
          exact ih (f + 1) (k + 1) (by omega) (by rw [← hk]; simp only [kOld, if_neg c6, if_neg c7]) _ _ ls w (lv_sub hl [0, 1, 2, 3] rfl)
  refine lv_iconst (v := nI 0) hx hb d_P_olderThan_0 (by decide) ?_
  refine lv_istore_n (lv' := [(2, .int (nI 0)), (0, .ref (ad 0)), (1, .int x)]) hx hb d_P_olderThan_1 rfl hl (by decide) rfl (fun ls hl => ?_)
  refine lv_iconst (v := nI 0) hx hb d_P_olderThan_2 (by decide) ?_
  refine lv_istore_n (lv' := [(3, .int (nI 0)), (2, .int (nI 0)), (0, .ref (ad 0)), (1, .int x)]) hx hb d_P_olderThan_3 rfl hl (by decide) rfl (fun ls hl => ?_)
  exact loop 8 0 0 rfl rfl _ _ ls w (lv_sub hl [0, 1, 2, 3] rfl)
set_option maxHeartbeats 4000000 in
set_option maxRecDepth 100000 in
theorem c_P_oldest (σ : Mem) (k : Int32) : KIP l D cI cF cZ cJ ad y_P_oldest b_P_oldest 3 (some .int) 2 45 [.ref (ad 0), .int k] σ (fun r σ' => r = kOldest σ k 8 0 ∧ σ' = σ) := by
  refine KI.of (by decide) (Nat.le_of_ble_eq_true rfl) ?_
  intro p e s m args below meth c A ls F w hl hr hlk
  obtain ⟨hx, hb, hml, hown, hts⟩ := id F
  have hl : lv_has ls 3 [(0, .ref (ad 0)), (1, .int k)] := hl
  have loop : ∀ (n : Nat) (f : Nat) (hn : f + n = 8) (hk : kOldest σ k n f = kOldest σ k 8 0) (H : Heap) (locs : List Loc) (ls : Array Slot), mW D clP (tyP cI cF cZ cJ) 25 (eP cI cF ad) ad σ s A s.heap H locs → lv_has ls 3 [(2, .int (nI f)), (0, .ref (ad 0)), (1, .int k)] → W p l e { frames := 2, cells := 0, slots := 0, locals := 45 } s m args below meth c H locs 0 0 (MQ below (va_Qi (fun r σ' => r = kOldest σ k 8 0 ∧ σ' = σ) (KB D clP (tyP cI cF cZ cJ) 25 (eP cI cF ad) ad) A) args s 0 0 A) (F0 m 2 ls []) := by
    intro n
    induction n with
    | zero =>
      intro f hn hk H locs ls w hl
      refine lv_iload_n hx hb d_P_oldest_2 rfl (lv_at hl 0 rfl) ?_
      refine lv_bipush (v := nI 8) hx hb d_P_oldest_3 (by decide) ?_
      refine nr_icmp_ge (tgt := 45) hx hb d_P_oldest_5 (by decide) (by omega) (by omega) (fun c1 => ?_) (fun c1 => absurd (by omega) c1)
      refine lv_iconst (v := -1) hx hb d_P_oldest_45 (by decide) ?_
      exact mr_iret F w hr hlk (⟨by rw [← hk]; first | rfl | (simp only [kOldest]; done) | (simp only [kOldest]; rfl), rfl⟩) d_P_oldest_46
    | succ n ih =>
      intro f hn hk H locs ls w hl
      refine lv_iload_n hx hb d_P_oldest_2 rfl (lv_at hl 0 rfl) ?_
      refine lv_bipush (v := nI 8) hx hb d_P_oldest_3 (by decide) ?_
      refine nr_icmp_ge (tgt := 45) hx hb d_P_oldest_5 (by decide) (by omega) (by omega) (fun c2 => absurd c2 (by omega)) (fun c2 => ?_)
      refine lv_aload_n hx hb d_P_oldest_8 rfl (lv_at hl 1 rfl) ?_
      refine mr_get F w (kin in_P) 0 (by decide) rfl rfl 3 (by decide) (kws_in m_126) (fun _ h => h) rfl d_P_oldest_9 ?_
      refine lv_iload_n hx hb d_P_oldest_12 rfl (lv_at hl 0 rfl) ?_
      refine mr_aldq F w 8 1 (by decide) rfl rfl f (by omega) (by decide) rfl rfl d_P_oldest_13 ?_
      refine mr_callVi (As := []) F w hl.1 (c_F_isChanged σ f (by omega)) (cwV 0 hts g_P_oldest_14 rfl rfl rfl (by decide +kernel) ⟨Nat.le_of_ble_eq_true rfl, Nat.le_of_ble_eq_true rfl⟩) rfl (by omega) (eP_F (by omega) _) rfl rfl (Nat.le_of_ble_eq_true rfl) d_P_oldest_14 ⟨Nat.zero_le _, Nat.zero_le _⟩ (fun r3 σ4 H locs e5 w => ?_)
      obtain ⟨rfl, hs9⟩ := e5
      rw [hs9] at w
      clear hs9
      refine lv_if_eq (tgt := 39) hx hb d_P_oldest_17 (by decide) (fun c6 => ?_) (fun c6 => ?_)
      · refine lv_iinc (v := nI (f + 1)) (lv' := [(2, .int (nI (f + 1))), (0, .ref (ad 0)), (1, .int k)]) hx hb d_P_oldest_39 hl (k := 0) rfl (nI_1 _) (by decide) rfl (fun ls hl => ?_)
        refine lv_goto (tgt := 2) hx hb d_P_oldest_42 (by decide) ?_
        exact ih (f + 1) (by omega) (by rw [← hk]; simp only [kOldest, if_pos c6]) _ _ ls w (lv_sub hl [0, 1, 2] rfl)
      · refine lv_aload_n hx hb d_P_oldest_20 rfl (lv_at hl 1 rfl) ?_
        refine lv_aload_n hx hb d_P_oldest_21 rfl (lv_at hl 1 rfl) ?_
        refine mr_get F w (kin in_P) 0 (by decide) rfl rfl 3 (by decide) (kws_in m_126) (fun _ h => h) rfl d_P_oldest_22 ?_
        refine lv_iload_n hx hb d_P_oldest_25 rfl (lv_at hl 0 rfl) ?_
        refine mr_aldq F w 8 1 (by decide) rfl rfl f (by omega) (by decide) rfl rfl d_P_oldest_26 ?_
        refine mr_get F w (kin in_F) (f + 9) (by omega) (eP_F (by omega) _) rfl 4 (by decide) (kws_in m_111) (fun _ h => h) rfl d_P_oldest_27 ?_
        refine mr_callVi (As := [.int (σ (f + 9) 4)]) F w hl.1 (c_P_olderThan σ (σ (f + 9) 4)) (cwV 1 hts g_P_oldest_30 rfl rfl rfl (by decide +kernel) ⟨Nat.le_of_ble_eq_true rfl, Nat.le_of_ble_eq_true rfl⟩) rfl (by decide) rfl rfl rfl (Nat.le_of_ble_eq_true rfl) d_P_oldest_30 ⟨Nat.zero_le _, Nat.zero_le _⟩ (fun r7 σ8 H locs e9 w => ?_)
        obtain ⟨rfl, hs9⟩ := e9
        rw [hs9] at w
        clear hs9
        refine lv_iload_n hx hb d_P_oldest_33 rfl (lv_at hl 2 rfl) ?_
        refine lv_icmp_ne (tgt := 39) hx hb d_P_oldest_34 (by decide) (fun c10 => ?_) (fun c10 => ?_)
        · refine lv_iinc (v := nI (f + 1)) (lv' := [(2, .int (nI (f + 1))), (0, .ref (ad 0)), (1, .int k)]) hx hb d_P_oldest_39 hl (k := 0) rfl (nI_1 _) (by decide) rfl (fun ls hl => ?_)
          refine lv_goto (tgt := 2) hx hb d_P_oldest_42 (by decide) ?_
          exact ih (f + 1) (by omega) (by rw [← hk]; simp only [kOldest, if_neg c6, if_neg c10]) _ _ ls w (lv_sub hl [0, 1, 2] rfl)
        · refine lv_iload_n hx hb d_P_oldest_37 rfl (lv_at hl 0 rfl) ?_
          exact mr_iret F w hr hlk (⟨by rw [← hk]; first | rfl | (simp only [kOldest, if_neg c6, if_pos c10]; done) | (simp only [kOldest, if_neg c6, if_pos c10]; rfl), rfl⟩) d_P_oldest_38
  refine lv_iconst (v := nI 0) hx hb d_P_oldest_0 (by decide) ?_
  refine lv_istore_n (lv' := [(2, .int (nI 0)), (0, .ref (ad 0)), (1, .int k)]) hx hb d_P_oldest_1 rfl hl (by decide) rfl (fun ls hl => ?_)
  exact loop 8 0 rfl rfl _ _ ls w (lv_sub hl [0, 1, 2] rfl)
set_option maxHeartbeats 4000000 in
set_option maxRecDepth 100000 in
theorem c_P_loseMemory (σ : Mem) : KVP l D cI cF cZ cJ ad y_P_loseMemory b_P_loseMemory 2 1 20 [.ref (ad 0)] σ (fun σ' => σ' = kLose σ) := by
  refine KV.of (by decide) (Nat.le_of_ble_eq_true rfl) ?_
  intro p e s m args below meth c A ls F w hl hr hlk
  obtain ⟨hx, hb, hml, hown, hts⟩ := id F
  have hl : lv_has ls 2 [(0, .ref (ad 0))] := hl
  have loop : ∀ (n : Nat) (f : Nat) (τ : Mem) (hn : f + n = 8) (hk : kEmpties n f τ = kEmpties 8 0 σ) (H : Heap) (locs : List Loc) (ls : Array Slot), mW D clP (tyP cI cF cZ cJ) 25 (eP cI cF ad) ad τ s A s.heap H locs → lv_has ls 2 [(1, .int (nI f)), (0, .ref (ad 0))] → W p l e { frames := 1, cells := 0, slots := 0, locals := 20 } s m args below meth c H locs 0 0 (MQ below (va_Qv (fun σ' => σ' = kLose σ) (KB D clP (tyP cI cF cZ cJ) 25 (eP cI cF ad) ad) A) args s 0 0 A) (F0 m 2 ls []) := by
    intro n
    induction n with
    | zero =>
      intro f τ hn hk H locs ls w hl
      refine lv_iload_n hx hb d_P_loseMemory_2 rfl (lv_at hl 0 rfl) ?_
      refine lv_bipush (v := nI 8) hx hb d_P_loseMemory_3 (by decide) ?_
      refine nr_icmp_ge (tgt := 23) hx hb d_P_loseMemory_5 (by decide) (by omega) (by omega) (fun c1 => ?_) (fun c1 => absurd (by omega) c1)
      refine lv_aload_n hx hb d_P_loseMemory_23 rfl (lv_at hl 1 rfl) ?_
      refine lv_iconst (v := nI 0) hx hb d_P_loseMemory_24 (by decide) ?_
      refine mr_put F w (kin in_P) t_P t_P_ok n_P 0 (by decide) rfl rfl 4 (by decide) (kws_in m_127) (fun _ h => h) rfl rfl rfl (Nat.le_of_ble_eq_true rfl) rfl d_P_loseMemory_25 (fun H locs w => ?_)
      refine lv_aload_n hx hb d_P_loseMemory_28 rfl (lv_at hl 1 rfl) ?_
      refine mr_get F w (kin in_P) 0 (by decide) rfl rfl 2 (by decide) (kws_in m_125) (fun _ h => h) rfl d_P_loseMemory_29 ?_
      refine lv_aload_n hx hb d_P_loseMemory_32 rfl (lv_at hl 1 rfl) ?_
      refine mr_get F w (kin in_P) 0 (by decide) rfl rfl 2 (by decide) (kws_in m_125) (fun _ h => h) rfl d_P_loseMemory_33 ?_
      refine mr_get F w (kin in_C) 5 (by decide) rfl rfl 4 (by decide) (kws_in m_79) (fun _ h => h) rfl d_P_loseMemory_36 ?_
      refine mr_put F w (kin in_C) t_C t_C_ok n_C 5 (by decide) rfl rfl 5 (by decide) (kws_in m_81) (fun _ h => h) rfl rfl rfl (Nat.le_of_ble_eq_true rfl) rfl d_P_loseMemory_39 (fun H locs w => ?_)
      exact mr_vret F w hr hlk (by unfold kLose; rw [← hk]; rfl) d_P_loseMemory_42
    | succ n ih =>
      intro f τ hn hk H locs ls w hl
      refine lv_iload_n hx hb d_P_loseMemory_2 rfl (lv_at hl 0 rfl) ?_
      refine lv_bipush (v := nI 8) hx hb d_P_loseMemory_3 (by decide) ?_
      refine nr_icmp_ge (tgt := 23) hx hb d_P_loseMemory_5 (by decide) (by omega) (by omega) (fun c2 => absurd c2 (by omega)) (fun c2 => ?_)
      refine lv_aload_n hx hb d_P_loseMemory_8 rfl (lv_at hl 1 rfl) ?_
      refine mr_get F w (kin in_P) 0 (by decide) rfl rfl 3 (by decide) (kws_in m_126) (fun _ h => h) rfl d_P_loseMemory_9 ?_
      refine lv_iload_n hx hb d_P_loseMemory_12 rfl (lv_at hl 0 rfl) ?_
      refine mr_aldq F w 8 1 (by decide) rfl rfl f (by omega) (by decide) rfl rfl d_P_loseMemory_13 ?_
      refine mr_callVv (As := []) F w hl.1 (c_F_empty τ f (by omega)) (cwV 0 hts g_P_loseMemory_14 rfl rfl rfl (by decide +kernel) ⟨Nat.le_of_ble_eq_true rfl, Nat.le_of_ble_eq_true rfl⟩) rfl (by omega) (eP_F (by omega) _) rfl rfl (Nat.le_of_ble_eq_true rfl) d_P_loseMemory_14 ⟨Nat.zero_le _, Nat.zero_le _⟩ (fun σ4 H locs e5 w => ?_)
      replace e5 := Eq.symm e5
      refine lv_iinc (v := nI (f + 1)) (lv' := [(1, .int (nI (f + 1))), (0, .ref (ad 0))]) hx hb d_P_loseMemory_17 hl (k := 0) rfl (nI_1 _) (by decide) rfl (fun ls hl => ?_)
      refine lv_goto (tgt := 2) hx hb d_P_loseMemory_20 (by decide) ?_
      exact ih (f + 1) _ (by omega) (by subst e5; rw [← hk]; rfl) _ _ ls w (lv_sub hl [0, 1] rfl)
  refine lv_iconst (v := nI 0) hx hb d_P_loseMemory_0 (by decide) ?_
  refine lv_istore_n (lv' := [(1, .int (nI 0)), (0, .ref (ad 0))]) hx hb d_P_loseMemory_1 rfl hl (by decide) rfl (fun ls hl => ?_)
  exact loop 8 0 _ rfl rfl _ _ ls w (lv_sub hl [0, 1] rfl)
end
