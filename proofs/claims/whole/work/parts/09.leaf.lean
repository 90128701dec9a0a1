/-! Power, Frame, ChangeLog: leaves -/
section
variable {l : Launch} {D : va_G} {cI cF cZ cJ : ClassId} {ad : Nat → Nat} {σ : Mem}
set_option maxRecDepth 20000 in
theorem m_29 : Cond.fieldLink "PagePool$Power" 9 "PagePool$Power" "on" "Z" ∈ gt := gt_in 29 (by decide +kernel) (by decide +kernel)
set_option maxRecDepth 20000 in
theorem m_31 : Cond.fieldLink "PagePool$Power" 15 "PagePool$Power" "left" "I" ∈ gt := gt_in 31 (by decide +kernel) (by decide +kernel)
set_option maxRecDepth 20000 in
theorem m_33 : Cond.fieldLink "PagePool$Power" 19 "PagePool$Power" "made" "I" ∈ gt := gt_in 33 (by decide +kernel) (by decide +kernel)
set_option maxRecDepth 20000 in
theorem m_315 : Cond.methodLink "PagePool$Power" 22 (⟨"PagePool$Power", "fail", "()V"⟩ : MethodName) ∈ gt := gt_in 315 (by decide +kernel) (by decide +kernel)
set_option maxRecDepth 20000 in
theorem m_170 : Cond.code (⟨"PagePool$Power", "fail", "()V"⟩ : MethodName) prog_5_method_3_code 1 none ∈ gt := gt_in 170 (by decide +kernel) (by decide +kernel)
set_option maxRecDepth 20000 in
theorem m_168 : Cond.instanceMethod (⟨"PagePool$Power", "fail", "()V"⟩ : MethodName) ∈ gt := gt_in 168 (by decide +kernel) (by decide +kernel)
set_option maxRecDepth 20000 in
theorem m_169 : Cond.selects "PagePool$Power" (⟨"PagePool$Power", "fail", "()V"⟩ : MethodName) (⟨"PagePool$Power", "fail", "()V"⟩ : MethodName) ∈ gt := gt_in 169 (by decide +kernel) (by decide +kernel)
set_option maxRecDepth 20000 in
theorem m_2 : Cond.initialized "PagePool$Power" ∈ gt := gt_in 2 (by decide +kernel) (by decide +kernel)
set_option maxRecDepth 20000 in
theorem m_110 : Cond.fieldLink "PagePool$Frame" 26 "PagePool$Frame" "first" "I" ∈ gt := gt_in 110 (by decide +kernel) (by decide +kernel)
set_option maxRecDepth 20000 in
theorem m_104 : Cond.fieldLink "PagePool$Frame" 15 "PagePool$Frame" "page" "I" ∈ gt := gt_in 104 (by decide +kernel) (by decide +kernel)
set_option maxRecDepth 20000 in
theorem m_106 : Cond.fieldLink "PagePool$Frame" 19 "PagePool$Frame" "pins" "I" ∈ gt := gt_in 106 (by decide +kernel) (by decide +kernel)
set_option maxRecDepth 20000 in
theorem m_108 : Cond.fieldLink "PagePool$Frame" 22 "PagePool$Frame" "used" "Z" ∈ gt := gt_in 108 (by decide +kernel) (by decide +kernel)
set_option maxRecDepth 20000 in
theorem m_102 : Cond.fieldLink "PagePool$Frame" 9 "PagePool$Frame" "words" "[I" ∈ gt := gt_in 102 (by decide +kernel) (by decide +kernel)
set_option maxRecDepth 20000 in
theorem m_80 : Cond.fieldLink "PagePool$ChangeLog" 29 "PagePool$ChangeLog" "end" "I" ∈ gt := gt_in 80 (by decide +kernel) (by decide +kernel)
set_option maxRecDepth 20000 in
theorem m_76 : Cond.fieldLink "PagePool$ChangeLog" 22 "PagePool$ChangeLog" "begin" "I" ∈ gt := gt_in 76 (by decide +kernel) (by decide +kernel)
set_option maxRecDepth 20000 in
theorem m_364 : Cond.constant "PagePool$ChangeLog" 32 (65528 : Int32) ∈ gt := gt_in 364 (by decide +kernel) (by decide +kernel)
set_option maxRecDepth 20000 in
theorem m_74 : Cond.fieldLink "PagePool$ChangeLog" 15 "PagePool$ChangeLog" "targets" "[I" ∈ gt := gt_in 74 (by decide +kernel) (by decide +kernel)
set_option maxRecDepth 20000 in
theorem m_369 : Cond.methodLink "PagePool$ChangeLog" 33 (⟨"PagePool$ChangeLog", "slotOf", "(I)I"⟩ : MethodName) ∈ gt := gt_in 369 (by decide +kernel) (by decide +kernel)
set_option maxRecDepth 20000 in
theorem m_371 : Cond.code (⟨"PagePool$ChangeLog", "slotOf", "(I)I"⟩ : MethodName) prog_2_method_13_code 1 (some .int) ∈ gt := gt_in 371 (by decide +kernel) (by decide +kernel)
set_option maxRecDepth 20000 in
theorem m_370 : Cond.static (⟨"PagePool$ChangeLog", "slotOf", "(I)I"⟩ : MethodName) ∈ gt := gt_in 370 (by decide +kernel) (by decide +kernel)
set_option maxRecDepth 20000 in
theorem m_4 : Cond.initialized "PagePool$ChangeLog" ∈ gt := gt_in 4 (by decide +kernel) (by decide +kernel)
set_option maxRecDepth 20000 in
theorem m_75 : Cond.fieldLink "PagePool$ChangeLog" 19 "PagePool$ChangeLog" "values" "[I" ∈ gt := gt_in 75 (by decide +kernel) (by decide +kernel)
theorem d_W_fail_0 : decode b_W_fail 0 = .ok (.aload_n 0, 1) := by decide +kernel
theorem d_W_fail_1 : decode b_W_fail 1 = .ok (.iconst 0, 1) := by decide +kernel
theorem d_W_fail_2 : decode b_W_fail 2 = .ok (.putfield 9, 3) := by decide +kernel
theorem d_W_fail_5 : decode b_W_fail 5 = .ok (.aload_n 0, 1) := by decide +kernel
theorem d_W_fail_6 : decode b_W_fail 6 = .ok (.iconst (-1), 1) := by decide +kernel
theorem d_W_fail_7 : decode b_W_fail 7 = .ok (.putfield 15, 3) := by decide +kernel
theorem d_W_fail_10 : decode b_W_fail 10 = .ok (.return_, 1) := by decide +kernel
theorem d_W_leastWrite_0 : decode b_W_leastWrite 0 = .ok (.aload_n 0, 1) := by decide +kernel
theorem d_W_leastWrite_1 : decode b_W_leastWrite 1 = .ok (.getfield 15, 3) := by decide +kernel
theorem d_W_leastWrite_4 : decode b_W_leastWrite 4 = .ok (.ifCond .ne 9, 3) := by decide +kernel
theorem d_W_leastWrite_7 : decode b_W_leastWrite 7 = .ok (.aload_n 0, 1) := by decide +kernel
theorem d_W_leastWrite_8 : decode b_W_leastWrite 8 = .ok (.invokevirtual 22, 3) := by decide +kernel
theorem d_W_leastWrite_11 : decode b_W_leastWrite 11 = .ok (.iconst 0, 1) := by decide +kernel
theorem d_W_leastWrite_12 : decode b_W_leastWrite 12 = .ok (.ireturn, 1) := by decide +kernel
theorem d_W_leastWrite_13 : decode b_W_leastWrite 13 = .ok (.aload_n 0, 1) := by decide +kernel
theorem d_W_leastWrite_14 : decode b_W_leastWrite 14 = .ok (.getfield 15, 3) := by decide +kernel
theorem d_W_leastWrite_17 : decode b_W_leastWrite 17 = .ok (.ifCond .le 13, 3) := by decide +kernel
theorem d_W_leastWrite_20 : decode b_W_leastWrite 20 = .ok (.aload_n 0, 1) := by decide +kernel
theorem d_W_leastWrite_21 : decode b_W_leastWrite 21 = .ok (.dup, 1) := by decide +kernel
theorem d_W_leastWrite_22 : decode b_W_leastWrite 22 = .ok (.getfield 15, 3) := by decide +kernel
theorem d_W_leastWrite_25 : decode b_W_leastWrite 25 = .ok (.iconst 1, 1) := by decide +kernel
theorem d_W_leastWrite_26 : decode b_W_leastWrite 26 = .ok (.isub, 1) := by decide +kernel
theorem d_W_leastWrite_27 : decode b_W_leastWrite 27 = .ok (.putfield 15, 3) := by decide +kernel
theorem d_W_leastWrite_30 : decode b_W_leastWrite 30 = .ok (.aload_n 0, 1) := by decide +kernel
theorem d_W_leastWrite_31 : decode b_W_leastWrite 31 = .ok (.dup, 1) := by decide +kernel
theorem d_W_leastWrite_32 : decode b_W_leastWrite 32 = .ok (.getfield 19, 3) := by decide +kernel
theorem d_W_leastWrite_35 : decode b_W_leastWrite 35 = .ok (.iconst 1, 1) := by decide +kernel
theorem d_W_leastWrite_36 : decode b_W_leastWrite 36 = .ok (.iadd, 1) := by decide +kernel
theorem d_W_leastWrite_37 : decode b_W_leastWrite 37 = .ok (.putfield 19, 3) := by decide +kernel
theorem d_W_leastWrite_40 : decode b_W_leastWrite 40 = .ok (.iconst 1, 1) := by decide +kernel
theorem d_W_leastWrite_41 : decode b_W_leastWrite 41 = .ok (.ireturn, 1) := by decide +kernel
set_option maxRecDepth 20000 in
theorem g_W_leastWrite_8 : GoodIn (kws (y_W_leastWrite) b_W_leastWrite 1 (some .boolean)) (wsV R_W 22 R_W y_W_fail (kws (y_W_fail) b_W_fail 1 none)) := kwV m_315 m_168 m_169 m_2 m_170
theorem d_F_isChanged_0 : decode b_F_isChanged 0 = .ok (.aload_n 0, 1) := by decide +kernel
theorem d_F_isChanged_1 : decode b_F_isChanged 1 = .ok (.getfield 26, 3) := by decide +kernel
theorem d_F_isChanged_4 : decode b_F_isChanged 4 = .ok (.iconst (-1), 1) := by decide +kernel
theorem d_F_isChanged_5 : decode b_F_isChanged 5 = .ok (.if_icmp .eq 7, 3) := by decide +kernel
theorem d_F_isChanged_8 : decode b_F_isChanged 8 = .ok (.iconst 1, 1) := by decide +kernel
theorem d_F_isChanged_9 : decode b_F_isChanged 9 = .ok (.goto 4, 3) := by decide +kernel
theorem d_F_isChanged_12 : decode b_F_isChanged 12 = .ok (.iconst 0, 1) := by decide +kernel
theorem d_F_isChanged_13 : decode b_F_isChanged 13 = .ok (.ireturn, 1) := by decide +kernel
theorem d_F_empty_0 : decode b_F_empty 0 = .ok (.aload_n 0, 1) := by decide +kernel
theorem d_F_empty_1 : decode b_F_empty 1 = .ok (.iconst (-1), 1) := by decide +kernel
theorem d_F_empty_2 : decode b_F_empty 2 = .ok (.putfield 15, 3) := by decide +kernel
theorem d_F_empty_5 : decode b_F_empty 5 = .ok (.aload_n 0, 1) := by decide +kernel
theorem d_F_empty_6 : decode b_F_empty 6 = .ok (.iconst 0, 1) := by decide +kernel
theorem d_F_empty_7 : decode b_F_empty 7 = .ok (.putfield 19, 3) := by decide +kernel
theorem d_F_empty_10 : decode b_F_empty 10 = .ok (.aload_n 0, 1) := by decide +kernel
theorem d_F_empty_11 : decode b_F_empty 11 = .ok (.iconst 0, 1) := by decide +kernel
theorem d_F_empty_12 : decode b_F_empty 12 = .ok (.putfield 22, 3) := by decide +kernel
theorem d_F_empty_15 : decode b_F_empty 15 = .ok (.aload_n 0, 1) := by decide +kernel
theorem d_F_empty_16 : decode b_F_empty 16 = .ok (.iconst (-1), 1) := by decide +kernel
theorem d_F_empty_17 : decode b_F_empty 17 = .ok (.putfield 26, 3) := by decide +kernel
theorem d_F_empty_20 : decode b_F_empty 20 = .ok (.return_, 1) := by decide +kernel
theorem d_F_apply_0 : decode b_F_apply 0 = .ok (.aload_n 0, 1) := by decide +kernel
theorem d_F_apply_1 : decode b_F_apply 1 = .ok (.getfield 9, 3) := by decide +kernel
theorem d_F_apply_4 : decode b_F_apply 4 = .ok (.iload_n 2, 1) := by decide +kernel
theorem d_F_apply_5 : decode b_F_apply 5 = .ok (.iload_n 3, 1) := by decide +kernel
theorem d_F_apply_6 : decode b_F_apply 6 = .ok (.iastore, 1) := by decide +kernel
theorem d_F_apply_7 : decode b_F_apply 7 = .ok (.aload_n 0, 1) := by decide +kernel
theorem d_F_apply_8 : decode b_F_apply 8 = .ok (.getfield 9, 3) := by decide +kernel
theorem d_F_apply_11 : decode b_F_apply 11 = .ok (.iconst 0, 1) := by decide +kernel
theorem d_F_apply_12 : decode b_F_apply 12 = .ok (.iload_n 1, 1) := by decide +kernel
theorem d_F_apply_13 : decode b_F_apply 13 = .ok (.iconst 1, 1) := by decide +kernel
theorem d_F_apply_14 : decode b_F_apply 14 = .ok (.iadd, 1) := by decide +kernel
theorem d_F_apply_15 : decode b_F_apply 15 = .ok (.iastore, 1) := by decide +kernel
theorem d_F_apply_16 : decode b_F_apply 16 = .ok (.aload_n 0, 1) := by decide +kernel
theorem d_F_apply_17 : decode b_F_apply 17 = .ok (.getfield 26, 3) := by decide +kernel
theorem d_F_apply_20 : decode b_F_apply 20 = .ok (.iconst (-1), 1) := by decide +kernel
theorem d_F_apply_21 : decode b_F_apply 21 = .ok (.if_icmp .ne 8, 3) := by decide +kernel
theorem d_F_apply_24 : decode b_F_apply 24 = .ok (.aload_n 0, 1) := by decide +kernel
theorem d_F_apply_25 : decode b_F_apply 25 = .ok (.iload_n 1, 1) := by decide +kernel
theorem d_F_apply_26 : decode b_F_apply 26 = .ok (.putfield 26, 3) := by decide +kernel
theorem d_F_apply_29 : decode b_F_apply 29 = .ok (.return_, 1) := by decide +kernel
theorem d_F_endOfLatest_0 : decode b_F_endOfLatest 0 = .ok (.aload_n 0, 1) := by decide +kernel
theorem d_F_endOfLatest_1 : decode b_F_endOfLatest 1 = .ok (.getfield 9, 3) := by decide +kernel
theorem d_F_endOfLatest_4 : decode b_F_endOfLatest 4 = .ok (.iconst 0, 1) := by decide +kernel
theorem d_F_endOfLatest_5 : decode b_F_endOfLatest 5 = .ok (.iaload, 1) := by decide +kernel
theorem d_F_endOfLatest_6 : decode b_F_endOfLatest 6 = .ok (.iconst 1, 1) := by decide +kernel
theorem d_F_endOfLatest_7 : decode b_F_endOfLatest 7 = .ok (.isub, 1) := by decide +kernel
theorem d_F_endOfLatest_8 : decode b_F_endOfLatest 8 = .ok (.bipush 8, 2) := by decide +kernel
theorem d_F_endOfLatest_10 : decode b_F_endOfLatest 10 = .ok (.iadd, 1) := by decide +kernel
theorem d_F_endOfLatest_11 : decode b_F_endOfLatest 11 = .ok (.ireturn, 1) := by decide +kernel
theorem d_C_slotOf_0 : decode b_C_slotOf 0 = .ok (.iload_n 0, 1) := by decide +kernel
theorem d_C_slotOf_1 : decode b_C_slotOf 1 = .ok (.bipush 8, 2) := by decide +kernel
theorem d_C_slotOf_3 : decode b_C_slotOf 3 = .ok (.idiv, 1) := by decide +kernel
theorem d_C_slotOf_4 : decode b_C_slotOf 4 = .ok (.sipush 8191, 3) := by decide +kernel
theorem d_C_slotOf_7 : decode b_C_slotOf 7 = .ok (.iand, 1) := by decide +kernel
theorem d_C_slotOf_8 : decode b_C_slotOf 8 = .ok (.ireturn, 1) := by decide +kernel
theorem d_C_hasRoom_0 : decode b_C_hasRoom 0 = .ok (.aload_n 0, 1) := by decide +kernel
theorem d_C_hasRoom_1 : decode b_C_hasRoom 1 = .ok (.getfield 29, 3) := by decide +kernel
theorem d_C_hasRoom_4 : decode b_C_hasRoom 4 = .ok (.aload_n 0, 1) := by decide +kernel
theorem d_C_hasRoom_5 : decode b_C_hasRoom 5 = .ok (.getfield 22, 3) := by decide +kernel
theorem d_C_hasRoom_8 : decode b_C_hasRoom 8 = .ok (.isub, 1) := by decide +kernel
theorem d_C_hasRoom_9 : decode b_C_hasRoom 9 = .ok (.ldc 32, 2) := by decide +kernel
theorem d_C_hasRoom_11 : decode b_C_hasRoom 11 = .ok (.if_icmp .gt 7, 3) := by decide +kernel
theorem d_C_hasRoom_14 : decode b_C_hasRoom 14 = .ok (.iconst 1, 1) := by decide +kernel
theorem d_C_hasRoom_15 : decode b_C_hasRoom 15 = .ok (.goto 4, 3) := by decide +kernel
theorem d_C_hasRoom_18 : decode b_C_hasRoom 18 = .ok (.iconst 0, 1) := by decide +kernel
theorem d_C_hasRoom_19 : decode b_C_hasRoom 19 = .ok (.ireturn, 1) := by decide +kernel
theorem d_C_append_0 : decode b_C_append 0 = .ok (.aload_n 0, 1) := by decide +kernel
theorem d_C_append_1 : decode b_C_append 1 = .ok (.getfield 29, 3) := by decide +kernel
theorem d_C_append_4 : decode b_C_append 4 = .ok (.istore 4, 2) := by decide +kernel
theorem d_C_append_6 : decode b_C_append 6 = .ok (.aload_n 0, 1) := by decide +kernel
theorem d_C_append_7 : decode b_C_append 7 = .ok (.getfield 15, 3) := by decide +kernel
theorem d_C_append_10 : decode b_C_append 10 = .ok (.iload 4, 2) := by decide +kernel
theorem d_C_append_12 : decode b_C_append 12 = .ok (.invokestatic 33, 3) := by decide +kernel
theorem d_C_append_15 : decode b_C_append 15 = .ok (.iload_n 1, 1) := by decide +kernel
theorem d_C_append_16 : decode b_C_append 16 = .ok (.bipush 64, 2) := by decide +kernel
theorem d_C_append_18 : decode b_C_append 18 = .ok (.imul, 1) := by decide +kernel
theorem d_C_append_19 : decode b_C_append 19 = .ok (.iload_n 2, 1) := by decide +kernel
theorem d_C_append_20 : decode b_C_append 20 = .ok (.iadd, 1) := by decide +kernel
theorem d_C_append_21 : decode b_C_append 21 = .ok (.iastore, 1) := by decide +kernel
theorem d_C_append_22 : decode b_C_append 22 = .ok (.aload_n 0, 1) := by decide +kernel
theorem d_C_append_23 : decode b_C_append 23 = .ok (.getfield 19, 3) := by decide +kernel
theorem d_C_append_26 : decode b_C_append 26 = .ok (.iload 4, 2) := by decide +kernel
theorem d_C_append_28 : decode b_C_append 28 = .ok (.invokestatic 33, 3) := by decide +kernel
theorem d_C_append_31 : decode b_C_append 31 = .ok (.iload_n 3, 1) := by decide +kernel
theorem d_C_append_32 : decode b_C_append 32 = .ok (.iastore, 1) := by decide +kernel
theorem d_C_append_33 : decode b_C_append 33 = .ok (.aload_n 0, 1) := by decide +kernel
theorem d_C_append_34 : decode b_C_append 34 = .ok (.iload 4, 2) := by decide +kernel
theorem d_C_append_36 : decode b_C_append 36 = .ok (.bipush 8, 2) := by decide +kernel
theorem d_C_append_38 : decode b_C_append 38 = .ok (.iadd, 1) := by decide +kernel
theorem d_C_append_39 : decode b_C_append 39 = .ok (.putfield 29, 3) := by decide +kernel
theorem d_C_append_42 : decode b_C_append 42 = .ok (.iload 4, 2) := by decide +kernel
theorem d_C_append_44 : decode b_C_append 44 = .ok (.ireturn, 1) := by decide +kernel
set_option maxRecDepth 20000 in
theorem g_C_append_12 : GoodIn (kws (y_C_append) b_C_append 5 (some .int)) (wsS R_C 33 y_C_slotOf (kws (y_C_slotOf) b_C_slotOf 1 (some .int))) := kwS m_369 m_370 m_4 m_371
set_option maxRecDepth 20000 in
theorem g_C_append_28 : GoodIn (kws (y_C_append) b_C_append 5 (some .int)) (wsS R_C 33 y_C_slotOf (kws (y_C_slotOf) b_C_slotOf 1 (some .int))) := kwS m_369 m_370 m_4 m_371
theorem d_C_count_0 : decode b_C_count 0 = .ok (.aload_n 0, 1) := by decide +kernel
theorem d_C_count_1 : decode b_C_count 1 = .ok (.getfield 29, 3) := by decide +kernel
theorem d_C_count_4 : decode b_C_count 4 = .ok (.aload_n 0, 1) := by decide +kernel
theorem d_C_count_5 : decode b_C_count 5 = .ok (.getfield 22, 3) := by decide +kernel
theorem d_C_count_8 : decode b_C_count 8 = .ok (.isub, 1) := by decide +kernel
theorem d_C_count_9 : decode b_C_count 9 = .ok (.bipush 8, 2) := by decide +kernel
theorem d_C_count_11 : decode b_C_count 11 = .ok (.idiv, 1) := by decide +kernel
theorem d_C_count_12 : decode b_C_count 12 = .ok (.ireturn, 1) := by decide +kernel
theorem d_C_isChange_0 : decode b_C_isChange 0 = .ok (.aload_n 0, 1) := by decide +kernel
theorem d_C_isChange_1 : decode b_C_isChange 1 = .ok (.getfield 15, 3) := by decide +kernel
theorem d_C_isChange_4 : decode b_C_isChange 4 = .ok (.iload_n 1, 1) := by decide +kernel
theorem d_C_isChange_5 : decode b_C_isChange 5 = .ok (.invokestatic 33, 3) := by decide +kernel
theorem d_C_isChange_8 : decode b_C_isChange 8 = .ok (.iaload, 1) := by decide +kernel
theorem d_C_isChange_9 : decode b_C_isChange 9 = .ok (.iconst (-1), 1) := by decide +kernel
theorem d_C_isChange_10 : decode b_C_isChange 10 = .ok (.if_icmp .eq 7, 3) := by decide +kernel
theorem d_C_isChange_13 : decode b_C_isChange 13 = .ok (.iconst 1, 1) := by decide +kernel
theorem d_C_isChange_14 : decode b_C_isChange 14 = .ok (.goto 4, 3) := by decide +kernel
theorem d_C_isChange_17 : decode b_C_isChange 17 = .ok (.iconst 0, 1) := by decide +kernel
theorem d_C_isChange_18 : decode b_C_isChange 18 = .ok (.ireturn, 1) := by decide +kernel
set_option maxRecDepth 20000 in
theorem g_C_isChange_5 : GoodIn (kws (y_C_isChange) b_C_isChange 2 (some .boolean)) (wsS R_C 33 y_C_slotOf (kws (y_C_slotOf) b_C_slotOf 1 (some .int))) := kwS m_369 m_370 m_4 m_371
theorem d_C_pageOf_0 : decode b_C_pageOf 0 = .ok (.aload_n 0, 1) := by decide +kernel
theorem d_C_pageOf_1 : decode b_C_pageOf 1 = .ok (.getfield 15, 3) := by decide +kernel
theorem d_C_pageOf_4 : decode b_C_pageOf 4 = .ok (.iload_n 1, 1) := by decide +kernel
theorem d_C_pageOf_5 : decode b_C_pageOf 5 = .ok (.invokestatic 33, 3) := by decide +kernel
theorem d_C_pageOf_8 : decode b_C_pageOf 8 = .ok (.iaload, 1) := by decide +kernel
theorem d_C_pageOf_9 : decode b_C_pageOf 9 = .ok (.bipush 64, 2) := by decide +kernel
theorem d_C_pageOf_11 : decode b_C_pageOf 11 = .ok (.idiv, 1) := by decide +kernel
theorem d_C_pageOf_12 : decode b_C_pageOf 12 = .ok (.ireturn, 1) := by decide +kernel
set_option maxRecDepth 20000 in
theorem g_C_pageOf_5 : GoodIn (kws (y_C_pageOf) b_C_pageOf 2 (some .int)) (wsS R_C 33 y_C_slotOf (kws (y_C_slotOf) b_C_slotOf 1 (some .int))) := kwS m_369 m_370 m_4 m_371
theorem d_C_wordOf_0 : decode b_C_wordOf 0 = .ok (.aload_n 0, 1) := by decide +kernel
theorem d_C_wordOf_1 : decode b_C_wordOf 1 = .ok (.getfield 15, 3) := by decide +kernel
theorem d_C_wordOf_4 : decode b_C_wordOf 4 = .ok (.iload_n 1, 1) := by decide +kernel
theorem d_C_wordOf_5 : decode b_C_wordOf 5 = .ok (.invokestatic 33, 3) := by decide +kernel
theorem d_C_wordOf_8 : decode b_C_wordOf 8 = .ok (.iaload, 1) := by decide +kernel
theorem d_C_wordOf_9 : decode b_C_wordOf 9 = .ok (.bipush 64, 2) := by decide +kernel
theorem d_C_wordOf_11 : decode b_C_wordOf 11 = .ok (.irem, 1) := by decide +kernel
theorem d_C_wordOf_12 : decode b_C_wordOf 12 = .ok (.ireturn, 1) := by decide +kernel
set_option maxRecDepth 20000 in
theorem g_C_wordOf_5 : GoodIn (kws (y_C_wordOf) b_C_wordOf 2 (some .int)) (wsS R_C 33 y_C_slotOf (kws (y_C_slotOf) b_C_slotOf 1 (some .int))) := kwS m_369 m_370 m_4 m_371
theorem d_C_valueOf_0 : decode b_C_valueOf 0 = .ok (.aload_n 0, 1) := by decide +kernel
theorem d_C_valueOf_1 : decode b_C_valueOf 1 = .ok (.getfield 19, 3) := by decide +kernel
theorem d_C_valueOf_4 : decode b_C_valueOf 4 = .ok (.iload_n 1, 1) := by decide +kernel
theorem d_C_valueOf_5 : decode b_C_valueOf 5 = .ok (.invokestatic 33, 3) := by decide +kernel
theorem d_C_valueOf_8 : decode b_C_valueOf 8 = .ok (.iaload, 1) := by decide +kernel
theorem d_C_valueOf_9 : decode b_C_valueOf 9 = .ok (.ireturn, 1) := by decide +kernel
set_option maxRecDepth 20000 in
theorem g_C_valueOf_5 : GoodIn (kws (y_C_valueOf) b_C_valueOf 2 (some .int)) (wsS R_C 33 y_C_slotOf (kws (y_C_slotOf) b_C_slotOf 1 (some .int))) := kwS m_369 m_370 m_4 m_371
set_option maxHeartbeats 4000000 in
set_option maxRecDepth 100000 in
/-- Power.fail() -/
theorem c_W_fail (σ : Mem) : KVP l D cI cF cZ cJ ad y_W_fail b_W_fail 1 0 0 [.ref (ad 1)] σ (fun σ' => σ' = kFail σ) := by
  refine KV.of (by decide) (Nat.le_of_ble_eq_true rfl) ?_
  intro p e s m args below meth c A ls F w hl hr hlk
  obtain ⟨hx, hb, hml, hown, hts⟩ := id F
  have hl : lv_has ls 1 [(0, .ref (ad 1))] := hl
  refine lv_aload_n hx hb d_W_fail_0 rfl (lv_at hl 0 rfl) ?_
  refine lv_iconst (v := nI 0) hx hb d_W_fail_1 (by decide) ?_
  refine mr_put F w (kin in_W) t_W t_W_ok n_W 1 (by decide) rfl rfl 0 (by decide) (kws_in m_29) (fun _ h => h) rfl rfl rfl (Nat.le_of_ble_eq_true rfl) rfl d_W_fail_2 (fun H locs w => ?_)
  refine lv_aload_n hx hb d_W_fail_5 rfl (lv_at hl 0 rfl) ?_
  refine lv_iconst (v := -1) hx hb d_W_fail_6 (by decide) ?_
  refine mr_put F w (kin in_W) t_W t_W_ok n_W 1 (by decide) rfl rfl 1 (by decide) (kws_in m_31) (fun _ h => h) rfl rfl rfl (Nat.le_of_ble_eq_true rfl) rfl d_W_fail_7 (fun H locs w => ?_)
  exact mr_vret F w hr hlk (rfl) d_W_fail_10
set_option maxHeartbeats 4000000 in
set_option maxRecDepth 100000 in
/-- Power.leastWrite() -/
theorem c_W_leastWrite (σ : Mem) : KIP l D cI cF cZ cJ ad y_W_leastWrite b_W_leastWrite 1 (some .boolean) 1 20 [.ref (ad 1)] σ (fun r σ' => r = (kLW σ).1 ∧ σ' = (kLW σ).2) := by
  refine KI.of (by decide) (Nat.le_of_ble_eq_true rfl) ?_
  intro p e s m args below meth c A ls F w hl hr hlk
  obtain ⟨hx, hb, hml, hown, hts⟩ := id F
  have hl : lv_has ls 1 [(0, .ref (ad 1))] := hl
  refine lv_aload_n hx hb d_W_leastWrite_0 rfl (lv_at hl 0 rfl) ?_
  refine mr_get F w (kin in_W) 1 (by decide) rfl rfl 1 (by decide) (kws_in m_31) (fun _ h => h) rfl d_W_leastWrite_1 ?_
  refine lv_if_ne (tgt := 13) hx hb d_W_leastWrite_4 (by decide) (fun c1 => ?_) (fun c1 => ?_)
  · refine lv_aload_n hx hb d_W_leastWrite_13 rfl (lv_at hl 0 rfl) ?_
    refine mr_get F w (kin in_W) 1 (by decide) rfl rfl 1 (by decide) (kws_in m_31) (fun _ h => h) rfl d_W_leastWrite_14 ?_
    refine lv_if_le (tgt := 30) hx hb d_W_leastWrite_17 (by decide) (fun c2 => ?_) (fun c2 => ?_)
    · refine lv_aload_n hx hb d_W_leastWrite_30 rfl (lv_at hl 0 rfl) ?_
      refine lv_dup hx hb d_W_leastWrite_31 rfl ?_
      refine mr_get F w (kin in_W) 1 (by decide) rfl rfl 2 (by decide) (kws_in m_33) (fun _ h => h) rfl d_W_leastWrite_32 ?_
      refine lv_iconst (v := nI 1) hx hb d_W_leastWrite_35 (by decide) ?_
      refine lv_iadd hx hb d_W_leastWrite_36 ?_
      refine mr_put F w (kin in_W) t_W t_W_ok n_W 1 (by decide) rfl rfl 2 (by decide) (kws_in m_33) (fun _ h => h) rfl rfl rfl (Nat.le_of_ble_eq_true rfl) rfl d_W_leastWrite_37 (fun H locs w => ?_)
      refine lv_iconst (v := nI 1) hx hb d_W_leastWrite_40 (by decide) ?_
      exact mr_zret F w hr hlk (Or.inr rfl) (by unfold kLW; rw [if_neg c1, if_pos c2]; exact ⟨rfl, rfl⟩) d_W_leastWrite_41
    · refine lv_aload_n hx hb d_W_leastWrite_20 rfl (lv_at hl 0 rfl) ?_
      refine lv_dup hx hb d_W_leastWrite_21 rfl ?_
      refine mr_get F w (kin in_W) 1 (by decide) rfl rfl 1 (by decide) (kws_in m_31) (fun _ h => h) rfl d_W_leastWrite_22 ?_
      refine lv_iconst (v := nI 1) hx hb d_W_leastWrite_25 (by decide) ?_
      refine lv_isub hx hb d_W_leastWrite_26 ?_
      refine mr_put F w (kin in_W) t_W t_W_ok n_W 1 (by decide) rfl rfl 1 (by decide) (kws_in m_31) (fun _ h => h) rfl rfl rfl (Nat.le_of_ble_eq_true rfl) rfl d_W_leastWrite_27 (fun H locs w => ?_)
      refine lv_aload_n hx hb d_W_leastWrite_30 rfl (lv_at hl 0 rfl) ?_
      refine lv_dup hx hb d_W_leastWrite_31 rfl ?_
      refine mr_get F w (kin in_W) 1 (by decide) rfl rfl 2 (by decide) (kws_in m_33) (fun _ h => h) rfl d_W_leastWrite_32 ?_
      refine lv_iconst (v := nI 1) hx hb d_W_leastWrite_35 (by decide) ?_
      refine lv_iadd hx hb d_W_leastWrite_36 ?_
      refine mr_put F w (kin in_W) t_W t_W_ok n_W 1 (by decide) rfl rfl 2 (by decide) (kws_in m_33) (fun _ h => h) rfl rfl rfl (Nat.le_of_ble_eq_true rfl) rfl d_W_leastWrite_37 (fun H locs w => ?_)
      refine lv_iconst (v := nI 1) hx hb d_W_leastWrite_40 (by decide) ?_
      exact mr_zret F w hr hlk (Or.inr rfl) (by unfold kLW; rw [if_neg c1, if_neg c2]; exact ⟨rfl, rfl⟩) d_W_leastWrite_41
  · refine lv_aload_n hx hb d_W_leastWrite_7 rfl (lv_at hl 0 rfl) ?_
    refine mr_callVv (As := []) F w hl.1 (c_W_fail σ) (cwV 0 hts g_W_leastWrite_8 rfl rfl rfl (by decide +kernel) ⟨Nat.le_of_ble_eq_true rfl, Nat.le_of_ble_eq_true rfl⟩) rfl (by decide) rfl rfl rfl (Nat.le_of_ble_eq_true rfl) d_W_leastWrite_8 ⟨Nat.zero_le _, Nat.zero_le _⟩ (fun σ4 H locs e5 w => ?_)
    replace e5 := Eq.symm e5
    refine lv_iconst (v := nI 0) hx hb d_W_leastWrite_11 (by decide) ?_
    exact mr_zret F w hr hlk (Or.inl rfl) (by subst e5; unfold kLW; rw [if_pos c1]; exact ⟨rfl, rfl⟩) d_W_leastWrite_12
set_option maxHeartbeats 4000000 in
set_option maxRecDepth 100000 in
/-- Frame.isChanged() -/
theorem c_F_isChanged (σ : Mem) (f : Nat) (hf : f < 8) : KIP l D cI cF cZ cJ ad y_F_isChanged b_F_isChanged 1 (some .boolean) 0 0 [.ref (ad (f + 9))] σ (fun r σ' => r = kCh σ f ∧ σ' = σ) := by
  refine KI.of (by decide) (Nat.le_of_ble_eq_true rfl) ?_
  intro p e s m args below meth c A ls F w hl hr hlk
  obtain ⟨hx, hb, hml, hown, hts⟩ := id F
  have hl : lv_has ls 1 [(0, .ref (ad (f + 9)))] := hl
  refine lv_aload_n hx hb d_F_isChanged_0 rfl (lv_at hl 0 rfl) ?_
  refine mr_get F w (kin in_F) (f + 9) (by omega) (eP_F hf _) rfl 4 (by decide) (kws_in m_110) (fun _ h => h) rfl d_F_isChanged_1 ?_
  refine lv_iconst (v := -1) hx hb d_F_isChanged_4 (by decide) ?_
  refine lv_icmp_eq (tgt := 12) hx hb d_F_isChanged_5 (by decide) (fun c1 => ?_) (fun c1 => ?_)
  · refine lv_iconst (v := nI 0) hx hb d_F_isChanged_12 (by decide) ?_
    exact mr_zret F w hr hlk (Or.inl rfl) (by unfold kCh; rw [if_pos c1]; exact ⟨rfl, rfl⟩) d_F_isChanged_13
  · refine lv_iconst (v := nI 1) hx hb d_F_isChanged_8 (by decide) ?_
    refine lv_goto (tgt := 13) hx hb d_F_isChanged_9 (by decide) ?_
    exact mr_zret F w hr hlk (Or.inr rfl) (by unfold kCh; rw [if_neg c1]; exact ⟨rfl, rfl⟩) d_F_isChanged_13
set_option maxHeartbeats 4000000 in
set_option maxRecDepth 100000 in
/-- Frame.empty() -/
theorem c_F_empty (σ : Mem) (f : Nat) (hf : f < 8) : KVP l D cI cF cZ cJ ad y_F_empty b_F_empty 1 0 0 [.ref (ad (f + 9))] σ (fun σ' => σ' = kEmpty σ f) := by
  refine KV.of (by decide) (Nat.le_of_ble_eq_true rfl) ?_
  intro p e s m args below meth c A ls F w hl hr hlk
  obtain ⟨hx, hb, hml, hown, hts⟩ := id F
  have hl : lv_has ls 1 [(0, .ref (ad (f + 9)))] := hl
  refine lv_aload_n hx hb d_F_empty_0 rfl (lv_at hl 0 rfl) ?_
  refine lv_iconst (v := -1) hx hb d_F_empty_1 (by decide) ?_
  refine mr_put F w (kin in_F) t_F t_F_ok n_F (f + 9) (by omega) (eP_F hf _) rfl 1 (by decide) (kws_in m_104) (fun _ h => h) rfl rfl rfl (Nat.le_of_ble_eq_true rfl) (eP_F hf _) d_F_empty_2 (fun H locs w => ?_)
  refine lv_aload_n hx hb d_F_empty_5 rfl (lv_at hl 0 rfl) ?_
  refine lv_iconst (v := nI 0) hx hb d_F_empty_6 (by decide) ?_
  refine mr_put F w (kin in_F) t_F t_F_ok n_F (f + 9) (by omega) (eP_F hf _) rfl 2 (by decide) (kws_in m_106) (fun _ h => h) rfl rfl rfl (Nat.le_of_ble_eq_true rfl) (eP_F hf _) d_F_empty_7 (fun H locs w => ?_)
  refine lv_aload_n hx hb d_F_empty_10 rfl (lv_at hl 0 rfl) ?_
  refine lv_iconst (v := nI 0) hx hb d_F_empty_11 (by decide) ?_
  refine mr_put F w (kin in_F) t_F t_F_ok n_F (f + 9) (by omega) (eP_F hf _) rfl 3 (by decide) (kws_in m_108) (fun _ h => h) rfl rfl rfl (Nat.le_of_ble_eq_true rfl) (eP_F hf _) d_F_empty_12 (fun H locs w => ?_)
  refine lv_aload_n hx hb d_F_empty_15 rfl (lv_at hl 0 rfl) ?_
  refine lv_iconst (v := -1) hx hb d_F_empty_16 (by decide) ?_
  refine mr_put F w (kin in_F) t_F t_F_ok n_F (f + 9) (by omega) (eP_F hf _) rfl 4 (by decide) (kws_in m_110) (fun _ h => h) rfl rfl rfl (Nat.le_of_ble_eq_true rfl) (eP_F hf _) d_F_empty_17 (fun H locs w => ?_)
  exact mr_vret F w hr hlk (rfl) d_F_empty_20
set_option maxHeartbeats 4000000 in
set_option maxRecDepth 100000 in
/-- Frame.apply -/
theorem c_F_apply (σ : Mem) (f : Nat) (hf : f < 8) (sr : Int32) (i : Nat) (hi : i < 64) (v : Int32) : KVP l D cI cF cZ cJ ad y_F_apply b_F_apply 4 0 0 [.ref (ad (f + 9)), .int sr, .int (nI i), .int v] σ (fun σ' => σ' = kApply σ f sr i v) := by
  refine KV.of (by decide) (Nat.le_of_ble_eq_true rfl) ?_
  intro p e s m args below meth c A ls F w hl hr hlk
  obtain ⟨hx, hb, hml, hown, hts⟩ := id F
  have hl : lv_has ls 4 [(0, .ref (ad (f + 9))), (1, .int sr), (2, .int (nI i)), (3, .int v)] := hl
  refine lv_aload_n hx hb d_F_apply_0 rfl (lv_at hl 0 rfl) ?_
  refine mr_get F w (kin in_F) (f + 9) (by omega) (eP_F hf _) rfl 0 (by decide) (kws_in m_102) (fun _ h => h) rfl d_F_apply_1 ?_
  refine lv_iload_n hx hb d_F_apply_4 rfl (lv_at hl 2 rfl) ?_
  refine lv_iload_n hx hb d_F_apply_5 rfl (lv_at hl 3 rfl) ?_
  refine mr_isN F w (f + 17) 0 (by omega) eP_V rfl i (by omega) (by decide) rfl d_F_apply_6 (fun H locs w => ?_)
  refine lv_aload_n hx hb d_F_apply_7 rfl (lv_at hl 0 rfl) ?_
  refine mr_get F w (kin in_F) (f + 9) (by omega) (eP_F hf _) rfl 0 (by decide) (kws_in m_102) (fun _ h => h) rfl d_F_apply_8 ?_
  refine lv_iconst (v := nI 0) hx hb d_F_apply_11 (by decide) ?_
  refine lv_iload_n hx hb d_F_apply_12 rfl (lv_at hl 1 rfl) ?_
  refine lv_iconst (v := nI 1) hx hb d_F_apply_13 (by decide) ?_
  refine lv_iadd hx hb d_F_apply_14 ?_
  refine mr_isN F w (f + 17) 0 (by omega) eP_V rfl 0 (by omega) (by decide) rfl d_F_apply_15 (fun H locs w => ?_)
  refine lv_aload_n hx hb d_F_apply_16 rfl (lv_at hl 0 rfl) ?_
  refine mr_get F w (kin in_F) (f + 9) (by omega) (eP_F hf _) rfl 4 (by decide) (kws_in m_110) (fun _ h => h) rfl d_F_apply_17 ?_
  refine lv_iconst (v := -1) hx hb d_F_apply_20 (by decide) ?_
  refine lv_icmp_ne (tgt := 29) hx hb d_F_apply_21 (by decide) (fun c1 => ?_) (fun c1 => ?_)
  · exact mr_vret F w hr hlk (by unfold kApply; rw [if_neg c1]; try rfl) d_F_apply_29
  · refine lv_aload_n hx hb d_F_apply_24 rfl (lv_at hl 0 rfl) ?_
    refine lv_iload_n hx hb d_F_apply_25 rfl (lv_at hl 1 rfl) ?_
    refine mr_put F w (kin in_F) t_F t_F_ok n_F (f + 9) (by omega) (eP_F hf _) rfl 4 (by decide) (kws_in m_110) (fun _ h => h) rfl rfl rfl (Nat.le_of_ble_eq_true rfl) (eP_F hf _) d_F_apply_26 (fun H locs w => ?_)
    exact mr_vret F w hr hlk (by unfold kApply; rw [if_pos c1]; try rfl) d_F_apply_29
set_option maxHeartbeats 4000000 in
set_option maxRecDepth 100000 in
/-- Frame.endOfLatest() -/
theorem c_F_endOfLatest (σ : Mem) (f : Nat) (hf : f < 8) : KIP l D cI cF cZ cJ ad y_F_endOfLatest b_F_endOfLatest 1 (some .int) 0 0 [.ref (ad (f + 9))] σ (fun r σ' => r = kEnd σ f ∧ σ' = σ) := by
  refine KI.of (by decide) (Nat.le_of_ble_eq_true rfl) ?_
  intro p e s m args below meth c A ls F w hl hr hlk
  obtain ⟨hx, hb, hml, hown, hts⟩ := id F
  have hl : lv_has ls 1 [(0, .ref (ad (f + 9)))] := hl
  refine lv_aload_n hx hb d_F_endOfLatest_0 rfl (lv_at hl 0 rfl) ?_
  refine mr_get F w (kin in_F) (f + 9) (by omega) (eP_F hf _) rfl 0 (by decide) (kws_in m_102) (fun _ h => h) rfl d_F_endOfLatest_1 ?_
  refine lv_iconst (v := nI 0) hx hb d_F_endOfLatest_4 (by decide) ?_
  refine mr_iaN F w (f + 17) 0 (by omega) (eP_V _) rfl 0 (by omega) (by decide) rfl d_F_endOfLatest_5 ?_
  refine lv_iconst (v := nI 1) hx hb d_F_endOfLatest_6 (by decide) ?_
  refine lv_isub hx hb d_F_endOfLatest_7 ?_
  refine lv_bipush (v := nI 8) hx hb d_F_endOfLatest_8 (by decide) ?_
  refine lv_iadd hx hb d_F_endOfLatest_10 ?_
  exact mr_iret F w hr hlk (⟨rfl, rfl⟩) d_F_endOfLatest_11
set_option maxHeartbeats 4000000 in
set_option maxRecDepth 100000 in
/-- ChangeLog.slotOf -/
theorem c_C_slotOf (σ : Mem) (x : Int32) : KIP l D cI cF cZ cJ ad y_C_slotOf b_C_slotOf 1 (some .int) 0 0 [.int x] σ (fun r σ' => r = nI (kSlot x) ∧ σ' = σ) := by
  refine KI.of (by decide) (Nat.le_of_ble_eq_true rfl) ?_
  intro p e s m args below meth c A ls F w hl hr hlk
  obtain ⟨hx, hb, hml, hown, hts⟩ := id F
  have hl : lv_has ls 1 [(0, .int x)] := hl
  refine lv_iload_n hx hb d_C_slotOf_0 rfl (lv_at hl 0 rfl) ?_
  refine lv_bipush (v := nI 8) hx hb d_C_slotOf_1 (by decide) ?_
  refine lv_idiv hx hb d_C_slotOf_3 (by decide) ?_
  refine lv_sipush (v := nI 8191) hx hb d_C_slotOf_4 (by decide) ?_
  refine lv_iand hx hb d_C_slotOf_7 ?_
  exact mr_iret F w hr hlk (⟨kSlot_eq x, rfl⟩) d_C_slotOf_8
set_option maxHeartbeats 4000000 in
set_option maxRecDepth 100000 in
theorem c_C_hasRoom (σ : Mem) : KIP l D cI cF cZ cJ ad y_C_hasRoom b_C_hasRoom 1 (some .boolean) 0 0 [.ref (ad 5)] σ (fun r σ' => r = kRoom σ ∧ σ' = σ) := by
  refine KI.of (by decide) (Nat.le_of_ble_eq_true rfl) ?_
  intro p e s m args below meth c A ls F w hl hr hlk
  obtain ⟨hx, hb, hml, hown, hts⟩ := id F
  have hl : lv_has ls 1 [(0, .ref (ad 5))] := hl
  refine lv_aload_n hx hb d_C_hasRoom_0 rfl (lv_at hl 0 rfl) ?_
  refine mr_get F w (kin in_C) 5 (by decide) rfl rfl 5 (by decide) (kws_in m_80) (fun _ h => h) rfl d_C_hasRoom_1 ?_
  refine lv_aload_n hx hb d_C_hasRoom_4 rfl (lv_at hl 0 rfl) ?_
  refine mr_get F w (kin in_C) 5 (by decide) rfl rfl 3 (by decide) (kws_in m_76) (fun _ h => h) rfl d_C_hasRoom_5 ?_
  refine lv_isub hx hb d_C_hasRoom_8 ?_
  refine lv_ldc (v := nI 65528) hx hb hown (hts _ (kws_in m_364)) d_C_hasRoom_9 ?_
  refine lv_icmp_gt (tgt := 18) hx hb d_C_hasRoom_11 (by decide) (fun c1 => ?_) (fun c1 => ?_)
  · refine lv_iconst (v := nI 0) hx hb d_C_hasRoom_18 (by decide) ?_
    exact mr_zret F w hr hlk (Or.inl rfl) (by unfold kRoom; rw [if_pos c1]; exact ⟨rfl, rfl⟩) d_C_hasRoom_19
  · refine lv_iconst (v := nI 1) hx hb d_C_hasRoom_14 (by decide) ?_
    refine lv_goto (tgt := 19) hx hb d_C_hasRoom_15 (by decide) ?_
    exact mr_zret F w hr hlk (Or.inr rfl) (by unfold kRoom; rw [if_neg c1]; exact ⟨rfl, rfl⟩) d_C_hasRoom_19
set_option maxHeartbeats 4000000 in
set_option maxRecDepth 100000 in
theorem c_C_append (σ : Mem) (pg i v : Int32) : KIP l D cI cF cZ cJ ad y_C_append b_C_append 5 (some .int) 1 20 [.ref (ad 5), .int pg, .int i, .int v] σ (fun r σ' => r = σ 5 5 ∧ σ' = kAppend σ pg i v) := by
  refine KI.of (by decide) (Nat.le_of_ble_eq_true rfl) ?_
  intro p e s m args below meth c A ls F w hl hr hlk
  obtain ⟨hx, hb, hml, hown, hts⟩ := id F
  have hl : lv_has ls 5 [(0, .ref (ad 5)), (1, .int pg), (2, .int i), (3, .int v)] := hl
  refine lv_aload_n hx hb d_C_append_0 rfl (lv_at hl 0 rfl) ?_
  refine mr_get F w (kin in_C) 5 (by decide) rfl rfl 5 (by decide) (kws_in m_80) (fun _ h => h) rfl d_C_append_1 ?_
  refine lv_istore (lv' := [(4, .int (σ 5 5)), (0, .ref (ad 5)), (1, .int pg), (2, .int i), (3, .int v)]) hx hb d_C_append_4 hl (by decide) rfl (fun ls hl => ?_)
  refine lv_aload_n hx hb d_C_append_6 rfl (lv_at hl 1 rfl) ?_
  refine mr_get F w (kin in_C) 5 (by decide) rfl rfl 1 (by decide) (kws_in m_74) (fun _ h => h) rfl d_C_append_7 ?_
  refine lv_iload hx hb d_C_append_10 (lv_at hl 0 rfl) ?_
  refine mr_callSi (As := [.int (σ 5 5)]) F w hl.1 (c_C_slotOf σ (σ 5 5)) (cwS 1 hts g_C_append_12 rfl rfl rfl (by decide +kernel) ⟨Nat.le_of_ble_eq_true rfl, Nat.le_of_ble_eq_true rfl⟩) rfl rfl (Nat.le_of_ble_eq_true rfl) d_C_append_12 ⟨Nat.zero_le _, Nat.zero_le _⟩ (fun r1 σ2 H locs e3 w => ?_)
  obtain ⟨rfl, hs9⟩ := e3
  rw [hs9] at w
  clear hs9
  refine lv_iload_n hx hb d_C_append_15 rfl (lv_at hl 2 rfl) ?_
  refine lv_bipush (v := nI 64) hx hb d_C_append_16 (by decide) ?_
  refine lv_imul hx hb d_C_append_18 ?_
  refine lv_iload_n hx hb d_C_append_19 rfl (lv_at hl 3 rfl) ?_
  refine lv_iadd hx hb d_C_append_20 ?_
  refine mr_isN F w 6 0 (by decide) (fun _ => rfl) rfl (kSlot (σ 5 5)) (kSlot_lt _) (by decide) rfl d_C_append_21 (fun H locs w => ?_)
  refine lv_aload_n hx hb d_C_append_22 rfl (lv_at hl 1 rfl) ?_
  refine mr_get F w (kin in_C) 5 (by decide) rfl rfl 2 (by decide) (kws_in m_75) (fun _ h => h) rfl d_C_append_23 ?_
  refine lv_iload hx hb d_C_append_26 (lv_at hl 0 rfl) ?_
  refine mr_callSi (As := [.int (σ 5 5)]) F w hl.1 (c_C_slotOf (mup σ 6 (kSlot (σ 5 5)) ((pg * (nI 64)) + i)) (σ 5 5)) (cwS 1 hts g_C_append_28 rfl rfl rfl (by decide +kernel) ⟨Nat.le_of_ble_eq_true rfl, Nat.le_of_ble_eq_true rfl⟩) rfl rfl (Nat.le_of_ble_eq_true rfl) d_C_append_28 ⟨Nat.zero_le _, Nat.zero_le _⟩ (fun r4 σ5 H locs e6 w => ?_)
  obtain ⟨rfl, hs9⟩ := e6
  rw [hs9] at w
  clear hs9
  refine lv_iload_n hx hb d_C_append_31 rfl (lv_at hl 4 rfl) ?_
  refine mr_isN F w 7 0 (by decide) (fun _ => rfl) rfl (kSlot (σ 5 5)) (kSlot_lt _) (by decide) rfl d_C_append_32 (fun H locs w => ?_)
  refine lv_aload_n hx hb d_C_append_33 rfl (lv_at hl 1 rfl) ?_
  refine lv_iload hx hb d_C_append_34 (lv_at hl 0 rfl) ?_
  refine lv_bipush (v := nI 8) hx hb d_C_append_36 (by decide) ?_
  refine lv_iadd hx hb d_C_append_38 ?_
  refine mr_put F w (kin in_C) t_C t_C_ok n_C 5 (by decide) rfl rfl 5 (by decide) (kws_in m_80) (fun _ h => h) rfl rfl rfl (Nat.le_of_ble_eq_true rfl) rfl d_C_append_39 (fun H locs w => ?_)
  refine lv_iload hx hb d_C_append_42 (lv_at hl 0 rfl) ?_
  exact mr_iret F w hr hlk (⟨rfl, rfl⟩) d_C_append_44
set_option maxHeartbeats 4000000 in
set_option maxRecDepth 100000 in
theorem c_C_count (σ : Mem) : KIP l D cI cF cZ cJ ad y_C_count b_C_count 1 (some .int) 0 0 [.ref (ad 5)] σ (fun r σ' => r = (σ 5 5 - σ 5 3) / nI 8 ∧ σ' = σ) := by
  refine KI.of (by decide) (Nat.le_of_ble_eq_true rfl) ?_
  intro p e s m args below meth c A ls F w hl hr hlk
  obtain ⟨hx, hb, hml, hown, hts⟩ := id F
  have hl : lv_has ls 1 [(0, .ref (ad 5))] := hl
  refine lv_aload_n hx hb d_C_count_0 rfl (lv_at hl 0 rfl) ?_
  refine mr_get F w (kin in_C) 5 (by decide) rfl rfl 5 (by decide) (kws_in m_80) (fun _ h => h) rfl d_C_count_1 ?_
  refine lv_aload_n hx hb d_C_count_4 rfl (lv_at hl 0 rfl) ?_
  refine mr_get F w (kin in_C) 5 (by decide) rfl rfl 3 (by decide) (kws_in m_76) (fun _ h => h) rfl d_C_count_5 ?_
  refine lv_isub hx hb d_C_count_8 ?_
  refine lv_bipush (v := nI 8) hx hb d_C_count_9 (by decide) ?_
  refine lv_idiv hx hb d_C_count_11 (by decide) ?_
  exact mr_iret F w hr hlk (⟨rfl, rfl⟩) d_C_count_12
set_option maxHeartbeats 4000000 in
set_option maxRecDepth 100000 in
theorem c_C_isChange (σ : Mem) (x : Int32) : KIP l D cI cF cZ cJ ad y_C_isChange b_C_isChange 2 (some .boolean) 1 20 [.ref (ad 5), .int x] σ (fun r σ' => r = kIsCh σ x ∧ σ' = σ) := by
  refine KI.of (by decide) (Nat.le_of_ble_eq_true rfl) ?_
  intro p e s m args below meth c A ls F w hl hr hlk
  obtain ⟨hx, hb, hml, hown, hts⟩ := id F
  have hl : lv_has ls 2 [(0, .ref (ad 5)), (1, .int x)] := hl
  refine lv_aload_n hx hb d_C_isChange_0 rfl (lv_at hl 0 rfl) ?_
  refine mr_get F w (kin in_C) 5 (by decide) rfl rfl 1 (by decide) (kws_in m_74) (fun _ h => h) rfl d_C_isChange_1 ?_
  refine lv_iload_n hx hb d_C_isChange_4 rfl (lv_at hl 1 rfl) ?_
  refine mr_callSi (As := [.int x]) F w hl.1 (c_C_slotOf σ x) (cwS 1 hts g_C_isChange_5 rfl rfl rfl (by decide +kernel) ⟨Nat.le_of_ble_eq_true rfl, Nat.le_of_ble_eq_true rfl⟩) rfl rfl (Nat.le_of_ble_eq_true rfl) d_C_isChange_5 ⟨Nat.zero_le _, Nat.zero_le _⟩ (fun r1 σ2 H locs e3 w => ?_)
  obtain ⟨rfl, hs9⟩ := e3
  rw [hs9] at w
  clear hs9
  refine mr_iaN F w 6 0 (by decide) rfl rfl (kSlot x) (kSlot_lt _) (by decide) rfl d_C_isChange_8 ?_
  refine lv_iconst (v := -1) hx hb d_C_isChange_9 (by decide) ?_
  refine lv_icmp_eq (tgt := 17) hx hb d_C_isChange_10 (by decide) (fun c4 => ?_) (fun c4 => ?_)
  · refine lv_iconst (v := nI 0) hx hb d_C_isChange_17 (by decide) ?_
    exact mr_zret F w hr hlk (Or.inl rfl) (by unfold kIsCh; rw [if_pos c4]; exact ⟨rfl, rfl⟩) d_C_isChange_18
  · refine lv_iconst (v := nI 1) hx hb d_C_isChange_13 (by decide) ?_
    refine lv_goto (tgt := 18) hx hb d_C_isChange_14 (by decide) ?_
    exact mr_zret F w hr hlk (Or.inr rfl) (by unfold kIsCh; rw [if_neg c4]; exact ⟨rfl, rfl⟩) d_C_isChange_18
set_option maxHeartbeats 4000000 in
set_option maxRecDepth 100000 in
theorem c_C_pageOf (σ : Mem) (x : Int32) : KIP l D cI cF cZ cJ ad y_C_pageOf b_C_pageOf 2 (some .int) 1 20 [.ref (ad 5), .int x] σ (fun r σ' => r = σ 6 (kSlot x) / nI 64 ∧ σ' = σ) := by
  refine KI.of (by decide) (Nat.le_of_ble_eq_true rfl) ?_
  intro p e s m args below meth c A ls F w hl hr hlk
  obtain ⟨hx, hb, hml, hown, hts⟩ := id F
  have hl : lv_has ls 2 [(0, .ref (ad 5)), (1, .int x)] := hl
  refine lv_aload_n hx hb d_C_pageOf_0 rfl (lv_at hl 0 rfl) ?_
  refine mr_get F w (kin in_C) 5 (by decide) rfl rfl 1 (by decide) (kws_in m_74) (fun _ h => h) rfl d_C_pageOf_1 ?_
  refine lv_iload_n hx hb d_C_pageOf_4 rfl (lv_at hl 1 rfl) ?_
  refine mr_callSi (As := [.int x]) F w hl.1 (c_C_slotOf σ x) (cwS 1 hts g_C_pageOf_5 rfl rfl rfl (by decide +kernel) ⟨Nat.le_of_ble_eq_true rfl, Nat.le_of_ble_eq_true rfl⟩) rfl rfl (Nat.le_of_ble_eq_true rfl) d_C_pageOf_5 ⟨Nat.zero_le _, Nat.zero_le _⟩ (fun r1 σ2 H locs e3 w => ?_)
  obtain ⟨rfl, hs9⟩ := e3
  rw [hs9] at w
  clear hs9
  refine mr_iaN F w 6 0 (by decide) rfl rfl (kSlot x) (kSlot_lt _) (by decide) rfl d_C_pageOf_8 ?_
  refine lv_bipush (v := nI 64) hx hb d_C_pageOf_9 (by decide) ?_
  refine lv_idiv hx hb d_C_pageOf_11 (by decide) ?_
  exact mr_iret F w hr hlk (⟨rfl, rfl⟩) d_C_pageOf_12
set_option maxHeartbeats 4000000 in
set_option maxRecDepth 100000 in
theorem c_C_wordOf (σ : Mem) (x : Int32) : KIP l D cI cF cZ cJ ad y_C_wordOf b_C_wordOf 2 (some .int) 1 20 [.ref (ad 5), .int x] σ (fun r σ' => r = σ 6 (kSlot x) - σ 6 (kSlot x) / nI 64 * nI 64 ∧ σ' = σ) := by
  refine KI.of (by decide) (Nat.le_of_ble_eq_true rfl) ?_
  intro p e s m args below meth c A ls F w hl hr hlk
  obtain ⟨hx, hb, hml, hown, hts⟩ := id F
  have hl : lv_has ls 2 [(0, .ref (ad 5)), (1, .int x)] := hl
  refine lv_aload_n hx hb d_C_wordOf_0 rfl (lv_at hl 0 rfl) ?_
  refine mr_get F w (kin in_C) 5 (by decide) rfl rfl 1 (by decide) (kws_in m_74) (fun _ h => h) rfl d_C_wordOf_1 ?_
  refine lv_iload_n hx hb d_C_wordOf_4 rfl (lv_at hl 1 rfl) ?_
  refine mr_callSi (As := [.int x]) F w hl.1 (c_C_slotOf σ x) (cwS 1 hts g_C_wordOf_5 rfl rfl rfl (by decide +kernel) ⟨Nat.le_of_ble_eq_true rfl, Nat.le_of_ble_eq_true rfl⟩) rfl rfl (Nat.le_of_ble_eq_true rfl) d_C_wordOf_5 ⟨Nat.zero_le _, Nat.zero_le _⟩ (fun r1 σ2 H locs e3 w => ?_)
  obtain ⟨rfl, hs9⟩ := e3
  rw [hs9] at w
  clear hs9
  refine mr_iaN F w 6 0 (by decide) rfl rfl (kSlot x) (kSlot_lt _) (by decide) rfl d_C_wordOf_8 ?_
  refine lv_bipush (v := nI 64) hx hb d_C_wordOf_9 (by decide) ?_
  refine lv_irem hx hb d_C_wordOf_11 (by decide) ?_
  exact mr_iret F w hr hlk (⟨rfl, rfl⟩) d_C_wordOf_12
set_option maxHeartbeats 4000000 in
set_option maxRecDepth 100000 in
theorem c_C_valueOf (σ : Mem) (x : Int32) : KIP l D cI cF cZ cJ ad y_C_valueOf b_C_valueOf 2 (some .int) 1 20 [.ref (ad 5), .int x] σ (fun r σ' => r = σ 7 (kSlot x) ∧ σ' = σ) := by
  refine KI.of (by decide) (Nat.le_of_ble_eq_true rfl) ?_
  intro p e s m args below meth c A ls F w hl hr hlk
  obtain ⟨hx, hb, hml, hown, hts⟩ := id F
  have hl : lv_has ls 2 [(0, .ref (ad 5)), (1, .int x)] := hl
  refine lv_aload_n hx hb d_C_valueOf_0 rfl (lv_at hl 0 rfl) ?_
  refine mr_get F w (kin in_C) 5 (by decide) rfl rfl 2 (by decide) (kws_in m_75) (fun _ h => h) rfl d_C_valueOf_1 ?_
  refine lv_iload_n hx hb d_C_valueOf_4 rfl (lv_at hl 1 rfl) ?_
  refine mr_callSi (As := [.int x]) F w hl.1 (c_C_slotOf σ x) (cwS 1 hts g_C_valueOf_5 rfl rfl rfl (by decide +kernel) ⟨Nat.le_of_ble_eq_true rfl, Nat.le_of_ble_eq_true rfl⟩) rfl rfl (Nat.le_of_ble_eq_true rfl) d_C_valueOf_5 ⟨Nat.zero_le _, Nat.zero_le _⟩ (fun r1 σ2 H locs e3 w => ?_)
  obtain ⟨rfl, hs9⟩ := e3
  rw [hs9] at w
  clear hs9
  refine mr_iaN F w 7 0 (by decide) rfl rfl (kSlot x) (kSlot_lt _) (by decide) rfl d_C_valueOf_8 ?_
  exact mr_iret F w hr hlk (⟨rfl, rfl⟩) d_C_valueOf_9
end
