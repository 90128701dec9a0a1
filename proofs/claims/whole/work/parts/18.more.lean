/-! flush, flushOldest, force, trim, doAgain -/
section
variable {l : Launch} {D : va_G} {cI cF cZ cJ : ClassId} {ad : Nat → Nat} {σ : Mem}
set_option maxRecDepth 20000 in
theorem m_406 : Cond.methodLink "PagePool" 116 (⟨"PagePool", "oldest", "(I)I"⟩ : MethodName) ∈ gt := gt_in 406 (by decide +kernel) (by decide +kernel)
set_option maxRecDepth 20000 in
theorem m_150 : Cond.code (⟨"PagePool", "oldest", "(I)I"⟩ : MethodName) prog_1_method_12_code 3 (some .int) ∈ gt := gt_in 150 (by decide +kernel) (by decide +kernel)
set_option maxRecDepth 20000 in
theorem m_148 : Cond.instanceMethod (⟨"PagePool", "oldest", "(I)I"⟩ : MethodName) ∈ gt := gt_in 148 (by decide +kernel) (by decide +kernel)
set_option maxRecDepth 20000 in
theorem m_149 : Cond.selects "PagePool" (⟨"PagePool", "oldest", "(I)I"⟩ : MethodName) (⟨"PagePool", "oldest", "(I)I"⟩ : MethodName) ∈ gt := gt_in 149 (by decide +kernel) (by decide +kernel)
set_option maxRecDepth 20000 in
theorem m_421 : Cond.methodLink "PagePool" 132 (⟨"PagePool$ChangeLog", "lastOrBegin", "()I"⟩ : MethodName) ∈ gt := gt_in 421 (by decide +kernel) (by decide +kernel)
set_option maxRecDepth 20000 in
theorem m_424 : Cond.code (⟨"PagePool$ChangeLog", "lastOrBegin", "()I"⟩ : MethodName) prog_2_method_11_code 3 (some .int) ∈ gt := gt_in 424 (by decide +kernel) (by decide +kernel)
set_option maxRecDepth 20000 in
theorem m_422 : Cond.instanceMethod (⟨"PagePool$ChangeLog", "lastOrBegin", "()I"⟩ : MethodName) ∈ gt := gt_in 422 (by decide +kernel) (by decide +kernel)
set_option maxRecDepth 20000 in
theorem m_423 : Cond.selects "PagePool$ChangeLog" (⟨"PagePool$ChangeLog", "lastOrBegin", "()I"⟩ : MethodName) (⟨"PagePool$ChangeLog", "lastOrBegin", "()I"⟩ : MethodName) ∈ gt := gt_in 423 (by decide +kernel) (by decide +kernel)
set_option maxRecDepth 20000 in
theorem m_433 : Cond.methodLink "PagePool" 136 (⟨"PagePool$ChangeLog", "giveBackBefore", "(I)I"⟩ : MethodName) ∈ gt := gt_in 433 (by decide +kernel) (by decide +kernel)
set_option maxRecDepth 20000 in
theorem m_436 : Cond.code (⟨"PagePool$ChangeLog", "giveBackBefore", "(I)I"⟩ : MethodName) prog_2_method_12_code 4 (some .int) ∈ gt := gt_in 436 (by decide +kernel) (by decide +kernel)
set_option maxRecDepth 20000 in
theorem m_434 : Cond.instanceMethod (⟨"PagePool$ChangeLog", "giveBackBefore", "(I)I"⟩ : MethodName) ∈ gt := gt_in 434 (by decide +kernel) (by decide +kernel)
set_option maxRecDepth 20000 in
theorem m_435 : Cond.selects "PagePool$ChangeLog" (⟨"PagePool$ChangeLog", "giveBackBefore", "(I)I"⟩ : MethodName) (⟨"PagePool$ChangeLog", "giveBackBefore", "(I)I"⟩ : MethodName) ∈ gt := gt_in 435 (by decide +kernel) (by decide +kernel)
set_option maxRecDepth 20000 in
theorem m_505 : Cond.methodLink "PagePool" 214 (⟨"PagePool$ChangeLog", "isChange", "(I)Z"⟩ : MethodName) ∈ gt := gt_in 505 (by decide +kernel) (by decide +kernel)
set_option maxRecDepth 20000 in
theorem m_506 : Cond.methodLink "PagePool" 217 (⟨"PagePool$ChangeLog", "pageOf", "(I)I"⟩ : MethodName) ∈ gt := gt_in 506 (by decide +kernel) (by decide +kernel)
set_option maxRecDepth 20000 in
theorem m_509 : Cond.code (⟨"PagePool$ChangeLog", "pageOf", "(I)I"⟩ : MethodName) prog_2_method_8_code 2 (some .int) ∈ gt := gt_in 509 (by decide +kernel) (by decide +kernel)
set_option maxRecDepth 20000 in
theorem m_507 : Cond.instanceMethod (⟨"PagePool$ChangeLog", "pageOf", "(I)I"⟩ : MethodName) ∈ gt := gt_in 507 (by decide +kernel) (by decide +kernel)
set_option maxRecDepth 20000 in
theorem m_508 : Cond.selects "PagePool$ChangeLog" (⟨"PagePool$ChangeLog", "pageOf", "(I)I"⟩ : MethodName) (⟨"PagePool$ChangeLog", "pageOf", "(I)I"⟩ : MethodName) ∈ gt := gt_in 508 (by decide +kernel) (by decide +kernel)
set_option maxRecDepth 20000 in
theorem m_510 : Cond.methodLink "PagePool" 220 (⟨"PagePool$ChangeLog", "wordOf", "(I)I"⟩ : MethodName) ∈ gt := gt_in 510 (by decide +kernel) (by decide +kernel)
set_option maxRecDepth 20000 in
theorem m_513 : Cond.code (⟨"PagePool$ChangeLog", "wordOf", "(I)I"⟩ : MethodName) prog_2_method_9_code 2 (some .int) ∈ gt := gt_in 513 (by decide +kernel) (by decide +kernel)
set_option maxRecDepth 20000 in
theorem m_511 : Cond.instanceMethod (⟨"PagePool$ChangeLog", "wordOf", "(I)I"⟩ : MethodName) ∈ gt := gt_in 511 (by decide +kernel) (by decide +kernel)
set_option maxRecDepth 20000 in
theorem m_512 : Cond.selects "PagePool$ChangeLog" (⟨"PagePool$ChangeLog", "wordOf", "(I)I"⟩ : MethodName) (⟨"PagePool$ChangeLog", "wordOf", "(I)I"⟩ : MethodName) ∈ gt := gt_in 512 (by decide +kernel) (by decide +kernel)
set_option maxRecDepth 20000 in
theorem m_514 : Cond.methodLink "PagePool" 223 (⟨"PagePool$ChangeLog", "valueOf", "(I)I"⟩ : MethodName) ∈ gt := gt_in 514 (by decide +kernel) (by decide +kernel)
set_option maxRecDepth 20000 in
theorem m_517 : Cond.code (⟨"PagePool$ChangeLog", "valueOf", "(I)I"⟩ : MethodName) prog_2_method_10_code 2 (some .int) ∈ gt := gt_in 517 (by decide +kernel) (by decide +kernel)
set_option maxRecDepth 20000 in
theorem m_515 : Cond.instanceMethod (⟨"PagePool$ChangeLog", "valueOf", "(I)I"⟩ : MethodName) ∈ gt := gt_in 515 (by decide +kernel) (by decide +kernel)
set_option maxRecDepth 20000 in
theorem m_516 : Cond.selects "PagePool$ChangeLog" (⟨"PagePool$ChangeLog", "valueOf", "(I)I"⟩ : MethodName) (⟨"PagePool$ChangeLog", "valueOf", "(I)I"⟩ : MethodName) ∈ gt := gt_in 516 (by decide +kernel) (by decide +kernel)
theorem d_P_flush_0 : decode b_P_flush 0 = .ok (.aload_n 0, 1) := by decide +kernel
theorem d_P_flush_1 : decode b_P_flush 1 = .ok (.invokevirtual 43, 3) := by decide +kernel
theorem d_P_flush_4 : decode b_P_flush 4 = .ok (.iload_n 1, 1) := by decide +kernel
theorem d_P_flush_5 : decode b_P_flush 5 = .ok (.invokestatic 46, 3) := by decide +kernel
theorem d_P_flush_8 : decode b_P_flush 8 = .ok (.aload_n 0, 1) := by decide +kernel
theorem d_P_flush_9 : decode b_P_flush 9 = .ok (.iload_n 1, 1) := by decide +kernel
theorem d_P_flush_10 : decode b_P_flush 10 = .ok (.invokevirtual 109, 3) := by decide +kernel
theorem d_P_flush_13 : decode b_P_flush 13 = .ok (.istore_n 2, 1) := by decide +kernel
theorem d_P_flush_14 : decode b_P_flush 14 = .ok (.iload_n 2, 1) := by decide +kernel
theorem d_P_flush_15 : decode b_P_flush 15 = .ok (.iconst (-1), 1) := by decide +kernel
theorem d_P_flush_16 : decode b_P_flush 16 = .ok (.if_icmp .eq 15, 3) := by decide +kernel
theorem d_P_flush_19 : decode b_P_flush 19 = .ok (.aload_n 0, 1) := by decide +kernel
theorem d_P_flush_20 : decode b_P_flush 20 = .ok (.getfield 34, 3) := by decide +kernel
theorem d_P_flush_23 : decode b_P_flush 23 = .ok (.iload_n 2, 1) := by decide +kernel
theorem d_P_flush_24 : decode b_P_flush 24 = .ok (.aaload, 1) := by decide +kernel
theorem d_P_flush_25 : decode b_P_flush 25 = .ok (.invokevirtual 101, 3) := by decide +kernel
theorem d_P_flush_28 : decode b_P_flush 28 = .ok (.ifCond .ne 5, 3) := by decide +kernel
theorem d_P_flush_31 : decode b_P_flush 31 = .ok (.iconst 0, 1) := by decide +kernel
theorem d_P_flush_32 : decode b_P_flush 32 = .ok (.ireturn, 1) := by decide +kernel
theorem d_P_flush_33 : decode b_P_flush 33 = .ok (.aload_n 0, 1) := by decide +kernel
theorem d_P_flush_34 : decode b_P_flush 34 = .ok (.aload_n 0, 1) := by decide +kernel
theorem d_P_flush_35 : decode b_P_flush 35 = .ok (.getfield 34, 3) := by decide +kernel
theorem d_P_flush_38 : decode b_P_flush 38 = .ok (.iload_n 2, 1) := by decide +kernel
theorem d_P_flush_39 : decode b_P_flush 39 = .ok (.aaload, 1) := by decide +kernel
theorem d_P_flush_40 : decode b_P_flush 40 = .ok (.invokevirtual 112, 3) := by decide +kernel
theorem d_P_flush_43 : decode b_P_flush 43 = .ok (.ifCond .eq 7, 3) := by decide +kernel
theorem d_P_flush_46 : decode b_P_flush 46 = .ok (.iconst 1, 1) := by decide +kernel
theorem d_P_flush_47 : decode b_P_flush 47 = .ok (.goto 4, 3) := by decide +kernel
theorem d_P_flush_50 : decode b_P_flush 50 = .ok (.iconst (-1), 1) := by decide +kernel
theorem d_P_flush_51 : decode b_P_flush 51 = .ok (.ireturn, 1) := by decide +kernel
set_option maxRecDepth 20000 in
theorem g_P_flush_1 : GoodIn (kws (y_P_flush) b_P_flush 3 (some .int)) (wsV R_P 43 R_P y_P_requirePower (kws (y_P_requirePower) b_P_requirePower 1 none)) := kwV m_192 m_194 ms_2 m_1 m_195
set_option maxRecDepth 20000 in
theorem g_P_flush_5 : GoodIn (kws (y_P_flush) b_P_flush 3 (some .int)) (wsS R_P 46 y_P_requirePage (kws (y_P_requirePage) b_P_requirePage 1 none)) := kwS m_264 m_265 m_1 m_266
set_option maxRecDepth 20000 in
theorem g_P_flush_10 : GoodIn (kws (y_P_flush) b_P_flush 3 (some .int)) (wsV R_P 109 R_P y_P_frameWith (kws (y_P_frameWith) b_P_frameWith 3 (some .int))) := kwV m_287 m_289 ms_5 m_1 m_290
set_option maxRecDepth 20000 in
theorem g_P_flush_25 : GoodIn (kws (y_P_flush) b_P_flush 3 (some .int)) (wsV R_P 101 R_F y_F_isChanged (kws (y_F_isChanged) b_F_isChanged 1 (some .boolean))) := kwV m_143 m_144 m_145 m_5 m_146
set_option maxRecDepth 20000 in
theorem g_P_flush_40 : GoodIn (kws (y_P_flush) b_P_flush 3 (some .int)) (wsV R_P 112 R_P y_P_writeFrame (kws (y_P_writeFrame) b_P_writeFrame 3 (some .boolean))) := kwV m_299 m_301 ms_8 m_1 m_302
theorem d_P_flushOldest_0 : decode b_P_flushOldest 0 = .ok (.aload_n 0, 1) := by decide +kernel
theorem d_P_flushOldest_1 : decode b_P_flushOldest 1 = .ok (.invokevirtual 43, 3) := by decide +kernel
theorem d_P_flushOldest_4 : decode b_P_flushOldest 4 = .ok (.aload_n 0, 1) := by decide +kernel
theorem d_P_flushOldest_5 : decode b_P_flushOldest 5 = .ok (.iconst 0, 1) := by decide +kernel
theorem d_P_flushOldest_6 : decode b_P_flushOldest 6 = .ok (.invokevirtual 116, 3) := by decide +kernel
theorem d_P_flushOldest_9 : decode b_P_flushOldest 9 = .ok (.istore_n 1, 1) := by decide +kernel
theorem d_P_flushOldest_10 : decode b_P_flushOldest 10 = .ok (.iload_n 1, 1) := by decide +kernel
theorem d_P_flushOldest_11 : decode b_P_flushOldest 11 = .ok (.iconst (-1), 1) := by decide +kernel
theorem d_P_flushOldest_12 : decode b_P_flushOldest 12 = .ok (.if_icmp .ne 5, 3) := by decide +kernel
theorem d_P_flushOldest_15 : decode b_P_flushOldest 15 = .ok (.iconst (-1), 1) := by decide +kernel
theorem d_P_flushOldest_16 : decode b_P_flushOldest 16 = .ok (.ireturn, 1) := by decide +kernel
theorem d_P_flushOldest_17 : decode b_P_flushOldest 17 = .ok (.aload_n 0, 1) := by decide +kernel
theorem d_P_flushOldest_18 : decode b_P_flushOldest 18 = .ok (.getfield 34, 3) := by decide +kernel
theorem d_P_flushOldest_21 : decode b_P_flushOldest 21 = .ok (.iload_n 1, 1) := by decide +kernel
theorem d_P_flushOldest_22 : decode b_P_flushOldest 22 = .ok (.aaload, 1) := by decide +kernel
theorem d_P_flushOldest_23 : decode b_P_flushOldest 23 = .ok (.getfield 77, 3) := by decide +kernel
theorem d_P_flushOldest_26 : decode b_P_flushOldest 26 = .ok (.istore_n 2, 1) := by decide +kernel
theorem d_P_flushOldest_27 : decode b_P_flushOldest 27 = .ok (.aload_n 0, 1) := by decide +kernel
theorem d_P_flushOldest_28 : decode b_P_flushOldest 28 = .ok (.aload_n 0, 1) := by decide +kernel
theorem d_P_flushOldest_29 : decode b_P_flushOldest 29 = .ok (.getfield 34, 3) := by decide +kernel
theorem d_P_flushOldest_32 : decode b_P_flushOldest 32 = .ok (.iload_n 1, 1) := by decide +kernel
theorem d_P_flushOldest_33 : decode b_P_flushOldest 33 = .ok (.aaload, 1) := by decide +kernel
theorem d_P_flushOldest_34 : decode b_P_flushOldest 34 = .ok (.invokevirtual 112, 3) := by decide +kernel
theorem d_P_flushOldest_37 : decode b_P_flushOldest 37 = .ok (.ifCond .eq 7, 3) := by decide +kernel
theorem d_P_flushOldest_40 : decode b_P_flushOldest 40 = .ok (.iload_n 2, 1) := by decide +kernel
theorem d_P_flushOldest_41 : decode b_P_flushOldest 41 = .ok (.goto 4, 3) := by decide +kernel
theorem d_P_flushOldest_44 : decode b_P_flushOldest 44 = .ok (.iconst (-1), 1) := by decide +kernel
theorem d_P_flushOldest_45 : decode b_P_flushOldest 45 = .ok (.ireturn, 1) := by decide +kernel
set_option maxRecDepth 20000 in
theorem g_P_flushOldest_1 : GoodIn (kws (y_P_flushOldest) b_P_flushOldest 3 (some .int)) (wsV R_P 43 R_P y_P_requirePower (kws (y_P_requirePower) b_P_requirePower 1 none)) := kwV m_192 m_194 ms_2 m_1 m_195
set_option maxRecDepth 20000 in
theorem g_P_flushOldest_6 : GoodIn (kws (y_P_flushOldest) b_P_flushOldest 3 (some .int)) (wsV R_P 116 R_P y_P_oldest (kws (y_P_oldest) b_P_oldest 3 (some .int))) := kwV m_406 m_148 m_149 m_1 m_150
set_option maxRecDepth 20000 in
theorem g_P_flushOldest_34 : GoodIn (kws (y_P_flushOldest) b_P_flushOldest 3 (some .int)) (wsV R_P 112 R_P y_P_writeFrame (kws (y_P_writeFrame) b_P_writeFrame 3 (some .boolean))) := kwV m_299 m_301 ms_8 m_1 m_302
theorem d_P_force_0 : decode b_P_force 0 = .ok (.aload_n 0, 1) := by decide +kernel
theorem d_P_force_1 : decode b_P_force 1 = .ok (.invokevirtual 43, 3) := by decide +kernel
theorem d_P_force_4 : decode b_P_force 4 = .ok (.aload_n 0, 1) := by decide +kernel
theorem d_P_force_5 : decode b_P_force 5 = .ok (.getfield 28, 3) := by decide +kernel
theorem d_P_force_8 : decode b_P_force 8 = .ok (.getfield 119, 3) := by decide +kernel
theorem d_P_force_11 : decode b_P_force 11 = .ok (.istore_n 1, 1) := by decide +kernel
theorem d_P_force_12 : decode b_P_force 12 = .ok (.aload_n 0, 1) := by decide +kernel
theorem d_P_force_13 : decode b_P_force 13 = .ok (.getfield 28, 3) := by decide +kernel
theorem d_P_force_16 : decode b_P_force 16 = .ok (.aload_n 0, 1) := by decide +kernel
theorem d_P_force_17 : decode b_P_force 17 = .ok (.getfield 28, 3) := by decide +kernel
theorem d_P_force_20 : decode b_P_force 20 = .ok (.getfield 122, 3) := by decide +kernel
theorem d_P_force_23 : decode b_P_force 23 = .ok (.invokevirtual 125, 3) := by decide +kernel
theorem d_P_force_26 : decode b_P_force 26 = .ok (.ifCond .ne 9, 3) := by decide +kernel
theorem d_P_force_29 : decode b_P_force 29 = .ok (.aload_n 0, 1) := by decide +kernel
theorem d_P_force_30 : decode b_P_force 30 = .ok (.invokevirtual 129, 3) := by decide +kernel
theorem d_P_force_33 : decode b_P_force 33 = .ok (.iconst (-1), 1) := by decide +kernel
theorem d_P_force_34 : decode b_P_force 34 = .ok (.ireturn, 1) := by decide +kernel
theorem d_P_force_35 : decode b_P_force 35 = .ok (.aload_n 0, 1) := by decide +kernel
theorem d_P_force_36 : decode b_P_force 36 = .ok (.getfield 28, 3) := by decide +kernel
theorem d_P_force_39 : decode b_P_force 39 = .ok (.getfield 119, 3) := by decide +kernel
theorem d_P_force_42 : decode b_P_force 42 = .ok (.iload_n 1, 1) := by decide +kernel
theorem d_P_force_43 : decode b_P_force 43 = .ok (.isub, 1) := by decide +kernel
theorem d_P_force_44 : decode b_P_force 44 = .ok (.ireturn, 1) := by decide +kernel
set_option maxRecDepth 20000 in
theorem g_P_force_1 : GoodIn (kws (y_P_force) b_P_force 2 (some .int)) (wsV R_P 43 R_P y_P_requirePower (kws (y_P_requirePower) b_P_requirePower 1 none)) := kwV m_192 m_194 ms_2 m_1 m_195
set_option maxRecDepth 20000 in
theorem g_P_force_23 : GoodIn (kws (y_P_force) b_P_force 2 (some .int)) (wsV R_P 125 R_C y_C_forceTo (kws (y_C_forceTo) b_C_forceTo 3 (some .boolean))) := kwV m_307 m_308 m_309 m_4 m_310
set_option maxRecDepth 20000 in
theorem g_P_force_30 : GoodIn (kws (y_P_force) b_P_force 2 (some .int)) (wsV R_P 129 R_P y_P_loseMemory (kws (y_P_loseMemory) b_P_loseMemory 2 none)) := kwV m_171 m_173 ms_1 m_1 m_174
theorem d_P_trim_0 : decode b_P_trim 0 = .ok (.aload_n 0, 1) := by decide +kernel
theorem d_P_trim_1 : decode b_P_trim 1 = .ok (.invokevirtual 43, 3) := by decide +kernel
theorem d_P_trim_4 : decode b_P_trim 4 = .ok (.aload_n 0, 1) := by decide +kernel
theorem d_P_trim_5 : decode b_P_trim 5 = .ok (.iconst 0, 1) := by decide +kernel
theorem d_P_trim_6 : decode b_P_trim 6 = .ok (.invokevirtual 116, 3) := by decide +kernel
theorem d_P_trim_9 : decode b_P_trim 9 = .ok (.istore_n 1, 1) := by decide +kernel
theorem d_P_trim_10 : decode b_P_trim 10 = .ok (.iload_n 1, 1) := by decide +kernel
theorem d_P_trim_11 : decode b_P_trim 11 = .ok (.iconst (-1), 1) := by decide +kernel
theorem d_P_trim_12 : decode b_P_trim 12 = .ok (.if_icmp .ne 13, 3) := by decide +kernel
theorem d_P_trim_15 : decode b_P_trim 15 = .ok (.aload_n 0, 1) := by decide +kernel
theorem d_P_trim_16 : decode b_P_trim 16 = .ok (.getfield 28, 3) := by decide +kernel
theorem d_P_trim_19 : decode b_P_trim 19 = .ok (.invokevirtual 132, 3) := by decide +kernel
theorem d_P_trim_22 : decode b_P_trim 22 = .ok (.goto 12, 3) := by decide +kernel
theorem d_P_trim_25 : decode b_P_trim 25 = .ok (.aload_n 0, 1) := by decide +kernel
theorem d_P_trim_26 : decode b_P_trim 26 = .ok (.getfield 34, 3) := by decide +kernel
theorem d_P_trim_29 : decode b_P_trim 29 = .ok (.iload_n 1, 1) := by decide +kernel
theorem d_P_trim_30 : decode b_P_trim 30 = .ok (.aaload, 1) := by decide +kernel
theorem d_P_trim_31 : decode b_P_trim 31 = .ok (.getfield 104, 3) := by decide +kernel
theorem d_P_trim_34 : decode b_P_trim 34 = .ok (.istore_n 2, 1) := by decide +kernel
theorem d_P_trim_35 : decode b_P_trim 35 = .ok (.aload_n 0, 1) := by decide +kernel
theorem d_P_trim_36 : decode b_P_trim 36 = .ok (.getfield 28, 3) := by decide +kernel
theorem d_P_trim_39 : decode b_P_trim 39 = .ok (.iload_n 2, 1) := by decide +kernel
theorem d_P_trim_40 : decode b_P_trim 40 = .ok (.invokevirtual 136, 3) := by decide +kernel
theorem d_P_trim_43 : decode b_P_trim 43 = .ok (.ireturn, 1) := by decide +kernel
set_option maxRecDepth 20000 in
theorem g_P_trim_1 : GoodIn (kws (y_P_trim) b_P_trim 3 (some .int)) (wsV R_P 43 R_P y_P_requirePower (kws (y_P_requirePower) b_P_requirePower 1 none)) := kwV m_192 m_194 ms_2 m_1 m_195
set_option maxRecDepth 20000 in
theorem g_P_trim_6 : GoodIn (kws (y_P_trim) b_P_trim 3 (some .int)) (wsV R_P 116 R_P y_P_oldest (kws (y_P_oldest) b_P_oldest 3 (some .int))) := kwV m_406 m_148 m_149 m_1 m_150
set_option maxRecDepth 20000 in
theorem g_P_trim_19 : GoodIn (kws (y_P_trim) b_P_trim 3 (some .int)) (wsV R_P 132 R_C y_C_lastOrBegin (kws (y_C_lastOrBegin) b_C_lastOrBegin 3 (some .int))) := kwV m_421 m_422 m_423 m_4 m_424
set_option maxRecDepth 20000 in
theorem g_P_trim_40 : GoodIn (kws (y_P_trim) b_P_trim 3 (some .int)) (wsV R_P 136 R_C y_C_giveBackBefore (kws (y_C_giveBackBefore) b_C_giveBackBefore 4 (some .int))) := kwV m_433 m_434 m_435 m_4 m_436
theorem d_P_doAgain_0 : decode b_P_doAgain 0 = .ok (.aload_n 0, 1) := by decide +kernel
theorem d_P_doAgain_1 : decode b_P_doAgain 1 = .ok (.getfield 28, 3) := by decide +kernel
theorem d_P_doAgain_4 : decode b_P_doAgain 4 = .ok (.iload_n 1, 1) := by decide +kernel
theorem d_P_doAgain_5 : decode b_P_doAgain 5 = .ok (.invokevirtual 214, 3) := by decide +kernel
theorem d_P_doAgain_8 : decode b_P_doAgain 8 = .ok (.ifCond .ne 5, 3) := by decide +kernel
theorem d_P_doAgain_11 : decode b_P_doAgain 11 = .ok (.iconst 0, 1) := by decide +kernel
theorem d_P_doAgain_12 : decode b_P_doAgain 12 = .ok (.ireturn, 1) := by decide +kernel
theorem d_P_doAgain_13 : decode b_P_doAgain 13 = .ok (.aload_n 0, 1) := by decide +kernel
theorem d_P_doAgain_14 : decode b_P_doAgain 14 = .ok (.aload_n 0, 1) := by decide +kernel
theorem d_P_doAgain_15 : decode b_P_doAgain 15 = .ok (.getfield 28, 3) := by decide +kernel
theorem d_P_doAgain_18 : decode b_P_doAgain 18 = .ok (.iload_n 1, 1) := by decide +kernel
theorem d_P_doAgain_19 : decode b_P_doAgain 19 = .ok (.invokevirtual 217, 3) := by decide +kernel
theorem d_P_doAgain_22 : decode b_P_doAgain 22 = .ok (.invokevirtual 50, 3) := by decide +kernel
theorem d_P_doAgain_25 : decode b_P_doAgain 25 = .ok (.istore_n 2, 1) := by decide +kernel
theorem d_P_doAgain_26 : decode b_P_doAgain 26 = .ok (.iload_n 2, 1) := by decide +kernel
theorem d_P_doAgain_27 : decode b_P_doAgain 27 = .ok (.iconst (-1), 1) := by decide +kernel
theorem d_P_doAgain_28 : decode b_P_doAgain 28 = .ok (.if_icmp .ne 5, 3) := by decide +kernel
theorem d_P_doAgain_31 : decode b_P_doAgain 31 = .ok (.iconst (-1), 1) := by decide +kernel
theorem d_P_doAgain_32 : decode b_P_doAgain 32 = .ok (.ireturn, 1) := by decide +kernel
theorem d_P_doAgain_33 : decode b_P_doAgain 33 = .ok (.aload_n 0, 1) := by decide +kernel
theorem d_P_doAgain_34 : decode b_P_doAgain 34 = .ok (.getfield 34, 3) := by decide +kernel
theorem d_P_doAgain_37 : decode b_P_doAgain 37 = .ok (.iload_n 2, 1) := by decide +kernel
theorem d_P_doAgain_38 : decode b_P_doAgain 38 = .ok (.aaload, 1) := by decide +kernel
theorem d_P_doAgain_39 : decode b_P_doAgain 39 = .ok (.getfield 93, 3) := by decide +kernel
theorem d_P_doAgain_42 : decode b_P_doAgain 42 = .ok (.iconst 0, 1) := by decide +kernel
theorem d_P_doAgain_43 : decode b_P_doAgain 43 = .ok (.iaload, 1) := by decide +kernel
theorem d_P_doAgain_44 : decode b_P_doAgain 44 = .ok (.iload_n 1, 1) := by decide +kernel
theorem d_P_doAgain_45 : decode b_P_doAgain 45 = .ok (.if_icmp .gt 7, 3) := by decide +kernel
theorem d_P_doAgain_48 : decode b_P_doAgain 48 = .ok (.iconst 1, 1) := by decide +kernel
theorem d_P_doAgain_49 : decode b_P_doAgain 49 = .ok (.goto 4, 3) := by decide +kernel
theorem d_P_doAgain_52 : decode b_P_doAgain 52 = .ok (.iconst 0, 1) := by decide +kernel
theorem d_P_doAgain_53 : decode b_P_doAgain 53 = .ok (.istore_n 3, 1) := by decide +kernel
theorem d_P_doAgain_54 : decode b_P_doAgain 54 = .ok (.iload_n 3, 1) := by decide +kernel
theorem d_P_doAgain_55 : decode b_P_doAgain 55 = .ok (.ifCond .eq 29, 3) := by decide +kernel
theorem d_P_doAgain_58 : decode b_P_doAgain 58 = .ok (.aload_n 0, 1) := by decide +kernel
theorem d_P_doAgain_59 : decode b_P_doAgain 59 = .ok (.getfield 34, 3) := by decide +kernel
theorem d_P_doAgain_62 : decode b_P_doAgain 62 = .ok (.iload_n 2, 1) := by decide +kernel
theorem d_P_doAgain_63 : decode b_P_doAgain 63 = .ok (.aaload, 1) := by decide +kernel
theorem d_P_doAgain_64 : decode b_P_doAgain 64 = .ok (.iload_n 1, 1) := by decide +kernel
theorem d_P_doAgain_65 : decode b_P_doAgain 65 = .ok (.aload_n 0, 1) := by decide +kernel
theorem d_P_doAgain_66 : decode b_P_doAgain 66 = .ok (.getfield 28, 3) := by decide +kernel
theorem d_P_doAgain_69 : decode b_P_doAgain 69 = .ok (.iload_n 1, 1) := by decide +kernel
theorem d_P_doAgain_70 : decode b_P_doAgain 70 = .ok (.invokevirtual 220, 3) := by decide +kernel
theorem d_P_doAgain_73 : decode b_P_doAgain 73 = .ok (.aload_n 0, 1) := by decide +kernel
theorem d_P_doAgain_74 : decode b_P_doAgain 74 = .ok (.getfield 28, 3) := by decide +kernel
theorem d_P_doAgain_77 : decode b_P_doAgain 77 = .ok (.iload_n 1, 1) := by decide +kernel
theorem d_P_doAgain_78 : decode b_P_doAgain 78 = .ok (.invokevirtual 223, 3) := by decide +kernel
theorem d_P_doAgain_81 : decode b_P_doAgain 81 = .ok (.invokevirtual 84, 3) := by decide +kernel
theorem d_P_doAgain_84 : decode b_P_doAgain 84 = .ok (.aload_n 0, 1) := by decide +kernel
theorem d_P_doAgain_85 : decode b_P_doAgain 85 = .ok (.getfield 34, 3) := by decide +kernel
theorem d_P_doAgain_88 : decode b_P_doAgain 88 = .ok (.iload_n 2, 1) := by decide +kernel
theorem d_P_doAgain_89 : decode b_P_doAgain 89 = .ok (.aaload, 1) := by decide +kernel
theorem d_P_doAgain_90 : decode b_P_doAgain 90 = .ok (.dup, 1) := by decide +kernel
theorem d_P_doAgain_91 : decode b_P_doAgain 91 = .ok (.getfield 60, 3) := by decide +kernel
theorem d_P_doAgain_94 : decode b_P_doAgain 94 = .ok (.iconst 1, 1) := by decide +kernel
theorem d_P_doAgain_95 : decode b_P_doAgain 95 = .ok (.isub, 1) := by decide +kernel
theorem d_P_doAgain_96 : decode b_P_doAgain 96 = .ok (.putfield 60, 3) := by decide +kernel
theorem d_P_doAgain_99 : decode b_P_doAgain 99 = .ok (.iload_n 3, 1) := by decide +kernel
theorem d_P_doAgain_100 : decode b_P_doAgain 100 = .ok (.ifCond .eq 7, 3) := by decide +kernel
theorem d_P_doAgain_103 : decode b_P_doAgain 103 = .ok (.iconst 1, 1) := by decide +kernel
theorem d_P_doAgain_104 : decode b_P_doAgain 104 = .ok (.goto 4, 3) := by decide +kernel
theorem d_P_doAgain_107 : decode b_P_doAgain 107 = .ok (.iconst 0, 1) := by decide +kernel
theorem d_P_doAgain_108 : decode b_P_doAgain 108 = .ok (.ireturn, 1) := by decide +kernel
set_option maxRecDepth 20000 in
theorem g_P_doAgain_5 : GoodIn (kws (y_P_doAgain) b_P_doAgain 4 (some .int)) (wsV R_P 214 R_C y_C_isChange (kws (y_C_isChange) b_C_isChange 2 (some .boolean))) := kwV m_505 m_430 m_431 m_4 m_432
set_option maxRecDepth 20000 in
theorem g_P_doAgain_19 : GoodIn (kws (y_P_doAgain) b_P_doAgain 4 (some .int)) (wsV R_P 217 R_C y_C_pageOf (kws (y_C_pageOf) b_C_pageOf 2 (some .int))) := kwV m_506 m_507 m_508 m_4 m_509
set_option maxRecDepth 20000 in
theorem g_P_doAgain_22 : GoodIn (kws (y_P_doAgain) b_P_doAgain 4 (some .int)) (wsV R_P 50 R_P y_P_pin (kws (y_P_pin) b_P_pin 3 (some .int))) := kwV m_283 m_285 ms_4 m_1 m_286
set_option maxRecDepth 20000 in
theorem g_P_doAgain_70 : GoodIn (kws (y_P_doAgain) b_P_doAgain 4 (some .int)) (wsV R_P 220 R_C y_C_wordOf (kws (y_C_wordOf) b_C_wordOf 2 (some .int))) := kwV m_510 m_511 m_512 m_4 m_513
set_option maxRecDepth 20000 in
theorem g_P_doAgain_78 : GoodIn (kws (y_P_doAgain) b_P_doAgain 4 (some .int)) (wsV R_P 223 R_C y_C_valueOf (kws (y_C_valueOf) b_C_valueOf 2 (some .int))) := kwV m_514 m_515 m_516 m_4 m_517
set_option maxRecDepth 20000 in
theorem g_P_doAgain_81 : GoodIn (kws (y_P_doAgain) b_P_doAgain 4 (some .int)) (wsV R_P 84 R_F y_F_apply (kws (y_F_apply) b_F_apply 4 none)) := kwV m_372 m_373 m_374 m_5 m_375
theorem kOldest_ch (σ : Mem) (k : Int32) : ∀ (n f : Nat), f + n ≤ 8 → ∀ g, g < 8 → kOldest σ k n f = nI g → ¬ kCh σ g = 0
  | 0, _, _, g, hg, h => absurd h.symm (nI_nm1 hg)
  | n + 1, f, hn, g, hg, h => by
    unfold kOldest at h
    split at h
    · exact kOldest_ch σ k n (f + 1) (by omega) g hg h
    · split at h
      · have e : f = g := (nI_eq (by omega) (by omega)).mp h
        rw [← e]; assumption
      · exact kOldest_ch σ k n (f + 1) (by omega) g hg h
theorem tdiv {t : Int32} (h : nat0 16384 t) : t / nI 64 = nI (t.toNatClampNeg / 64) := by
  have h1 := h.1
  have e := pk_div (a := t.toNatClampNeg) (d := 64) (by omega) (by decide) (by decide)
  rw [← h.2] at e
  exact e
theorem trem {t : Int32} (h : nat0 16384 t) : t - t / nI 64 * nI 64 = nI (t.toNatClampNeg % 64) := by
  have h1 := h.1
  have e := pk_rem (a := t.toNatClampNeg) (d := 64) (by omega) (by decide) (by decide)
  rw [← h.2] at e
  exact e
theorem kEmpties_n : ∀ (n f : Nat) (σ : Mem) (i : Nat), i < 9 → kEmpties n f σ i = σ i
  | 0, _, _, _, _ => rfl
  | n + 1, f, σ, i, h => by
    unfold kEmpties kEmpty
    rw [kEmpties_n n _ _ i h, mup_n _ _ _ (by omega), mup_n _ _ _ (by omega), mup_n _ _ _ (by omega), mup_n _ _ _ (by omega)]
theorem kLose_n (σ : Mem) {i : Nat} (h : i < 9) (h0 : i ≠ 0) (h5 : i ≠ 5) : kLose σ i = σ i := by
  unfold kLose
  rw [mup_n _ _ _ h5, mup_n _ _ _ h0, kEmpties_n _ _ _ _ h]
theorem kGo_n : ∀ (n h : Nat) (τ : Mem) (i : Nat), i ≠ 0 → i < 9 → (kGo n h τ).2 i = τ i
  | 0, _, _, _, _, _ => rfl
  | n + 1, h, τ, i, h0, h9 => by
    unfold kGo
    split
    · split
      · exact mup_n _ _ _ h0
      · rw [kGo_n n _ _ i h0 h9, mup_n _ _ _ (by omega), mup_n _ _ _ h0]
    · rw [kGo_n n _ _ i h0 h9, mup_n _ _ _ h0]
theorem kRound_n (σ : Mem) {i : Nat} (h0 : i ≠ 0) (h9 : i < 9) : (kRound σ).2 i = σ i := kGo_n _ _ _ _ h0 h9
theorem pi_n {c : Prop} [Decidable c] {a b : Int32 × Mem} {z : Nat → Int32} {i : Nat} (h1 : a.2 i = z) (h2 : b.2 i = z) : (if c then a else b).2 i = z := by
  split <;> assumption
theorem kWF_n (σ : Mem) (f : Nat) {i : Nat} (h5 : 5 < i) (h9 : i < 9) : (kWF σ f).2 i = σ i := by
  unfold kWF
  refine pi_n ?_ ?_
  · show ((kLose ((kFT σ (kEnd σ f)).2))) i = σ i
    rw [kLose_n _ (by omega) (by omega) (by omega), kFT_n _ _ (by omega) (by omega)]
  · refine pi_n ?_ ?_
    · show ((kLose ((kSpare ((kFT σ (kEnd σ f)).2) (((kFT σ (kEnd σ f)).2) (f + 9) 1) (f + 17)).2))) i = σ i
      rw [kLose_n _ (by omega) (by omega) (by omega), kSpare_n _ _ _ (by omega) (by omega) (by omega), kFT_n _ _ (by omega) (by omega)]
    · refine pi_n ?_ ?_
      · show ((kLose ((kOwn ((kSpare ((kFT σ (kEnd σ f)).2) (((kFT σ (kEnd σ f)).2) (f + 9) 1) (f + 17)).2) ((σ (f + 9) 1).toNatClampNeg) (f + 17)).2))) i = σ i
        rw [kLose_n _ (by omega) (by omega) (by omega), kOwn_n _ _ _ (by omega) (by omega) (by omega), kSpare_n _ _ _ (by omega) (by omega) (by omega), kFT_n _ _ (by omega) (by omega)]
      · show (mup ((kOwn ((kSpare ((kFT σ (kEnd σ f)).2) (((kFT σ (kEnd σ f)).2) (f + 9) 1) (f + 17)).2) ((σ (f + 9) 1).toNatClampNeg) (f + 17)).2) (f + 9) 4 ((-1))) i = σ i
        rw [mup_n _ _ _ (by omega), kOwn_n _ _ _ (by omega) (by omega) (by omega), kSpare_n _ _ _ (by omega) (by omega) (by omega), kFT_n _ _ (by omega) (by omega)]
theorem kTake_n (σ : Mem) (pg : Nat) {i : Nat} (h5 : 5 < i) (h9 : i < 9) : (kTake σ pg).2 i = σ i := by
  unfold kTake
  refine pi_n ?_ ?_
  · refine pi_n ?_ ?_
    · show (((kRound σ).2)) i = σ i
      rw [kRound_n _ (by omega) (by omega)]
    · refine pi_n ?_ ?_
      · show ((mcp (mup ((kRound σ).2) (((kRound σ).1).toNatClampNeg + 9) 1 (nI pg)) 3 (((kRound σ).1).toNatClampNeg + 17) (pg * 64) 0 64)) i = σ i
        rw [mcp_n _ _ _ _ _ _ (by omega), mup_n _ _ _ (by omega), kRound_n _ (by omega) (by omega)]
      · refine pi_n ?_ ?_
        · show (((kWF ((kRound σ).2) ((kRound σ).1).toNatClampNeg).2)) i = σ i
          rw [kWF_n _ _ (by omega) (by omega), kRound_n _ (by omega) (by omega)]
        · show ((mcp (mup ((kWF ((kRound σ).2) ((kRound σ).1).toNatClampNeg).2) (((kRound σ).1).toNatClampNeg + 9) 1 (nI pg)) 3 (((kRound σ).1).toNatClampNeg + 17) (pg * 64) 0 64)) i = σ i
          rw [mcp_n _ _ _ _ _ _ (by omega), mup_n _ _ _ (by omega), kWF_n _ _ (by omega) (by omega), kRound_n _ (by omega) (by omega)]
  · refine pi_n ?_ ?_
    · show ((mcp (mup σ ((kFw σ ((-1)) 8 0).toNatClampNeg + 9) 1 (nI pg)) 3 ((kFw σ ((-1)) 8 0).toNatClampNeg + 17) (pg * 64) 0 64)) i = σ i
      rw [mcp_n _ _ _ _ _ _ (by omega), mup_n _ _ _ (by omega)]
    · refine pi_n ?_ ?_
      · show (((kWF σ (kFw σ ((-1)) 8 0).toNatClampNeg).2)) i = σ i
        rw [kWF_n _ _ (by omega) (by omega)]
      · show ((mcp (mup ((kWF σ (kFw σ ((-1)) 8 0).toNatClampNeg).2) ((kFw σ ((-1)) 8 0).toNatClampNeg + 9) 1 (nI pg)) 3 ((kFw σ ((-1)) 8 0).toNatClampNeg + 17) (pg * 64) 0 64)) i = σ i
        rw [mcp_n _ _ _ _ _ _ (by omega), mup_n _ _ _ (by omega), kWF_n _ _ (by omega) (by omega)]
theorem kPin_n (σ : Mem) (pg : Nat) {i : Nat} (h5 : 5 < i) (h9 : i < 9) : (kPin σ pg).2 i = σ i := by
  unfold kPin
  refine pi_n ?_ ?_
  · refine pi_n ?_ ?_
    · show (((kTake σ pg).2)) i = σ i
      rw [kTake_n _ _ (by omega) (by omega)]
    · show (mup (mup ((kTake σ pg).2) (((kTake σ pg).1).toNatClampNeg + 9) 2 ((((kTake σ pg).2) (((kTake σ pg).1).toNatClampNeg + 9) 2) + (nI 1))) (((kTake σ pg).1).toNatClampNeg + 9) 3 (nI 1)) i = σ i
      rw [mup_n _ _ _ (by omega), mup_n _ _ _ (by omega), kTake_n _ _ (by omega) (by omega)]
  · show (mup (mup σ ((kFw σ (nI pg) 8 0).toNatClampNeg + 9) 2 ((σ ((kFw σ (nI pg) 8 0).toNatClampNeg + 9) 2) + (nI 1))) ((kFw σ (nI pg) 8 0).toNatClampNeg + 9) 3 (nI 1)) i = σ i
    rw [mup_n _ _ _ (by omega), mup_n _ _ _ (by omega)]
def xFlush (σ : Mem) (pg : Int32) : Nat × Int32 × Mem :=
  if σ 1 0 = 0 then ((1, nI 0, σ))
  else if kBad 256 pg then ((2, nI 0, σ))
  else if (kFw σ (nI pg.toNatClampNeg) 8 0) = -1 then ((0, nI 0, σ))
  else if (kCh σ (kFw σ (nI pg.toNatClampNeg) 8 0).toNatClampNeg) = 0 then ((0, nI 0, σ))
  else if ((kWF σ (kFw σ (nI pg.toNatClampNeg) 8 0).toNatClampNeg).1) = 0 then ((0, (-1), ((kWF σ (kFw σ (nI pg.toNatClampNeg) 8 0).toNatClampNeg).2)))
  else (0, nI 1, ((kWF σ (kFw σ (nI pg.toNatClampNeg) 8 0).toNatClampNeg).2))
set_option maxHeartbeats 4000000 in
set_option maxRecDepth 100000 in
theorem c_P_flush (hl9 : l.stackTraces = false) (σ : Mem) (pg : Int32) (hh : nat0 8 (σ 0 4)) (hok : pgOK σ) : KXi l D clP (tyP cI cF cZ cJ) 25 (eP cI cF ad) ad y_P_flush b_P_flush 3 (some .int) { frames := 7, cells := 2, slots := 12, locals := 130 } [.ref (ad 0), .int pg] σ (fun r σ' => xFlush σ pg = (0, r, σ')) (fun C => (xFlush σ pg).1 ≠ 0 ∧ C = xn (xFlush σ pg).1) := by
  refine KXi.of (by decide) (Nat.le_of_ble_eq_true rfl) ?_
  intro p e s m args below meth c A ls F w hT hl hr hlk hex
  obtain ⟨hx, hb, hml, hown, hts⟩ := id F
  have hl : lv_has ls 3 [(0, .ref (ad 0)), (1, .int pg)] := hl
  refine lv_aload_n hx hb d_P_flush_0 rfl (lv_at hl 0 rfl) ?_
  refine mr_xVv (As := []) F w hT hl.1 (c_P_requirePower hl9 σ) (cwV 0 hts g_P_flush_1 rfl rfl rfl (by decide +kernel) ⟨(Nat.le_of_ble_eq_true rfl), (Nat.le_of_ble_eq_true rfl)⟩) rfl (by decide) rfl rfl rfl (Nat.le_of_ble_eq_true rfl) d_P_flush_1 ⟨(Nat.le_of_ble_eq_true rfl), (Nat.le_of_ble_eq_true rfl)⟩ (fun C9 h9 => by obtain ⟨rfl, h8⟩ := h9; unfold xFlush; rw [if_pos h8]; exact ⟨by show (1 : Nat) ≠ 0; decide, rfl⟩) hex hlk (Nat.le_of_ble_eq_true rfl) (Nat.le_of_ble_eq_true rfl) (fun σ1 H locs e2 w => ?_)
  have c3 := e2.2
  rw [e2.1] at w
  refine lv_iload_n hx hb d_P_flush_4 rfl (lv_at hl 1 rfl) ?_
  refine mr_xSv (As := [.int pg]) F w hT hl.1 (c_P_requirePage hl9 σ pg) (cwS 1 hts g_P_flush_5 rfl rfl rfl (by decide +kernel) ⟨(Nat.le_of_ble_eq_true rfl), (Nat.le_of_ble_eq_true rfl)⟩) rfl rfl (Nat.le_of_ble_eq_true rfl) d_P_flush_5 ⟨(Nat.le_of_ble_eq_true rfl), (Nat.le_of_ble_eq_true rfl)⟩ (fun C9 h9 => by obtain ⟨rfl, h8⟩ := h9; unfold xFlush; rw [if_neg c3, if_pos h8]; exact ⟨by show (2 : Nat) ≠ 0; decide, rfl⟩) hex hlk (Nat.le_of_ble_eq_true rfl) (Nat.le_of_ble_eq_true rfl) (fun σ4 H locs e5 w => ?_)
  have c6 := e5.2
  rw [e5.1] at w
  have hb7 : pg.toNatClampNeg < 256 := (kBad_nat c6 (by decide)).1
  refine lv_aload_n hx hb d_P_flush_8 rfl (lv_at hl 0 rfl) ?_
  refine lv_iload_n hx hb d_P_flush_9 rfl (lv_at hl 1 rfl) ?_
  refine nr_as (k := pg.toNatClampNeg) (kBad_nat c6 (by decide)).2 ?_
  refine mr_callVi (As := [.int (nI pg.toNatClampNeg)]) F w hl.1 (c_P_frameWith σ (nI pg.toNatClampNeg)) (cwV 1 hts g_P_flush_10 rfl rfl rfl (by decide +kernel) ⟨Nat.le_of_ble_eq_true rfl, Nat.le_of_ble_eq_true rfl⟩) rfl (by decide) rfl rfl rfl (Nat.le_of_ble_eq_true rfl) d_P_flush_10 ⟨Nat.le_of_ble_eq_true rfl, Nat.le_of_ble_eq_true rfl⟩ (fun r8 σ9 H locs e10 w => ?_)
  have e10_r := e10.1.symm
  have hs9 := e10.2
  rw [hs9] at w
  clear hs9 e10
  rcases Classical.em (r8 = -1) with c11 | c11
  · rw [c11]
    refine lv_istore_n (lv' := [(2, .int ((-1))), (0, .ref (ad 0)), (1, .int pg)]) hx hb d_P_flush_13 rfl hl (by decide) rfl (fun ls hl => ?_)
    refine lv_iload_n hx hb d_P_flush_14 rfl (lv_at hl 0 rfl) ?_
    refine lv_iconst (v := -1) hx hb d_P_flush_15 (by decide) ?_
    refine lv_icmp_eq (tgt := 31) hx hb d_P_flush_16 (by decide) (fun _ => ?_) (fun c13 => absurd rfl c13)
    refine lv_iconst (v := nI 0) hx hb d_P_flush_31 (by decide) ?_
    exact mr_xiret F w hr hlk (Nat.le_of_ble_eq_true rfl) (Nat.le_of_ble_eq_true rfl) (by subst e10_r; unfold xFlush; rw [if_neg c3, if_neg c6, if_pos c11]) d_P_flush_32
  · have hb12 : r8.toNatClampNeg < 8 := (fr8_in (by rw [← e10_r]; exact (kFw_in σ (nI pg.toNatClampNeg) 8 0 (by decide))) c11).1
    rw [(fr8_in (R := r8) (by rw [← e10_r]; exact (kFw_in σ (nI pg.toNatClampNeg) 8 0 (by decide))) c11).2]
    refine lv_istore_n (lv' := [(2, .int (nI r8.toNatClampNeg)), (0, .ref (ad 0)), (1, .int pg)]) hx hb d_P_flush_13 rfl hl (by decide) rfl (fun ls hl => ?_)
    refine lv_iload_n hx hb d_P_flush_14 rfl (lv_at hl 0 rfl) ?_
    refine lv_iconst (v := -1) hx hb d_P_flush_15 (by decide) ?_
    refine lv_icmp_eq (tgt := 31) hx hb d_P_flush_16 (by decide) (fun c14 => absurd c14 (nI_nm1 hb12)) (fun _ => ?_)
    refine lv_aload_n hx hb d_P_flush_19 rfl (lv_at hl 1 rfl) ?_
    refine mr_get F w (kin in_P) 0 (by decide) rfl rfl 3 (by decide) (kws_in m_126) (fun _ h => h) rfl d_P_flush_20 ?_
    refine lv_iload_n hx hb d_P_flush_23 rfl (lv_at hl 0 rfl) ?_
    refine mr_aldq F w 8 1 (by decide) rfl rfl r8.toNatClampNeg hb12 (by decide) rfl rfl d_P_flush_24 ?_
    refine mr_callVi (As := []) F w hl.1 (c_F_isChanged σ r8.toNatClampNeg hb12) (cwV 0 hts g_P_flush_25 rfl rfl rfl (by decide +kernel) ⟨Nat.le_of_ble_eq_true rfl, Nat.le_of_ble_eq_true rfl⟩) rfl (by omega) (eP_F hb12 _) rfl rfl (Nat.le_of_ble_eq_true rfl) d_P_flush_25 ⟨Nat.le_of_ble_eq_true rfl, Nat.le_of_ble_eq_true rfl⟩ (fun r15 σ16 H locs e17 w => ?_)
    obtain ⟨rfl, hs9⟩ := e17
    rw [hs9] at w
    clear hs9
    refine lv_if_ne (tgt := 33) hx hb d_P_flush_28 (by decide) (fun c18 => ?_) (fun c18 => ?_)
    · refine lv_aload_n hx hb d_P_flush_33 rfl (lv_at hl 1 rfl) ?_
      refine lv_aload_n hx hb d_P_flush_34 rfl (lv_at hl 1 rfl) ?_
      refine mr_get F w (kin in_P) 0 (by decide) rfl rfl 3 (by decide) (kws_in m_126) (fun _ h => h) rfl d_P_flush_35 ?_
      refine lv_iload_n hx hb d_P_flush_38 rfl (lv_at hl 0 rfl) ?_
      refine mr_aldq F w 8 1 (by decide) rfl rfl r8.toNatClampNeg hb12 (by decide) rfl rfl d_P_flush_39 ?_
      refine mr_callVi (As := [.ref (ad (r8.toNatClampNeg + 9))]) F w hl.1 (c_P_writeFrame σ r8.toNatClampNeg hb12 (hok _ hb12 c18)) (cwV 1 hts g_P_flush_40 rfl rfl rfl (by decide +kernel) ⟨Nat.le_of_ble_eq_true rfl, Nat.le_of_ble_eq_true rfl⟩) rfl (by decide) rfl rfl rfl (Nat.le_of_ble_eq_true rfl) d_P_flush_40 ⟨Nat.le_of_ble_eq_true rfl, Nat.le_of_ble_eq_true rfl⟩ (fun r19 σ20 H locs e21 w => ?_)
      have e21_r := e21.1.symm
      have e21_s := e21.2.symm
      clear e21
      refine lv_if_eq (tgt := 50) hx hb d_P_flush_43 (by decide) (fun c22 => ?_) (fun c22 => ?_)
      · refine lv_iconst (v := -1) hx hb d_P_flush_50 (by decide) ?_
        exact mr_xiret F w hr hlk (Nat.le_of_ble_eq_true rfl) (Nat.le_of_ble_eq_true rfl) (by subst e10_r e21_r e21_s; unfold xFlush; rw [if_neg c3, if_neg c6, if_neg c11, if_neg c18, if_pos c22]) d_P_flush_51
      · refine lv_iconst (v := nI 1) hx hb d_P_flush_46 (by decide) ?_
        refine lv_goto (tgt := 51) hx hb d_P_flush_47 (by decide) ?_
        exact mr_xiret F w hr hlk (Nat.le_of_ble_eq_true rfl) (Nat.le_of_ble_eq_true rfl) (by subst e10_r e21_r e21_s; unfold xFlush; rw [if_neg c3, if_neg c6, if_neg c11, if_neg c18, if_neg c22]) d_P_flush_51
    · refine lv_iconst (v := nI 0) hx hb d_P_flush_31 (by decide) ?_
      exact mr_xiret F w hr hlk (Nat.le_of_ble_eq_true rfl) (Nat.le_of_ble_eq_true rfl) (by subst e10_r; unfold xFlush; rw [if_neg c3, if_neg c6, if_neg c11, if_pos c18]) d_P_flush_32
def xFlushO (σ : Mem)  : Nat × Int32 × Mem :=
  if σ 1 0 = 0 then ((1, nI 0, σ))
  else if (kOldest σ (nI 0) 8 0) = -1 then ((0, (-1), σ))
  else if ((kWF σ (kOldest σ (nI 0) 8 0).toNatClampNeg).1) = 0 then ((0, (-1), ((kWF σ (kOldest σ (nI 0) 8 0).toNatClampNeg).2)))
  else (0, σ ((kOldest σ (nI 0) 8 0).toNatClampNeg + 9) 1, ((kWF σ (kOldest σ (nI 0) 8 0).toNatClampNeg).2))
set_option maxHeartbeats 4000000 in
set_option maxRecDepth 100000 in
theorem c_P_flushOldest (hl9 : l.stackTraces = false) (σ : Mem) (hh : nat0 8 (σ 0 4)) (hok : pgOK σ) : KXi l D clP (tyP cI cF cZ cJ) 25 (eP cI cF ad) ad y_P_flushOldest b_P_flushOldest 3 (some .int) { frames := 7, cells := 1, slots := 6, locals := 130 } [.ref (ad 0)] σ (fun r σ' => xFlushO σ = (0, r, σ')) (fun C => (xFlushO σ).1 ≠ 0 ∧ C = xn (xFlushO σ).1) := by
  refine KXi.of (by decide) (Nat.le_of_ble_eq_true rfl) ?_
  intro p e s m args below meth c A ls F w hT hl hr hlk hex
  obtain ⟨hx, hb, hml, hown, hts⟩ := id F
  have hl : lv_has ls 3 [(0, .ref (ad 0))] := hl
  refine lv_aload_n hx hb d_P_flushOldest_0 rfl (lv_at hl 0 rfl) ?_
  refine mr_xVv (As := []) F w hT hl.1 (c_P_requirePower hl9 σ) (cwV 0 hts g_P_flushOldest_1 rfl rfl rfl (by decide +kernel) ⟨(Nat.le_of_ble_eq_true rfl), (Nat.le_of_ble_eq_true rfl)⟩) rfl (by decide) rfl rfl rfl (Nat.le_of_ble_eq_true rfl) d_P_flushOldest_1 ⟨(Nat.le_of_ble_eq_true rfl), (Nat.le_of_ble_eq_true rfl)⟩ (fun C9 h9 => by obtain ⟨rfl, h8⟩ := h9; unfold xFlushO; rw [if_pos h8]; exact ⟨by show (1 : Nat) ≠ 0; decide, rfl⟩) hex hlk (Nat.le_of_ble_eq_true rfl) (Nat.le_of_ble_eq_true rfl) (fun σ1 H locs e2 w => ?_)
  have c3 := e2.2
  rw [e2.1] at w
  refine lv_aload_n hx hb d_P_flushOldest_4 rfl (lv_at hl 0 rfl) ?_
  refine lv_iconst (v := nI 0) hx hb d_P_flushOldest_5 (by decide) ?_
  refine mr_callVi (As := [.int (nI 0)]) F w hl.1 (c_P_oldest σ (nI 0)) (cwV 1 hts g_P_flushOldest_6 rfl rfl rfl (by decide +kernel) ⟨Nat.le_of_ble_eq_true rfl, Nat.le_of_ble_eq_true rfl⟩) rfl (by decide) rfl rfl rfl (Nat.le_of_ble_eq_true rfl) d_P_flushOldest_6 ⟨Nat.le_of_ble_eq_true rfl, Nat.le_of_ble_eq_true rfl⟩ (fun r4 σ5 H locs e6 w => ?_)
  have e6_r := e6.1.symm
  have hs9 := e6.2
  rw [hs9] at w
  clear hs9 e6
  rcases Classical.em (r4 = -1) with c7 | c7
  · rw [c7]
    refine lv_istore_n (lv' := [(1, .int ((-1))), (0, .ref (ad 0))]) hx hb d_P_flushOldest_9 rfl hl (by decide) rfl (fun ls hl => ?_)
    refine lv_iload_n hx hb d_P_flushOldest_10 rfl (lv_at hl 0 rfl) ?_
    refine lv_iconst (v := -1) hx hb d_P_flushOldest_11 (by decide) ?_
    refine lv_icmp_ne (tgt := 17) hx hb d_P_flushOldest_12 (by decide) (fun c9 => absurd rfl c9) (fun _ => ?_)
    refine lv_iconst (v := -1) hx hb d_P_flushOldest_15 (by decide) ?_
    exact mr_xiret F w hr hlk (Nat.le_of_ble_eq_true rfl) (Nat.le_of_ble_eq_true rfl) (by subst e6_r; unfold xFlushO; rw [if_neg c3, if_pos c7]) d_P_flushOldest_16
  · have hb8 : r4.toNatClampNeg < 8 := (fr8_in (by rw [← e6_r]; exact (kOldest_in σ (nI 0) 8 0 (by decide))) c7).1
    rw [(fr8_in (R := r4) (by rw [← e6_r]; exact (kOldest_in σ (nI 0) 8 0 (by decide))) c7).2]
    refine lv_istore_n (lv' := [(1, .int (nI r4.toNatClampNeg)), (0, .ref (ad 0))]) hx hb d_P_flushOldest_9 rfl hl (by decide) rfl (fun ls hl => ?_)
    refine lv_iload_n hx hb d_P_flushOldest_10 rfl (lv_at hl 0 rfl) ?_
    refine lv_iconst (v := -1) hx hb d_P_flushOldest_11 (by decide) ?_
    refine lv_icmp_ne (tgt := 17) hx hb d_P_flushOldest_12 (by decide) (fun _ => ?_) (fun c10 => absurd c10 (nI_nm1 hb8))
    refine lv_aload_n hx hb d_P_flushOldest_17 rfl (lv_at hl 1 rfl) ?_
    refine mr_get F w (kin in_P) 0 (by decide) rfl rfl 3 (by decide) (kws_in m_126) (fun _ h => h) rfl d_P_flushOldest_18 ?_
    refine lv_iload_n hx hb d_P_flushOldest_21 rfl (lv_at hl 0 rfl) ?_
    refine mr_aldq F w 8 1 (by decide) rfl rfl r4.toNatClampNeg hb8 (by decide) rfl rfl d_P_flushOldest_22 ?_
    refine mr_get F w (kin in_F) (r4.toNatClampNeg + 9) (by omega) (eP_F hb8 _) rfl 1 (by decide) (kws_in m_105) (fun _ h => h) rfl d_P_flushOldest_23 ?_
    refine lv_istore_n (lv' := [(2, .int (σ (r4.toNatClampNeg + 9) 1)), (1, .int (nI r4.toNatClampNeg)), (0, .ref (ad 0))]) hx hb d_P_flushOldest_26 rfl hl (by decide) rfl (fun ls hl => ?_)
    refine lv_aload_n hx hb d_P_flushOldest_27 rfl (lv_at hl 2 rfl) ?_
    refine lv_aload_n hx hb d_P_flushOldest_28 rfl (lv_at hl 2 rfl) ?_
    refine mr_get F w (kin in_P) 0 (by decide) rfl rfl 3 (by decide) (kws_in m_126) (fun _ h => h) rfl d_P_flushOldest_29 ?_
    refine lv_iload_n hx hb d_P_flushOldest_32 rfl (lv_at hl 1 rfl) ?_
    refine mr_aldq F w 8 1 (by decide) rfl rfl r4.toNatClampNeg hb8 (by decide) rfl rfl d_P_flushOldest_33 ?_
    refine mr_callVi (As := [.ref (ad (r4.toNatClampNeg + 9))]) F w hl.1 (c_P_writeFrame σ r4.toNatClampNeg hb8 (hok _ hb8 (kOldest_ch σ (nI 0) 8 0 (by decide) _ hb8 (by rw [e6_r]; exact (fr8_in (R := r4) (by rw [← e6_r]; exact kOldest_in σ (nI 0) 8 0 (by decide)) c7).2)))) (cwV 1 hts g_P_flushOldest_34 rfl rfl rfl (by decide +kernel) ⟨Nat.le_of_ble_eq_true rfl, Nat.le_of_ble_eq_true rfl⟩) rfl (by decide) rfl rfl rfl (Nat.le_of_ble_eq_true rfl) d_P_flushOldest_34 ⟨Nat.le_of_ble_eq_true rfl, Nat.le_of_ble_eq_true rfl⟩ (fun r11 σ12 H locs e13 w => ?_)
    have e13_r := e13.1.symm
    have e13_s := e13.2.symm
    clear e13
    refine lv_if_eq (tgt := 44) hx hb d_P_flushOldest_37 (by decide) (fun c14 => ?_) (fun c14 => ?_)
    · refine lv_iconst (v := -1) hx hb d_P_flushOldest_44 (by decide) ?_
      exact mr_xiret F w hr hlk (Nat.le_of_ble_eq_true rfl) (Nat.le_of_ble_eq_true rfl) (by subst e6_r e13_r e13_s; unfold xFlushO; rw [if_neg c3, if_neg c7, if_pos c14]) d_P_flushOldest_45
    · refine lv_iload_n hx hb d_P_flushOldest_40 rfl (lv_at hl 0 rfl) ?_
      refine lv_goto (tgt := 45) hx hb d_P_flushOldest_41 (by decide) ?_
      exact mr_xiret F w hr hlk (Nat.le_of_ble_eq_true rfl) (Nat.le_of_ble_eq_true rfl) (by subst e6_r e13_r e13_s; unfold xFlushO; rw [if_neg c3, if_neg c7, if_neg c14]) d_P_flushOldest_45
def xForce (σ : Mem)  : Nat × Int32 × Mem :=
  if σ 1 0 = 0 then ((1, nI 0, σ))
  else if ((kFT σ (σ 5 5)).1) = 0 then ((0, (-1), (kLose ((kFT σ (σ 5 5)).2))))
  else (0, (((kFT σ (σ 5 5)).2) 5 4) - (σ 5 4), ((kFT σ (σ 5 5)).2))
set_option maxHeartbeats 4000000 in
set_option maxRecDepth 100000 in
theorem c_P_force (hl9 : l.stackTraces = false) (σ : Mem)  : KXi l D clP (tyP cI cF cZ cJ) 25 (eP cI cF ad) ad y_P_force b_P_force 2 (some .int) { frames := 7, cells := 1, slots := 6, locals := 120 } [.ref (ad 0)] σ (fun r σ' => xForce σ = (0, r, σ')) (fun C => (xForce σ).1 ≠ 0 ∧ C = xn (xForce σ).1) := by
  refine KXi.of (by decide) (Nat.le_of_ble_eq_true rfl) ?_
  intro p e s m args below meth c A ls F w hT hl hr hlk hex
  obtain ⟨hx, hb, hml, hown, hts⟩ := id F
  have hl : lv_has ls 2 [(0, .ref (ad 0))] := hl
  refine lv_aload_n hx hb d_P_force_0 rfl (lv_at hl 0 rfl) ?_
  refine mr_xVv (As := []) F w hT hl.1 (c_P_requirePower hl9 σ) (cwV 0 hts g_P_force_1 rfl rfl rfl (by decide +kernel) ⟨(Nat.le_of_ble_eq_true rfl), (Nat.le_of_ble_eq_true rfl)⟩) rfl (by decide) rfl rfl rfl (Nat.le_of_ble_eq_true rfl) d_P_force_1 ⟨(Nat.le_of_ble_eq_true rfl), (Nat.le_of_ble_eq_true rfl)⟩ (fun C9 h9 => by obtain ⟨rfl, h8⟩ := h9; unfold xForce; rw [if_pos h8]; exact ⟨by show (1 : Nat) ≠ 0; decide, rfl⟩) hex hlk (Nat.le_of_ble_eq_true rfl) (Nat.le_of_ble_eq_true rfl) (fun σ1 H locs e2 w => ?_)
  have c3 := e2.2
  rw [e2.1] at w
  refine lv_aload_n hx hb d_P_force_4 rfl (lv_at hl 0 rfl) ?_
  refine mr_get F w (kin in_P) 0 (by decide) rfl rfl 2 (by decide) (kws_in m_125) (fun _ h => h) rfl d_P_force_5 ?_
  refine mr_get F w (kin in_C) 5 (by decide) rfl rfl 4 (by decide) (kws_in m_79) (fun _ h => h) rfl d_P_force_8 ?_
  refine lv_istore_n (lv' := [(1, .int (σ 5 4)), (0, .ref (ad 0))]) hx hb d_P_force_11 rfl hl (by decide) rfl (fun ls hl => ?_)
  refine lv_aload_n hx hb d_P_force_12 rfl (lv_at hl 1 rfl) ?_
  refine mr_get F w (kin in_P) 0 (by decide) rfl rfl 2 (by decide) (kws_in m_125) (fun _ h => h) rfl d_P_force_13 ?_
  refine lv_aload_n hx hb d_P_force_16 rfl (lv_at hl 1 rfl) ?_
  refine mr_get F w (kin in_P) 0 (by decide) rfl rfl 2 (by decide) (kws_in m_125) (fun _ h => h) rfl d_P_force_17 ?_
  refine mr_get F w (kin in_C) 5 (by decide) rfl rfl 5 (by decide) (kws_in m_81) (fun _ h => h) rfl d_P_force_20 ?_
  refine mr_callVi (As := [.int (σ 5 5)]) F w hl.1 (c_C_forceTo σ (σ 5 5)) (cwV 1 hts g_P_force_23 rfl rfl rfl (by decide +kernel) ⟨Nat.le_of_ble_eq_true rfl, Nat.le_of_ble_eq_true rfl⟩) rfl (by decide) rfl rfl rfl (Nat.le_of_ble_eq_true rfl) d_P_force_23 ⟨Nat.le_of_ble_eq_true rfl, Nat.le_of_ble_eq_true rfl⟩ (fun r4 σ5 H locs e6 w => ?_)
  have e6_r := e6.1.symm
  have e6_s := e6.2.symm
  clear e6
  refine lv_if_ne (tgt := 35) hx hb d_P_force_26 (by decide) (fun c7 => ?_) (fun c7 => ?_)
  · refine lv_aload_n hx hb d_P_force_35 rfl (lv_at hl 1 rfl) ?_
    refine mr_get F w (kin in_P) 0 (by decide) rfl rfl 2 (by decide) (kws_in m_125) (fun _ h => h) rfl d_P_force_36 ?_
    refine mr_get F w (kin in_C) 5 (by decide) rfl rfl 4 (by decide) (kws_in m_79) (fun _ h => h) rfl d_P_force_39 ?_
    refine lv_iload_n hx hb d_P_force_42 rfl (lv_at hl 0 rfl) ?_
    refine lv_isub hx hb d_P_force_43 ?_
    exact mr_xiret F w hr hlk (Nat.le_of_ble_eq_true rfl) (Nat.le_of_ble_eq_true rfl) (by subst e6_r e6_s; unfold xForce; rw [if_neg c3, if_neg c7]) d_P_force_44
  · refine lv_aload_n hx hb d_P_force_29 rfl (lv_at hl 1 rfl) ?_
    refine mr_callVv (As := []) F w hl.1 (c_P_loseMemory σ5) (cwV 0 hts g_P_force_30 rfl rfl rfl (by decide +kernel) ⟨Nat.le_of_ble_eq_true rfl, Nat.le_of_ble_eq_true rfl⟩) rfl (by decide) rfl rfl rfl (Nat.le_of_ble_eq_true rfl) d_P_force_30 ⟨Nat.le_of_ble_eq_true rfl, Nat.le_of_ble_eq_true rfl⟩ (fun σ9 H locs e10 w => ?_)
    replace e10 := Eq.symm e10
    refine lv_iconst (v := -1) hx hb d_P_force_33 (by decide) ?_
    exact mr_xiret F w hr hlk (Nat.le_of_ble_eq_true rfl) (Nat.le_of_ble_eq_true rfl) (by subst e6_r e6_s e10; unfold xForce; rw [if_neg c3, if_pos c7]) d_P_force_34
def xTrim (σ : Mem)  : Nat × Int32 × Mem :=
  if σ 1 0 = 0 then ((1, nI 0, σ))
  else if (kOldest σ (nI 0) 8 0) = -1 then ((0, ((kGive σ (kLast σ (kCnt σ))).1), ((kGive σ (kLast σ (kCnt σ))).2)))
  else (0, ((kGive σ (σ ((kOldest σ (nI 0) 8 0).toNatClampNeg + 9) 4)).1), ((kGive σ (σ ((kOldest σ (nI 0) 8 0).toNatClampNeg + 9) 4)).2))
set_option maxHeartbeats 4000000 in
set_option maxRecDepth 100000 in
theorem c_P_trim (hl9 : l.stackTraces = false) (σ : Mem) (hc : (σ 5 5 - σ 5 3) / nI 8 = nI (kCnt σ)) (hc2 : kCnt σ < 2 ^ 30) : KXi l D clP (tyP cI cF cZ cJ) 25 (eP cI cF ad) ad y_P_trim b_P_trim 3 (some .int) { frames := 7, cells := 1, slots := 6, locals := 120 } [.ref (ad 0)] σ (fun r σ' => xTrim σ = (0, r, σ')) (fun C => (xTrim σ).1 ≠ 0 ∧ C = xn (xTrim σ).1) := by
  refine KXi.of (by decide) (Nat.le_of_ble_eq_true rfl) ?_
  intro p e s m args below meth c A ls F w hT hl hr hlk hex
  obtain ⟨hx, hb, hml, hown, hts⟩ := id F
  have hl : lv_has ls 3 [(0, .ref (ad 0))] := hl
  refine lv_aload_n hx hb d_P_trim_0 rfl (lv_at hl 0 rfl) ?_
  refine mr_xVv (As := []) F w hT hl.1 (c_P_requirePower hl9 σ) (cwV 0 hts g_P_trim_1 rfl rfl rfl (by decide +kernel) ⟨(Nat.le_of_ble_eq_true rfl), (Nat.le_of_ble_eq_true rfl)⟩) rfl (by decide) rfl rfl rfl (Nat.le_of_ble_eq_true rfl) d_P_trim_1 ⟨(Nat.le_of_ble_eq_true rfl), (Nat.le_of_ble_eq_true rfl)⟩ (fun C9 h9 => by obtain ⟨rfl, h8⟩ := h9; unfold xTrim; rw [if_pos h8]; exact ⟨by show (1 : Nat) ≠ 0; decide, rfl⟩) hex hlk (Nat.le_of_ble_eq_true rfl) (Nat.le_of_ble_eq_true rfl) (fun σ1 H locs e2 w => ?_)
  have c3 := e2.2
  rw [e2.1] at w
  refine lv_aload_n hx hb d_P_trim_4 rfl (lv_at hl 0 rfl) ?_
  refine lv_iconst (v := nI 0) hx hb d_P_trim_5 (by decide) ?_
  refine mr_callVi (As := [.int (nI 0)]) F w hl.1 (c_P_oldest σ (nI 0)) (cwV 1 hts g_P_trim_6 rfl rfl rfl (by decide +kernel) ⟨Nat.le_of_ble_eq_true rfl, Nat.le_of_ble_eq_true rfl⟩) rfl (by decide) rfl rfl rfl (Nat.le_of_ble_eq_true rfl) d_P_trim_6 ⟨Nat.le_of_ble_eq_true rfl, Nat.le_of_ble_eq_true rfl⟩ (fun r4 σ5 H locs e6 w => ?_)
  have e6_r := e6.1.symm
  have hs9 := e6.2
  rw [hs9] at w
  clear hs9 e6
  rcases Classical.em (r4 = -1) with c7 | c7
  · rw [c7]
    refine lv_istore_n (lv' := [(1, .int ((-1))), (0, .ref (ad 0))]) hx hb d_P_trim_9 rfl hl (by decide) rfl (fun ls hl => ?_)
    refine lv_iload_n hx hb d_P_trim_10 rfl (lv_at hl 0 rfl) ?_
    refine lv_iconst (v := -1) hx hb d_P_trim_11 (by decide) ?_
    refine lv_icmp_ne (tgt := 25) hx hb d_P_trim_12 (by decide) (fun c9 => absurd rfl c9) (fun _ => ?_)
    refine lv_aload_n hx hb d_P_trim_15 rfl (lv_at hl 1 rfl) ?_
    refine mr_get F w (kin in_P) 0 (by decide) rfl rfl 2 (by decide) (kws_in m_125) (fun _ h => h) rfl d_P_trim_16 ?_
    refine mr_callVi (As := []) F w hl.1 (c_C_lastOrBegin σ hc hc2) (cwV 0 hts g_P_trim_19 rfl rfl rfl (by decide +kernel) ⟨Nat.le_of_ble_eq_true rfl, Nat.le_of_ble_eq_true rfl⟩) rfl (by decide) rfl rfl rfl (Nat.le_of_ble_eq_true rfl) d_P_trim_19 ⟨Nat.le_of_ble_eq_true rfl, Nat.le_of_ble_eq_true rfl⟩ (fun r10 σ11 H locs e12 w => ?_)
    obtain ⟨rfl, hs9⟩ := e12
    rw [hs9] at w
    clear hs9
    refine lv_goto (tgt := 34) hx hb d_P_trim_22 (by decide) ?_
    refine lv_istore_n (lv' := [(2, .int (kLast σ (kCnt σ))), (1, .int ((-1))), (0, .ref (ad 0))]) hx hb d_P_trim_34 rfl hl (by decide) rfl (fun ls hl => ?_)
    refine lv_aload_n hx hb d_P_trim_35 rfl (lv_at hl 2 rfl) ?_
    refine mr_get F w (kin in_P) 0 (by decide) rfl rfl 2 (by decide) (kws_in m_125) (fun _ h => h) rfl d_P_trim_36 ?_
    refine lv_iload_n hx hb d_P_trim_39 rfl (lv_at hl 0 rfl) ?_
    refine mr_callVi (As := [.int (kLast σ (kCnt σ))]) F w hl.1 (c_C_giveBackBefore σ (kLast σ (kCnt σ))) (cwV 1 hts g_P_trim_40 rfl rfl rfl (by decide +kernel) ⟨Nat.le_of_ble_eq_true rfl, Nat.le_of_ble_eq_true rfl⟩) rfl (by decide) rfl rfl rfl (Nat.le_of_ble_eq_true rfl) d_P_trim_40 ⟨Nat.le_of_ble_eq_true rfl, Nat.le_of_ble_eq_true rfl⟩ (fun r13 σ14 H locs e15 w => ?_)
    have e15_r := e15.1.symm
    have e15_s := e15.2.symm
    clear e15
    exact mr_xiret F w hr hlk (Nat.le_of_ble_eq_true rfl) (Nat.le_of_ble_eq_true rfl) (by subst e6_r e15_r e15_s; unfold xTrim; rw [if_neg c3, if_pos c7]) d_P_trim_43
  · have hb8 : r4.toNatClampNeg < 8 := (fr8_in (by rw [← e6_r]; exact (kOldest_in σ (nI 0) 8 0 (by decide))) c7).1
    rw [(fr8_in (R := r4) (by rw [← e6_r]; exact (kOldest_in σ (nI 0) 8 0 (by decide))) c7).2]
    refine lv_istore_n (lv' := [(1, .int (nI r4.toNatClampNeg)), (0, .ref (ad 0))]) hx hb d_P_trim_9 rfl hl (by decide) rfl (fun ls hl => ?_)
    refine lv_iload_n hx hb d_P_trim_10 rfl (lv_at hl 0 rfl) ?_
    refine lv_iconst (v := -1) hx hb d_P_trim_11 (by decide) ?_
    refine lv_icmp_ne (tgt := 25) hx hb d_P_trim_12 (by decide) (fun _ => ?_) (fun c16 => absurd c16 (nI_nm1 hb8))
    refine lv_aload_n hx hb d_P_trim_25 rfl (lv_at hl 1 rfl) ?_
    refine mr_get F w (kin in_P) 0 (by decide) rfl rfl 3 (by decide) (kws_in m_126) (fun _ h => h) rfl d_P_trim_26 ?_
    refine lv_iload_n hx hb d_P_trim_29 rfl (lv_at hl 0 rfl) ?_
    refine mr_aldq F w 8 1 (by decide) rfl rfl r4.toNatClampNeg hb8 (by decide) rfl rfl d_P_trim_30 ?_
    refine mr_get F w (kin in_F) (r4.toNatClampNeg + 9) (by omega) (eP_F hb8 _) rfl 4 (by decide) (kws_in m_111) (fun _ h => h) rfl d_P_trim_31 ?_
    refine lv_istore_n (lv' := [(2, .int (σ (r4.toNatClampNeg + 9) 4)), (1, .int (nI r4.toNatClampNeg)), (0, .ref (ad 0))]) hx hb d_P_trim_34 rfl hl (by decide) rfl (fun ls hl => ?_)
    refine lv_aload_n hx hb d_P_trim_35 rfl (lv_at hl 2 rfl) ?_
    refine mr_get F w (kin in_P) 0 (by decide) rfl rfl 2 (by decide) (kws_in m_125) (fun _ h => h) rfl d_P_trim_36 ?_
    refine lv_iload_n hx hb d_P_trim_39 rfl (lv_at hl 0 rfl) ?_
    refine mr_callVi (As := [.int (σ (r4.toNatClampNeg + 9) 4)]) F w hl.1 (c_C_giveBackBefore σ (σ (r4.toNatClampNeg + 9) 4)) (cwV 1 hts g_P_trim_40 rfl rfl rfl (by decide +kernel) ⟨Nat.le_of_ble_eq_true rfl, Nat.le_of_ble_eq_true rfl⟩) rfl (by decide) rfl rfl rfl (Nat.le_of_ble_eq_true rfl) d_P_trim_40 ⟨Nat.le_of_ble_eq_true rfl, Nat.le_of_ble_eq_true rfl⟩ (fun r17 σ18 H locs e19 w => ?_)
    have e19_r := e19.1.symm
    have e19_s := e19.2.symm
    clear e19
    exact mr_xiret F w hr hlk (Nat.le_of_ble_eq_true rfl) (Nat.le_of_ble_eq_true rfl) (by subst e6_r e19_r e19_s; unfold xTrim; rw [if_neg c3, if_neg c7]) d_P_trim_43
def kAgain (σ : Mem) (x : Int32) : Int32 × Mem :=
  if (kIsCh σ x) = 0 then (nI 0, σ)
  else if ((kPin σ ((σ 6 (kSlot x)).toNatClampNeg / 64)).1) = -1 then ((-1), ((kPin σ ((σ 6 (kSlot x)).toNatClampNeg / 64)).2))
  else if x < (((kPin σ ((σ 6 (kSlot x)).toNatClampNeg / 64)).2) (((kPin σ ((σ 6 (kSlot x)).toNatClampNeg / 64)).1).toNatClampNeg + 17) 0) then (nI 0, mup ((kPin σ ((σ 6 (kSlot x)).toNatClampNeg / 64)).2) (((kPin σ ((σ 6 (kSlot x)).toNatClampNeg / 64)).1).toNatClampNeg + 9) 2 ((((kPin σ ((σ 6 (kSlot x)).toNatClampNeg / 64)).2) (((kPin σ ((σ 6 (kSlot x)).toNatClampNeg / 64)).1).toNatClampNeg + 9) 2) - (nI 1)))
  else (nI 1, mup (kApply ((kPin σ ((σ 6 (kSlot x)).toNatClampNeg / 64)).2) ((kPin σ ((σ 6 (kSlot x)).toNatClampNeg / 64)).1).toNatClampNeg x ((σ 6 (kSlot x)).toNatClampNeg % 64) (((kPin σ ((σ 6 (kSlot x)).toNatClampNeg / 64)).2) 7 (kSlot x))) (((kPin σ ((σ 6 (kSlot x)).toNatClampNeg / 64)).1).toNatClampNeg + 9) 2 (((kApply ((kPin σ ((σ 6 (kSlot x)).toNatClampNeg / 64)).2) ((kPin σ ((σ 6 (kSlot x)).toNatClampNeg / 64)).1).toNatClampNeg x ((σ 6 (kSlot x)).toNatClampNeg % 64) (((kPin σ ((σ 6 (kSlot x)).toNatClampNeg / 64)).2) 7 (kSlot x))) (((kPin σ ((σ 6 (kSlot x)).toNatClampNeg / 64)).1).toNatClampNeg + 9) 2) - (nI 1)))
set_option maxHeartbeats 4000000 in
set_option maxRecDepth 100000 in
theorem c_P_doAgain (σ : Mem) (x : Int32) (hh : nat0 8 (σ 0 4)) (hok : pgOK σ) (ht : ¬ kIsCh σ x = 0 → nat0 16384 (σ 6 (kSlot x))) : KIP l D cI cF cZ cJ ad y_P_doAgain b_P_doAgain 4 (some .int) 6 165 [.ref (ad 0), .int x] σ (fun r σ' => r = (kAgain σ x).1 ∧ σ' = (kAgain σ x).2) := by
  refine KI.of (by decide) (Nat.le_of_ble_eq_true rfl) ?_
  intro p e s m args below meth c A ls F w hl hr hlk
  obtain ⟨hx, hb, hml, hown, hts⟩ := id F
  have hl : lv_has ls 4 [(0, .ref (ad 0)), (1, .int x)] := hl
  refine lv_aload_n hx hb d_P_doAgain_0 rfl (lv_at hl 0 rfl) ?_
  refine mr_get F w (kin in_P) 0 (by decide) rfl rfl 2 (by decide) (kws_in m_125) (fun _ h => h) rfl d_P_doAgain_1 ?_
  refine lv_iload_n hx hb d_P_doAgain_4 rfl (lv_at hl 1 rfl) ?_
  refine mr_callVi (As := [.int x]) F w hl.1 (c_C_isChange σ x) (cwV 1 hts g_P_doAgain_5 rfl rfl rfl (by decide +kernel) ⟨Nat.le_of_ble_eq_true rfl, Nat.le_of_ble_eq_true rfl⟩) rfl (by decide) rfl rfl rfl (Nat.le_of_ble_eq_true rfl) d_P_doAgain_5 ⟨Nat.zero_le _, Nat.zero_le _⟩ (fun r1 σ2 H locs e3 w => ?_)
  obtain ⟨rfl, hs9⟩ := e3
  rw [hs9] at w
  clear hs9
  refine lv_if_ne (tgt := 13) hx hb d_P_doAgain_8 (by decide) (fun c4 => ?_) (fun c4 => ?_)
  · refine lv_aload_n hx hb d_P_doAgain_13 rfl (lv_at hl 0 rfl) ?_
    refine lv_aload_n hx hb d_P_doAgain_14 rfl (lv_at hl 0 rfl) ?_
    refine mr_get F w (kin in_P) 0 (by decide) rfl rfl 2 (by decide) (kws_in m_125) (fun _ h => h) rfl d_P_doAgain_15 ?_
    refine lv_iload_n hx hb d_P_doAgain_18 rfl (lv_at hl 1 rfl) ?_
    refine mr_callVi (As := [.int x]) F w hl.1 (c_C_pageOf σ x) (cwV 1 hts g_P_doAgain_19 rfl rfl rfl (by decide +kernel) ⟨Nat.le_of_ble_eq_true rfl, Nat.le_of_ble_eq_true rfl⟩) rfl (by decide) rfl rfl rfl (Nat.le_of_ble_eq_true rfl) d_P_doAgain_19 ⟨Nat.zero_le _, Nat.zero_le _⟩ (fun r5 σ6 H locs e7 w => ?_)
    obtain ⟨rfl, hs9⟩ := e7
    rw [hs9] at w
    clear hs9
    rw [show σ 6 (kSlot x) / nI 64 = nI ((σ 6 (kSlot x)).toNatClampNeg / 64) from tdiv (ht c4)]
    refine mr_callVi (As := [.int (nI ((σ 6 (kSlot x)).toNatClampNeg / 64))]) F w hl.1 (c_P_pin σ ((σ 6 (kSlot x)).toNatClampNeg / 64) (by have := (ht (by assumption)).1; omega) hh hok) (cwV 1 hts g_P_doAgain_22 rfl rfl rfl (by decide +kernel) ⟨Nat.le_of_ble_eq_true rfl, Nat.le_of_ble_eq_true rfl⟩) rfl (by decide) rfl rfl rfl (Nat.le_of_ble_eq_true rfl) d_P_doAgain_22 ⟨Nat.zero_le _, Nat.zero_le _⟩ (fun r8 σ9 H locs e10 w => ?_)
    have e10_r := e10.1.symm
    have e10_s := e10.2.symm
    clear e10
    rcases Classical.em (r8 = -1) with c11 | c11
    · rw [c11]
      refine lv_istore_n (lv' := [(2, .int ((-1))), (0, .ref (ad 0)), (1, .int x)]) hx hb d_P_doAgain_25 rfl hl (by decide) rfl (fun ls hl => ?_)
      refine lv_iload_n hx hb d_P_doAgain_26 rfl (lv_at hl 0 rfl) ?_
      refine lv_iconst (v := -1) hx hb d_P_doAgain_27 (by decide) ?_
      refine lv_icmp_ne (tgt := 33) hx hb d_P_doAgain_28 (by decide) (fun c13 => absurd rfl c13) (fun _ => ?_)
      refine lv_iconst (v := -1) hx hb d_P_doAgain_31 (by decide) ?_
      exact mr_iret F w hr hlk (by subst e10_r e10_s; unfold kAgain; rw [if_neg c4, if_pos c11]; exact ⟨rfl, rfl⟩) d_P_doAgain_32
    · have hb12 : r8.toNatClampNeg < 8 := (fr8_in (by rw [← e10_r]; exact (kPin_in hh)) c11).1
      rw [(fr8_in (R := r8) (by rw [← e10_r]; exact (kPin_in hh)) c11).2]
      refine lv_istore_n (lv' := [(2, .int (nI r8.toNatClampNeg)), (0, .ref (ad 0)), (1, .int x)]) hx hb d_P_doAgain_25 rfl hl (by decide) rfl (fun ls hl => ?_)
      refine lv_iload_n hx hb d_P_doAgain_26 rfl (lv_at hl 0 rfl) ?_
      refine lv_iconst (v := -1) hx hb d_P_doAgain_27 (by decide) ?_
      refine lv_icmp_ne (tgt := 33) hx hb d_P_doAgain_28 (by decide) (fun _ => ?_) (fun c14 => absurd c14 (nI_nm1 hb12))
      refine lv_aload_n hx hb d_P_doAgain_33 rfl (lv_at hl 1 rfl) ?_
      refine mr_get F w (kin in_P) 0 (by decide) rfl rfl 3 (by decide) (kws_in m_126) (fun _ h => h) rfl d_P_doAgain_34 ?_
      refine lv_iload_n hx hb d_P_doAgain_37 rfl (lv_at hl 0 rfl) ?_
      refine mr_aldq F w 8 1 (by decide) rfl rfl r8.toNatClampNeg hb12 (by decide) rfl rfl d_P_doAgain_38 ?_
      refine mr_get F w (kin in_F) (r8.toNatClampNeg + 9) (by omega) (eP_F hb12 _) rfl 0 (by decide) (kws_in m_103) (fun _ h => h) rfl d_P_doAgain_39 ?_
      refine lv_iconst (v := nI 0) hx hb d_P_doAgain_42 (by decide) ?_
      refine mr_iaN F w (r8.toNatClampNeg + 17) 0 (by omega) (eP_V _) rfl 0 (by omega) (by decide) rfl d_P_doAgain_43 ?_
      refine lv_iload_n hx hb d_P_doAgain_44 rfl (lv_at hl 2 rfl) ?_
      refine lv_icmp_gt (tgt := 52) hx hb d_P_doAgain_45 (by decide) (fun c15 => ?_) (fun c15 => ?_)
      · refine lv_iconst (v := nI 0) hx hb d_P_doAgain_52 (by decide) ?_
        refine lv_istore_n (lv' := [(3, .int (nI 0)), (2, .int (nI r8.toNatClampNeg)), (0, .ref (ad 0)), (1, .int x)]) hx hb d_P_doAgain_53 rfl hl (by decide) rfl (fun ls hl => ?_)
        refine lv_iload_n hx hb d_P_doAgain_54 rfl (lv_at hl 0 rfl) ?_
        refine lv_if_eq (tgt := 84) hx hb d_P_doAgain_55 (by decide) (fun _ => ?_) (fun c16 => absurd c16 (by decide))
        refine lv_aload_n hx hb d_P_doAgain_84 rfl (lv_at hl 2 rfl) ?_
        refine mr_get F w (kin in_P) 0 (by decide) rfl rfl 3 (by decide) (kws_in m_126) (fun _ h => h) rfl d_P_doAgain_85 ?_
        refine lv_iload_n hx hb d_P_doAgain_88 rfl (lv_at hl 1 rfl) ?_
        refine mr_aldq F w 8 1 (by decide) rfl rfl r8.toNatClampNeg hb12 (by decide) rfl rfl d_P_doAgain_89 ?_
        refine lv_dup hx hb d_P_doAgain_90 rfl ?_
        refine mr_get F w (kin in_F) (r8.toNatClampNeg + 9) (by omega) (eP_F hb12 _) rfl 2 (by decide) (kws_in m_107) (fun _ h => h) rfl d_P_doAgain_91 ?_
        refine lv_iconst (v := nI 1) hx hb d_P_doAgain_94 (by decide) ?_
        refine lv_isub hx hb d_P_doAgain_95 ?_
        refine mr_put F w (kin in_F) t_F t_F_ok n_F (r8.toNatClampNeg + 9) (by omega) (eP_F hb12 _) rfl 2 (by decide) (kws_in m_107) (fun _ h => h) rfl rfl rfl (Nat.le_of_ble_eq_true rfl) (eP_F hb12 _) d_P_doAgain_96 (fun H locs w => ?_)
        refine lv_iload_n hx hb d_P_doAgain_99 rfl (lv_at hl 0 rfl) ?_
        refine lv_if_eq (tgt := 107) hx hb d_P_doAgain_100 (by decide) (fun _ => ?_) (fun c17 => absurd c17 (by decide))
        refine lv_iconst (v := nI 0) hx hb d_P_doAgain_107 (by decide) ?_
        exact mr_iret F w hr hlk (by subst e10_r e10_s; unfold kAgain; rw [if_neg c4, if_neg c11, if_pos c15]; exact ⟨rfl, rfl⟩) d_P_doAgain_108
      · refine lv_iconst (v := nI 1) hx hb d_P_doAgain_48 (by decide) ?_
        refine lv_goto (tgt := 53) hx hb d_P_doAgain_49 (by decide) ?_
        refine lv_istore_n (lv' := [(3, .int (nI 1)), (2, .int (nI r8.toNatClampNeg)), (0, .ref (ad 0)), (1, .int x)]) hx hb d_P_doAgain_53 rfl hl (by decide) rfl (fun ls hl => ?_)
        refine lv_iload_n hx hb d_P_doAgain_54 rfl (lv_at hl 0 rfl) ?_
        refine lv_if_eq (tgt := 84) hx hb d_P_doAgain_55 (by decide) (fun c18 => absurd c18 (by decide)) (fun _ => ?_)
        refine lv_aload_n hx hb d_P_doAgain_58 rfl (lv_at hl 2 rfl) ?_
        refine mr_get F w (kin in_P) 0 (by decide) rfl rfl 3 (by decide) (kws_in m_126) (fun _ h => h) rfl d_P_doAgain_59 ?_
        refine lv_iload_n hx hb d_P_doAgain_62 rfl (lv_at hl 1 rfl) ?_
        refine mr_aldq F w 8 1 (by decide) rfl rfl r8.toNatClampNeg hb12 (by decide) rfl rfl d_P_doAgain_63 ?_
        refine lv_iload_n hx hb d_P_doAgain_64 rfl (lv_at hl 3 rfl) ?_
        refine lv_aload_n hx hb d_P_doAgain_65 rfl (lv_at hl 2 rfl) ?_
        refine mr_get F w (kin in_P) 0 (by decide) rfl rfl 2 (by decide) (kws_in m_125) (fun _ h => h) rfl d_P_doAgain_66 ?_
        refine lv_iload_n hx hb d_P_doAgain_69 rfl (lv_at hl 3 rfl) ?_
        refine mr_callVi (As := [.int x]) F w hl.1 (c_C_wordOf σ9 x) (cwV 1 hts g_P_doAgain_70 rfl rfl rfl (by decide +kernel) ⟨Nat.le_of_ble_eq_true rfl, Nat.le_of_ble_eq_true rfl⟩) rfl (by decide) rfl rfl rfl (Nat.le_of_ble_eq_true rfl) d_P_doAgain_70 ⟨Nat.zero_le _, Nat.zero_le _⟩ (fun r19 σ20 H locs e21 w => ?_)
        obtain ⟨rfl, hs9⟩ := e21
        rw [hs9] at w
        clear hs9
        rw [show σ9 6 (kSlot x) - σ9 6 (kSlot x) / nI 64 * nI 64 = nI ((σ 6 (kSlot x)).toNatClampNeg % 64) from by subst e10_r e10_s; rw [kPin_n _ _ (by omega) (by omega)]; exact trem (ht c4)]
        refine lv_aload_n hx hb d_P_doAgain_73 rfl (lv_at hl 2 rfl) ?_
        refine mr_get F w (kin in_P) 0 (by decide) rfl rfl 2 (by decide) (kws_in m_125) (fun _ h => h) rfl d_P_doAgain_74 ?_
        refine lv_iload_n hx hb d_P_doAgain_77 rfl (lv_at hl 3 rfl) ?_
        refine mr_callVi (As := [.int x]) F w hl.1 (c_C_valueOf σ9 x) (cwV 1 hts g_P_doAgain_78 rfl rfl rfl (by decide +kernel) ⟨Nat.le_of_ble_eq_true rfl, Nat.le_of_ble_eq_true rfl⟩) rfl (by decide) rfl rfl rfl (Nat.le_of_ble_eq_true rfl) d_P_doAgain_78 ⟨Nat.zero_le _, Nat.zero_le _⟩ (fun r22 σ23 H locs e24 w => ?_)
        obtain ⟨rfl, hs9⟩ := e24
        rw [hs9] at w
        clear hs9
        refine mr_callVv (As := [.int x, .int (nI ((σ 6 (kSlot x)).toNatClampNeg % 64)), .int (σ9 7 (kSlot x))]) F w hl.1 (c_F_apply σ9 r8.toNatClampNeg hb12 x ((σ 6 (kSlot x)).toNatClampNeg % 64) (Nat.mod_lt _ (by decide)) (σ9 7 (kSlot x))) (cwV 3 hts g_P_doAgain_81 rfl rfl rfl (by decide +kernel) ⟨Nat.le_of_ble_eq_true rfl, Nat.le_of_ble_eq_true rfl⟩) rfl (by omega) (eP_F hb12 _) rfl rfl (Nat.le_of_ble_eq_true rfl) d_P_doAgain_81 ⟨Nat.zero_le _, Nat.zero_le _⟩ (fun σ26 H locs e27 w => ?_)
        replace e27 := Eq.symm e27
        refine lv_aload_n hx hb d_P_doAgain_84 rfl (lv_at hl 2 rfl) ?_
        refine mr_get F w (kin in_P) 0 (by decide) rfl rfl 3 (by decide) (kws_in m_126) (fun _ h => h) rfl d_P_doAgain_85 ?_
        refine lv_iload_n hx hb d_P_doAgain_88 rfl (lv_at hl 1 rfl) ?_
        refine mr_aldq F w 8 1 (by decide) rfl rfl r8.toNatClampNeg hb12 (by decide) rfl rfl d_P_doAgain_89 ?_
        refine lv_dup hx hb d_P_doAgain_90 rfl ?_
        refine mr_get F w (kin in_F) (r8.toNatClampNeg + 9) (by omega) (eP_F hb12 _) rfl 2 (by decide) (kws_in m_107) (fun _ h => h) rfl d_P_doAgain_91 ?_
        refine lv_iconst (v := nI 1) hx hb d_P_doAgain_94 (by decide) ?_
        refine lv_isub hx hb d_P_doAgain_95 ?_
        refine mr_put F w (kin in_F) t_F t_F_ok n_F (r8.toNatClampNeg + 9) (by omega) (eP_F hb12 _) rfl 2 (by decide) (kws_in m_107) (fun _ h => h) rfl rfl rfl (Nat.le_of_ble_eq_true rfl) (eP_F hb12 _) d_P_doAgain_96 (fun H locs w => ?_)
        refine lv_iload_n hx hb d_P_doAgain_99 rfl (lv_at hl 0 rfl) ?_
        refine lv_if_eq (tgt := 107) hx hb d_P_doAgain_100 (by decide) (fun c28 => absurd c28 (by decide)) (fun _ => ?_)
        refine lv_iconst (v := nI 1) hx hb d_P_doAgain_103 (by decide) ?_
        refine lv_goto (tgt := 108) hx hb d_P_doAgain_104 (by decide) ?_
        exact mr_iret F w hr hlk (by subst e10_r e10_s e27; unfold kAgain; rw [if_neg c4, if_neg c11, if_neg c15]; exact ⟨rfl, rfl⟩) d_P_doAgain_108
  · refine lv_iconst (v := nI 0) hx hb d_P_doAgain_11 (by decide) ?_
    exact mr_iret F w hr hlk (by unfold kAgain; rw [if_pos c4]; exact ⟨rfl, rfl⟩) d_P_doAgain_12
end
