/-! fix, unfix, change, word, frame, flush, flushOldest, force, trim, log, onMedium, cutAfter -/
section
variable {l : Launch} {D : va_G} {cI cF cZ cJ : ClassId} {ad : Nat → Nat} {σ : Mem}
set_option maxRecDepth 20000 in
theorem m_192 : Cond.methodLink "PagePool" 43 (⟨"PagePool", "requirePower", "()V"⟩ : MethodName) ∈ gt := gt_in 192 (by decide +kernel) (by decide +kernel)
set_option maxRecDepth 20000 in
theorem m_195 : Cond.code (⟨"PagePool", "requirePower", "()V"⟩ : MethodName) prog_1_method_21_code 1 none ∈ gt := gt_in 195 (by decide +kernel) (by decide +kernel)
set_option maxRecDepth 20000 in
theorem m_194 : Cond.instanceMethod (⟨"PagePool", "requirePower", "()V"⟩ : MethodName) ∈ gt := gt_in 194 (by decide +kernel) (by decide +kernel)
set_option maxRecDepth 20000 in
theorem ms_2 : Cond.selects "PagePool" (⟨"PagePool", "requirePower", "()V"⟩ : MethodName) (⟨"PagePool", "requirePower", "()V"⟩ : MethodName) ∈ gt := gt_sel 2 (by decide +kernel) (by decide +kernel)
set_option maxRecDepth 20000 in
theorem m_264 : Cond.methodLink "PagePool" 46 (⟨"PagePool", "requirePage", "(I)V"⟩ : MethodName) ∈ gt := gt_in 264 (by decide +kernel) (by decide +kernel)
set_option maxRecDepth 20000 in
theorem m_266 : Cond.code (⟨"PagePool", "requirePage", "(I)V"⟩ : MethodName) prog_1_method_23_code 1 none ∈ gt := gt_in 266 (by decide +kernel) (by decide +kernel)
set_option maxRecDepth 20000 in
theorem m_265 : Cond.static (⟨"PagePool", "requirePage", "(I)V"⟩ : MethodName) ∈ gt := gt_in 265 (by decide +kernel) (by decide +kernel)
set_option maxRecDepth 20000 in
theorem m_283 : Cond.methodLink "PagePool" 50 (⟨"PagePool", "pin", "(I)I"⟩ : MethodName) ∈ gt := gt_in 283 (by decide +kernel) (by decide +kernel)
set_option maxRecDepth 20000 in
theorem m_286 : Cond.code (⟨"PagePool", "pin", "(I)I"⟩ : MethodName) prog_1_method_28_code 3 (some .int) ∈ gt := gt_in 286 (by decide +kernel) (by decide +kernel)
set_option maxRecDepth 20000 in
theorem m_285 : Cond.instanceMethod (⟨"PagePool", "pin", "(I)I"⟩ : MethodName) ∈ gt := gt_in 285 (by decide +kernel) (by decide +kernel)
set_option maxRecDepth 20000 in
theorem ms_4 : Cond.selects "PagePool" (⟨"PagePool", "pin", "(I)I"⟩ : MethodName) (⟨"PagePool", "pin", "(I)I"⟩ : MethodName) ∈ gt := gt_sel 4 (by decide +kernel) (by decide +kernel)
set_option maxRecDepth 20000 in
theorem m_339 : Cond.methodLink "PagePool" 54 (⟨"PagePool", "requireFrame", "(I)V"⟩ : MethodName) ∈ gt := gt_in 339 (by decide +kernel) (by decide +kernel)
set_option maxRecDepth 20000 in
theorem m_341 : Cond.code (⟨"PagePool", "requireFrame", "(I)V"⟩ : MethodName) prog_1_method_24_code 1 none ∈ gt := gt_in 341 (by decide +kernel) (by decide +kernel)
set_option maxRecDepth 20000 in
theorem m_340 : Cond.static (⟨"PagePool", "requireFrame", "(I)V"⟩ : MethodName) ∈ gt := gt_in 340 (by decide +kernel) (by decide +kernel)
set_option maxRecDepth 20000 in
theorem m_343 : Cond.methodLink "PagePool" 57 (⟨"PagePool", "requirePins", "(I)V"⟩ : MethodName) ∈ gt := gt_in 343 (by decide +kernel) (by decide +kernel)
set_option maxRecDepth 20000 in
theorem m_346 : Cond.code (⟨"PagePool", "requirePins", "(I)V"⟩ : MethodName) prog_1_method_22_code 2 none ∈ gt := gt_in 346 (by decide +kernel) (by decide +kernel)
set_option maxRecDepth 20000 in
theorem m_345 : Cond.instanceMethod (⟨"PagePool", "requirePins", "(I)V"⟩ : MethodName) ∈ gt := gt_in 345 (by decide +kernel) (by decide +kernel)
set_option maxRecDepth 20000 in
theorem ms_9 : Cond.selects "PagePool" (⟨"PagePool", "requirePins", "(I)V"⟩ : MethodName) (⟨"PagePool", "requirePins", "(I)V"⟩ : MethodName) ∈ gt := gt_sel 9 (by decide +kernel) (by decide +kernel)
set_option maxRecDepth 20000 in
theorem m_356 : Cond.methodLink "PagePool" 70 (⟨"PagePool", "requireWord", "(I)V"⟩ : MethodName) ∈ gt := gt_in 356 (by decide +kernel) (by decide +kernel)
set_option maxRecDepth 20000 in
theorem m_358 : Cond.code (⟨"PagePool", "requireWord", "(I)V"⟩ : MethodName) prog_1_method_25_code 1 none ∈ gt := gt_in 358 (by decide +kernel) (by decide +kernel)
set_option maxRecDepth 20000 in
theorem m_357 : Cond.static (⟨"PagePool", "requireWord", "(I)V"⟩ : MethodName) ∈ gt := gt_in 357 (by decide +kernel) (by decide +kernel)
set_option maxRecDepth 20000 in
theorem m_360 : Cond.methodLink "PagePool" 73 (⟨"PagePool$ChangeLog", "hasRoom", "()Z"⟩ : MethodName) ∈ gt := gt_in 360 (by decide +kernel) (by decide +kernel)
set_option maxRecDepth 20000 in
theorem m_363 : Cond.code (⟨"PagePool$ChangeLog", "hasRoom", "()Z"⟩ : MethodName) prog_2_method_2_code 1 (some .boolean) ∈ gt := gt_in 363 (by decide +kernel) (by decide +kernel)
set_option maxRecDepth 20000 in
theorem m_361 : Cond.instanceMethod (⟨"PagePool$ChangeLog", "hasRoom", "()Z"⟩ : MethodName) ∈ gt := gt_in 361 (by decide +kernel) (by decide +kernel)
set_option maxRecDepth 20000 in
theorem m_362 : Cond.selects "PagePool$ChangeLog" (⟨"PagePool$ChangeLog", "hasRoom", "()Z"⟩ : MethodName) (⟨"PagePool$ChangeLog", "hasRoom", "()Z"⟩ : MethodName) ∈ gt := gt_in 362 (by decide +kernel) (by decide +kernel)
set_option maxRecDepth 20000 in
theorem m_365 : Cond.methodLink "PagePool" 80 (⟨"PagePool$ChangeLog", "append", "(III)I"⟩ : MethodName) ∈ gt := gt_in 365 (by decide +kernel) (by decide +kernel)
set_option maxRecDepth 20000 in
theorem m_368 : Cond.code (⟨"PagePool$ChangeLog", "append", "(III)I"⟩ : MethodName) prog_2_method_3_code 5 (some .int) ∈ gt := gt_in 368 (by decide +kernel) (by decide +kernel)
set_option maxRecDepth 20000 in
theorem m_366 : Cond.instanceMethod (⟨"PagePool$ChangeLog", "append", "(III)I"⟩ : MethodName) ∈ gt := gt_in 366 (by decide +kernel) (by decide +kernel)
set_option maxRecDepth 20000 in
theorem m_367 : Cond.selects "PagePool$ChangeLog" (⟨"PagePool$ChangeLog", "append", "(III)I"⟩ : MethodName) (⟨"PagePool$ChangeLog", "append", "(III)I"⟩ : MethodName) ∈ gt := gt_in 367 (by decide +kernel) (by decide +kernel)
set_option maxRecDepth 20000 in
theorem m_372 : Cond.methodLink "PagePool" 84 (⟨"PagePool$Frame", "apply", "(III)V"⟩ : MethodName) ∈ gt := gt_in 372 (by decide +kernel) (by decide +kernel)
set_option maxRecDepth 20000 in
theorem m_375 : Cond.code (⟨"PagePool$Frame", "apply", "(III)V"⟩ : MethodName) prog_3_method_4_code 4 none ∈ gt := gt_in 375 (by decide +kernel) (by decide +kernel)
set_option maxRecDepth 20000 in
theorem m_373 : Cond.instanceMethod (⟨"PagePool$Frame", "apply", "(III)V"⟩ : MethodName) ∈ gt := gt_in 373 (by decide +kernel) (by decide +kernel)
set_option maxRecDepth 20000 in
theorem m_374 : Cond.selects "PagePool$Frame" (⟨"PagePool$Frame", "apply", "(III)V"⟩ : MethodName) (⟨"PagePool$Frame", "apply", "(III)V"⟩ : MethodName) ∈ gt := gt_in 374 (by decide +kernel) (by decide +kernel)
set_option maxRecDepth 20000 in
theorem m_77 : Cond.fieldLink "PagePool" 142 "PagePool$ChangeLog" "begin" "I" ∈ gt := gt_in 77 (by decide +kernel) (by decide +kernel)
set_option maxRecDepth 20000 in
theorem m_50 : Cond.fieldLink "PagePool" 147 "PagePool$Medium" "own" "[I" ∈ gt := gt_in 50 (by decide +kernel) (by decide +kernel)
set_option maxRecDepth 20000 in
theorem m_32 : Cond.fieldLink "PagePool" 161 "PagePool$Power" "left" "I" ∈ gt := gt_in 32 (by decide +kernel) (by decide +kernel)
set_option maxRecDepth 20000 in
theorem m_466 : Cond.classLink "PagePool" 156 "java/lang/IllegalArgumentException" ∈ gt := gt_in 466 (by decide +kernel) (by decide +kernel)
set_option maxRecDepth 20000 in
theorem m_14 : Cond.initialized "java/lang/IllegalArgumentException" ∈ gt := gt_in 14 (by decide +kernel) (by decide +kernel)
theorem d_P_fix_0 : decode b_P_fix 0 = .ok (.aload_n 0, 1) := by decide +kernel
theorem d_P_fix_1 : decode b_P_fix 1 = .ok (.invokevirtual 43, 3) := by decide +kernel
theorem d_P_fix_4 : decode b_P_fix 4 = .ok (.iload_n 1, 1) := by decide +kernel
theorem d_P_fix_5 : decode b_P_fix 5 = .ok (.invokestatic 46, 3) := by decide +kernel
theorem d_P_fix_8 : decode b_P_fix 8 = .ok (.aload_n 0, 1) := by decide +kernel
theorem d_P_fix_9 : decode b_P_fix 9 = .ok (.iload_n 1, 1) := by decide +kernel
theorem d_P_fix_10 : decode b_P_fix 10 = .ok (.invokevirtual 50, 3) := by decide +kernel
theorem d_P_fix_13 : decode b_P_fix 13 = .ok (.ireturn, 1) := by decide +kernel
set_option maxRecDepth 20000 in
theorem g_P_fix_1 : GoodIn (kws (y_P_fix) b_P_fix 2 (some .int)) (wsV R_P 43 R_P y_P_requirePower (kws (y_P_requirePower) b_P_requirePower 1 none)) := kwV m_192 m_194 ms_2 m_1 m_195
set_option maxRecDepth 20000 in
theorem g_P_fix_5 : GoodIn (kws (y_P_fix) b_P_fix 2 (some .int)) (wsS R_P 46 y_P_requirePage (kws (y_P_requirePage) b_P_requirePage 1 none)) := kwS m_264 m_265 m_1 m_266
set_option maxRecDepth 20000 in
theorem g_P_fix_10 : GoodIn (kws (y_P_fix) b_P_fix 2 (some .int)) (wsV R_P 50 R_P y_P_pin (kws (y_P_pin) b_P_pin 3 (some .int))) := kwV m_283 m_285 ms_4 m_1 m_286
theorem d_P_unfix_0 : decode b_P_unfix 0 = .ok (.aload_n 0, 1) := by decide +kernel
theorem d_P_unfix_1 : decode b_P_unfix 1 = .ok (.invokevirtual 43, 3) := by decide +kernel
theorem d_P_unfix_4 : decode b_P_unfix 4 = .ok (.iload_n 1, 1) := by decide +kernel
theorem d_P_unfix_5 : decode b_P_unfix 5 = .ok (.invokestatic 54, 3) := by decide +kernel
theorem d_P_unfix_8 : decode b_P_unfix 8 = .ok (.aload_n 0, 1) := by decide +kernel
theorem d_P_unfix_9 : decode b_P_unfix 9 = .ok (.iload_n 1, 1) := by decide +kernel
theorem d_P_unfix_10 : decode b_P_unfix 10 = .ok (.invokevirtual 57, 3) := by decide +kernel
theorem d_P_unfix_13 : decode b_P_unfix 13 = .ok (.aload_n 0, 1) := by decide +kernel
theorem d_P_unfix_14 : decode b_P_unfix 14 = .ok (.getfield 34, 3) := by decide +kernel
theorem d_P_unfix_17 : decode b_P_unfix 17 = .ok (.iload_n 1, 1) := by decide +kernel
theorem d_P_unfix_18 : decode b_P_unfix 18 = .ok (.aaload, 1) := by decide +kernel
theorem d_P_unfix_19 : decode b_P_unfix 19 = .ok (.dup, 1) := by decide +kernel
theorem d_P_unfix_20 : decode b_P_unfix 20 = .ok (.getfield 60, 3) := by decide +kernel
theorem d_P_unfix_23 : decode b_P_unfix 23 = .ok (.iconst 1, 1) := by decide +kernel
theorem d_P_unfix_24 : decode b_P_unfix 24 = .ok (.isub, 1) := by decide +kernel
theorem d_P_unfix_25 : decode b_P_unfix 25 = .ok (.putfield 60, 3) := by decide +kernel
theorem d_P_unfix_28 : decode b_P_unfix 28 = .ok (.aload_n 0, 1) := by decide +kernel
theorem d_P_unfix_29 : decode b_P_unfix 29 = .ok (.getfield 34, 3) := by decide +kernel
theorem d_P_unfix_32 : decode b_P_unfix 32 = .ok (.iload_n 1, 1) := by decide +kernel
theorem d_P_unfix_33 : decode b_P_unfix 33 = .ok (.aaload, 1) := by decide +kernel
theorem d_P_unfix_34 : decode b_P_unfix 34 = .ok (.getfield 60, 3) := by decide +kernel
theorem d_P_unfix_37 : decode b_P_unfix 37 = .ok (.ireturn, 1) := by decide +kernel
set_option maxRecDepth 20000 in
theorem g_P_unfix_1 : GoodIn (kws (y_P_unfix) b_P_unfix 2 (some .int)) (wsV R_P 43 R_P y_P_requirePower (kws (y_P_requirePower) b_P_requirePower 1 none)) := kwV m_192 m_194 ms_2 m_1 m_195
set_option maxRecDepth 20000 in
theorem g_P_unfix_5 : GoodIn (kws (y_P_unfix) b_P_unfix 2 (some .int)) (wsS R_P 54 y_P_requireFrame (kws (y_P_requireFrame) b_P_requireFrame 1 none)) := kwS m_339 m_340 m_1 m_341
set_option maxRecDepth 20000 in
theorem g_P_unfix_10 : GoodIn (kws (y_P_unfix) b_P_unfix 2 (some .int)) (wsV R_P 57 R_P y_P_requirePins (kws (y_P_requirePins) b_P_requirePins 2 none)) := kwV m_343 m_345 ms_9 m_1 m_346
theorem d_P_change_0 : decode b_P_change 0 = .ok (.aload_n 0, 1) := by decide +kernel
theorem d_P_change_1 : decode b_P_change 1 = .ok (.invokevirtual 43, 3) := by decide +kernel
theorem d_P_change_4 : decode b_P_change 4 = .ok (.iload_n 1, 1) := by decide +kernel
theorem d_P_change_5 : decode b_P_change 5 = .ok (.invokestatic 54, 3) := by decide +kernel
theorem d_P_change_8 : decode b_P_change 8 = .ok (.aload_n 0, 1) := by decide +kernel
theorem d_P_change_9 : decode b_P_change 9 = .ok (.iload_n 1, 1) := by decide +kernel
theorem d_P_change_10 : decode b_P_change 10 = .ok (.invokevirtual 57, 3) := by decide +kernel
theorem d_P_change_13 : decode b_P_change 13 = .ok (.iload_n 2, 1) := by decide +kernel
theorem d_P_change_14 : decode b_P_change 14 = .ok (.ifCond .ne 13, 3) := by decide +kernel
theorem d_P_change_17 : decode b_P_change 17 = .ok (.new 63, 3) := by decide +kernel
theorem d_P_change_20 : decode b_P_change 20 = .ok (.dup, 1) := by decide +kernel
theorem d_P_change_21 : decode b_P_change 21 = .ok (.ldc 65, 2) := by decide +kernel
theorem d_P_change_23 : decode b_P_change 23 = .ok (.invokespecial 67, 3) := by decide +kernel
theorem d_P_change_26 : decode b_P_change 26 = .ok (.athrow, 1) := by decide +kernel
theorem d_P_change_27 : decode b_P_change 27 = .ok (.iload_n 2, 1) := by decide +kernel
theorem d_P_change_28 : decode b_P_change 28 = .ok (.invokestatic 70, 3) := by decide +kernel
theorem d_P_change_31 : decode b_P_change 31 = .ok (.aload_n 0, 1) := by decide +kernel
theorem d_P_change_32 : decode b_P_change 32 = .ok (.getfield 28, 3) := by decide +kernel
theorem d_P_change_35 : decode b_P_change 35 = .ok (.invokevirtual 73, 3) := by decide +kernel
theorem d_P_change_38 : decode b_P_change 38 = .ok (.ifCond .ne 5, 3) := by decide +kernel
theorem d_P_change_41 : decode b_P_change 41 = .ok (.iconst (-1), 1) := by decide +kernel
theorem d_P_change_42 : decode b_P_change 42 = .ok (.ireturn, 1) := by decide +kernel
theorem d_P_change_43 : decode b_P_change 43 = .ok (.aload_n 0, 1) := by decide +kernel
theorem d_P_change_44 : decode b_P_change 44 = .ok (.getfield 28, 3) := by decide +kernel
theorem d_P_change_47 : decode b_P_change 47 = .ok (.aload_n 0, 1) := by decide +kernel
theorem d_P_change_48 : decode b_P_change 48 = .ok (.getfield 34, 3) := by decide +kernel
theorem d_P_change_51 : decode b_P_change 51 = .ok (.iload_n 1, 1) := by decide +kernel
theorem d_P_change_52 : decode b_P_change 52 = .ok (.aaload, 1) := by decide +kernel
theorem d_P_change_53 : decode b_P_change 53 = .ok (.getfield 77, 3) := by decide +kernel
theorem d_P_change_56 : decode b_P_change 56 = .ok (.iload_n 2, 1) := by decide +kernel
theorem d_P_change_57 : decode b_P_change 57 = .ok (.iload_n 3, 1) := by decide +kernel
theorem d_P_change_58 : decode b_P_change 58 = .ok (.invokevirtual 80, 3) := by decide +kernel
theorem d_P_change_61 : decode b_P_change 61 = .ok (.istore 4, 2) := by decide +kernel
theorem d_P_change_63 : decode b_P_change 63 = .ok (.aload_n 0, 1) := by decide +kernel
theorem d_P_change_64 : decode b_P_change 64 = .ok (.getfield 34, 3) := by decide +kernel
theorem d_P_change_67 : decode b_P_change 67 = .ok (.iload_n 1, 1) := by decide +kernel
theorem d_P_change_68 : decode b_P_change 68 = .ok (.aaload, 1) := by decide +kernel
theorem d_P_change_69 : decode b_P_change 69 = .ok (.iload 4, 2) := by decide +kernel
theorem d_P_change_71 : decode b_P_change 71 = .ok (.iload_n 2, 1) := by decide +kernel
theorem d_P_change_72 : decode b_P_change 72 = .ok (.iload_n 3, 1) := by decide +kernel
theorem d_P_change_73 : decode b_P_change 73 = .ok (.invokevirtual 84, 3) := by decide +kernel
theorem d_P_change_76 : decode b_P_change 76 = .ok (.iload 4, 2) := by decide +kernel
theorem d_P_change_78 : decode b_P_change 78 = .ok (.ireturn, 1) := by decide +kernel
set_option maxRecDepth 20000 in
theorem g_P_change_1 : GoodIn (kws (y_P_change) b_P_change 5 (some .int)) (wsV R_P 43 R_P y_P_requirePower (kws (y_P_requirePower) b_P_requirePower 1 none)) := kwV m_192 m_194 ms_2 m_1 m_195
set_option maxRecDepth 20000 in
theorem g_P_change_5 : GoodIn (kws (y_P_change) b_P_change 5 (some .int)) (wsS R_P 54 y_P_requireFrame (kws (y_P_requireFrame) b_P_requireFrame 1 none)) := kwS m_339 m_340 m_1 m_341
set_option maxRecDepth 20000 in
theorem g_P_change_10 : GoodIn (kws (y_P_change) b_P_change 5 (some .int)) (wsV R_P 57 R_P y_P_requirePins (kws (y_P_requirePins) b_P_requirePins 2 none)) := kwV m_343 m_345 ms_9 m_1 m_346
set_option maxRecDepth 20000 in
theorem g_P_change_28 : GoodIn (kws (y_P_change) b_P_change 5 (some .int)) (wsS R_P 70 y_P_requireWord (kws (y_P_requireWord) b_P_requireWord 1 none)) := kwS m_356 m_357 m_1 m_358
set_option maxRecDepth 20000 in
theorem g_P_change_35 : GoodIn (kws (y_P_change) b_P_change 5 (some .int)) (wsV R_P 73 R_C y_C_hasRoom (kws (y_C_hasRoom) b_C_hasRoom 1 (some .boolean))) := kwV m_360 m_361 m_362 m_4 m_363
set_option maxRecDepth 20000 in
theorem g_P_change_58 : GoodIn (kws (y_P_change) b_P_change 5 (some .int)) (wsV R_P 80 R_C y_C_append (kws (y_C_append) b_C_append 5 (some .int))) := kwV m_365 m_366 m_367 m_4 m_368
set_option maxRecDepth 20000 in
theorem g_P_change_73 : GoodIn (kws (y_P_change) b_P_change 5 (some .int)) (wsV R_P 84 R_F y_F_apply (kws (y_F_apply) b_F_apply 4 none)) := kwV m_372 m_373 m_374 m_5 m_375
theorem d_P_word_0 : decode b_P_word 0 = .ok (.aload_n 0, 1) := by decide +kernel
theorem d_P_word_1 : decode b_P_word 1 = .ok (.invokevirtual 43, 3) := by decide +kernel
theorem d_P_word_4 : decode b_P_word 4 = .ok (.iload_n 1, 1) := by decide +kernel
theorem d_P_word_5 : decode b_P_word 5 = .ok (.invokestatic 54, 3) := by decide +kernel
theorem d_P_word_8 : decode b_P_word 8 = .ok (.aload_n 0, 1) := by decide +kernel
theorem d_P_word_9 : decode b_P_word 9 = .ok (.getfield 34, 3) := by decide +kernel
theorem d_P_word_12 : decode b_P_word 12 = .ok (.iload_n 1, 1) := by decide +kernel
theorem d_P_word_13 : decode b_P_word 13 = .ok (.aaload, 1) := by decide +kernel
theorem d_P_word_14 : decode b_P_word 14 = .ok (.getfield 77, 3) := by decide +kernel
theorem d_P_word_17 : decode b_P_word 17 = .ok (.iconst (-1), 1) := by decide +kernel
theorem d_P_word_18 : decode b_P_word 18 = .ok (.if_icmp .ne 13, 3) := by decide +kernel
theorem d_P_word_21 : decode b_P_word 21 = .ok (.new 88, 3) := by decide +kernel
theorem d_P_word_24 : decode b_P_word 24 = .ok (.dup, 1) := by decide +kernel
theorem d_P_word_25 : decode b_P_word 25 = .ok (.ldc 90, 2) := by decide +kernel
theorem d_P_word_27 : decode b_P_word 27 = .ok (.invokespecial 92, 3) := by decide +kernel
theorem d_P_word_30 : decode b_P_word 30 = .ok (.athrow, 1) := by decide +kernel
theorem d_P_word_31 : decode b_P_word 31 = .ok (.iload_n 2, 1) := by decide +kernel
theorem d_P_word_32 : decode b_P_word 32 = .ok (.invokestatic 70, 3) := by decide +kernel
theorem d_P_word_35 : decode b_P_word 35 = .ok (.aload_n 0, 1) := by decide +kernel
theorem d_P_word_36 : decode b_P_word 36 = .ok (.getfield 34, 3) := by decide +kernel
theorem d_P_word_39 : decode b_P_word 39 = .ok (.iload_n 1, 1) := by decide +kernel
theorem d_P_word_40 : decode b_P_word 40 = .ok (.aaload, 1) := by decide +kernel
theorem d_P_word_41 : decode b_P_word 41 = .ok (.getfield 93, 3) := by decide +kernel
theorem d_P_word_44 : decode b_P_word 44 = .ok (.iload_n 2, 1) := by decide +kernel
theorem d_P_word_45 : decode b_P_word 45 = .ok (.iaload, 1) := by decide +kernel
theorem d_P_word_46 : decode b_P_word 46 = .ok (.ireturn, 1) := by decide +kernel
set_option maxRecDepth 20000 in
theorem g_P_word_1 : GoodIn (kws (y_P_word) b_P_word 3 (some .int)) (wsV R_P 43 R_P y_P_requirePower (kws (y_P_requirePower) b_P_requirePower 1 none)) := kwV m_192 m_194 ms_2 m_1 m_195
set_option maxRecDepth 20000 in
theorem g_P_word_5 : GoodIn (kws (y_P_word) b_P_word 3 (some .int)) (wsS R_P 54 y_P_requireFrame (kws (y_P_requireFrame) b_P_requireFrame 1 none)) := kwS m_339 m_340 m_1 m_341
set_option maxRecDepth 20000 in
theorem g_P_word_32 : GoodIn (kws (y_P_word) b_P_word 3 (some .int)) (wsS R_P 70 y_P_requireWord (kws (y_P_requireWord) b_P_requireWord 1 none)) := kwS m_356 m_357 m_1 m_358
theorem d_P_frame_0 : decode b_P_frame 0 = .ok (.iload_n 1, 1) := by decide +kernel
theorem d_P_frame_1 : decode b_P_frame 1 = .ok (.invokestatic 54, 3) := by decide +kernel
theorem d_P_frame_4 : decode b_P_frame 4 = .ok (.aload_n 0, 1) := by decide +kernel
theorem d_P_frame_5 : decode b_P_frame 5 = .ok (.getfield 34, 3) := by decide +kernel
theorem d_P_frame_8 : decode b_P_frame 8 = .ok (.iload_n 1, 1) := by decide +kernel
theorem d_P_frame_9 : decode b_P_frame 9 = .ok (.aaload, 1) := by decide +kernel
theorem d_P_frame_10 : decode b_P_frame 10 = .ok (.astore_n 3, 1) := by decide +kernel
theorem d_P_frame_11 : decode b_P_frame 11 = .ok (.iload_n 2, 1) := by decide +kernel
theorem d_P_frame_12 : decode b_P_frame 12 = .ok (.tableswitch 77 0 4 #[36, 41, 46, 59, 72], 36) := by decide +kernel
theorem d_P_frame_48 : decode b_P_frame 48 = .ok (.aload_n 3, 1) := by decide +kernel
theorem d_P_frame_49 : decode b_P_frame 49 = .ok (.getfield 77, 3) := by decide +kernel
theorem d_P_frame_52 : decode b_P_frame 52 = .ok (.ireturn, 1) := by decide +kernel
theorem d_P_frame_53 : decode b_P_frame 53 = .ok (.aload_n 3, 1) := by decide +kernel
theorem d_P_frame_54 : decode b_P_frame 54 = .ok (.getfield 60, 3) := by decide +kernel
theorem d_P_frame_57 : decode b_P_frame 57 = .ok (.ireturn, 1) := by decide +kernel
theorem d_P_frame_58 : decode b_P_frame 58 = .ok (.aload_n 3, 1) := by decide +kernel
theorem d_P_frame_59 : decode b_P_frame 59 = .ok (.getfield 97, 3) := by decide +kernel
theorem d_P_frame_62 : decode b_P_frame 62 = .ok (.ifCond .eq 7, 3) := by decide +kernel
theorem d_P_frame_65 : decode b_P_frame 65 = .ok (.iconst 1, 1) := by decide +kernel
theorem d_P_frame_66 : decode b_P_frame 66 = .ok (.goto 4, 3) := by decide +kernel
theorem d_P_frame_69 : decode b_P_frame 69 = .ok (.iconst 0, 1) := by decide +kernel
theorem d_P_frame_70 : decode b_P_frame 70 = .ok (.ireturn, 1) := by decide +kernel
theorem d_P_frame_71 : decode b_P_frame 71 = .ok (.aload_n 3, 1) := by decide +kernel
theorem d_P_frame_72 : decode b_P_frame 72 = .ok (.invokevirtual 101, 3) := by decide +kernel
theorem d_P_frame_75 : decode b_P_frame 75 = .ok (.ifCond .eq 7, 3) := by decide +kernel
theorem d_P_frame_78 : decode b_P_frame 78 = .ok (.iconst 1, 1) := by decide +kernel
theorem d_P_frame_79 : decode b_P_frame 79 = .ok (.goto 4, 3) := by decide +kernel
theorem d_P_frame_82 : decode b_P_frame 82 = .ok (.iconst 0, 1) := by decide +kernel
theorem d_P_frame_83 : decode b_P_frame 83 = .ok (.ireturn, 1) := by decide +kernel
theorem d_P_frame_84 : decode b_P_frame 84 = .ok (.aload_n 3, 1) := by decide +kernel
theorem d_P_frame_85 : decode b_P_frame 85 = .ok (.getfield 104, 3) := by decide +kernel
theorem d_P_frame_88 : decode b_P_frame 88 = .ok (.ireturn, 1) := by decide +kernel
theorem d_P_frame_89 : decode b_P_frame 89 = .ok (.new 63, 3) := by decide +kernel
theorem d_P_frame_92 : decode b_P_frame 92 = .ok (.dup, 1) := by decide +kernel
theorem d_P_frame_93 : decode b_P_frame 93 = .ok (.ldc 107, 2) := by decide +kernel
theorem d_P_frame_95 : decode b_P_frame 95 = .ok (.invokespecial 67, 3) := by decide +kernel
theorem d_P_frame_98 : decode b_P_frame 98 = .ok (.athrow, 1) := by decide +kernel
set_option maxRecDepth 20000 in
theorem g_P_frame_1 : GoodIn (kws (y_P_frame) b_P_frame 4 (some .int)) (wsS R_P 54 y_P_requireFrame (kws (y_P_requireFrame) b_P_requireFrame 1 none)) := kwS m_339 m_340 m_1 m_341
set_option maxRecDepth 20000 in
theorem g_P_frame_72 : GoodIn (kws (y_P_frame) b_P_frame 4 (some .int)) (wsV R_P 101 R_F y_F_isChanged (kws (y_F_isChanged) b_F_isChanged 1 (some .boolean))) := kwV m_143 m_144 m_145 m_5 m_146
theorem d_P_log_0 : decode b_P_log 0 = .ok (.iload_n 1, 1) := by decide +kernel
theorem d_P_log_1 : decode b_P_log 1 = .ok (.tableswitch 51 0 2 #[27, 35, 43], 27) := by decide +kernel
theorem d_P_log_28 : decode b_P_log 28 = .ok (.aload_n 0, 1) := by decide +kernel
theorem d_P_log_29 : decode b_P_log 29 = .ok (.getfield 28, 3) := by decide +kernel
theorem d_P_log_32 : decode b_P_log 32 = .ok (.getfield 142, 3) := by decide +kernel
theorem d_P_log_35 : decode b_P_log 35 = .ok (.ireturn, 1) := by decide +kernel
theorem d_P_log_36 : decode b_P_log 36 = .ok (.aload_n 0, 1) := by decide +kernel
theorem d_P_log_37 : decode b_P_log 37 = .ok (.getfield 28, 3) := by decide +kernel
theorem d_P_log_40 : decode b_P_log 40 = .ok (.getfield 119, 3) := by decide +kernel
theorem d_P_log_43 : decode b_P_log 43 = .ok (.ireturn, 1) := by decide +kernel
theorem d_P_log_44 : decode b_P_log 44 = .ok (.aload_n 0, 1) := by decide +kernel
theorem d_P_log_45 : decode b_P_log 45 = .ok (.getfield 28, 3) := by decide +kernel
theorem d_P_log_48 : decode b_P_log 48 = .ok (.getfield 122, 3) := by decide +kernel
theorem d_P_log_51 : decode b_P_log 51 = .ok (.ireturn, 1) := by decide +kernel
theorem d_P_log_52 : decode b_P_log 52 = .ok (.new 63, 3) := by decide +kernel
theorem d_P_log_55 : decode b_P_log 55 = .ok (.dup, 1) := by decide +kernel
theorem d_P_log_56 : decode b_P_log 56 = .ok (.ldc 145, 2) := by decide +kernel
theorem d_P_log_58 : decode b_P_log 58 = .ok (.invokespecial 67, 3) := by decide +kernel
theorem d_P_log_61 : decode b_P_log 61 = .ok (.athrow, 1) := by decide +kernel
theorem d_P_onMedium_0 : decode b_P_onMedium 0 = .ok (.iload_n 1, 1) := by decide +kernel
theorem d_P_onMedium_1 : decode b_P_onMedium 1 = .ok (.invokestatic 46, 3) := by decide +kernel
theorem d_P_onMedium_4 : decode b_P_onMedium 4 = .ok (.iload_n 2, 1) := by decide +kernel
theorem d_P_onMedium_5 : decode b_P_onMedium 5 = .ok (.invokestatic 70, 3) := by decide +kernel
theorem d_P_onMedium_8 : decode b_P_onMedium 8 = .ok (.aload_n 0, 1) := by decide +kernel
theorem d_P_onMedium_9 : decode b_P_onMedium 9 = .ok (.getfield 21, 3) := by decide +kernel
theorem d_P_onMedium_12 : decode b_P_onMedium 12 = .ok (.getfield 147, 3) := by decide +kernel
theorem d_P_onMedium_15 : decode b_P_onMedium 15 = .ok (.iload_n 1, 1) := by decide +kernel
theorem d_P_onMedium_16 : decode b_P_onMedium 16 = .ok (.bipush 64, 2) := by decide +kernel
theorem d_P_onMedium_18 : decode b_P_onMedium 18 = .ok (.imul, 1) := by decide +kernel
theorem d_P_onMedium_19 : decode b_P_onMedium 19 = .ok (.iload_n 2, 1) := by decide +kernel
theorem d_P_onMedium_20 : decode b_P_onMedium 20 = .ok (.iadd, 1) := by decide +kernel
theorem d_P_onMedium_21 : decode b_P_onMedium 21 = .ok (.iaload, 1) := by decide +kernel
theorem d_P_onMedium_22 : decode b_P_onMedium 22 = .ok (.ireturn, 1) := by decide +kernel
set_option maxRecDepth 20000 in
theorem g_P_onMedium_1 : GoodIn (kws (y_P_onMedium) b_P_onMedium 3 (some .int)) (wsS R_P 46 y_P_requirePage (kws (y_P_requirePage) b_P_requirePage 1 none)) := kwS m_264 m_265 m_1 m_266
set_option maxRecDepth 20000 in
theorem g_P_onMedium_5 : GoodIn (kws (y_P_onMedium) b_P_onMedium 3 (some .int)) (wsS R_P 70 y_P_requireWord (kws (y_P_requireWord) b_P_requireWord 1 none)) := kwS m_356 m_357 m_1 m_358
theorem d_P_cutAfter_0 : decode b_P_cutAfter 0 = .ok (.iload_n 1, 1) := by decide +kernel
theorem d_P_cutAfter_1 : decode b_P_cutAfter 1 = .ok (.iconst (-1), 1) := by decide +kernel
theorem d_P_cutAfter_2 : decode b_P_cutAfter 2 = .ok (.if_icmp .ge 13, 3) := by decide +kernel
theorem d_P_cutAfter_5 : decode b_P_cutAfter 5 = .ok (.new 156, 3) := by decide +kernel
theorem d_P_cutAfter_8 : decode b_P_cutAfter 8 = .ok (.dup, 1) := by decide +kernel
theorem d_P_cutAfter_9 : decode b_P_cutAfter 9 = .ok (.ldc 158, 2) := by decide +kernel
theorem d_P_cutAfter_11 : decode b_P_cutAfter 11 = .ok (.invokespecial 160, 3) := by decide +kernel
theorem d_P_cutAfter_14 : decode b_P_cutAfter 14 = .ok (.athrow, 1) := by decide +kernel
theorem d_P_cutAfter_15 : decode b_P_cutAfter 15 = .ok (.aload_n 0, 1) := by decide +kernel
theorem d_P_cutAfter_16 : decode b_P_cutAfter 16 = .ok (.getfield 12, 3) := by decide +kernel
theorem d_P_cutAfter_19 : decode b_P_cutAfter 19 = .ok (.iload_n 1, 1) := by decide +kernel
theorem d_P_cutAfter_20 : decode b_P_cutAfter 20 = .ok (.putfield 161, 3) := by decide +kernel
theorem d_P_cutAfter_23 : decode b_P_cutAfter 23 = .ok (.return_, 1) := by decide +kernel
def xFix (σ : Mem) (pg : Int32) : Nat × Int32 × Mem :=
  if σ 1 0 = 0 then ((1, nI 0, σ))
  else if kBad 256 pg then ((2, nI 0, σ))
  else (0, ((kPin σ pg.toNatClampNeg).1), ((kPin σ pg.toNatClampNeg).2))
set_option maxHeartbeats 4000000 in
set_option maxRecDepth 100000 in
theorem c_P_fix (hl9 : l.stackTraces = false) (σ : Mem) (pg : Int32) (hh : nat0 8 (σ 0 4)) (hok : pgOK σ) : KXi l D clP (tyP cI cF cZ cJ) 25 (eP cI cF ad) ad y_P_fix b_P_fix 2 (some .int) { frames := 7, cells := 2, slots := 12, locals := 165 } [.ref (ad 0), .int pg] σ (fun r σ' => xFix σ pg = (0, r, σ')) (fun C => (xFix σ pg).1 ≠ 0 ∧ C = xn (xFix σ pg).1) := by
  refine KXi.of (by decide) (Nat.le_of_ble_eq_true rfl) ?_
  intro p e s m args below meth c A ls F w hT hl hr hlk hex
  obtain ⟨hx, hb, hml, hown, hts⟩ := id F
  have hl : lv_has ls 2 [(0, .ref (ad 0)), (1, .int pg)] := hl
  refine lv_aload_n hx hb d_P_fix_0 rfl (lv_at hl 0 rfl) ?_
  refine mr_xVv (As := []) F w hT hl.1 (c_P_requirePower hl9 σ) (cwV 0 hts g_P_fix_1 rfl rfl rfl (by decide +kernel) ⟨(Nat.le_of_ble_eq_true rfl), (Nat.le_of_ble_eq_true rfl)⟩) rfl (by decide) rfl rfl rfl (Nat.le_of_ble_eq_true rfl) d_P_fix_1 ⟨(Nat.le_of_ble_eq_true rfl), (Nat.le_of_ble_eq_true rfl)⟩ (fun C9 h9 => by obtain ⟨rfl, h8⟩ := h9; unfold xFix; rw [if_pos h8]; exact ⟨by show (1 : Nat) ≠ 0; decide, rfl⟩) hex hlk (Nat.le_of_ble_eq_true rfl) (Nat.le_of_ble_eq_true rfl) (fun σ1 H locs e2 w => ?_)
  have c3 := e2.2
  rw [e2.1] at w
  refine lv_iload_n hx hb d_P_fix_4 rfl (lv_at hl 1 rfl) ?_
  refine mr_xSv (As := [.int pg]) F w hT hl.1 (c_P_requirePage hl9 σ pg) (cwS 1 hts g_P_fix_5 rfl rfl rfl (by decide +kernel) ⟨(Nat.le_of_ble_eq_true rfl), (Nat.le_of_ble_eq_true rfl)⟩) rfl rfl (Nat.le_of_ble_eq_true rfl) d_P_fix_5 ⟨(Nat.le_of_ble_eq_true rfl), (Nat.le_of_ble_eq_true rfl)⟩ (fun C9 h9 => by obtain ⟨rfl, h8⟩ := h9; unfold xFix; rw [if_neg c3, if_pos h8]; exact ⟨by show (2 : Nat) ≠ 0; decide, rfl⟩) hex hlk (Nat.le_of_ble_eq_true rfl) (Nat.le_of_ble_eq_true rfl) (fun σ4 H locs e5 w => ?_)
  have c6 := e5.2
  rw [e5.1] at w
  have hb7 : pg.toNatClampNeg < 256 := (kBad_nat c6 (by decide)).1
  refine lv_aload_n hx hb d_P_fix_8 rfl (lv_at hl 0 rfl) ?_
  refine lv_iload_n hx hb d_P_fix_9 rfl (lv_at hl 1 rfl) ?_
  refine nr_as (k := pg.toNatClampNeg) (kBad_nat c6 (by decide)).2 ?_
  refine mr_callVi (As := [.int (nI pg.toNatClampNeg)]) F w hl.1 (c_P_pin σ pg.toNatClampNeg (by omega) hh hok) (cwV 1 hts g_P_fix_10 rfl rfl rfl (by decide +kernel) ⟨Nat.le_of_ble_eq_true rfl, Nat.le_of_ble_eq_true rfl⟩) rfl (by decide) rfl rfl rfl (Nat.le_of_ble_eq_true rfl) d_P_fix_10 ⟨Nat.le_of_ble_eq_true rfl, Nat.le_of_ble_eq_true rfl⟩ (fun r8 σ9 H locs e10 w => ?_)
  have e10_r := e10.1.symm
  have e10_s := e10.2.symm
  clear e10
  exact mr_xiret F w hr hlk (Nat.le_of_ble_eq_true rfl) (Nat.le_of_ble_eq_true rfl) (by subst e10_r e10_s; unfold xFix; rw [if_neg c3, if_neg c6]) d_P_fix_13
def xUnfix (σ : Mem) (f : Int32) : Nat × Int32 × Mem :=
  if σ 1 0 = 0 then ((1, nI 0, σ))
  else if kBad 8 f then ((2, nI 0, σ))
  else if σ (f.toNatClampNeg + 9) 2 = 0 then ((1, nI 0, σ))
  else (0, (mup σ (f.toNatClampNeg + 9) 2 ((σ (f.toNatClampNeg + 9) 2) - (nI 1))) (f.toNatClampNeg + 9) 2, mup σ (f.toNatClampNeg + 9) 2 ((σ (f.toNatClampNeg + 9) 2) - (nI 1)))
set_option maxHeartbeats 4000000 in
set_option maxRecDepth 100000 in
theorem c_P_unfix (hl9 : l.stackTraces = false) (σ : Mem) (f : Int32) : KXi l D clP (tyP cI cF cZ cJ) 25 (eP cI cF ad) ad y_P_unfix b_P_unfix 2 (some .int) { frames := 7, cells := 3, slots := 18, locals := 110 } [.ref (ad 0), .int f] σ (fun r σ' => xUnfix σ f = (0, r, σ')) (fun C => (xUnfix σ f).1 ≠ 0 ∧ C = xn (xUnfix σ f).1) := by
  refine KXi.of (by decide) (Nat.le_of_ble_eq_true rfl) ?_
  intro p e s m args below meth c A ls F w hT hl hr hlk hex
  obtain ⟨hx, hb, hml, hown, hts⟩ := id F
  have hl : lv_has ls 2 [(0, .ref (ad 0)), (1, .int f)] := hl
  refine lv_aload_n hx hb d_P_unfix_0 rfl (lv_at hl 0 rfl) ?_
  refine mr_xVv (As := []) F w hT hl.1 (c_P_requirePower hl9 σ) (cwV 0 hts g_P_unfix_1 rfl rfl rfl (by decide +kernel) ⟨(Nat.le_of_ble_eq_true rfl), (Nat.le_of_ble_eq_true rfl)⟩) rfl (by decide) rfl rfl rfl (Nat.le_of_ble_eq_true rfl) d_P_unfix_1 ⟨(Nat.le_of_ble_eq_true rfl), (Nat.le_of_ble_eq_true rfl)⟩ (fun C9 h9 => by obtain ⟨rfl, h8⟩ := h9; unfold xUnfix; rw [if_pos h8]; exact ⟨by show (1 : Nat) ≠ 0; decide, rfl⟩) hex hlk (Nat.le_of_ble_eq_true rfl) (Nat.le_of_ble_eq_true rfl) (fun σ1 H locs e2 w => ?_)
  have c3 := e2.2
  rw [e2.1] at w
  refine lv_iload_n hx hb d_P_unfix_4 rfl (lv_at hl 1 rfl) ?_
  refine mr_xSv (As := [.int f]) F w hT hl.1 (c_P_requireFrame hl9 σ f) (cwS 1 hts g_P_unfix_5 rfl rfl rfl (by decide +kernel) ⟨(Nat.le_of_ble_eq_true rfl), (Nat.le_of_ble_eq_true rfl)⟩) rfl rfl (Nat.le_of_ble_eq_true rfl) d_P_unfix_5 ⟨(Nat.le_of_ble_eq_true rfl), (Nat.le_of_ble_eq_true rfl)⟩ (fun C9 h9 => by obtain ⟨rfl, h8⟩ := h9; unfold xUnfix; rw [if_neg c3, if_pos h8]; exact ⟨by show (2 : Nat) ≠ 0; decide, rfl⟩) hex hlk (Nat.le_of_ble_eq_true rfl) (Nat.le_of_ble_eq_true rfl) (fun σ4 H locs e5 w => ?_)
  have c6 := e5.2
  rw [e5.1] at w
  have hb7 : f.toNatClampNeg < 8 := (kBad_nat c6 (by decide)).1
  refine lv_aload_n hx hb d_P_unfix_8 rfl (lv_at hl 0 rfl) ?_
  refine lv_iload_n hx hb d_P_unfix_9 rfl (lv_at hl 1 rfl) ?_
  refine nr_as (k := f.toNatClampNeg) (kBad_nat c6 (by decide)).2 ?_
  refine mr_xVv (As := [.int (nI f.toNatClampNeg)]) F w hT hl.1 (c_P_requirePins hl9 σ f.toNatClampNeg hb7) (cwV 1 hts g_P_unfix_10 rfl rfl rfl (by decide +kernel) ⟨(Nat.le_of_ble_eq_true rfl), (Nat.le_of_ble_eq_true rfl)⟩) rfl (by decide) rfl rfl rfl (Nat.le_of_ble_eq_true rfl) d_P_unfix_10 ⟨(Nat.le_of_ble_eq_true rfl), (Nat.le_of_ble_eq_true rfl)⟩ (fun C9 h9 => by obtain ⟨rfl, h8⟩ := h9; unfold xUnfix; rw [if_neg c3, if_neg c6, if_pos h8]; exact ⟨by show (1 : Nat) ≠ 0; decide, rfl⟩) hex hlk (Nat.le_of_ble_eq_true rfl) (Nat.le_of_ble_eq_true rfl) (fun σ8 H locs e9 w => ?_)
  have c10 := e9.2
  rw [e9.1] at w
  refine lv_aload_n hx hb d_P_unfix_13 rfl (lv_at hl 0 rfl) ?_
  refine mr_get F w (kin in_P) 0 (by decide) rfl rfl 3 (by decide) (kws_in m_126) (fun _ h => h) rfl d_P_unfix_14 ?_
  refine lv_iload_n hx hb d_P_unfix_17 rfl (lv_at hl 1 rfl) ?_
  refine nr_as (k := f.toNatClampNeg) (kBad_nat c6 (by decide)).2 ?_
  refine mr_aldq F w 8 1 (by decide) rfl rfl f.toNatClampNeg hb7 (by decide) rfl rfl d_P_unfix_18 ?_
  refine lv_dup hx hb d_P_unfix_19 rfl ?_
  refine mr_get F w (kin in_F) (f.toNatClampNeg + 9) (by omega) (eP_F hb7 _) rfl 2 (by decide) (kws_in m_107) (fun _ h => h) rfl d_P_unfix_20 ?_
  refine lv_iconst (v := nI 1) hx hb d_P_unfix_23 (by decide) ?_
  refine lv_isub hx hb d_P_unfix_24 ?_
  refine mr_put F w (kin in_F) t_F t_F_ok n_F (f.toNatClampNeg + 9) (by omega) (eP_F hb7 _) rfl 2 (by decide) (kws_in m_107) (fun _ h => h) rfl rfl rfl (Nat.le_of_ble_eq_true rfl) (eP_F hb7 _) d_P_unfix_25 (fun H locs w => ?_)
  refine lv_aload_n hx hb d_P_unfix_28 rfl (lv_at hl 0 rfl) ?_
  refine mr_get F w (kin in_P) 0 (by decide) rfl rfl 3 (by decide) (kws_in m_126) (fun _ h => h) rfl d_P_unfix_29 ?_
  refine lv_iload_n hx hb d_P_unfix_32 rfl (lv_at hl 1 rfl) ?_
  refine nr_as (k := f.toNatClampNeg) (kBad_nat c6 (by decide)).2 ?_
  refine mr_aldq F w 8 1 (by decide) rfl rfl f.toNatClampNeg hb7 (by decide) rfl rfl d_P_unfix_33 ?_
  refine mr_get F w (kin in_F) (f.toNatClampNeg + 9) (by omega) (eP_F hb7 _) rfl 2 (by decide) (kws_in m_107) (fun _ h => h) rfl d_P_unfix_34 ?_
  exact mr_xiret F w hr hlk (Nat.le_of_ble_eq_true rfl) (Nat.le_of_ble_eq_true rfl) (by unfold xUnfix; rw [if_neg c3, if_neg c6, if_neg c10]) d_P_unfix_37
def xChange (σ : Mem) (f i v : Int32) : Nat × Int32 × Mem :=
  if σ 1 0 = 0 then ((1, nI 0, σ))
  else if kBad 8 f then ((2, nI 0, σ))
  else if σ (f.toNatClampNeg + 9) 2 = 0 then ((1, nI 0, σ))
  else if i = 0 then ((2, nI 0, σ))
  else if kBad 64 i then ((2, nI 0, σ))
  else if (kRoom σ) = 0 then ((0, (-1), σ))
  else (0, (σ 5 5), (kApply (kAppend σ (σ (f.toNatClampNeg + 9) 1) (nI i.toNatClampNeg) v) f.toNatClampNeg (σ 5 5) i.toNatClampNeg v))
set_option maxHeartbeats 4000000 in
set_option maxRecDepth 100000 in
theorem c_P_change (hl9 : l.stackTraces = false) (σ : Mem) (f i v : Int32) : KXi l D clP (tyP cI cF cZ cJ) 25 (eP cI cF ad) ad y_P_change b_P_change 5 (some .int) { frames := 7, cells := 5, slots := 30, locals := 110 } [.ref (ad 0), .int f, .int i, .int v] σ (fun r σ' => xChange σ f i v = (0, r, σ')) (fun C => (xChange σ f i v).1 ≠ 0 ∧ C = xn (xChange σ f i v).1) := by
  refine KXi.of (by decide) (Nat.le_of_ble_eq_true rfl) ?_
  intro p e s m args below meth c A ls F w hT hl hr hlk hex
  obtain ⟨hx, hb, hml, hown, hts⟩ := id F
  have hl : lv_has ls 5 [(0, .ref (ad 0)), (1, .int f), (2, .int i), (3, .int v)] := hl
  refine lv_aload_n hx hb d_P_change_0 rfl (lv_at hl 0 rfl) ?_
  refine mr_xVv (As := []) F w hT hl.1 (c_P_requirePower hl9 σ) (cwV 0 hts g_P_change_1 rfl rfl rfl (by decide +kernel) ⟨(Nat.le_of_ble_eq_true rfl), (Nat.le_of_ble_eq_true rfl)⟩) rfl (by decide) rfl rfl rfl (Nat.le_of_ble_eq_true rfl) d_P_change_1 ⟨(Nat.le_of_ble_eq_true rfl), (Nat.le_of_ble_eq_true rfl)⟩ (fun C9 h9 => by obtain ⟨rfl, h8⟩ := h9; unfold xChange; rw [if_pos h8]; exact ⟨by show (1 : Nat) ≠ 0; decide, rfl⟩) hex hlk (Nat.le_of_ble_eq_true rfl) (Nat.le_of_ble_eq_true rfl) (fun σ1 H locs e2 w => ?_)
  have c3 := e2.2
  rw [e2.1] at w
  refine lv_iload_n hx hb d_P_change_4 rfl (lv_at hl 1 rfl) ?_
  refine mr_xSv (As := [.int f]) F w hT hl.1 (c_P_requireFrame hl9 σ f) (cwS 1 hts g_P_change_5 rfl rfl rfl (by decide +kernel) ⟨(Nat.le_of_ble_eq_true rfl), (Nat.le_of_ble_eq_true rfl)⟩) rfl rfl (Nat.le_of_ble_eq_true rfl) d_P_change_5 ⟨(Nat.le_of_ble_eq_true rfl), (Nat.le_of_ble_eq_true rfl)⟩ (fun C9 h9 => by obtain ⟨rfl, h8⟩ := h9; unfold xChange; rw [if_neg c3, if_pos h8]; exact ⟨by show (2 : Nat) ≠ 0; decide, rfl⟩) hex hlk (Nat.le_of_ble_eq_true rfl) (Nat.le_of_ble_eq_true rfl) (fun σ4 H locs e5 w => ?_)
  have c6 := e5.2
  rw [e5.1] at w
  have hb7 : f.toNatClampNeg < 8 := (kBad_nat c6 (by decide)).1
  refine lv_aload_n hx hb d_P_change_8 rfl (lv_at hl 0 rfl) ?_
  refine lv_iload_n hx hb d_P_change_9 rfl (lv_at hl 1 rfl) ?_
  refine nr_as (k := f.toNatClampNeg) (kBad_nat c6 (by decide)).2 ?_
  refine mr_xVv (As := [.int (nI f.toNatClampNeg)]) F w hT hl.1 (c_P_requirePins hl9 σ f.toNatClampNeg hb7) (cwV 1 hts g_P_change_10 rfl rfl rfl (by decide +kernel) ⟨(Nat.le_of_ble_eq_true rfl), (Nat.le_of_ble_eq_true rfl)⟩) rfl (by decide) rfl rfl rfl (Nat.le_of_ble_eq_true rfl) d_P_change_10 ⟨(Nat.le_of_ble_eq_true rfl), (Nat.le_of_ble_eq_true rfl)⟩ (fun C9 h9 => by obtain ⟨rfl, h8⟩ := h9; unfold xChange; rw [if_neg c3, if_neg c6, if_pos h8]; exact ⟨by show (1 : Nat) ≠ 0; decide, rfl⟩) hex hlk (Nat.le_of_ble_eq_true rfl) (Nat.le_of_ble_eq_true rfl) (fun σ8 H locs e9 w => ?_)
  have c10 := e9.2
  rw [e9.1] at w
  refine lv_iload_n hx hb d_P_change_13 rfl (lv_at hl 2 rfl) ?_
  refine lv_if_ne (tgt := 27) hx hb d_P_change_14 (by decide) (fun c11 => ?_) (fun c11 => ?_)
  · refine lv_iload_n hx hb d_P_change_27 rfl (lv_at hl 2 rfl) ?_
    refine mr_xSv (As := [.int i]) F w hT hl.1 (c_P_requireWord hl9 σ i) (cwS 1 hts g_P_change_28 rfl rfl rfl (by decide +kernel) ⟨(Nat.le_of_ble_eq_true rfl), (Nat.le_of_ble_eq_true rfl)⟩) rfl rfl (Nat.le_of_ble_eq_true rfl) d_P_change_28 ⟨(Nat.le_of_ble_eq_true rfl), (Nat.le_of_ble_eq_true rfl)⟩ (fun C9 h9 => by obtain ⟨rfl, h8⟩ := h9; unfold xChange; rw [if_neg c3, if_neg c6, if_neg c10, if_neg c11, if_pos h8]; exact ⟨by show (2 : Nat) ≠ 0; decide, rfl⟩) hex hlk (Nat.le_of_ble_eq_true rfl) (Nat.le_of_ble_eq_true rfl) (fun σ12 H locs e13 w => ?_)
    have c14 := e13.2
    rw [e13.1] at w
    have hb15 : i.toNatClampNeg < 64 := (kBad_nat c14 (by decide)).1
    refine lv_aload_n hx hb d_P_change_31 rfl (lv_at hl 0 rfl) ?_
    refine mr_get F w (kin in_P) 0 (by decide) rfl rfl 2 (by decide) (kws_in m_125) (fun _ h => h) rfl d_P_change_32 ?_
    refine mr_callVi (As := []) F w hl.1 (c_C_hasRoom σ) (cwV 0 hts g_P_change_35 rfl rfl rfl (by decide +kernel) ⟨Nat.le_of_ble_eq_true rfl, Nat.le_of_ble_eq_true rfl⟩) rfl (by decide) rfl rfl rfl (Nat.le_of_ble_eq_true rfl) d_P_change_35 ⟨Nat.le_of_ble_eq_true rfl, Nat.le_of_ble_eq_true rfl⟩ (fun r16 σ17 H locs e18 w => ?_)
    obtain ⟨rfl, hs9⟩ := e18
    rw [hs9] at w
    clear hs9
    refine lv_if_ne (tgt := 43) hx hb d_P_change_38 (by decide) (fun c19 => ?_) (fun c19 => ?_)
    · refine lv_aload_n hx hb d_P_change_43 rfl (lv_at hl 0 rfl) ?_
      refine mr_get F w (kin in_P) 0 (by decide) rfl rfl 2 (by decide) (kws_in m_125) (fun _ h => h) rfl d_P_change_44 ?_
      refine lv_aload_n hx hb d_P_change_47 rfl (lv_at hl 0 rfl) ?_
      refine mr_get F w (kin in_P) 0 (by decide) rfl rfl 3 (by decide) (kws_in m_126) (fun _ h => h) rfl d_P_change_48 ?_
      refine lv_iload_n hx hb d_P_change_51 rfl (lv_at hl 1 rfl) ?_
      refine nr_as (k := f.toNatClampNeg) (kBad_nat c6 (by decide)).2 ?_
      refine mr_aldq F w 8 1 (by decide) rfl rfl f.toNatClampNeg hb7 (by decide) rfl rfl d_P_change_52 ?_
      refine mr_get F w (kin in_F) (f.toNatClampNeg + 9) (by omega) (eP_F hb7 _) rfl 1 (by decide) (kws_in m_105) (fun _ h => h) rfl d_P_change_53 ?_
      refine lv_iload_n hx hb d_P_change_56 rfl (lv_at hl 2 rfl) ?_
      refine nr_as (k := i.toNatClampNeg) (kBad_nat c14 (by decide)).2 ?_
      refine lv_iload_n hx hb d_P_change_57 rfl (lv_at hl 3 rfl) ?_
      refine mr_callVi (As := [.int (σ (f.toNatClampNeg + 9) 1), .int (nI i.toNatClampNeg), .int v]) F w hl.1 (c_C_append σ (σ (f.toNatClampNeg + 9) 1) (nI i.toNatClampNeg) v) (cwV 3 hts g_P_change_58 rfl rfl rfl (by decide +kernel) ⟨Nat.le_of_ble_eq_true rfl, Nat.le_of_ble_eq_true rfl⟩) rfl (by decide) rfl rfl rfl (Nat.le_of_ble_eq_true rfl) d_P_change_58 ⟨Nat.le_of_ble_eq_true rfl, Nat.le_of_ble_eq_true rfl⟩ (fun r20 σ21 H locs e22 w => ?_)
      have e22_r := e22.1.symm
      have e22_s := e22.2.symm
      refine lv_istore (lv' := [(4, .int r20), (0, .ref (ad 0)), (1, .int f), (2, .int i), (3, .int v)]) hx hb d_P_change_61 hl (by decide) rfl (fun ls hl => ?_)
      refine lv_aload_n hx hb d_P_change_63 rfl (lv_at hl 1 rfl) ?_
      refine mr_get F w (kin in_P) 0 (by decide) rfl rfl 3 (by decide) (kws_in m_126) (fun _ h => h) rfl d_P_change_64 ?_
      refine lv_iload_n hx hb d_P_change_67 rfl (lv_at hl 2 rfl) ?_
      refine nr_as (k := f.toNatClampNeg) (kBad_nat c6 (by decide)).2 ?_
      refine mr_aldq F w 8 1 (by decide) rfl rfl f.toNatClampNeg hb7 (by decide) rfl rfl d_P_change_68 ?_
      refine lv_iload hx hb d_P_change_69 (lv_at hl 0 rfl) ?_
      refine lv_iload_n hx hb d_P_change_71 rfl (lv_at hl 3 rfl) ?_
      refine nr_as (k := i.toNatClampNeg) (kBad_nat c14 (by decide)).2 ?_
      refine lv_iload_n hx hb d_P_change_72 rfl (lv_at hl 4 rfl) ?_
      refine mr_callVv (As := [.int r20, .int (nI i.toNatClampNeg), .int v]) F w hl.1 (c_F_apply σ21 f.toNatClampNeg hb7 r20 i.toNatClampNeg (by omega) v) (cwV 3 hts g_P_change_73 rfl rfl rfl (by decide +kernel) ⟨Nat.le_of_ble_eq_true rfl, Nat.le_of_ble_eq_true rfl⟩) rfl (by omega) (eP_F hb7 _) rfl rfl (Nat.le_of_ble_eq_true rfl) d_P_change_73 ⟨Nat.le_of_ble_eq_true rfl, Nat.le_of_ble_eq_true rfl⟩ (fun σ24 H locs e25 w => ?_)
      replace e25 := Eq.symm e25
      refine lv_iload hx hb d_P_change_76 (lv_at hl 0 rfl) ?_
      exact mr_xiret F w hr hlk (Nat.le_of_ble_eq_true rfl) (Nat.le_of_ble_eq_true rfl) (by subst e22_r e22_s e25; unfold xChange; rw [if_neg c3, if_neg c6, if_neg c10, if_neg c11, if_neg c14, if_neg c19]) d_P_change_78
    · refine lv_iconst (v := -1) hx hb d_P_change_41 (by decide) ?_
      exact mr_xiret F w hr hlk (Nat.le_of_ble_eq_true rfl) (Nat.le_of_ble_eq_true rfl) (by unfold xChange; rw [if_neg c3, if_neg c6, if_neg c10, if_neg c11, if_neg c14, if_pos c19]) d_P_change_42
  · exact mr_throw (cls := cIOB) (text := "the mark can't be changed") hl9 F w hT hl.1 (by decide +kernel) m_267 m_11 (by decide) tXg2 tXb2 tXo2 d_P_change_17 d_P_change_20 d_P_change_21 d_P_change_23 d_P_change_26 hex (Nat.le_of_ble_eq_true rfl) (Nat.le_of_ble_eq_true rfl) (Nat.le_of_ble_eq_true rfl) (Nat.le_of_ble_eq_true rfl) hlk (Nat.le_of_ble_eq_true rfl) (Nat.le_of_ble_eq_true rfl) (by unfold xChange; rw [if_neg c3, if_neg c6, if_neg c10, if_pos c11]; exact ⟨by show (2 : Nat) ≠ 0; decide, rfl⟩)
def xWord (σ : Mem) (f i : Int32) : Nat × Int32 × Mem :=
  if σ 1 0 = 0 then ((1, nI 0, σ))
  else if kBad 8 f then ((2, nI 0, σ))
  else if (σ (f.toNatClampNeg + 9) 1) = ((-1)) then ((1, nI 0, σ))
  else if kBad 64 i then ((2, nI 0, σ))
  else (0, σ (f.toNatClampNeg + 17) i.toNatClampNeg, σ)
set_option maxHeartbeats 4000000 in
set_option maxRecDepth 100000 in
theorem c_P_word (hl9 : l.stackTraces = false) (σ : Mem) (f i : Int32) : KXi l D clP (tyP cI cF cZ cJ) 25 (eP cI cF ad) ad y_P_word b_P_word 3 (some .int) { frames := 7, cells := 4, slots := 24, locals := 110 } [.ref (ad 0), .int f, .int i] σ (fun r σ' => xWord σ f i = (0, r, σ')) (fun C => (xWord σ f i).1 ≠ 0 ∧ C = xn (xWord σ f i).1) := by
  refine KXi.of (by decide) (Nat.le_of_ble_eq_true rfl) ?_
  intro p e s m args below meth c A ls F w hT hl hr hlk hex
  obtain ⟨hx, hb, hml, hown, hts⟩ := id F
  have hl : lv_has ls 3 [(0, .ref (ad 0)), (1, .int f), (2, .int i)] := hl
  refine lv_aload_n hx hb d_P_word_0 rfl (lv_at hl 0 rfl) ?_
  refine mr_xVv (As := []) F w hT hl.1 (c_P_requirePower hl9 σ) (cwV 0 hts g_P_word_1 rfl rfl rfl (by decide +kernel) ⟨(Nat.le_of_ble_eq_true rfl), (Nat.le_of_ble_eq_true rfl)⟩) rfl (by decide) rfl rfl rfl (Nat.le_of_ble_eq_true rfl) d_P_word_1 ⟨(Nat.le_of_ble_eq_true rfl), (Nat.le_of_ble_eq_true rfl)⟩ (fun C9 h9 => by obtain ⟨rfl, h8⟩ := h9; unfold xWord; rw [if_pos h8]; exact ⟨by show (1 : Nat) ≠ 0; decide, rfl⟩) hex hlk (Nat.le_of_ble_eq_true rfl) (Nat.le_of_ble_eq_true rfl) (fun σ1 H locs e2 w => ?_)
  have c3 := e2.2
  rw [e2.1] at w
  refine lv_iload_n hx hb d_P_word_4 rfl (lv_at hl 1 rfl) ?_
  refine mr_xSv (As := [.int f]) F w hT hl.1 (c_P_requireFrame hl9 σ f) (cwS 1 hts g_P_word_5 rfl rfl rfl (by decide +kernel) ⟨(Nat.le_of_ble_eq_true rfl), (Nat.le_of_ble_eq_true rfl)⟩) rfl rfl (Nat.le_of_ble_eq_true rfl) d_P_word_5 ⟨(Nat.le_of_ble_eq_true rfl), (Nat.le_of_ble_eq_true rfl)⟩ (fun C9 h9 => by obtain ⟨rfl, h8⟩ := h9; unfold xWord; rw [if_neg c3, if_pos h8]; exact ⟨by show (2 : Nat) ≠ 0; decide, rfl⟩) hex hlk (Nat.le_of_ble_eq_true rfl) (Nat.le_of_ble_eq_true rfl) (fun σ4 H locs e5 w => ?_)
  have c6 := e5.2
  rw [e5.1] at w
  have hb7 : f.toNatClampNeg < 8 := (kBad_nat c6 (by decide)).1
  refine lv_aload_n hx hb d_P_word_8 rfl (lv_at hl 0 rfl) ?_
  refine mr_get F w (kin in_P) 0 (by decide) rfl rfl 3 (by decide) (kws_in m_126) (fun _ h => h) rfl d_P_word_9 ?_
  refine lv_iload_n hx hb d_P_word_12 rfl (lv_at hl 1 rfl) ?_
  refine nr_as (k := f.toNatClampNeg) (kBad_nat c6 (by decide)).2 ?_
  refine mr_aldq F w 8 1 (by decide) rfl rfl f.toNatClampNeg hb7 (by decide) rfl rfl d_P_word_13 ?_
  refine mr_get F w (kin in_F) (f.toNatClampNeg + 9) (by omega) (eP_F hb7 _) rfl 1 (by decide) (kws_in m_105) (fun _ h => h) rfl d_P_word_14 ?_
  refine lv_iconst (v := -1) hx hb d_P_word_17 (by decide) ?_
  refine lv_icmp_ne (tgt := 31) hx hb d_P_word_18 (by decide) (fun c8 => ?_) (fun c8 => ?_)
  · refine lv_iload_n hx hb d_P_word_31 rfl (lv_at hl 2 rfl) ?_
    refine mr_xSv (As := [.int i]) F w hT hl.1 (c_P_requireWord hl9 σ i) (cwS 1 hts g_P_word_32 rfl rfl rfl (by decide +kernel) ⟨(Nat.le_of_ble_eq_true rfl), (Nat.le_of_ble_eq_true rfl)⟩) rfl rfl (Nat.le_of_ble_eq_true rfl) d_P_word_32 ⟨(Nat.le_of_ble_eq_true rfl), (Nat.le_of_ble_eq_true rfl)⟩ (fun C9 h9 => by obtain ⟨rfl, h8⟩ := h9; unfold xWord; rw [if_neg c3, if_neg c6, if_neg c8, if_pos h8]; exact ⟨by show (2 : Nat) ≠ 0; decide, rfl⟩) hex hlk (Nat.le_of_ble_eq_true rfl) (Nat.le_of_ble_eq_true rfl) (fun σ9 H locs e10 w => ?_)
    have c11 := e10.2
    rw [e10.1] at w
    have hb12 : i.toNatClampNeg < 64 := (kBad_nat c11 (by decide)).1
    refine lv_aload_n hx hb d_P_word_35 rfl (lv_at hl 0 rfl) ?_
    refine mr_get F w (kin in_P) 0 (by decide) rfl rfl 3 (by decide) (kws_in m_126) (fun _ h => h) rfl d_P_word_36 ?_
    refine lv_iload_n hx hb d_P_word_39 rfl (lv_at hl 1 rfl) ?_
    refine nr_as (k := f.toNatClampNeg) (kBad_nat c6 (by decide)).2 ?_
    refine mr_aldq F w 8 1 (by decide) rfl rfl f.toNatClampNeg hb7 (by decide) rfl rfl d_P_word_40 ?_
    refine mr_get F w (kin in_F) (f.toNatClampNeg + 9) (by omega) (eP_F hb7 _) rfl 0 (by decide) (kws_in m_103) (fun _ h => h) rfl d_P_word_41 ?_
    refine lv_iload_n hx hb d_P_word_44 rfl (lv_at hl 2 rfl) ?_
    refine nr_as (k := i.toNatClampNeg) (kBad_nat c11 (by decide)).2 ?_
    refine mr_iaN F w (f.toNatClampNeg + 17) 0 (by omega) (eP_V _) rfl i.toNatClampNeg (by omega) (by decide) rfl d_P_word_45 ?_
    exact mr_xiret F w hr hlk (Nat.le_of_ble_eq_true rfl) (Nat.le_of_ble_eq_true rfl) (by unfold xWord; rw [if_neg c3, if_neg c6, if_neg c8, if_neg c11]) d_P_word_46
  · exact mr_throw (cls := cISE) (text := "the frame is empty") hl9 F w hT hl.1 (by decide +kernel) m_196 m_10 (by decide) tXg1 tXb1 tXo1 d_P_word_21 d_P_word_24 d_P_word_25 d_P_word_27 d_P_word_30 hex (Nat.le_of_ble_eq_true rfl) (Nat.le_of_ble_eq_true rfl) (Nat.le_of_ble_eq_true rfl) (Nat.le_of_ble_eq_true rfl) hlk (Nat.le_of_ble_eq_true rfl) (Nat.le_of_ble_eq_true rfl) (by unfold xWord; rw [if_neg c3, if_neg c6, if_pos c8]; exact ⟨by show (1 : Nat) ≠ 0; decide, rfl⟩)
def xFrame (σ : Mem) (f k : Int32) : Nat × Int32 × Mem :=
  if kBad 8 f then ((2, nI 0, σ))
  else if k = nI 0 then ((0, σ (f.toNatClampNeg + 9) 1, σ))
  else if k = nI 1 then ((0, σ (f.toNatClampNeg + 9) 2, σ))
  else if k = nI 2 then (if (σ (f.toNatClampNeg + 9) 3) = 0 then ((0, nI 0, σ))
    else (0, nI 1, σ))
  else if k = nI 3 then (if (kCh σ f.toNatClampNeg) = 0 then ((0, nI 0, σ))
    else (0, nI 1, σ))
  else if k = nI 4 then ((0, σ (f.toNatClampNeg + 9) 4, σ))
  else (2, nI 0, σ)
set_option maxHeartbeats 4000000 in
set_option maxRecDepth 100000 in
theorem c_P_frame (hl9 : l.stackTraces = false) (σ : Mem) (f k : Int32) : KXi l D clP (tyP cI cF cZ cJ) 25 (eP cI cF ad) ad y_P_frame b_P_frame 4 (some .int) { frames := 7, cells := 2, slots := 12, locals := 110 } [.ref (ad 0), .int f, .int k] σ (fun r σ' => xFrame σ f k = (0, r, σ')) (fun C => (xFrame σ f k).1 ≠ 0 ∧ C = xn (xFrame σ f k).1) := by
  refine KXi.of (by decide) (Nat.le_of_ble_eq_true rfl) ?_
  intro p e s m args below meth c A ls F w hT hl hr hlk hex
  obtain ⟨hx, hb, hml, hown, hts⟩ := id F
  have hl : lv_has ls 4 [(0, .ref (ad 0)), (1, .int f), (2, .int k)] := hl
  refine lv_iload_n hx hb d_P_frame_0 rfl (lv_at hl 1 rfl) ?_
  refine mr_xSv (As := [.int f]) F w hT hl.1 (c_P_requireFrame hl9 σ f) (cwS 1 hts g_P_frame_1 rfl rfl rfl (by decide +kernel) ⟨(Nat.le_of_ble_eq_true rfl), (Nat.le_of_ble_eq_true rfl)⟩) rfl rfl (Nat.le_of_ble_eq_true rfl) d_P_frame_1 ⟨(Nat.le_of_ble_eq_true rfl), (Nat.le_of_ble_eq_true rfl)⟩ (fun C9 h9 => by obtain ⟨rfl, h8⟩ := h9; unfold xFrame; rw [if_pos h8]; exact ⟨by show (2 : Nat) ≠ 0; decide, rfl⟩) hex hlk (Nat.le_of_ble_eq_true rfl) (Nat.le_of_ble_eq_true rfl) (fun σ1 H locs e2 w => ?_)
  have c3 := e2.2
  rw [e2.1] at w
  have hb4 : f.toNatClampNeg < 8 := (kBad_nat c3 (by decide)).1
  refine lv_aload_n hx hb d_P_frame_4 rfl (lv_at hl 0 rfl) ?_
  refine mr_get F w (kin in_P) 0 (by decide) rfl rfl 3 (by decide) (kws_in m_126) (fun _ h => h) rfl d_P_frame_5 ?_
  refine lv_iload_n hx hb d_P_frame_8 rfl (lv_at hl 1 rfl) ?_
  refine nr_as (k := f.toNatClampNeg) (kBad_nat c3 (by decide)).2 ?_
  refine mr_aldq F w 8 1 (by decide) rfl rfl f.toNatClampNeg hb4 (by decide) rfl rfl d_P_frame_9 ?_
  refine lv_astore_n (lv' := [(3, .ref (ad (f.toNatClampNeg + 9))), (0, .ref (ad 0)), (1, .int f), (2, .int k)]) hx hb d_P_frame_10 rfl hl (by decide) rfl (fun ls hl => ?_)
  refine lv_iload_n hx hb d_P_frame_11 rfl (lv_at hl 3 rfl) ?_
  rcases Classical.em (k = nI 0) with c5 | c5
  · refine nr_tabIn (tgt := 48) hx hb d_P_frame_12 c5 (by decide) (by decide) rfl (by decide) ?_
    refine lv_aload_n hx hb d_P_frame_48 rfl (lv_at hl 0 rfl) ?_
    refine mr_get F w (kin in_F) (f.toNatClampNeg + 9) (by omega) (eP_F hb4 _) rfl 1 (by decide) (kws_in m_105) (fun _ h => h) rfl d_P_frame_49 ?_
    exact mr_xiret F w hr hlk (Nat.le_of_ble_eq_true rfl) (Nat.le_of_ble_eq_true rfl) (by unfold xFrame; rw [if_neg c3, if_pos c5]) d_P_frame_52
  · rcases Classical.em (k = nI 1) with c6 | c6
    · refine nr_tabIn (tgt := 53) hx hb d_P_frame_12 c6 (by decide) (by decide) rfl (by decide) ?_
      refine lv_aload_n hx hb d_P_frame_53 rfl (lv_at hl 0 rfl) ?_
      refine mr_get F w (kin in_F) (f.toNatClampNeg + 9) (by omega) (eP_F hb4 _) rfl 2 (by decide) (kws_in m_107) (fun _ h => h) rfl d_P_frame_54 ?_
      exact mr_xiret F w hr hlk (Nat.le_of_ble_eq_true rfl) (Nat.le_of_ble_eq_true rfl) (by unfold xFrame; rw [if_neg c3, if_neg c5, if_pos c6]) d_P_frame_57
    · rcases Classical.em (k = nI 2) with c7 | c7
      · refine nr_tabIn (tgt := 58) hx hb d_P_frame_12 c7 (by decide) (by decide) rfl (by decide) ?_
        refine lv_aload_n hx hb d_P_frame_58 rfl (lv_at hl 0 rfl) ?_
        refine mr_get F w (kin in_F) (f.toNatClampNeg + 9) (by omega) (eP_F hb4 _) rfl 3 (by decide) (kws_in m_109) (fun _ h => h) rfl d_P_frame_59 ?_
        refine lv_if_eq (tgt := 69) hx hb d_P_frame_62 (by decide) (fun c8 => ?_) (fun c8 => ?_)
        · refine lv_iconst (v := nI 0) hx hb d_P_frame_69 (by decide) ?_
          exact mr_xiret F w hr hlk (Nat.le_of_ble_eq_true rfl) (Nat.le_of_ble_eq_true rfl) (by unfold xFrame; rw [if_neg c3, if_neg c5, if_neg c6, if_pos c7, if_pos c8]) d_P_frame_70
        · refine lv_iconst (v := nI 1) hx hb d_P_frame_65 (by decide) ?_
          refine lv_goto (tgt := 70) hx hb d_P_frame_66 (by decide) ?_
          exact mr_xiret F w hr hlk (Nat.le_of_ble_eq_true rfl) (Nat.le_of_ble_eq_true rfl) (by unfold xFrame; rw [if_neg c3, if_neg c5, if_neg c6, if_pos c7, if_neg c8]) d_P_frame_70
      · rcases Classical.em (k = nI 3) with c9 | c9
        · refine nr_tabIn (tgt := 71) hx hb d_P_frame_12 c9 (by decide) (by decide) rfl (by decide) ?_
          refine lv_aload_n hx hb d_P_frame_71 rfl (lv_at hl 0 rfl) ?_
          refine mr_callVi (As := []) F w hl.1 (c_F_isChanged σ f.toNatClampNeg hb4) (cwV 0 hts g_P_frame_72 rfl rfl rfl (by decide +kernel) ⟨Nat.le_of_ble_eq_true rfl, Nat.le_of_ble_eq_true rfl⟩) rfl (by omega) (eP_F hb4 _) rfl rfl (Nat.le_of_ble_eq_true rfl) d_P_frame_72 ⟨Nat.le_of_ble_eq_true rfl, Nat.le_of_ble_eq_true rfl⟩ (fun r10 σ11 H locs e12 w => ?_)
          obtain ⟨rfl, hs9⟩ := e12
          rw [hs9] at w
          clear hs9
          refine lv_if_eq (tgt := 82) hx hb d_P_frame_75 (by decide) (fun c13 => ?_) (fun c13 => ?_)
          · refine lv_iconst (v := nI 0) hx hb d_P_frame_82 (by decide) ?_
            exact mr_xiret F w hr hlk (Nat.le_of_ble_eq_true rfl) (Nat.le_of_ble_eq_true rfl) (by unfold xFrame; rw [if_neg c3, if_neg c5, if_neg c6, if_neg c7, if_pos c9, if_pos c13]) d_P_frame_83
          · refine lv_iconst (v := nI 1) hx hb d_P_frame_78 (by decide) ?_
            refine lv_goto (tgt := 83) hx hb d_P_frame_79 (by decide) ?_
            exact mr_xiret F w hr hlk (Nat.le_of_ble_eq_true rfl) (Nat.le_of_ble_eq_true rfl) (by unfold xFrame; rw [if_neg c3, if_neg c5, if_neg c6, if_neg c7, if_pos c9, if_neg c13]) d_P_frame_83
        · rcases Classical.em (k = nI 4) with c14 | c14
          · refine nr_tabIn (tgt := 84) hx hb d_P_frame_12 c14 (by decide) (by decide) rfl (by decide) ?_
            refine lv_aload_n hx hb d_P_frame_84 rfl (lv_at hl 0 rfl) ?_
            refine mr_get F w (kin in_F) (f.toNatClampNeg + 9) (by omega) (eP_F hb4 _) rfl 4 (by decide) (kws_in m_111) (fun _ h => h) rfl d_P_frame_85 ?_
            exact mr_xiret F w hr hlk (Nat.le_of_ble_eq_true rfl) (Nat.le_of_ble_eq_true rfl) (by unfold xFrame; rw [if_neg c3, if_neg c5, if_neg c6, if_neg c7, if_neg c9, if_pos c14]) d_P_frame_88
          · refine lv_tableOut (tgt := 89) hx hb d_P_frame_12 (tabOut 4 (by decide) (fun k9 hk9 => by rcases (show k9 = 0 ∨ k9 = 1 ∨ k9 = 2 ∨ k9 = 3 ∨ k9 = 4 by omega) with rfl | rfl | rfl | rfl | rfl <;> assumption)) (by decide) ?_
            exact mr_throw (cls := cIOB) (text := "a frame has no such thing") hl9 F w hT hl.1 (by decide +kernel) m_267 m_11 (by decide) tXg2 tXb2 tXo2 d_P_frame_89 d_P_frame_92 d_P_frame_93 d_P_frame_95 d_P_frame_98 hex (Nat.le_of_ble_eq_true rfl) (Nat.le_of_ble_eq_true rfl) (Nat.le_of_ble_eq_true rfl) (Nat.le_of_ble_eq_true rfl) hlk (Nat.le_of_ble_eq_true rfl) (Nat.le_of_ble_eq_true rfl) (by unfold xFrame; rw [if_neg c3, if_neg c5, if_neg c6, if_neg c7, if_neg c9, if_neg c14]; exact ⟨by show (2 : Nat) ≠ 0; decide, rfl⟩)
def xLog (σ : Mem) (k : Int32) : Nat × Int32 × Mem :=
  if k = nI 0 then ((0, σ 5 3, σ))
  else if k = nI 1 then ((0, σ 5 4, σ))
  else if k = nI 2 then ((0, σ 5 5, σ))
  else (2, nI 0, σ)
set_option maxHeartbeats 4000000 in
set_option maxRecDepth 100000 in
theorem c_P_log (hl9 : l.stackTraces = false) (σ : Mem) (k : Int32) : KXi l D clP (tyP cI cF cZ cJ) 25 (eP cI cF ad) ad y_P_log b_P_log 2 (some .int) { frames := 7, cells := 1, slots := 6, locals := 110 } [.ref (ad 0), .int k] σ (fun r σ' => xLog σ k = (0, r, σ')) (fun C => (xLog σ k).1 ≠ 0 ∧ C = xn (xLog σ k).1) := by
  refine KXi.of (by decide) (Nat.le_of_ble_eq_true rfl) ?_
  intro p e s m args below meth c A ls F w hT hl hr hlk hex
  obtain ⟨hx, hb, hml, hown, hts⟩ := id F
  have hl : lv_has ls 2 [(0, .ref (ad 0)), (1, .int k)] := hl
  refine lv_iload_n hx hb d_P_log_0 rfl (lv_at hl 1 rfl) ?_
  rcases Classical.em (k = nI 0) with c1 | c1
  · refine nr_tabIn (tgt := 28) hx hb d_P_log_1 c1 (by decide) (by decide) rfl (by decide) ?_
    refine lv_aload_n hx hb d_P_log_28 rfl (lv_at hl 0 rfl) ?_
    refine mr_get F w (kin in_P) 0 (by decide) rfl rfl 2 (by decide) (kws_in m_125) (fun _ h => h) rfl d_P_log_29 ?_
    refine mr_get F w (kin in_C) 5 (by decide) rfl rfl 3 (by decide) (kws_in m_77) (fun _ h => h) rfl d_P_log_32 ?_
    exact mr_xiret F w hr hlk (Nat.le_of_ble_eq_true rfl) (Nat.le_of_ble_eq_true rfl) (by unfold xLog; rw [if_pos c1]) d_P_log_35
  · rcases Classical.em (k = nI 1) with c2 | c2
    · refine nr_tabIn (tgt := 36) hx hb d_P_log_1 c2 (by decide) (by decide) rfl (by decide) ?_
      refine lv_aload_n hx hb d_P_log_36 rfl (lv_at hl 0 rfl) ?_
      refine mr_get F w (kin in_P) 0 (by decide) rfl rfl 2 (by decide) (kws_in m_125) (fun _ h => h) rfl d_P_log_37 ?_
      refine mr_get F w (kin in_C) 5 (by decide) rfl rfl 4 (by decide) (kws_in m_79) (fun _ h => h) rfl d_P_log_40 ?_
      exact mr_xiret F w hr hlk (Nat.le_of_ble_eq_true rfl) (Nat.le_of_ble_eq_true rfl) (by unfold xLog; rw [if_neg c1, if_pos c2]) d_P_log_43
    · rcases Classical.em (k = nI 2) with c3 | c3
      · refine nr_tabIn (tgt := 44) hx hb d_P_log_1 c3 (by decide) (by decide) rfl (by decide) ?_
        refine lv_aload_n hx hb d_P_log_44 rfl (lv_at hl 0 rfl) ?_
        refine mr_get F w (kin in_P) 0 (by decide) rfl rfl 2 (by decide) (kws_in m_125) (fun _ h => h) rfl d_P_log_45 ?_
        refine mr_get F w (kin in_C) 5 (by decide) rfl rfl 5 (by decide) (kws_in m_81) (fun _ h => h) rfl d_P_log_48 ?_
        exact mr_xiret F w hr hlk (Nat.le_of_ble_eq_true rfl) (Nat.le_of_ble_eq_true rfl) (by unfold xLog; rw [if_neg c1, if_neg c2, if_pos c3]) d_P_log_51
      · refine lv_tableOut (tgt := 52) hx hb d_P_log_1 (tabOut 2 (by decide) (fun k9 hk9 => by rcases (show k9 = 0 ∨ k9 = 1 ∨ k9 = 2 by omega) with rfl | rfl | rfl <;> assumption)) (by decide) ?_
        exact mr_throw (cls := cIOB) (text := "the log has no such place") hl9 F w hT hl.1 (by decide +kernel) m_267 m_11 (by decide) tXg2 tXb2 tXo2 d_P_log_52 d_P_log_55 d_P_log_56 d_P_log_58 d_P_log_61 hex (Nat.le_of_ble_eq_true rfl) (Nat.le_of_ble_eq_true rfl) (Nat.le_of_ble_eq_true rfl) (Nat.le_of_ble_eq_true rfl) hlk (Nat.le_of_ble_eq_true rfl) (Nat.le_of_ble_eq_true rfl) (by unfold xLog; rw [if_neg c1, if_neg c2, if_neg c3]; exact ⟨by show (2 : Nat) ≠ 0; decide, rfl⟩)
def xOnM (σ : Mem) (pg i : Int32) : Nat × Int32 × Mem :=
  if kBad 256 pg then ((2, nI 0, σ))
  else if kBad 64 i then ((2, nI 0, σ))
  else (0, σ 3 ((pg.toNatClampNeg * 64) + i.toNatClampNeg), σ)
set_option maxHeartbeats 4000000 in
set_option maxRecDepth 100000 in
theorem c_P_onMedium (hl9 : l.stackTraces = false) (σ : Mem) (pg i : Int32) : KXi l D clP (tyP cI cF cZ cJ) 25 (eP cI cF ad) ad y_P_onMedium b_P_onMedium 3 (some .int) { frames := 7, cells := 2, slots := 12, locals := 110 } [.ref (ad 0), .int pg, .int i] σ (fun r σ' => xOnM σ pg i = (0, r, σ')) (fun C => (xOnM σ pg i).1 ≠ 0 ∧ C = xn (xOnM σ pg i).1) := by
  refine KXi.of (by decide) (Nat.le_of_ble_eq_true rfl) ?_
  intro p e s m args below meth c A ls F w hT hl hr hlk hex
  obtain ⟨hx, hb, hml, hown, hts⟩ := id F
  have hl : lv_has ls 3 [(0, .ref (ad 0)), (1, .int pg), (2, .int i)] := hl
  refine lv_iload_n hx hb d_P_onMedium_0 rfl (lv_at hl 1 rfl) ?_
  refine mr_xSv (As := [.int pg]) F w hT hl.1 (c_P_requirePage hl9 σ pg) (cwS 1 hts g_P_onMedium_1 rfl rfl rfl (by decide +kernel) ⟨(Nat.le_of_ble_eq_true rfl), (Nat.le_of_ble_eq_true rfl)⟩) rfl rfl (Nat.le_of_ble_eq_true rfl) d_P_onMedium_1 ⟨(Nat.le_of_ble_eq_true rfl), (Nat.le_of_ble_eq_true rfl)⟩ (fun C9 h9 => by obtain ⟨rfl, h8⟩ := h9; unfold xOnM; rw [if_pos h8]; exact ⟨by show (2 : Nat) ≠ 0; decide, rfl⟩) hex hlk (Nat.le_of_ble_eq_true rfl) (Nat.le_of_ble_eq_true rfl) (fun σ1 H locs e2 w => ?_)
  have c3 := e2.2
  rw [e2.1] at w
  have hb4 : pg.toNatClampNeg < 256 := (kBad_nat c3 (by decide)).1
  refine lv_iload_n hx hb d_P_onMedium_4 rfl (lv_at hl 2 rfl) ?_
  refine mr_xSv (As := [.int i]) F w hT hl.1 (c_P_requireWord hl9 σ i) (cwS 1 hts g_P_onMedium_5 rfl rfl rfl (by decide +kernel) ⟨(Nat.le_of_ble_eq_true rfl), (Nat.le_of_ble_eq_true rfl)⟩) rfl rfl (Nat.le_of_ble_eq_true rfl) d_P_onMedium_5 ⟨(Nat.le_of_ble_eq_true rfl), (Nat.le_of_ble_eq_true rfl)⟩ (fun C9 h9 => by obtain ⟨rfl, h8⟩ := h9; unfold xOnM; rw [if_neg c3, if_pos h8]; exact ⟨by show (2 : Nat) ≠ 0; decide, rfl⟩) hex hlk (Nat.le_of_ble_eq_true rfl) (Nat.le_of_ble_eq_true rfl) (fun σ5 H locs e6 w => ?_)
  have c7 := e6.2
  rw [e6.1] at w
  have hb8 : i.toNatClampNeg < 64 := (kBad_nat c7 (by decide)).1
  refine lv_aload_n hx hb d_P_onMedium_8 rfl (lv_at hl 0 rfl) ?_
  refine mr_get F w (kin in_P) 0 (by decide) rfl rfl 1 (by decide) (kws_in m_124) (fun _ h => h) rfl d_P_onMedium_9 ?_
  refine mr_get F w (kin in_M) 2 (by decide) rfl rfl 1 (by decide) (kws_in m_50) (fun _ h => h) rfl d_P_onMedium_12 ?_
  refine lv_iload_n hx hb d_P_onMedium_15 rfl (lv_at hl 1 rfl) ?_
  refine nr_as (k := pg.toNatClampNeg) (kBad_nat c3 (by decide)).2 ?_
  refine lv_bipush (v := nI 64) hx hb d_P_onMedium_16 (by decide) ?_
  refine nr_imul hx hb d_P_onMedium_18 ?_
  refine lv_iload_n hx hb d_P_onMedium_19 rfl (lv_at hl 2 rfl) ?_
  refine nr_as (k := i.toNatClampNeg) (kBad_nat c7 (by decide)).2 ?_
  refine nr_iadd hx hb d_P_onMedium_20 ?_
  refine mr_iaN F w 3 0 (by decide) rfl rfl ((pg.toNatClampNeg * 64) + i.toNatClampNeg) (by omega) (by decide) rfl d_P_onMedium_21 ?_
  exact mr_xiret F w hr hlk (Nat.le_of_ble_eq_true rfl) (Nat.le_of_ble_eq_true rfl) (by unfold xOnM; rw [if_neg c3, if_neg c7]) d_P_onMedium_22
def xCutA (σ : Mem) (n : Int32) : Nat × Int32 × Mem :=
  if ((-1)) ≤ n then ((0, nI 0, mup σ 1 1 n))
  else (3, nI 0, σ)
set_option maxHeartbeats 4000000 in
set_option maxRecDepth 100000 in
theorem c_P_cutAfter (hl9 : l.stackTraces = false) (σ : Mem) (n : Int32) : KXv l D clP (tyP cI cF cZ cJ) 25 (eP cI cF ad) ad y_P_cutAfter b_P_cutAfter 2 { frames := 7, cells := 1, slots := 6, locals := 110 } [.ref (ad 0), .int n] σ (fun σ' => xCutA σ n = (0, nI 0, σ')) (fun C => (xCutA σ n).1 ≠ 0 ∧ C = xn (xCutA σ n).1) := by
  refine KXv.of (by decide) (Nat.le_of_ble_eq_true rfl) ?_
  intro p e s m args below meth c A ls F w hT hl hr hlk hex
  obtain ⟨hx, hb, hml, hown, hts⟩ := id F
  have hl : lv_has ls 2 [(0, .ref (ad 0)), (1, .int n)] := hl
  refine lv_iload_n hx hb d_P_cutAfter_0 rfl (lv_at hl 1 rfl) ?_
  refine lv_iconst (v := -1) hx hb d_P_cutAfter_1 (by decide) ?_
  refine lv_icmp_ge (tgt := 15) hx hb d_P_cutAfter_2 (by decide) (fun c1 => ?_) (fun c1 => ?_)
  · refine lv_aload_n hx hb d_P_cutAfter_15 rfl (lv_at hl 0 rfl) ?_
    refine mr_get F w (kin in_P) 0 (by decide) rfl rfl 0 (by decide) (kws_in m_123) (fun _ h => h) rfl d_P_cutAfter_16 ?_
    refine lv_iload_n hx hb d_P_cutAfter_19 rfl (lv_at hl 1 rfl) ?_
    refine mr_put F w (kin in_W) t_W t_W_ok n_W 1 (by decide) rfl rfl 1 (by decide) (kws_in m_32) (fun _ h => h) rfl rfl rfl (Nat.le_of_ble_eq_true rfl) rfl d_P_cutAfter_20 (fun H locs w => ?_)
    exact mr_xvret F w hr hlk (Nat.le_of_ble_eq_true rfl) (Nat.le_of_ble_eq_true rfl) (by unfold xCutA; rw [if_pos c1]) d_P_cutAfter_23
  · exact mr_throw (cls := cIAE) (text := "fewer than no writes") hl9 F w hT hl.1 (by decide +kernel) m_466 m_14 (by decide) tXg3 tXb3 tXo3 d_P_cutAfter_5 d_P_cutAfter_8 d_P_cutAfter_9 d_P_cutAfter_11 d_P_cutAfter_14 hex (Nat.le_of_ble_eq_true rfl) (Nat.le_of_ble_eq_true rfl) (Nat.le_of_ble_eq_true rfl) (Nat.le_of_ble_eq_true rfl) hlk (Nat.le_of_ble_eq_true rfl) (Nat.le_of_ble_eq_true rfl) (by unfold xCutA; rw [if_neg c1]; exact ⟨by show (3 : Nat) ≠ 0; decide, rfl⟩)
end
