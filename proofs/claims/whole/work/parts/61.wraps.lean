/-! The wrappers -/
theorem tc_1 : Cond.castable cISE cISE ∈ tXw := by decide +kernel
theorem tc_2 : Cond.castable cIOB cIOB ∈ tXw := by decide +kernel
theorem tc_3 : Cond.castable cIAE cIAE ∈ tXw := by decide +kernel
theorem tF_w {A : Nat → Prop} {s : State} {args : Array Value} {w : Cond} (hT : tF A s s.heap) (h : w ∈ tXw) : w.before args s = true := va_tabs (tXw_ok w h).1 rfl (hT.2.2.2 w h)
section
variable {l : Launch} {D : va_G} {cI cF cZ cJ : ClassId} {ad : Nat → Nat} {o : Nat}
theorem d_L_fix_0 : decode b_L_fix 0 = .ok (.aload_n 2, 1) := by decide +kernel
theorem d_L_fix_1 : decode b_L_fix 1 = .ok (.iconst 0, 1) := by decide +kernel
theorem d_L_fix_2 : decode b_L_fix 2 = .ok (.aload_n 0, 1) := by decide +kernel
theorem d_L_fix_3 : decode b_L_fix 3 = .ok (.iload_n 1, 1) := by decide +kernel
theorem d_L_fix_4 : decode b_L_fix 4 = .ok (.invokevirtual 7, 3) := by decide +kernel
theorem d_L_fix_7 : decode b_L_fix 7 = .ok (.i2l, 1) := by decide +kernel
theorem d_L_fix_8 : decode b_L_fix 8 = .ok (.lastore, 1) := by decide +kernel
theorem d_L_fix_9 : decode b_L_fix 9 = .ok (.goto 9, 3) := by decide +kernel
theorem d_L_fix_12 : decode b_L_fix 12 = .ok (.astore_n 3, 1) := by decide +kernel
theorem d_L_fix_13 : decode b_L_fix 13 = .ok (.iconst 1, 1) := by decide +kernel
theorem d_L_fix_14 : decode b_L_fix 14 = .ok (.ireturn, 1) := by decide +kernel
theorem d_L_fix_15 : decode b_L_fix 15 = .ok (.astore_n 3, 1) := by decide +kernel
theorem d_L_fix_16 : decode b_L_fix 16 = .ok (.iconst 2, 1) := by decide +kernel
theorem d_L_fix_17 : decode b_L_fix 17 = .ok (.ireturn, 1) := by decide +kernel
theorem d_L_fix_18 : decode b_L_fix 18 = .ok (.iconst 0, 1) := by decide +kernel
theorem d_L_fix_19 : decode b_L_fix 19 = .ok (.ireturn, 1) := by decide +kernel
set_option maxRecDepth 20000 in
theorem m_188 : Cond.methodLink "PagePoolLaw" 7 (⟨"PagePool", "fix", "(I)I"⟩ : MethodName) ∈ gt := gt_in 188 (by decide +kernel) (by decide +kernel)
set_option maxRecDepth 20000 in
theorem m_189 : Cond.instanceMethod (⟨"PagePool", "fix", "(I)I"⟩ : MethodName) ∈ gt := gt_in 189 (by decide +kernel) (by decide +kernel)
set_option maxRecDepth 20000 in
theorem m_190 : Cond.selects "PagePool" (⟨"PagePool", "fix", "(I)I"⟩ : MethodName) (⟨"PagePool", "fix", "(I)I"⟩ : MethodName) ∈ gt := gt_in 190 (by decide +kernel) (by decide +kernel)
set_option maxRecDepth 20000 in
theorem m_191 : Cond.code (⟨"PagePool", "fix", "(I)I"⟩ : MethodName) prog_1_method_2_code 2 (some .int) ∈ gt := gt_in 191 (by decide +kernel) (by decide +kernel)
set_option maxRecDepth 20000 in
theorem m_186 : Cond.classLink "PagePoolLaw" 13 "java/lang/IllegalStateException" ∈ gt := gt_in 186 (by decide +kernel) (by decide +kernel)
set_option maxRecDepth 20000 in
theorem m_187 : Cond.classLink "PagePoolLaw" 15 "java/lang/IndexOutOfBoundsException" ∈ gt := gt_in 187 (by decide +kernel) (by decide +kernel)
theorem d_L_unfix_0 : decode b_L_unfix 0 = .ok (.aload_n 2, 1) := by decide +kernel
theorem d_L_unfix_1 : decode b_L_unfix 1 = .ok (.iconst 0, 1) := by decide +kernel
theorem d_L_unfix_2 : decode b_L_unfix 2 = .ok (.aload_n 0, 1) := by decide +kernel
theorem d_L_unfix_3 : decode b_L_unfix 3 = .ok (.iload_n 1, 1) := by decide +kernel
theorem d_L_unfix_4 : decode b_L_unfix 4 = .ok (.invokevirtual 17, 3) := by decide +kernel
theorem d_L_unfix_7 : decode b_L_unfix 7 = .ok (.i2l, 1) := by decide +kernel
theorem d_L_unfix_8 : decode b_L_unfix 8 = .ok (.lastore, 1) := by decide +kernel
theorem d_L_unfix_9 : decode b_L_unfix 9 = .ok (.goto 9, 3) := by decide +kernel
theorem d_L_unfix_12 : decode b_L_unfix 12 = .ok (.astore_n 3, 1) := by decide +kernel
theorem d_L_unfix_13 : decode b_L_unfix 13 = .ok (.iconst 1, 1) := by decide +kernel
theorem d_L_unfix_14 : decode b_L_unfix 14 = .ok (.ireturn, 1) := by decide +kernel
theorem d_L_unfix_15 : decode b_L_unfix 15 = .ok (.astore_n 3, 1) := by decide +kernel
theorem d_L_unfix_16 : decode b_L_unfix 16 = .ok (.iconst 2, 1) := by decide +kernel
theorem d_L_unfix_17 : decode b_L_unfix 17 = .ok (.ireturn, 1) := by decide +kernel
theorem d_L_unfix_18 : decode b_L_unfix 18 = .ok (.iconst 0, 1) := by decide +kernel
theorem d_L_unfix_19 : decode b_L_unfix 19 = .ok (.ireturn, 1) := by decide +kernel
set_option maxRecDepth 20000 in
theorem m_335 : Cond.methodLink "PagePoolLaw" 17 (⟨"PagePool", "unfix", "(I)I"⟩ : MethodName) ∈ gt := gt_in 335 (by decide +kernel) (by decide +kernel)
set_option maxRecDepth 20000 in
theorem m_336 : Cond.instanceMethod (⟨"PagePool", "unfix", "(I)I"⟩ : MethodName) ∈ gt := gt_in 336 (by decide +kernel) (by decide +kernel)
set_option maxRecDepth 20000 in
theorem m_337 : Cond.selects "PagePool" (⟨"PagePool", "unfix", "(I)I"⟩ : MethodName) (⟨"PagePool", "unfix", "(I)I"⟩ : MethodName) ∈ gt := gt_in 337 (by decide +kernel) (by decide +kernel)
set_option maxRecDepth 20000 in
theorem m_338 : Cond.code (⟨"PagePool", "unfix", "(I)I"⟩ : MethodName) prog_1_method_3_code 2 (some .int) ∈ gt := gt_in 338 (by decide +kernel) (by decide +kernel)
theorem d_L_change_0 : decode b_L_change 0 = .ok (.aload 4, 2) := by decide +kernel
theorem d_L_change_2 : decode b_L_change 2 = .ok (.iconst 0, 1) := by decide +kernel
theorem d_L_change_3 : decode b_L_change 3 = .ok (.aload_n 0, 1) := by decide +kernel
theorem d_L_change_4 : decode b_L_change 4 = .ok (.iload_n 1, 1) := by decide +kernel
theorem d_L_change_5 : decode b_L_change 5 = .ok (.iload_n 2, 1) := by decide +kernel
theorem d_L_change_6 : decode b_L_change 6 = .ok (.iload_n 3, 1) := by decide +kernel
theorem d_L_change_7 : decode b_L_change 7 = .ok (.invokevirtual 20, 3) := by decide +kernel
theorem d_L_change_10 : decode b_L_change 10 = .ok (.i2l, 1) := by decide +kernel
theorem d_L_change_11 : decode b_L_change 11 = .ok (.lastore, 1) := by decide +kernel
theorem d_L_change_12 : decode b_L_change 12 = .ok (.goto 11, 3) := by decide +kernel
theorem d_L_change_15 : decode b_L_change 15 = .ok (.astore 5, 2) := by decide +kernel
theorem d_L_change_17 : decode b_L_change 17 = .ok (.iconst 1, 1) := by decide +kernel
theorem d_L_change_18 : decode b_L_change 18 = .ok (.ireturn, 1) := by decide +kernel
theorem d_L_change_19 : decode b_L_change 19 = .ok (.astore 5, 2) := by decide +kernel
theorem d_L_change_21 : decode b_L_change 21 = .ok (.iconst 2, 1) := by decide +kernel
theorem d_L_change_22 : decode b_L_change 22 = .ok (.ireturn, 1) := by decide +kernel
theorem d_L_change_23 : decode b_L_change 23 = .ok (.iconst 0, 1) := by decide +kernel
theorem d_L_change_24 : decode b_L_change 24 = .ok (.ireturn, 1) := by decide +kernel
set_option maxRecDepth 20000 in
theorem m_351 : Cond.methodLink "PagePoolLaw" 20 (⟨"PagePool", "change", "(III)I"⟩ : MethodName) ∈ gt := gt_in 351 (by decide +kernel) (by decide +kernel)
set_option maxRecDepth 20000 in
theorem m_352 : Cond.instanceMethod (⟨"PagePool", "change", "(III)I"⟩ : MethodName) ∈ gt := gt_in 352 (by decide +kernel) (by decide +kernel)
set_option maxRecDepth 20000 in
theorem m_353 : Cond.selects "PagePool" (⟨"PagePool", "change", "(III)I"⟩ : MethodName) (⟨"PagePool", "change", "(III)I"⟩ : MethodName) ∈ gt := gt_in 353 (by decide +kernel) (by decide +kernel)
set_option maxRecDepth 20000 in
theorem m_354 : Cond.code (⟨"PagePool", "change", "(III)I"⟩ : MethodName) prog_1_method_4_code 5 (some .int) ∈ gt := gt_in 354 (by decide +kernel) (by decide +kernel)
theorem d_L_word_0 : decode b_L_word 0 = .ok (.aload_n 3, 1) := by decide +kernel
theorem d_L_word_1 : decode b_L_word 1 = .ok (.iconst 0, 1) := by decide +kernel
theorem d_L_word_2 : decode b_L_word 2 = .ok (.aload_n 0, 1) := by decide +kernel
theorem d_L_word_3 : decode b_L_word 3 = .ok (.iload_n 1, 1) := by decide +kernel
theorem d_L_word_4 : decode b_L_word 4 = .ok (.iload_n 2, 1) := by decide +kernel
theorem d_L_word_5 : decode b_L_word 5 = .ok (.invokevirtual 24, 3) := by decide +kernel
theorem d_L_word_8 : decode b_L_word 8 = .ok (.i2l, 1) := by decide +kernel
theorem d_L_word_9 : decode b_L_word 9 = .ok (.lastore, 1) := by decide +kernel
theorem d_L_word_10 : decode b_L_word 10 = .ok (.goto 11, 3) := by decide +kernel
theorem d_L_word_13 : decode b_L_word 13 = .ok (.astore 4, 2) := by decide +kernel
theorem d_L_word_15 : decode b_L_word 15 = .ok (.iconst 1, 1) := by decide +kernel
theorem d_L_word_16 : decode b_L_word 16 = .ok (.ireturn, 1) := by decide +kernel
theorem d_L_word_17 : decode b_L_word 17 = .ok (.astore 4, 2) := by decide +kernel
theorem d_L_word_19 : decode b_L_word 19 = .ok (.iconst 2, 1) := by decide +kernel
theorem d_L_word_20 : decode b_L_word 20 = .ok (.ireturn, 1) := by decide +kernel
theorem d_L_word_21 : decode b_L_word 21 = .ok (.iconst 0, 1) := by decide +kernel
theorem d_L_word_22 : decode b_L_word 22 = .ok (.ireturn, 1) := by decide +kernel
set_option maxRecDepth 20000 in
theorem m_379 : Cond.methodLink "PagePoolLaw" 24 (⟨"PagePool", "word", "(II)I"⟩ : MethodName) ∈ gt := gt_in 379 (by decide +kernel) (by decide +kernel)
set_option maxRecDepth 20000 in
theorem m_380 : Cond.instanceMethod (⟨"PagePool", "word", "(II)I"⟩ : MethodName) ∈ gt := gt_in 380 (by decide +kernel) (by decide +kernel)
set_option maxRecDepth 20000 in
theorem m_381 : Cond.selects "PagePool" (⟨"PagePool", "word", "(II)I"⟩ : MethodName) (⟨"PagePool", "word", "(II)I"⟩ : MethodName) ∈ gt := gt_in 381 (by decide +kernel) (by decide +kernel)
set_option maxRecDepth 20000 in
theorem m_382 : Cond.code (⟨"PagePool", "word", "(II)I"⟩ : MethodName) prog_1_method_5_code 3 (some .int) ∈ gt := gt_in 382 (by decide +kernel) (by decide +kernel)
theorem d_L_frame_0 : decode b_L_frame 0 = .ok (.aload_n 3, 1) := by decide +kernel
theorem d_L_frame_1 : decode b_L_frame 1 = .ok (.iconst 0, 1) := by decide +kernel
theorem d_L_frame_2 : decode b_L_frame 2 = .ok (.aload_n 0, 1) := by decide +kernel
theorem d_L_frame_3 : decode b_L_frame 3 = .ok (.iload_n 1, 1) := by decide +kernel
theorem d_L_frame_4 : decode b_L_frame 4 = .ok (.iload_n 2, 1) := by decide +kernel
theorem d_L_frame_5 : decode b_L_frame 5 = .ok (.invokevirtual 28, 3) := by decide +kernel
theorem d_L_frame_8 : decode b_L_frame 8 = .ok (.i2l, 1) := by decide +kernel
theorem d_L_frame_9 : decode b_L_frame 9 = .ok (.lastore, 1) := by decide +kernel
theorem d_L_frame_10 : decode b_L_frame 10 = .ok (.goto 7, 3) := by decide +kernel
theorem d_L_frame_13 : decode b_L_frame 13 = .ok (.astore 4, 2) := by decide +kernel
theorem d_L_frame_15 : decode b_L_frame 15 = .ok (.iconst 1, 1) := by decide +kernel
theorem d_L_frame_16 : decode b_L_frame 16 = .ok (.ireturn, 1) := by decide +kernel
theorem d_L_frame_17 : decode b_L_frame 17 = .ok (.iconst 0, 1) := by decide +kernel
theorem d_L_frame_18 : decode b_L_frame 18 = .ok (.ireturn, 1) := by decide +kernel
set_option maxRecDepth 20000 in
theorem m_387 : Cond.methodLink "PagePoolLaw" 28 (⟨"PagePool", "frame", "(II)I"⟩ : MethodName) ∈ gt := gt_in 387 (by decide +kernel) (by decide +kernel)
set_option maxRecDepth 20000 in
theorem m_388 : Cond.instanceMethod (⟨"PagePool", "frame", "(II)I"⟩ : MethodName) ∈ gt := gt_in 388 (by decide +kernel) (by decide +kernel)
set_option maxRecDepth 20000 in
theorem m_389 : Cond.selects "PagePool" (⟨"PagePool", "frame", "(II)I"⟩ : MethodName) (⟨"PagePool", "frame", "(II)I"⟩ : MethodName) ∈ gt := gt_in 389 (by decide +kernel) (by decide +kernel)
set_option maxRecDepth 20000 in
theorem m_390 : Cond.code (⟨"PagePool", "frame", "(II)I"⟩ : MethodName) prog_1_method_6_code 4 (some .int) ∈ gt := gt_in 390 (by decide +kernel) (by decide +kernel)
theorem d_L_flush_0 : decode b_L_flush 0 = .ok (.aload_n 2, 1) := by decide +kernel
theorem d_L_flush_1 : decode b_L_flush 1 = .ok (.iconst 0, 1) := by decide +kernel
theorem d_L_flush_2 : decode b_L_flush 2 = .ok (.aload_n 0, 1) := by decide +kernel
theorem d_L_flush_3 : decode b_L_flush 3 = .ok (.iload_n 1, 1) := by decide +kernel
theorem d_L_flush_4 : decode b_L_flush 4 = .ok (.invokevirtual 31, 3) := by decide +kernel
theorem d_L_flush_7 : decode b_L_flush 7 = .ok (.i2l, 1) := by decide +kernel
theorem d_L_flush_8 : decode b_L_flush 8 = .ok (.lastore, 1) := by decide +kernel
theorem d_L_flush_9 : decode b_L_flush 9 = .ok (.goto 9, 3) := by decide +kernel
theorem d_L_flush_12 : decode b_L_flush 12 = .ok (.astore_n 3, 1) := by decide +kernel
theorem d_L_flush_13 : decode b_L_flush 13 = .ok (.iconst 1, 1) := by decide +kernel
theorem d_L_flush_14 : decode b_L_flush 14 = .ok (.ireturn, 1) := by decide +kernel
theorem d_L_flush_15 : decode b_L_flush 15 = .ok (.astore_n 3, 1) := by decide +kernel
theorem d_L_flush_16 : decode b_L_flush 16 = .ok (.iconst 2, 1) := by decide +kernel
theorem d_L_flush_17 : decode b_L_flush 17 = .ok (.ireturn, 1) := by decide +kernel
theorem d_L_flush_18 : decode b_L_flush 18 = .ok (.iconst 0, 1) := by decide +kernel
theorem d_L_flush_19 : decode b_L_flush 19 = .ok (.ireturn, 1) := by decide +kernel
set_option maxRecDepth 20000 in
theorem m_395 : Cond.methodLink "PagePoolLaw" 31 (⟨"PagePool", "flush", "(I)I"⟩ : MethodName) ∈ gt := gt_in 395 (by decide +kernel) (by decide +kernel)
set_option maxRecDepth 20000 in
theorem m_396 : Cond.instanceMethod (⟨"PagePool", "flush", "(I)I"⟩ : MethodName) ∈ gt := gt_in 396 (by decide +kernel) (by decide +kernel)
set_option maxRecDepth 20000 in
theorem m_397 : Cond.selects "PagePool" (⟨"PagePool", "flush", "(I)I"⟩ : MethodName) (⟨"PagePool", "flush", "(I)I"⟩ : MethodName) ∈ gt := gt_in 397 (by decide +kernel) (by decide +kernel)
set_option maxRecDepth 20000 in
theorem m_398 : Cond.code (⟨"PagePool", "flush", "(I)I"⟩ : MethodName) prog_1_method_7_code 3 (some .int) ∈ gt := gt_in 398 (by decide +kernel) (by decide +kernel)
theorem d_L_flushOldest_0 : decode b_L_flushOldest 0 = .ok (.aload_n 1, 1) := by decide +kernel
theorem d_L_flushOldest_1 : decode b_L_flushOldest 1 = .ok (.iconst 0, 1) := by decide +kernel
theorem d_L_flushOldest_2 : decode b_L_flushOldest 2 = .ok (.aload_n 0, 1) := by decide +kernel
theorem d_L_flushOldest_3 : decode b_L_flushOldest 3 = .ok (.invokevirtual 34, 3) := by decide +kernel
theorem d_L_flushOldest_6 : decode b_L_flushOldest 6 = .ok (.i2l, 1) := by decide +kernel
theorem d_L_flushOldest_7 : decode b_L_flushOldest 7 = .ok (.lastore, 1) := by decide +kernel
theorem d_L_flushOldest_8 : decode b_L_flushOldest 8 = .ok (.goto 6, 3) := by decide +kernel
theorem d_L_flushOldest_11 : decode b_L_flushOldest 11 = .ok (.astore_n 2, 1) := by decide +kernel
theorem d_L_flushOldest_12 : decode b_L_flushOldest 12 = .ok (.iconst 1, 1) := by decide +kernel
theorem d_L_flushOldest_13 : decode b_L_flushOldest 13 = .ok (.ireturn, 1) := by decide +kernel
theorem d_L_flushOldest_14 : decode b_L_flushOldest 14 = .ok (.iconst 0, 1) := by decide +kernel
theorem d_L_flushOldest_15 : decode b_L_flushOldest 15 = .ok (.ireturn, 1) := by decide +kernel
set_option maxRecDepth 20000 in
theorem m_402 : Cond.methodLink "PagePoolLaw" 34 (⟨"PagePool", "flushOldest", "()I"⟩ : MethodName) ∈ gt := gt_in 402 (by decide +kernel) (by decide +kernel)
set_option maxRecDepth 20000 in
theorem m_403 : Cond.instanceMethod (⟨"PagePool", "flushOldest", "()I"⟩ : MethodName) ∈ gt := gt_in 403 (by decide +kernel) (by decide +kernel)
set_option maxRecDepth 20000 in
theorem m_404 : Cond.selects "PagePool" (⟨"PagePool", "flushOldest", "()I"⟩ : MethodName) (⟨"PagePool", "flushOldest", "()I"⟩ : MethodName) ∈ gt := gt_in 404 (by decide +kernel) (by decide +kernel)
set_option maxRecDepth 20000 in
theorem m_405 : Cond.code (⟨"PagePool", "flushOldest", "()I"⟩ : MethodName) prog_1_method_8_code 3 (some .int) ∈ gt := gt_in 405 (by decide +kernel) (by decide +kernel)
theorem d_L_force_0 : decode b_L_force 0 = .ok (.aload_n 1, 1) := by decide +kernel
theorem d_L_force_1 : decode b_L_force 1 = .ok (.iconst 0, 1) := by decide +kernel
theorem d_L_force_2 : decode b_L_force 2 = .ok (.aload_n 0, 1) := by decide +kernel
theorem d_L_force_3 : decode b_L_force 3 = .ok (.invokevirtual 38, 3) := by decide +kernel
theorem d_L_force_6 : decode b_L_force 6 = .ok (.i2l, 1) := by decide +kernel
theorem d_L_force_7 : decode b_L_force 7 = .ok (.lastore, 1) := by decide +kernel
theorem d_L_force_8 : decode b_L_force 8 = .ok (.goto 6, 3) := by decide +kernel
theorem d_L_force_11 : decode b_L_force 11 = .ok (.astore_n 2, 1) := by decide +kernel
theorem d_L_force_12 : decode b_L_force 12 = .ok (.iconst 1, 1) := by decide +kernel
theorem d_L_force_13 : decode b_L_force 13 = .ok (.ireturn, 1) := by decide +kernel
theorem d_L_force_14 : decode b_L_force 14 = .ok (.iconst 0, 1) := by decide +kernel
theorem d_L_force_15 : decode b_L_force 15 = .ok (.ireturn, 1) := by decide +kernel
set_option maxRecDepth 20000 in
theorem m_410 : Cond.methodLink "PagePoolLaw" 38 (⟨"PagePool", "force", "()I"⟩ : MethodName) ∈ gt := gt_in 410 (by decide +kernel) (by decide +kernel)
set_option maxRecDepth 20000 in
theorem m_411 : Cond.instanceMethod (⟨"PagePool", "force", "()I"⟩ : MethodName) ∈ gt := gt_in 411 (by decide +kernel) (by decide +kernel)
set_option maxRecDepth 20000 in
theorem m_412 : Cond.selects "PagePool" (⟨"PagePool", "force", "()I"⟩ : MethodName) (⟨"PagePool", "force", "()I"⟩ : MethodName) ∈ gt := gt_in 412 (by decide +kernel) (by decide +kernel)
set_option maxRecDepth 20000 in
theorem m_413 : Cond.code (⟨"PagePool", "force", "()I"⟩ : MethodName) prog_1_method_9_code 2 (some .int) ∈ gt := gt_in 413 (by decide +kernel) (by decide +kernel)
theorem d_L_trim_0 : decode b_L_trim 0 = .ok (.aload_n 1, 1) := by decide +kernel
theorem d_L_trim_1 : decode b_L_trim 1 = .ok (.iconst 0, 1) := by decide +kernel
theorem d_L_trim_2 : decode b_L_trim 2 = .ok (.aload_n 0, 1) := by decide +kernel
theorem d_L_trim_3 : decode b_L_trim 3 = .ok (.invokevirtual 41, 3) := by decide +kernel
theorem d_L_trim_6 : decode b_L_trim 6 = .ok (.i2l, 1) := by decide +kernel
theorem d_L_trim_7 : decode b_L_trim 7 = .ok (.lastore, 1) := by decide +kernel
theorem d_L_trim_8 : decode b_L_trim 8 = .ok (.goto 6, 3) := by decide +kernel
theorem d_L_trim_11 : decode b_L_trim 11 = .ok (.astore_n 2, 1) := by decide +kernel
theorem d_L_trim_12 : decode b_L_trim 12 = .ok (.iconst 1, 1) := by decide +kernel
theorem d_L_trim_13 : decode b_L_trim 13 = .ok (.ireturn, 1) := by decide +kernel
theorem d_L_trim_14 : decode b_L_trim 14 = .ok (.iconst 0, 1) := by decide +kernel
theorem d_L_trim_15 : decode b_L_trim 15 = .ok (.ireturn, 1) := by decide +kernel
set_option maxRecDepth 20000 in
theorem m_417 : Cond.methodLink "PagePoolLaw" 41 (⟨"PagePool", "trim", "()I"⟩ : MethodName) ∈ gt := gt_in 417 (by decide +kernel) (by decide +kernel)
set_option maxRecDepth 20000 in
theorem m_418 : Cond.instanceMethod (⟨"PagePool", "trim", "()I"⟩ : MethodName) ∈ gt := gt_in 418 (by decide +kernel) (by decide +kernel)
set_option maxRecDepth 20000 in
theorem m_419 : Cond.selects "PagePool" (⟨"PagePool", "trim", "()I"⟩ : MethodName) (⟨"PagePool", "trim", "()I"⟩ : MethodName) ∈ gt := gt_in 419 (by decide +kernel) (by decide +kernel)
set_option maxRecDepth 20000 in
theorem m_420 : Cond.code (⟨"PagePool", "trim", "()I"⟩ : MethodName) prog_1_method_10_code 3 (some .int) ∈ gt := gt_in 420 (by decide +kernel) (by decide +kernel)
theorem d_L_log_0 : decode b_L_log 0 = .ok (.aload_n 2, 1) := by decide +kernel
theorem d_L_log_1 : decode b_L_log 1 = .ok (.iconst 0, 1) := by decide +kernel
theorem d_L_log_2 : decode b_L_log 2 = .ok (.aload_n 0, 1) := by decide +kernel
theorem d_L_log_3 : decode b_L_log 3 = .ok (.iload_n 1, 1) := by decide +kernel
theorem d_L_log_4 : decode b_L_log 4 = .ok (.invokevirtual 44, 3) := by decide +kernel
theorem d_L_log_7 : decode b_L_log 7 = .ok (.i2l, 1) := by decide +kernel
theorem d_L_log_8 : decode b_L_log 8 = .ok (.lastore, 1) := by decide +kernel
theorem d_L_log_9 : decode b_L_log 9 = .ok (.goto 6, 3) := by decide +kernel
theorem d_L_log_12 : decode b_L_log 12 = .ok (.astore_n 3, 1) := by decide +kernel
theorem d_L_log_13 : decode b_L_log 13 = .ok (.iconst 1, 1) := by decide +kernel
theorem d_L_log_14 : decode b_L_log 14 = .ok (.ireturn, 1) := by decide +kernel
theorem d_L_log_15 : decode b_L_log 15 = .ok (.iconst 0, 1) := by decide +kernel
theorem d_L_log_16 : decode b_L_log 16 = .ok (.ireturn, 1) := by decide +kernel
set_option maxRecDepth 20000 in
theorem m_446 : Cond.methodLink "PagePoolLaw" 44 (⟨"PagePool", "log", "(I)I"⟩ : MethodName) ∈ gt := gt_in 446 (by decide +kernel) (by decide +kernel)
set_option maxRecDepth 20000 in
theorem m_447 : Cond.instanceMethod (⟨"PagePool", "log", "(I)I"⟩ : MethodName) ∈ gt := gt_in 447 (by decide +kernel) (by decide +kernel)
set_option maxRecDepth 20000 in
theorem m_448 : Cond.selects "PagePool" (⟨"PagePool", "log", "(I)I"⟩ : MethodName) (⟨"PagePool", "log", "(I)I"⟩ : MethodName) ∈ gt := gt_in 448 (by decide +kernel) (by decide +kernel)
set_option maxRecDepth 20000 in
theorem m_449 : Cond.code (⟨"PagePool", "log", "(I)I"⟩ : MethodName) prog_1_method_13_code 2 (some .int) ∈ gt := gt_in 449 (by decide +kernel) (by decide +kernel)
theorem d_L_onMedium_0 : decode b_L_onMedium 0 = .ok (.aload_n 3, 1) := by decide +kernel
theorem d_L_onMedium_1 : decode b_L_onMedium 1 = .ok (.iconst 0, 1) := by decide +kernel
theorem d_L_onMedium_2 : decode b_L_onMedium 2 = .ok (.aload_n 0, 1) := by decide +kernel
theorem d_L_onMedium_3 : decode b_L_onMedium 3 = .ok (.iload_n 1, 1) := by decide +kernel
theorem d_L_onMedium_4 : decode b_L_onMedium 4 = .ok (.iload_n 2, 1) := by decide +kernel
theorem d_L_onMedium_5 : decode b_L_onMedium 5 = .ok (.invokevirtual 47, 3) := by decide +kernel
theorem d_L_onMedium_8 : decode b_L_onMedium 8 = .ok (.i2l, 1) := by decide +kernel
theorem d_L_onMedium_9 : decode b_L_onMedium 9 = .ok (.lastore, 1) := by decide +kernel
theorem d_L_onMedium_10 : decode b_L_onMedium 10 = .ok (.goto 7, 3) := by decide +kernel
theorem d_L_onMedium_13 : decode b_L_onMedium 13 = .ok (.astore 4, 2) := by decide +kernel
theorem d_L_onMedium_15 : decode b_L_onMedium 15 = .ok (.iconst 1, 1) := by decide +kernel
theorem d_L_onMedium_16 : decode b_L_onMedium 16 = .ok (.ireturn, 1) := by decide +kernel
theorem d_L_onMedium_17 : decode b_L_onMedium 17 = .ok (.iconst 0, 1) := by decide +kernel
theorem d_L_onMedium_18 : decode b_L_onMedium 18 = .ok (.ireturn, 1) := by decide +kernel
set_option maxRecDepth 20000 in
theorem m_454 : Cond.methodLink "PagePoolLaw" 47 (⟨"PagePool", "onMedium", "(II)I"⟩ : MethodName) ∈ gt := gt_in 454 (by decide +kernel) (by decide +kernel)
set_option maxRecDepth 20000 in
theorem m_455 : Cond.instanceMethod (⟨"PagePool", "onMedium", "(II)I"⟩ : MethodName) ∈ gt := gt_in 455 (by decide +kernel) (by decide +kernel)
set_option maxRecDepth 20000 in
theorem m_456 : Cond.selects "PagePool" (⟨"PagePool", "onMedium", "(II)I"⟩ : MethodName) (⟨"PagePool", "onMedium", "(II)I"⟩ : MethodName) ∈ gt := gt_in 456 (by decide +kernel) (by decide +kernel)
set_option maxRecDepth 20000 in
theorem m_457 : Cond.code (⟨"PagePool", "onMedium", "(II)I"⟩ : MethodName) prog_1_method_14_code 3 (some .int) ∈ gt := gt_in 457 (by decide +kernel) (by decide +kernel)
theorem d_L_cutAfter_0 : decode b_L_cutAfter 0 = .ok (.aload_n 0, 1) := by decide +kernel
theorem d_L_cutAfter_1 : decode b_L_cutAfter 1 = .ok (.iload_n 1, 1) := by decide +kernel
theorem d_L_cutAfter_2 : decode b_L_cutAfter 2 = .ok (.invokevirtual 50, 3) := by decide +kernel
theorem d_L_cutAfter_5 : decode b_L_cutAfter 5 = .ok (.goto 6, 3) := by decide +kernel
theorem d_L_cutAfter_8 : decode b_L_cutAfter 8 = .ok (.astore_n 2, 1) := by decide +kernel
theorem d_L_cutAfter_9 : decode b_L_cutAfter 9 = .ok (.iconst 1, 1) := by decide +kernel
theorem d_L_cutAfter_10 : decode b_L_cutAfter 10 = .ok (.ireturn, 1) := by decide +kernel
theorem d_L_cutAfter_11 : decode b_L_cutAfter 11 = .ok (.iconst 0, 1) := by decide +kernel
theorem d_L_cutAfter_12 : decode b_L_cutAfter 12 = .ok (.ireturn, 1) := by decide +kernel
set_option maxRecDepth 20000 in
theorem m_462 : Cond.methodLink "PagePoolLaw" 50 (⟨"PagePool", "cutAfter", "(I)V"⟩ : MethodName) ∈ gt := gt_in 462 (by decide +kernel) (by decide +kernel)
set_option maxRecDepth 20000 in
theorem m_463 : Cond.instanceMethod (⟨"PagePool", "cutAfter", "(I)V"⟩ : MethodName) ∈ gt := gt_in 463 (by decide +kernel) (by decide +kernel)
set_option maxRecDepth 20000 in
theorem m_464 : Cond.selects "PagePool" (⟨"PagePool", "cutAfter", "(I)V"⟩ : MethodName) (⟨"PagePool", "cutAfter", "(I)V"⟩ : MethodName) ∈ gt := gt_in 464 (by decide +kernel) (by decide +kernel)
set_option maxRecDepth 20000 in
theorem m_465 : Cond.code (⟨"PagePool", "cutAfter", "(I)V"⟩ : MethodName) prog_1_method_17_code 2 none ∈ gt := gt_in 465 (by decide +kernel) (by decide +kernel)
set_option maxRecDepth 20000 in
theorem m_461 : Cond.classLink "PagePoolLaw" 54 "java/lang/IllegalArgumentException" ∈ gt := gt_in 461 (by decide +kernel) (by decide +kernel)
theorem d_L_start_0 : decode b_L_start 0 = .ok (.aload_n 1, 1) := by decide +kernel
theorem d_L_start_1 : decode b_L_start 1 = .ok (.iconst 0, 1) := by decide +kernel
theorem d_L_start_2 : decode b_L_start 2 = .ok (.aload_n 0, 1) := by decide +kernel
theorem d_L_start_3 : decode b_L_start 3 = .ok (.invokevirtual 56, 3) := by decide +kernel
theorem d_L_start_6 : decode b_L_start 6 = .ok (.i2l, 1) := by decide +kernel
theorem d_L_start_7 : decode b_L_start 7 = .ok (.lastore, 1) := by decide +kernel
theorem d_L_start_8 : decode b_L_start 8 = .ok (.goto 6, 3) := by decide +kernel
theorem d_L_start_11 : decode b_L_start 11 = .ok (.astore_n 2, 1) := by decide +kernel
theorem d_L_start_12 : decode b_L_start 12 = .ok (.iconst 1, 1) := by decide +kernel
theorem d_L_start_13 : decode b_L_start 13 = .ok (.ireturn, 1) := by decide +kernel
theorem d_L_start_14 : decode b_L_start 14 = .ok (.iconst 0, 1) := by decide +kernel
theorem d_L_start_15 : decode b_L_start 15 = .ok (.ireturn, 1) := by decide +kernel
set_option maxRecDepth 20000 in
theorem m_485 : Cond.methodLink "PagePoolLaw" 56 (⟨"PagePool", "start", "()I"⟩ : MethodName) ∈ gt := gt_in 485 (by decide +kernel) (by decide +kernel)
set_option maxRecDepth 20000 in
theorem m_486 : Cond.instanceMethod (⟨"PagePool", "start", "()I"⟩ : MethodName) ∈ gt := gt_in 486 (by decide +kernel) (by decide +kernel)
set_option maxRecDepth 20000 in
theorem m_487 : Cond.selects "PagePool" (⟨"PagePool", "start", "()I"⟩ : MethodName) (⟨"PagePool", "start", "()I"⟩ : MethodName) ∈ gt := gt_in 487 (by decide +kernel) (by decide +kernel)
set_option maxRecDepth 20000 in
theorem m_488 : Cond.code (⟨"PagePool", "start", "()I"⟩ : MethodName) prog_1_method_19_code 5 (some .int) ∈ gt := gt_in 488 (by decide +kernel) (by decide +kernel)
set_option maxHeartbeats 4000000 in
set_option maxRecDepth 100000 in
theorem c_L_fix (hl9 : l.stackTraces = false) (σ : Mem) (pg : Int32) (hh0 : nat0 8 (σ 0 4)) (hok : pgOK σ) (hkeep : (xFix σ pg).1 ≠ 0 → (xFix σ pg).2.2 = σ) (hks : (xFix σ pg).1 = 0 ∨ (xFix σ pg).1 ∈ [1, 2]) : WO l D cI cF cZ cJ ad o y_L_fix b_L_fix 4 [(0, 9, 12, 13), (0, 9, 15, 15)] { frames := 8, cells := 2, slots := 12, locals := 186 } [.ref (ad 0), .int pg, .ref o] σ (xFix σ pg) gId true := by
  refine WO.of (by decide) (Nat.le_of_ble_eq_true rfl) ?_
  intro p e s m args below meth c A ls f F w hT hN hl hr hlk hex
  obtain ⟨hx, hb, hml, hown, hts⟩ := id F
  have hl : lv_has ls 4 [(0, .ref (ad 0)), (1, .int pg), (2, .ref o)] := hl
  refine lv_aload_n hx hb d_L_fix_0 rfl (lv_at hl 2 rfl) ?_
  refine lv_iconst (v := 0) hx hb d_L_fix_1 (by decide) ?_
  refine lv_aload_n hx hb d_L_fix_2 rfl (lv_at hl 0 rfl) ?_
  refine lv_iload_n hx hb d_L_fix_3 rfl (lv_at hl 1 rfl) ?_
  refine wr_xVi (As := [.int pg]) F w hT hl.1 (c_P_fix hl9 σ pg hh0 hok) (cwV 1 hts (gd_H (gd_gt m_191 (kwV m_188 m_189 m_190 m_1 m_191))) rfl rfl rfl (by decide +kernel) ⟨Nat.le_of_ble_eq_true rfl, Nat.le_of_ble_eq_true rfl⟩) rfl rfl (Nat.le_of_ble_eq_true rfl) d_L_fix_4 ⟨Nat.le_of_ble_eq_true rfl, Nat.le_of_ble_eq_true rfl⟩ (fun E ce q9 H1 locs1 hE w hcell hv hcl => ?_) (fun r σ1 H1 locs1 hp w => ?_)
  · obtain ⟨h0, rfl⟩ := hE
    rcases hks with q | q
    · exact absurd q h0
    · simp only [List.mem_cons, List.mem_nil_iff, or_false] at q
      rcases q with q | q
      · rw [q] at hcl
        refine vx_catch (E := cISE) (name := cISE) (own := R_L) hown [] ⟨0, 9, 12, 13⟩ [⟨0, 9, 15, 15⟩] hex (fun z hz => absurd hz List.not_mem_nil) (by decide) (by decide) (hts _ (List.mem_cons_of_mem _ m_186)) (tF_w hT tc_1) hcell hv hcl ?_
        refine lv_astore_n (lv' := [(3, .ref q9), (0, .ref (ad 0)), (1, .int pg), (2, .ref o)]) hx hb d_L_fix_12 rfl hl (by decide) rfl (fun ls hl => ?_)
        refine lv_iconst (v := 1) hx hb d_L_fix_13 (by decide) ?_
        exact wr_ret F w hr hlk (Nat.le_of_ble_eq_true rfl) (Nat.le_of_ble_eq_true rfl) (by rw [q]; rfl) (hkeep h0).symm (fun _ z => absurd z h0) d_L_fix_14
      · rw [q] at hcl
        refine vx_catch (E := cIOB) (name := cIOB) (own := R_L) hown [⟨0, 9, 12, 13⟩] ⟨0, 9, 15, 15⟩ [] hex (fun z hz => Or.inr (by rw [List.mem_singleton.mp hz]; exact ⟨by decide, cISE, hts _ (List.mem_cons_of_mem _ m_186), hN⟩)) (by decide) (by decide) (hts _ (List.mem_cons_of_mem _ m_187)) (tF_w hT tc_2) hcell hv hcl ?_
        refine lv_astore_n (lv' := [(3, .ref q9), (0, .ref (ad 0)), (1, .int pg), (2, .ref o)]) hx hb d_L_fix_15 rfl hl (by decide) rfl (fun ls hl => ?_)
        refine lv_iconst (v := 2) hx hb d_L_fix_16 (by decide) ?_
        exact wr_ret F w hr hlk (Nat.le_of_ble_eq_true rfl) (Nat.le_of_ble_eq_true rfl) (by rw [q]; rfl) (hkeep h0).symm (fun _ z => absurd z h0) d_L_fix_17
  · refine lv_i2l hx hb d_L_fix_7 rfl ?_
    refine wr_last F w d_L_fix_8 (fun f1 H1 locs1 hf1 w => ?_)
    refine lv_goto (tgt := 18) hx hb d_L_fix_9 (by decide) ?_
    refine lv_iconst (v := 0) hx hb d_L_fix_18 (by decide) ?_
    exact wr_ret F w hr hlk (Nat.le_of_ble_eq_true rfl) (Nat.le_of_ble_eq_true rfl) (by rw [hp]; rfl) (by rw [hp]) (fun _ _ => by rw [hp]; exact hf1) d_L_fix_19
set_option maxHeartbeats 4000000 in
set_option maxRecDepth 100000 in
theorem c_L_unfix (hl9 : l.stackTraces = false) (σ : Mem) (f0 : Int32)  (hkeep : (xUnfix σ f0).1 ≠ 0 → (xUnfix σ f0).2.2 = σ) (hks : (xUnfix σ f0).1 = 0 ∨ (xUnfix σ f0).1 ∈ [1, 2]) : WO l D cI cF cZ cJ ad o y_L_unfix b_L_unfix 4 [(0, 9, 12, 13), (0, 9, 15, 15)] { frames := 8, cells := 3, slots := 18, locals := 131 } [.ref (ad 0), .int f0, .ref o] σ (xUnfix σ f0) gId true := by
  refine WO.of (by decide) (Nat.le_of_ble_eq_true rfl) ?_
  intro p e s m args below meth c A ls f F w hT hN hl hr hlk hex
  obtain ⟨hx, hb, hml, hown, hts⟩ := id F
  have hl : lv_has ls 4 [(0, .ref (ad 0)), (1, .int f0), (2, .ref o)] := hl
  refine lv_aload_n hx hb d_L_unfix_0 rfl (lv_at hl 2 rfl) ?_
  refine lv_iconst (v := 0) hx hb d_L_unfix_1 (by decide) ?_
  refine lv_aload_n hx hb d_L_unfix_2 rfl (lv_at hl 0 rfl) ?_
  refine lv_iload_n hx hb d_L_unfix_3 rfl (lv_at hl 1 rfl) ?_
  refine wr_xVi (As := [.int f0]) F w hT hl.1 (c_P_unfix hl9 σ f0 ) (cwV 1 hts (gd_H (gd_gt m_338 (kwV m_335 m_336 m_337 m_1 m_338))) rfl rfl rfl (by decide +kernel) ⟨Nat.le_of_ble_eq_true rfl, Nat.le_of_ble_eq_true rfl⟩) rfl rfl (Nat.le_of_ble_eq_true rfl) d_L_unfix_4 ⟨Nat.le_of_ble_eq_true rfl, Nat.le_of_ble_eq_true rfl⟩ (fun E ce q9 H1 locs1 hE w hcell hv hcl => ?_) (fun r σ1 H1 locs1 hp w => ?_)
  · obtain ⟨h0, rfl⟩ := hE
    rcases hks with q | q
    · exact absurd q h0
    · simp only [List.mem_cons, List.mem_nil_iff, or_false] at q
      rcases q with q | q
      · rw [q] at hcl
        refine vx_catch (E := cISE) (name := cISE) (own := R_L) hown [] ⟨0, 9, 12, 13⟩ [⟨0, 9, 15, 15⟩] hex (fun z hz => absurd hz List.not_mem_nil) (by decide) (by decide) (hts _ (List.mem_cons_of_mem _ m_186)) (tF_w hT tc_1) hcell hv hcl ?_
        refine lv_astore_n (lv' := [(3, .ref q9), (0, .ref (ad 0)), (1, .int f0), (2, .ref o)]) hx hb d_L_unfix_12 rfl hl (by decide) rfl (fun ls hl => ?_)
        refine lv_iconst (v := 1) hx hb d_L_unfix_13 (by decide) ?_
        exact wr_ret F w hr hlk (Nat.le_of_ble_eq_true rfl) (Nat.le_of_ble_eq_true rfl) (by rw [q]; rfl) (hkeep h0).symm (fun _ z => absurd z h0) d_L_unfix_14
      · rw [q] at hcl
        refine vx_catch (E := cIOB) (name := cIOB) (own := R_L) hown [⟨0, 9, 12, 13⟩] ⟨0, 9, 15, 15⟩ [] hex (fun z hz => Or.inr (by rw [List.mem_singleton.mp hz]; exact ⟨by decide, cISE, hts _ (List.mem_cons_of_mem _ m_186), hN⟩)) (by decide) (by decide) (hts _ (List.mem_cons_of_mem _ m_187)) (tF_w hT tc_2) hcell hv hcl ?_
        refine lv_astore_n (lv' := [(3, .ref q9), (0, .ref (ad 0)), (1, .int f0), (2, .ref o)]) hx hb d_L_unfix_15 rfl hl (by decide) rfl (fun ls hl => ?_)
        refine lv_iconst (v := 2) hx hb d_L_unfix_16 (by decide) ?_
        exact wr_ret F w hr hlk (Nat.le_of_ble_eq_true rfl) (Nat.le_of_ble_eq_true rfl) (by rw [q]; rfl) (hkeep h0).symm (fun _ z => absurd z h0) d_L_unfix_17
  · refine lv_i2l hx hb d_L_unfix_7 rfl ?_
    refine wr_last F w d_L_unfix_8 (fun f1 H1 locs1 hf1 w => ?_)
    refine lv_goto (tgt := 18) hx hb d_L_unfix_9 (by decide) ?_
    refine lv_iconst (v := 0) hx hb d_L_unfix_18 (by decide) ?_
    exact wr_ret F w hr hlk (Nat.le_of_ble_eq_true rfl) (Nat.le_of_ble_eq_true rfl) (by rw [hp]; rfl) (by rw [hp]) (fun _ _ => by rw [hp]; exact hf1) d_L_unfix_19
set_option maxHeartbeats 4000000 in
set_option maxRecDepth 100000 in
theorem c_L_change (hl9 : l.stackTraces = false) (σ : Mem) (f0 : Int32) (i0 : Int32) (v0 : Int32)  (hkeep : (xChange σ f0 i0 v0).1 ≠ 0 → (xChange σ f0 i0 v0).2.2 = σ) (hks : (xChange σ f0 i0 v0).1 = 0 ∨ (xChange σ f0 i0 v0).1 ∈ [1, 2]) : WO l D cI cF cZ cJ ad o y_L_change b_L_change 6 [(0, 12, 15, 13), (0, 12, 19, 15)] { frames := 8, cells := 5, slots := 30, locals := 134 } [.ref (ad 0), .int f0, .int i0, .int v0, .ref o] σ (xChange σ f0 i0 v0) gId true := by
  refine WO.of (by decide) (Nat.le_of_ble_eq_true rfl) ?_
  intro p e s m args below meth c A ls f F w hT hN hl hr hlk hex
  obtain ⟨hx, hb, hml, hown, hts⟩ := id F
  have hl : lv_has ls 6 [(0, .ref (ad 0)), (1, .int f0), (2, .int i0), (3, .int v0), (4, .ref o)] := hl
  refine lv_aload hx hb d_L_change_0 (lv_at hl 4 rfl) ?_
  refine lv_iconst (v := 0) hx hb d_L_change_2 (by decide) ?_
  refine lv_aload_n hx hb d_L_change_3 rfl (lv_at hl 0 rfl) ?_
  refine lv_iload_n hx hb d_L_change_4 rfl (lv_at hl 1 rfl) ?_
  refine lv_iload_n hx hb d_L_change_5 rfl (lv_at hl 2 rfl) ?_
  refine lv_iload_n hx hb d_L_change_6 rfl (lv_at hl 3 rfl) ?_
  refine wr_xVi (As := [.int f0, .int i0, .int v0]) F w hT hl.1 (c_P_change hl9 σ f0 i0 v0 ) (cwV 3 hts (gd_H (gd_gt m_354 (kwV m_351 m_352 m_353 m_1 m_354))) rfl rfl rfl (by decide +kernel) ⟨Nat.le_of_ble_eq_true rfl, Nat.le_of_ble_eq_true rfl⟩) rfl rfl (Nat.le_of_ble_eq_true rfl) d_L_change_7 ⟨Nat.le_of_ble_eq_true rfl, Nat.le_of_ble_eq_true rfl⟩ (fun E ce q9 H1 locs1 hE w hcell hv hcl => ?_) (fun r σ1 H1 locs1 hp w => ?_)
  · obtain ⟨h0, rfl⟩ := hE
    rcases hks with q | q
    · exact absurd q h0
    · simp only [List.mem_cons, List.mem_nil_iff, or_false] at q
      rcases q with q | q
      · rw [q] at hcl
        refine vx_catch (E := cISE) (name := cISE) (own := R_L) hown [] ⟨0, 12, 15, 13⟩ [⟨0, 12, 19, 15⟩] hex (fun z hz => absurd hz List.not_mem_nil) (by decide) (by decide) (hts _ (List.mem_cons_of_mem _ m_186)) (tF_w hT tc_1) hcell hv hcl ?_
        refine lv_astore (lv' := [(5, .ref q9), (0, .ref (ad 0)), (1, .int f0), (2, .int i0), (3, .int v0), (4, .ref o)]) hx hb d_L_change_15 hl (by decide) rfl (fun ls hl => ?_)
        refine lv_iconst (v := 1) hx hb d_L_change_17 (by decide) ?_
        exact wr_ret F w hr hlk (Nat.le_of_ble_eq_true rfl) (Nat.le_of_ble_eq_true rfl) (by rw [q]; rfl) (hkeep h0).symm (fun _ z => absurd z h0) d_L_change_18
      · rw [q] at hcl
        refine vx_catch (E := cIOB) (name := cIOB) (own := R_L) hown [⟨0, 12, 15, 13⟩] ⟨0, 12, 19, 15⟩ [] hex (fun z hz => Or.inr (by rw [List.mem_singleton.mp hz]; exact ⟨by decide, cISE, hts _ (List.mem_cons_of_mem _ m_186), hN⟩)) (by decide) (by decide) (hts _ (List.mem_cons_of_mem _ m_187)) (tF_w hT tc_2) hcell hv hcl ?_
        refine lv_astore (lv' := [(5, .ref q9), (0, .ref (ad 0)), (1, .int f0), (2, .int i0), (3, .int v0), (4, .ref o)]) hx hb d_L_change_19 hl (by decide) rfl (fun ls hl => ?_)
        refine lv_iconst (v := 2) hx hb d_L_change_21 (by decide) ?_
        exact wr_ret F w hr hlk (Nat.le_of_ble_eq_true rfl) (Nat.le_of_ble_eq_true rfl) (by rw [q]; rfl) (hkeep h0).symm (fun _ z => absurd z h0) d_L_change_22
  · refine lv_i2l hx hb d_L_change_10 rfl ?_
    refine wr_last F w d_L_change_11 (fun f1 H1 locs1 hf1 w => ?_)
    refine lv_goto (tgt := 23) hx hb d_L_change_12 (by decide) ?_
    refine lv_iconst (v := 0) hx hb d_L_change_23 (by decide) ?_
    exact wr_ret F w hr hlk (Nat.le_of_ble_eq_true rfl) (Nat.le_of_ble_eq_true rfl) (by rw [hp]; rfl) (by rw [hp]) (fun _ _ => by rw [hp]; exact hf1) d_L_change_24
set_option maxHeartbeats 4000000 in
set_option maxRecDepth 100000 in
theorem c_L_word (hl9 : l.stackTraces = false) (σ : Mem) (f0 : Int32) (i0 : Int32)  (hkeep : (xWord σ f0 i0).1 ≠ 0 → (xWord σ f0 i0).2.2 = σ) (hks : (xWord σ f0 i0).1 = 0 ∨ (xWord σ f0 i0).1 ∈ [1, 2]) : WO l D cI cF cZ cJ ad o y_L_word b_L_word 5 [(0, 10, 13, 13), (0, 10, 17, 15)] { frames := 8, cells := 4, slots := 24, locals := 132 } [.ref (ad 0), .int f0, .int i0, .ref o] σ (xWord σ f0 i0) gId true := by
  refine WO.of (by decide) (Nat.le_of_ble_eq_true rfl) ?_
  intro p e s m args below meth c A ls f F w hT hN hl hr hlk hex
  obtain ⟨hx, hb, hml, hown, hts⟩ := id F
  have hl : lv_has ls 5 [(0, .ref (ad 0)), (1, .int f0), (2, .int i0), (3, .ref o)] := hl
  refine lv_aload_n hx hb d_L_word_0 rfl (lv_at hl 3 rfl) ?_
  refine lv_iconst (v := 0) hx hb d_L_word_1 (by decide) ?_
  refine lv_aload_n hx hb d_L_word_2 rfl (lv_at hl 0 rfl) ?_
  refine lv_iload_n hx hb d_L_word_3 rfl (lv_at hl 1 rfl) ?_
  refine lv_iload_n hx hb d_L_word_4 rfl (lv_at hl 2 rfl) ?_
  refine wr_xVi (As := [.int f0, .int i0]) F w hT hl.1 (c_P_word hl9 σ f0 i0 ) (cwV 2 hts (gd_H (gd_gt m_382 (kwV m_379 m_380 m_381 m_1 m_382))) rfl rfl rfl (by decide +kernel) ⟨Nat.le_of_ble_eq_true rfl, Nat.le_of_ble_eq_true rfl⟩) rfl rfl (Nat.le_of_ble_eq_true rfl) d_L_word_5 ⟨Nat.le_of_ble_eq_true rfl, Nat.le_of_ble_eq_true rfl⟩ (fun E ce q9 H1 locs1 hE w hcell hv hcl => ?_) (fun r σ1 H1 locs1 hp w => ?_)
  · obtain ⟨h0, rfl⟩ := hE
    rcases hks with q | q
    · exact absurd q h0
    · simp only [List.mem_cons, List.mem_nil_iff, or_false] at q
      rcases q with q | q
      · rw [q] at hcl
        refine vx_catch (E := cISE) (name := cISE) (own := R_L) hown [] ⟨0, 10, 13, 13⟩ [⟨0, 10, 17, 15⟩] hex (fun z hz => absurd hz List.not_mem_nil) (by decide) (by decide) (hts _ (List.mem_cons_of_mem _ m_186)) (tF_w hT tc_1) hcell hv hcl ?_
        refine lv_astore (lv' := [(4, .ref q9), (0, .ref (ad 0)), (1, .int f0), (2, .int i0), (3, .ref o)]) hx hb d_L_word_13 hl (by decide) rfl (fun ls hl => ?_)
        refine lv_iconst (v := 1) hx hb d_L_word_15 (by decide) ?_
        exact wr_ret F w hr hlk (Nat.le_of_ble_eq_true rfl) (Nat.le_of_ble_eq_true rfl) (by rw [q]; rfl) (hkeep h0).symm (fun _ z => absurd z h0) d_L_word_16
      · rw [q] at hcl
        refine vx_catch (E := cIOB) (name := cIOB) (own := R_L) hown [⟨0, 10, 13, 13⟩] ⟨0, 10, 17, 15⟩ [] hex (fun z hz => Or.inr (by rw [List.mem_singleton.mp hz]; exact ⟨by decide, cISE, hts _ (List.mem_cons_of_mem _ m_186), hN⟩)) (by decide) (by decide) (hts _ (List.mem_cons_of_mem _ m_187)) (tF_w hT tc_2) hcell hv hcl ?_
        refine lv_astore (lv' := [(4, .ref q9), (0, .ref (ad 0)), (1, .int f0), (2, .int i0), (3, .ref o)]) hx hb d_L_word_17 hl (by decide) rfl (fun ls hl => ?_)
        refine lv_iconst (v := 2) hx hb d_L_word_19 (by decide) ?_
        exact wr_ret F w hr hlk (Nat.le_of_ble_eq_true rfl) (Nat.le_of_ble_eq_true rfl) (by rw [q]; rfl) (hkeep h0).symm (fun _ z => absurd z h0) d_L_word_20
  · refine lv_i2l hx hb d_L_word_8 rfl ?_
    refine wr_last F w d_L_word_9 (fun f1 H1 locs1 hf1 w => ?_)
    refine lv_goto (tgt := 21) hx hb d_L_word_10 (by decide) ?_
    refine lv_iconst (v := 0) hx hb d_L_word_21 (by decide) ?_
    exact wr_ret F w hr hlk (Nat.le_of_ble_eq_true rfl) (Nat.le_of_ble_eq_true rfl) (by rw [hp]; rfl) (by rw [hp]) (fun _ _ => by rw [hp]; exact hf1) d_L_word_22
set_option maxHeartbeats 4000000 in
set_option maxRecDepth 100000 in
theorem c_L_frame (hl9 : l.stackTraces = false) (σ : Mem) (f0 : Int32) (k0 : Int32)  (hkeep : (xFrame σ f0 k0).1 ≠ 0 → (xFrame σ f0 k0).2.2 = σ) (hks : (xFrame σ f0 k0).1 = 0 ∨ (xFrame σ f0 k0).1 ∈ [2]) : WO l D cI cF cZ cJ ad o y_L_frame b_L_frame 5 [(0, 10, 13, 15)] { frames := 8, cells := 2, slots := 12, locals := 133 } [.ref (ad 0), .int f0, .int k0, .ref o] σ (xFrame σ f0 k0) gOne true := by
  refine WO.of (by decide) (Nat.le_of_ble_eq_true rfl) ?_
  intro p e s m args below meth c A ls f F w hT hN hl hr hlk hex
  obtain ⟨hx, hb, hml, hown, hts⟩ := id F
  have hl : lv_has ls 5 [(0, .ref (ad 0)), (1, .int f0), (2, .int k0), (3, .ref o)] := hl
  refine lv_aload_n hx hb d_L_frame_0 rfl (lv_at hl 3 rfl) ?_
  refine lv_iconst (v := 0) hx hb d_L_frame_1 (by decide) ?_
  refine lv_aload_n hx hb d_L_frame_2 rfl (lv_at hl 0 rfl) ?_
  refine lv_iload_n hx hb d_L_frame_3 rfl (lv_at hl 1 rfl) ?_
  refine lv_iload_n hx hb d_L_frame_4 rfl (lv_at hl 2 rfl) ?_
  refine wr_xVi (As := [.int f0, .int k0]) F w hT hl.1 (c_P_frame hl9 σ f0 k0 ) (cwV 2 hts (gd_H (gd_gt m_390 (kwV m_387 m_388 m_389 m_1 m_390))) rfl rfl rfl (by decide +kernel) ⟨Nat.le_of_ble_eq_true rfl, Nat.le_of_ble_eq_true rfl⟩) rfl rfl (Nat.le_of_ble_eq_true rfl) d_L_frame_5 ⟨Nat.le_of_ble_eq_true rfl, Nat.le_of_ble_eq_true rfl⟩ (fun E ce q9 H1 locs1 hE w hcell hv hcl => ?_) (fun r σ1 H1 locs1 hp w => ?_)
  · obtain ⟨h0, rfl⟩ := hE
    rcases hks with q | q
    · exact absurd q h0
    · simp only [List.mem_cons, List.mem_nil_iff, or_false] at q
      rw [q] at hcl
      refine vx_catch (E := cIOB) (name := cIOB) (own := R_L) hown [] ⟨0, 10, 13, 15⟩ [] hex (fun z hz => absurd hz List.not_mem_nil) (by decide) (by decide) (hts _ (List.mem_cons_of_mem _ m_187)) (tF_w hT tc_2) hcell hv hcl ?_
      refine lv_astore (lv' := [(4, .ref q9), (0, .ref (ad 0)), (1, .int f0), (2, .int k0), (3, .ref o)]) hx hb d_L_frame_13 hl (by decide) rfl (fun ls hl => ?_)
      refine lv_iconst (v := 1) hx hb d_L_frame_15 (by decide) ?_
      exact wr_ret F w hr hlk (Nat.le_of_ble_eq_true rfl) (Nat.le_of_ble_eq_true rfl) (by rw [q]; rfl) (hkeep h0).symm (fun _ z => absurd z h0) d_L_frame_16
  · refine lv_i2l hx hb d_L_frame_8 rfl ?_
    refine wr_last F w d_L_frame_9 (fun f1 H1 locs1 hf1 w => ?_)
    refine lv_goto (tgt := 17) hx hb d_L_frame_10 (by decide) ?_
    refine lv_iconst (v := 0) hx hb d_L_frame_17 (by decide) ?_
    exact wr_ret F w hr hlk (Nat.le_of_ble_eq_true rfl) (Nat.le_of_ble_eq_true rfl) (by rw [hp]; rfl) (by rw [hp]) (fun _ _ => by rw [hp]; exact hf1) d_L_frame_18
set_option maxHeartbeats 4000000 in
set_option maxRecDepth 100000 in
theorem c_L_flush (hl9 : l.stackTraces = false) (σ : Mem) (pg : Int32) (hh0 : nat0 8 (σ 0 4)) (hok : pgOK σ) (hkeep : (xFlush σ pg).1 ≠ 0 → (xFlush σ pg).2.2 = σ) (hks : (xFlush σ pg).1 = 0 ∨ (xFlush σ pg).1 ∈ [1, 2]) : WO l D cI cF cZ cJ ad o y_L_flush b_L_flush 4 [(0, 9, 12, 13), (0, 9, 15, 15)] { frames := 8, cells := 2, slots := 12, locals := 152 } [.ref (ad 0), .int pg, .ref o] σ (xFlush σ pg) gId true := by
  refine WO.of (by decide) (Nat.le_of_ble_eq_true rfl) ?_
  intro p e s m args below meth c A ls f F w hT hN hl hr hlk hex
  obtain ⟨hx, hb, hml, hown, hts⟩ := id F
  have hl : lv_has ls 4 [(0, .ref (ad 0)), (1, .int pg), (2, .ref o)] := hl
  refine lv_aload_n hx hb d_L_flush_0 rfl (lv_at hl 2 rfl) ?_
  refine lv_iconst (v := 0) hx hb d_L_flush_1 (by decide) ?_
  refine lv_aload_n hx hb d_L_flush_2 rfl (lv_at hl 0 rfl) ?_
  refine lv_iload_n hx hb d_L_flush_3 rfl (lv_at hl 1 rfl) ?_
  refine wr_xVi (As := [.int pg]) F w hT hl.1 (c_P_flush hl9 σ pg hh0 hok) (cwV 1 hts (gd_H (gd_gt m_398 (kwV m_395 m_396 m_397 m_1 m_398))) rfl rfl rfl (by decide +kernel) ⟨Nat.le_of_ble_eq_true rfl, Nat.le_of_ble_eq_true rfl⟩) rfl rfl (Nat.le_of_ble_eq_true rfl) d_L_flush_4 ⟨Nat.le_of_ble_eq_true rfl, Nat.le_of_ble_eq_true rfl⟩ (fun E ce q9 H1 locs1 hE w hcell hv hcl => ?_) (fun r σ1 H1 locs1 hp w => ?_)
  · obtain ⟨h0, rfl⟩ := hE
    rcases hks with q | q
    · exact absurd q h0
    · simp only [List.mem_cons, List.mem_nil_iff, or_false] at q
      rcases q with q | q
      · rw [q] at hcl
        refine vx_catch (E := cISE) (name := cISE) (own := R_L) hown [] ⟨0, 9, 12, 13⟩ [⟨0, 9, 15, 15⟩] hex (fun z hz => absurd hz List.not_mem_nil) (by decide) (by decide) (hts _ (List.mem_cons_of_mem _ m_186)) (tF_w hT tc_1) hcell hv hcl ?_
        refine lv_astore_n (lv' := [(3, .ref q9), (0, .ref (ad 0)), (1, .int pg), (2, .ref o)]) hx hb d_L_flush_12 rfl hl (by decide) rfl (fun ls hl => ?_)
        refine lv_iconst (v := 1) hx hb d_L_flush_13 (by decide) ?_
        exact wr_ret F w hr hlk (Nat.le_of_ble_eq_true rfl) (Nat.le_of_ble_eq_true rfl) (by rw [q]; rfl) (hkeep h0).symm (fun _ z => absurd z h0) d_L_flush_14
      · rw [q] at hcl
        refine vx_catch (E := cIOB) (name := cIOB) (own := R_L) hown [⟨0, 9, 12, 13⟩] ⟨0, 9, 15, 15⟩ [] hex (fun z hz => Or.inr (by rw [List.mem_singleton.mp hz]; exact ⟨by decide, cISE, hts _ (List.mem_cons_of_mem _ m_186), hN⟩)) (by decide) (by decide) (hts _ (List.mem_cons_of_mem _ m_187)) (tF_w hT tc_2) hcell hv hcl ?_
        refine lv_astore_n (lv' := [(3, .ref q9), (0, .ref (ad 0)), (1, .int pg), (2, .ref o)]) hx hb d_L_flush_15 rfl hl (by decide) rfl (fun ls hl => ?_)
        refine lv_iconst (v := 2) hx hb d_L_flush_16 (by decide) ?_
        exact wr_ret F w hr hlk (Nat.le_of_ble_eq_true rfl) (Nat.le_of_ble_eq_true rfl) (by rw [q]; rfl) (hkeep h0).symm (fun _ z => absurd z h0) d_L_flush_17
  · refine lv_i2l hx hb d_L_flush_7 rfl ?_
    refine wr_last F w d_L_flush_8 (fun f1 H1 locs1 hf1 w => ?_)
    refine lv_goto (tgt := 18) hx hb d_L_flush_9 (by decide) ?_
    refine lv_iconst (v := 0) hx hb d_L_flush_18 (by decide) ?_
    exact wr_ret F w hr hlk (Nat.le_of_ble_eq_true rfl) (Nat.le_of_ble_eq_true rfl) (by rw [hp]; rfl) (by rw [hp]) (fun _ _ => by rw [hp]; exact hf1) d_L_flush_19
set_option maxHeartbeats 4000000 in
set_option maxRecDepth 100000 in
theorem c_L_flushOldest (hl9 : l.stackTraces = false) (σ : Mem) (hh0 : nat0 8 (σ 0 4)) (hok : pgOK σ) (hkeep : (xFlushO σ).1 ≠ 0 → (xFlushO σ).2.2 = σ) (hks : (xFlushO σ).1 = 0 ∨ (xFlushO σ).1 ∈ [1]) : WO l D cI cF cZ cJ ad o y_L_flushOldest b_L_flushOldest 3 [(0, 8, 11, 13)] { frames := 8, cells := 1, slots := 6, locals := 152 } [.ref (ad 0), .ref o] σ (xFlushO σ) gOne true := by
  refine WO.of (by decide) (Nat.le_of_ble_eq_true rfl) ?_
  intro p e s m args below meth c A ls f F w hT hN hl hr hlk hex
  obtain ⟨hx, hb, hml, hown, hts⟩ := id F
  have hl : lv_has ls 3 [(0, .ref (ad 0)), (1, .ref o)] := hl
  refine lv_aload_n hx hb d_L_flushOldest_0 rfl (lv_at hl 1 rfl) ?_
  refine lv_iconst (v := 0) hx hb d_L_flushOldest_1 (by decide) ?_
  refine lv_aload_n hx hb d_L_flushOldest_2 rfl (lv_at hl 0 rfl) ?_
  refine wr_xVi (As := []) F w hT hl.1 (c_P_flushOldest hl9 σ hh0 hok) (cwV 0 hts (gd_H (gd_gt m_405 (kwV m_402 m_403 m_404 m_1 m_405))) rfl rfl rfl (by decide +kernel) ⟨Nat.le_of_ble_eq_true rfl, Nat.le_of_ble_eq_true rfl⟩) rfl rfl (Nat.le_of_ble_eq_true rfl) d_L_flushOldest_3 ⟨Nat.le_of_ble_eq_true rfl, Nat.le_of_ble_eq_true rfl⟩ (fun E ce q9 H1 locs1 hE w hcell hv hcl => ?_) (fun r σ1 H1 locs1 hp w => ?_)
  · obtain ⟨h0, rfl⟩ := hE
    rcases hks with q | q
    · exact absurd q h0
    · simp only [List.mem_cons, List.mem_nil_iff, or_false] at q
      rw [q] at hcl
      refine vx_catch (E := cISE) (name := cISE) (own := R_L) hown [] ⟨0, 8, 11, 13⟩ [] hex (fun z hz => absurd hz List.not_mem_nil) (by decide) (by decide) (hts _ (List.mem_cons_of_mem _ m_186)) (tF_w hT tc_1) hcell hv hcl ?_
      refine lv_astore_n (lv' := [(2, .ref q9), (0, .ref (ad 0)), (1, .ref o)]) hx hb d_L_flushOldest_11 rfl hl (by decide) rfl (fun ls hl => ?_)
      refine lv_iconst (v := 1) hx hb d_L_flushOldest_12 (by decide) ?_
      exact wr_ret F w hr hlk (Nat.le_of_ble_eq_true rfl) (Nat.le_of_ble_eq_true rfl) (by rw [q]; rfl) (hkeep h0).symm (fun _ z => absurd z h0) d_L_flushOldest_13
  · refine lv_i2l hx hb d_L_flushOldest_6 rfl ?_
    refine wr_last F w d_L_flushOldest_7 (fun f1 H1 locs1 hf1 w => ?_)
    refine lv_goto (tgt := 14) hx hb d_L_flushOldest_8 (by decide) ?_
    refine lv_iconst (v := 0) hx hb d_L_flushOldest_14 (by decide) ?_
    exact wr_ret F w hr hlk (Nat.le_of_ble_eq_true rfl) (Nat.le_of_ble_eq_true rfl) (by rw [hp]; rfl) (by rw [hp]) (fun _ _ => by rw [hp]; exact hf1) d_L_flushOldest_15
set_option maxHeartbeats 4000000 in
set_option maxRecDepth 100000 in
theorem c_L_force (hl9 : l.stackTraces = false) (σ : Mem)  (hkeep : (xForce σ).1 ≠ 0 → (xForce σ).2.2 = σ) (hks : (xForce σ).1 = 0 ∨ (xForce σ).1 ∈ [1]) : WO l D cI cF cZ cJ ad o y_L_force b_L_force 3 [(0, 8, 11, 13)] { frames := 8, cells := 1, slots := 6, locals := 141 } [.ref (ad 0), .ref o] σ (xForce σ) gOne true := by
  refine WO.of (by decide) (Nat.le_of_ble_eq_true rfl) ?_
  intro p e s m args below meth c A ls f F w hT hN hl hr hlk hex
  obtain ⟨hx, hb, hml, hown, hts⟩ := id F
  have hl : lv_has ls 3 [(0, .ref (ad 0)), (1, .ref o)] := hl
  refine lv_aload_n hx hb d_L_force_0 rfl (lv_at hl 1 rfl) ?_
  refine lv_iconst (v := 0) hx hb d_L_force_1 (by decide) ?_
  refine lv_aload_n hx hb d_L_force_2 rfl (lv_at hl 0 rfl) ?_
  refine wr_xVi (As := []) F w hT hl.1 (c_P_force hl9 σ ) (cwV 0 hts (gd_H (gd_gt m_413 (kwV m_410 m_411 m_412 m_1 m_413))) rfl rfl rfl (by decide +kernel) ⟨Nat.le_of_ble_eq_true rfl, Nat.le_of_ble_eq_true rfl⟩) rfl rfl (Nat.le_of_ble_eq_true rfl) d_L_force_3 ⟨Nat.le_of_ble_eq_true rfl, Nat.le_of_ble_eq_true rfl⟩ (fun E ce q9 H1 locs1 hE w hcell hv hcl => ?_) (fun r σ1 H1 locs1 hp w => ?_)
  · obtain ⟨h0, rfl⟩ := hE
    rcases hks with q | q
    · exact absurd q h0
    · simp only [List.mem_cons, List.mem_nil_iff, or_false] at q
      rw [q] at hcl
      refine vx_catch (E := cISE) (name := cISE) (own := R_L) hown [] ⟨0, 8, 11, 13⟩ [] hex (fun z hz => absurd hz List.not_mem_nil) (by decide) (by decide) (hts _ (List.mem_cons_of_mem _ m_186)) (tF_w hT tc_1) hcell hv hcl ?_
      refine lv_astore_n (lv' := [(2, .ref q9), (0, .ref (ad 0)), (1, .ref o)]) hx hb d_L_force_11 rfl hl (by decide) rfl (fun ls hl => ?_)
      refine lv_iconst (v := 1) hx hb d_L_force_12 (by decide) ?_
      exact wr_ret F w hr hlk (Nat.le_of_ble_eq_true rfl) (Nat.le_of_ble_eq_true rfl) (by rw [q]; rfl) (hkeep h0).symm (fun _ z => absurd z h0) d_L_force_13
  · refine lv_i2l hx hb d_L_force_6 rfl ?_
    refine wr_last F w d_L_force_7 (fun f1 H1 locs1 hf1 w => ?_)
    refine lv_goto (tgt := 14) hx hb d_L_force_8 (by decide) ?_
    refine lv_iconst (v := 0) hx hb d_L_force_14 (by decide) ?_
    exact wr_ret F w hr hlk (Nat.le_of_ble_eq_true rfl) (Nat.le_of_ble_eq_true rfl) (by rw [hp]; rfl) (by rw [hp]) (fun _ _ => by rw [hp]; exact hf1) d_L_force_15
set_option maxHeartbeats 4000000 in
set_option maxRecDepth 100000 in
theorem c_L_trim (hl9 : l.stackTraces = false) (σ : Mem) (hc : (σ 5 5 - σ 5 3) / nI 8 = nI (kCnt σ)) (hkeep : (xTrim σ).1 ≠ 0 → (xTrim σ).2.2 = σ) (hks : (xTrim σ).1 = 0 ∨ (xTrim σ).1 ∈ [1]) : WO l D cI cF cZ cJ ad o y_L_trim b_L_trim 3 [(0, 8, 11, 13)] { frames := 8, cells := 1, slots := 6, locals := 142 } [.ref (ad 0), .ref o] σ (xTrim σ) gOne true := by
  refine WO.of (by decide) (Nat.le_of_ble_eq_true rfl) ?_
  intro p e s m args below meth c A ls f F w hT hN hl hr hlk hex
  obtain ⟨hx, hb, hml, hown, hts⟩ := id F
  have hl : lv_has ls 3 [(0, .ref (ad 0)), (1, .ref o)] := hl
  refine lv_aload_n hx hb d_L_trim_0 rfl (lv_at hl 1 rfl) ?_
  refine lv_iconst (v := 0) hx hb d_L_trim_1 (by decide) ?_
  refine lv_aload_n hx hb d_L_trim_2 rfl (lv_at hl 0 rfl) ?_
  refine wr_xVi (As := []) F w hT hl.1 (c_P_trim hl9 σ hc (kCnt_lt σ)) (cwV 0 hts (gd_H (gd_gt m_420 (kwV m_417 m_418 m_419 m_1 m_420))) rfl rfl rfl (by decide +kernel) ⟨Nat.le_of_ble_eq_true rfl, Nat.le_of_ble_eq_true rfl⟩) rfl rfl (Nat.le_of_ble_eq_true rfl) d_L_trim_3 ⟨Nat.le_of_ble_eq_true rfl, Nat.le_of_ble_eq_true rfl⟩ (fun E ce q9 H1 locs1 hE w hcell hv hcl => ?_) (fun r σ1 H1 locs1 hp w => ?_)
  · obtain ⟨h0, rfl⟩ := hE
    rcases hks with q | q
    · exact absurd q h0
    · simp only [List.mem_cons, List.mem_nil_iff, or_false] at q
      rw [q] at hcl
      refine vx_catch (E := cISE) (name := cISE) (own := R_L) hown [] ⟨0, 8, 11, 13⟩ [] hex (fun z hz => absurd hz List.not_mem_nil) (by decide) (by decide) (hts _ (List.mem_cons_of_mem _ m_186)) (tF_w hT tc_1) hcell hv hcl ?_
      refine lv_astore_n (lv' := [(2, .ref q9), (0, .ref (ad 0)), (1, .ref o)]) hx hb d_L_trim_11 rfl hl (by decide) rfl (fun ls hl => ?_)
      refine lv_iconst (v := 1) hx hb d_L_trim_12 (by decide) ?_
      exact wr_ret F w hr hlk (Nat.le_of_ble_eq_true rfl) (Nat.le_of_ble_eq_true rfl) (by rw [q]; rfl) (hkeep h0).symm (fun _ z => absurd z h0) d_L_trim_13
  · refine lv_i2l hx hb d_L_trim_6 rfl ?_
    refine wr_last F w d_L_trim_7 (fun f1 H1 locs1 hf1 w => ?_)
    refine lv_goto (tgt := 14) hx hb d_L_trim_8 (by decide) ?_
    refine lv_iconst (v := 0) hx hb d_L_trim_14 (by decide) ?_
    exact wr_ret F w hr hlk (Nat.le_of_ble_eq_true rfl) (Nat.le_of_ble_eq_true rfl) (by rw [hp]; rfl) (by rw [hp]) (fun _ _ => by rw [hp]; exact hf1) d_L_trim_15
set_option maxHeartbeats 4000000 in
set_option maxRecDepth 100000 in
theorem c_L_log (hl9 : l.stackTraces = false) (σ : Mem) (k0 : Int32)  (hkeep : (xLog σ k0).1 ≠ 0 → (xLog σ k0).2.2 = σ) (hks : (xLog σ k0).1 = 0 ∨ (xLog σ k0).1 ∈ [2]) : WO l D cI cF cZ cJ ad o y_L_log b_L_log 4 [(0, 9, 12, 15)] { frames := 8, cells := 1, slots := 6, locals := 131 } [.ref (ad 0), .int k0, .ref o] σ (xLog σ k0) gOne true := by
  refine WO.of (by decide) (Nat.le_of_ble_eq_true rfl) ?_
  intro p e s m args below meth c A ls f F w hT hN hl hr hlk hex
  obtain ⟨hx, hb, hml, hown, hts⟩ := id F
  have hl : lv_has ls 4 [(0, .ref (ad 0)), (1, .int k0), (2, .ref o)] := hl
  refine lv_aload_n hx hb d_L_log_0 rfl (lv_at hl 2 rfl) ?_
  refine lv_iconst (v := 0) hx hb d_L_log_1 (by decide) ?_
  refine lv_aload_n hx hb d_L_log_2 rfl (lv_at hl 0 rfl) ?_
  refine lv_iload_n hx hb d_L_log_3 rfl (lv_at hl 1 rfl) ?_
  refine wr_xVi (As := [.int k0]) F w hT hl.1 (c_P_log hl9 σ k0 ) (cwV 1 hts (gd_H (gd_gt m_449 (kwV m_446 m_447 m_448 m_1 m_449))) rfl rfl rfl (by decide +kernel) ⟨Nat.le_of_ble_eq_true rfl, Nat.le_of_ble_eq_true rfl⟩) rfl rfl (Nat.le_of_ble_eq_true rfl) d_L_log_4 ⟨Nat.le_of_ble_eq_true rfl, Nat.le_of_ble_eq_true rfl⟩ (fun E ce q9 H1 locs1 hE w hcell hv hcl => ?_) (fun r σ1 H1 locs1 hp w => ?_)
  · obtain ⟨h0, rfl⟩ := hE
    rcases hks with q | q
    · exact absurd q h0
    · simp only [List.mem_cons, List.mem_nil_iff, or_false] at q
      rw [q] at hcl
      refine vx_catch (E := cIOB) (name := cIOB) (own := R_L) hown [] ⟨0, 9, 12, 15⟩ [] hex (fun z hz => absurd hz List.not_mem_nil) (by decide) (by decide) (hts _ (List.mem_cons_of_mem _ m_187)) (tF_w hT tc_2) hcell hv hcl ?_
      refine lv_astore_n (lv' := [(3, .ref q9), (0, .ref (ad 0)), (1, .int k0), (2, .ref o)]) hx hb d_L_log_12 rfl hl (by decide) rfl (fun ls hl => ?_)
      refine lv_iconst (v := 1) hx hb d_L_log_13 (by decide) ?_
      exact wr_ret F w hr hlk (Nat.le_of_ble_eq_true rfl) (Nat.le_of_ble_eq_true rfl) (by rw [q]; rfl) (hkeep h0).symm (fun _ z => absurd z h0) d_L_log_14
  · refine lv_i2l hx hb d_L_log_7 rfl ?_
    refine wr_last F w d_L_log_8 (fun f1 H1 locs1 hf1 w => ?_)
    refine lv_goto (tgt := 15) hx hb d_L_log_9 (by decide) ?_
    refine lv_iconst (v := 0) hx hb d_L_log_15 (by decide) ?_
    exact wr_ret F w hr hlk (Nat.le_of_ble_eq_true rfl) (Nat.le_of_ble_eq_true rfl) (by rw [hp]; rfl) (by rw [hp]) (fun _ _ => by rw [hp]; exact hf1) d_L_log_16
set_option maxHeartbeats 4000000 in
set_option maxRecDepth 100000 in
theorem c_L_onMedium (hl9 : l.stackTraces = false) (σ : Mem) (pg : Int32) (i0 : Int32)  (hkeep : (xOnM σ pg i0).1 ≠ 0 → (xOnM σ pg i0).2.2 = σ) (hks : (xOnM σ pg i0).1 = 0 ∨ (xOnM σ pg i0).1 ∈ [2]) : WO l D cI cF cZ cJ ad o y_L_onMedium b_L_onMedium 5 [(0, 10, 13, 15)] { frames := 8, cells := 2, slots := 12, locals := 132 } [.ref (ad 0), .int pg, .int i0, .ref o] σ (xOnM σ pg i0) gOne true := by
  refine WO.of (by decide) (Nat.le_of_ble_eq_true rfl) ?_
  intro p e s m args below meth c A ls f F w hT hN hl hr hlk hex
  obtain ⟨hx, hb, hml, hown, hts⟩ := id F
  have hl : lv_has ls 5 [(0, .ref (ad 0)), (1, .int pg), (2, .int i0), (3, .ref o)] := hl
  refine lv_aload_n hx hb d_L_onMedium_0 rfl (lv_at hl 3 rfl) ?_
  refine lv_iconst (v := 0) hx hb d_L_onMedium_1 (by decide) ?_
  refine lv_aload_n hx hb d_L_onMedium_2 rfl (lv_at hl 0 rfl) ?_
  refine lv_iload_n hx hb d_L_onMedium_3 rfl (lv_at hl 1 rfl) ?_
  refine lv_iload_n hx hb d_L_onMedium_4 rfl (lv_at hl 2 rfl) ?_
  refine wr_xVi (As := [.int pg, .int i0]) F w hT hl.1 (c_P_onMedium hl9 σ pg i0 ) (cwV 2 hts (gd_H (gd_gt m_457 (kwV m_454 m_455 m_456 m_1 m_457))) rfl rfl rfl (by decide +kernel) ⟨Nat.le_of_ble_eq_true rfl, Nat.le_of_ble_eq_true rfl⟩) rfl rfl (Nat.le_of_ble_eq_true rfl) d_L_onMedium_5 ⟨Nat.le_of_ble_eq_true rfl, Nat.le_of_ble_eq_true rfl⟩ (fun E ce q9 H1 locs1 hE w hcell hv hcl => ?_) (fun r σ1 H1 locs1 hp w => ?_)
  · obtain ⟨h0, rfl⟩ := hE
    rcases hks with q | q
    · exact absurd q h0
    · simp only [List.mem_cons, List.mem_nil_iff, or_false] at q
      rw [q] at hcl
      refine vx_catch (E := cIOB) (name := cIOB) (own := R_L) hown [] ⟨0, 10, 13, 15⟩ [] hex (fun z hz => absurd hz List.not_mem_nil) (by decide) (by decide) (hts _ (List.mem_cons_of_mem _ m_187)) (tF_w hT tc_2) hcell hv hcl ?_
      refine lv_astore (lv' := [(4, .ref q9), (0, .ref (ad 0)), (1, .int pg), (2, .int i0), (3, .ref o)]) hx hb d_L_onMedium_13 hl (by decide) rfl (fun ls hl => ?_)
      refine lv_iconst (v := 1) hx hb d_L_onMedium_15 (by decide) ?_
      exact wr_ret F w hr hlk (Nat.le_of_ble_eq_true rfl) (Nat.le_of_ble_eq_true rfl) (by rw [q]; rfl) (hkeep h0).symm (fun _ z => absurd z h0) d_L_onMedium_16
  · refine lv_i2l hx hb d_L_onMedium_8 rfl ?_
    refine wr_last F w d_L_onMedium_9 (fun f1 H1 locs1 hf1 w => ?_)
    refine lv_goto (tgt := 17) hx hb d_L_onMedium_10 (by decide) ?_
    refine lv_iconst (v := 0) hx hb d_L_onMedium_17 (by decide) ?_
    exact wr_ret F w hr hlk (Nat.le_of_ble_eq_true rfl) (Nat.le_of_ble_eq_true rfl) (by rw [hp]; rfl) (by rw [hp]) (fun _ _ => by rw [hp]; exact hf1) d_L_onMedium_18
set_option maxHeartbeats 4000000 in
set_option maxRecDepth 100000 in
theorem c_L_cutAfter (hl9 : l.stackTraces = false) (σ : Mem) (n0 : Int32)  (hkeep : (xCutA σ n0).1 ≠ 0 → (xCutA σ n0).2.2 = σ) (hks : (xCutA σ n0).1 = 0 ∨ (xCutA σ n0).1 ∈ [3]) : WO l D cI cF cZ cJ ad o y_L_cutAfter b_L_cutAfter 3 [(0, 5, 8, 54)] { frames := 8, cells := 1, slots := 6, locals := 131 } [.ref (ad 0), .int n0] σ (xCutA σ n0) gOne false := by
  refine WO.of (by decide) (Nat.le_of_ble_eq_true rfl) ?_
  intro p e s m args below meth c A ls f F w hT hN hl hr hlk hex
  obtain ⟨hx, hb, hml, hown, hts⟩ := id F
  have hl : lv_has ls 3 [(0, .ref (ad 0)), (1, .int n0)] := hl
  refine lv_aload_n hx hb d_L_cutAfter_0 rfl (lv_at hl 0 rfl) ?_
  refine lv_iload_n hx hb d_L_cutAfter_1 rfl (lv_at hl 1 rfl) ?_
  refine wr_xVv (As := [.int n0]) F w hT hl.1 (c_P_cutAfter hl9 σ n0 ) (cwV 1 hts (gd_H (gd_gt m_465 (kwV m_462 m_463 m_464 m_1 m_465))) rfl rfl rfl (by decide +kernel) ⟨Nat.le_of_ble_eq_true rfl, Nat.le_of_ble_eq_true rfl⟩) rfl rfl (Nat.le_of_ble_eq_true rfl) d_L_cutAfter_2 ⟨Nat.le_of_ble_eq_true rfl, Nat.le_of_ble_eq_true rfl⟩ (fun E ce q9 H1 locs1 hE w hcell hv hcl => ?_) (fun σ1 H1 locs1 hp w => ?_)
  · obtain ⟨h0, rfl⟩ := hE
    rcases hks with q | q
    · exact absurd q h0
    · simp only [List.mem_cons, List.mem_nil_iff, or_false] at q
      rw [q] at hcl
      refine vx_catch (E := cIAE) (name := cIAE) (own := R_L) hown [] ⟨0, 5, 8, 54⟩ [] hex (fun z hz => absurd hz List.not_mem_nil) (by decide) (by decide) (hts _ (List.mem_cons_of_mem _ m_461)) (tF_w hT tc_3) hcell hv hcl ?_
      refine lv_astore_n (lv' := [(2, .ref q9), (0, .ref (ad 0)), (1, .int n0)]) hx hb d_L_cutAfter_8 rfl hl (by decide) rfl (fun ls hl => ?_)
      refine lv_iconst (v := 1) hx hb d_L_cutAfter_9 (by decide) ?_
      exact wr_ret F w hr hlk (Nat.le_of_ble_eq_true rfl) (Nat.le_of_ble_eq_true rfl) (by rw [q]; rfl) (hkeep h0).symm (fun _ z => absurd z h0) d_L_cutAfter_10
  · refine lv_goto (tgt := 11) hx hb d_L_cutAfter_5 (by decide) ?_
    refine lv_iconst (v := 0) hx hb d_L_cutAfter_11 (by decide) ?_
    exact wr_ret F w hr hlk (Nat.le_of_ble_eq_true rfl) (Nat.le_of_ble_eq_true rfl) (by rw [hp]; rfl) (by rw [hp]) (fun z => absurd z (by decide)) d_L_cutAfter_12
set_option maxHeartbeats 4000000 in
set_option maxRecDepth 100000 in
theorem c_L_start (hl9 : l.stackTraces = false) (σ : Mem) (hs : nat0 256 (σ 2 3)) (hc : σ 1 0 = 0 → ¬ (kF σ).1 = 0 → ¬ (kG σ).1 = 0 → ((kG σ).2 5 5 - (kG σ).2 5 3) / nI 8 = nI (kCnt (kG σ).2)) (hLo : σ 1 0 = 0 → ¬ (kF σ).1 = 0 → ¬ (kG σ).1 = 0 → kLoopOK (kCnt (kG σ).2) 0 (kG σ).2) (hkeep : (xStart σ).1 ≠ 0 → (xStart σ).2.2 = σ) (hks : (xStart σ).1 = 0 ∨ (xStart σ).1 ∈ [1]) : WO l D cI cF cZ cJ ad o y_L_start b_L_start 3 [(0, 8, 11, 13)] { frames := 9, cells := 1, slots := 6, locals := 224 } [.ref (ad 0), .ref o] σ (xStart σ) gOne true := by
  refine WO.of (by decide) (Nat.le_of_ble_eq_true rfl) ?_
  intro p e s m args below meth c A ls f F w hT hN hl hr hlk hex
  obtain ⟨hx, hb, hml, hown, hts⟩ := id F
  have hl : lv_has ls 3 [(0, .ref (ad 0)), (1, .ref o)] := hl
  refine lv_aload_n hx hb d_L_start_0 rfl (lv_at hl 1 rfl) ?_
  refine lv_iconst (v := 0) hx hb d_L_start_1 (by decide) ?_
  refine lv_aload_n hx hb d_L_start_2 rfl (lv_at hl 0 rfl) ?_
  refine wr_xVi (As := []) F w hT hl.1 (c_P_start hl9 σ hs hc (kCnt_lt _) hLo) (cwV 0 hts (gd_H (gd_gt m_488 (kwV m_485 m_486 m_487 m_1 m_488))) rfl rfl rfl (by decide +kernel) ⟨Nat.le_of_ble_eq_true rfl, Nat.le_of_ble_eq_true rfl⟩) rfl rfl (Nat.le_of_ble_eq_true rfl) d_L_start_3 ⟨Nat.le_of_ble_eq_true rfl, Nat.le_of_ble_eq_true rfl⟩ (fun E ce q9 H1 locs1 hE w hcell hv hcl => ?_) (fun r σ1 H1 locs1 hp w => ?_)
  · obtain ⟨h0, rfl⟩ := hE
    rcases hks with q | q
    · exact absurd q h0
    · simp only [List.mem_cons, List.mem_nil_iff, or_false] at q
      rw [q] at hcl
      refine vx_catch (E := cISE) (name := cISE) (own := R_L) hown [] ⟨0, 8, 11, 13⟩ [] hex (fun z hz => absurd hz List.not_mem_nil) (by decide) (by decide) (hts _ (List.mem_cons_of_mem _ m_186)) (tF_w hT tc_1) hcell hv hcl ?_
      refine lv_astore_n (lv' := [(2, .ref q9), (0, .ref (ad 0)), (1, .ref o)]) hx hb d_L_start_11 rfl hl (by decide) rfl (fun ls hl => ?_)
      refine lv_iconst (v := 1) hx hb d_L_start_12 (by decide) ?_
      exact wr_ret F w hr hlk (Nat.le_of_ble_eq_true rfl) (Nat.le_of_ble_eq_true rfl) (by rw [q]; rfl) (hkeep h0).symm (fun _ z => absurd z h0) d_L_start_13
  · refine lv_i2l hx hb d_L_start_6 rfl ?_
    refine wr_last F w d_L_start_7 (fun f1 H1 locs1 hf1 w => ?_)
    refine lv_goto (tgt := 14) hx hb d_L_start_8 (by decide) ?_
    refine lv_iconst (v := 0) hx hb d_L_start_14 (by decide) ?_
    exact wr_ret F w hr hlk (Nat.le_of_ble_eq_true rfl) (Nat.le_of_ble_eq_true rfl) (by rw [hp]; rfl) (by rw [hp]) (fun _ _ => by rw [hp]; exact hf1) d_L_start_15
end
