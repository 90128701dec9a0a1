/-! The reference: forget, fail, canWrite, forceTo, toSpare, toOwn, writeOwn, write -/
section
variable {l : Launch} {D : va_G} {cI cF cZ cJ : ClassId} {ad : Nat → Nat} {σ : Mem}
set_option maxRecDepth 20000 in
theorem m_545 : Cond.fieldLink "PagePoolModel" 60 "PagePoolModel" "hand" "I" ∈ gt := gt_in 545 (by decide +kernel) (by decide +kernel)
set_option maxRecDepth 20000 in
theorem m_538 : Cond.fieldLink "PagePoolModel" 63 "PagePoolModel" "forced" "I" ∈ gt := gt_in 538 (by decide +kernel) (by decide +kernel)
set_option maxRecDepth 20000 in
theorem m_539 : Cond.fieldLink "PagePoolModel" 66 "PagePoolModel" "end" "I" ∈ gt := gt_in 539 (by decide +kernel) (by decide +kernel)
set_option maxRecDepth 20000 in
theorem m_541 : Cond.fieldLink "PagePoolModel" 39 "PagePoolModel" "framePage" "[I" ∈ gt := gt_in 541 (by decide +kernel) (by decide +kernel)
set_option maxRecDepth 20000 in
theorem m_542 : Cond.fieldLink "PagePoolModel" 42 "PagePoolModel" "pins" "[I" ∈ gt := gt_in 542 (by decide +kernel) (by decide +kernel)
set_option maxRecDepth 20000 in
theorem m_543 : Cond.fieldLink "PagePoolModel" 45 "PagePoolModel" "used" "[Z" ∈ gt := gt_in 543 (by decide +kernel) (by decide +kernel)
set_option maxRecDepth 20000 in
theorem m_544 : Cond.fieldLink "PagePoolModel" 48 "PagePoolModel" "firsts" "[I" ∈ gt := gt_in 544 (by decide +kernel) (by decide +kernel)
set_option maxRecDepth 20000 in
theorem m_549 : Cond.fieldLink "PagePoolModel" 73 "PagePoolModel" "failed" "Z" ∈ gt := gt_in 549 (by decide +kernel) (by decide +kernel)
set_option maxRecDepth 20000 in
theorem m_547 : Cond.fieldLink "PagePoolModel" 51 "PagePoolModel" "left" "I" ∈ gt := gt_in 547 (by decide +kernel) (by decide +kernel)
set_option maxRecDepth 20000 in
theorem m_524 : Cond.methodLink "PagePoolModel" 54 (⟨"PagePoolModel", "forget", "()V"⟩ : MethodName) ∈ gt := gt_in 524 (by decide +kernel) (by decide +kernel)
set_option maxRecDepth 20000 in
theorem m_527 : Cond.code (⟨"PagePoolModel", "forget", "()V"⟩ : MethodName) prog_7_method_5_code 2 none ∈ gt := gt_in 527 (by decide +kernel) (by decide +kernel)
set_option maxRecDepth 20000 in
theorem m_526 : Cond.instanceMethod (⟨"PagePoolModel", "forget", "()V"⟩ : MethodName) ∈ gt := gt_in 526 (by decide +kernel) (by decide +kernel)
set_option maxRecDepth 20000 in
theorem ms_11 : Cond.selects "PagePoolModel" (⟨"PagePoolModel", "forget", "()V"⟩ : MethodName) (⟨"PagePoolModel", "forget", "()V"⟩ : MethodName) ∈ gt := gt_sel 11 (by decide +kernel) (by decide +kernel)
set_option maxRecDepth 20000 in
theorem m_612 : Cond.methodLink "PagePoolModel" 76 (⟨"PagePoolModel", "fail", "()V"⟩ : MethodName) ∈ gt := gt_in 612 (by decide +kernel) (by decide +kernel)
set_option maxRecDepth 20000 in
theorem m_615 : Cond.code (⟨"PagePoolModel", "fail", "()V"⟩ : MethodName) prog_7_method_6_code 1 none ∈ gt := gt_in 615 (by decide +kernel) (by decide +kernel)
set_option maxRecDepth 20000 in
theorem m_614 : Cond.instanceMethod (⟨"PagePoolModel", "fail", "()V"⟩ : MethodName) ∈ gt := gt_in 614 (by decide +kernel) (by decide +kernel)
set_option maxRecDepth 20000 in
theorem ms_13 : Cond.selects "PagePoolModel" (⟨"PagePoolModel", "fail", "()V"⟩ : MethodName) (⟨"PagePoolModel", "fail", "()V"⟩ : MethodName) ∈ gt := gt_sel 13 (by decide +kernel) (by decide +kernel)
set_option maxRecDepth 20000 in
theorem m_628 : Cond.methodLink "PagePoolModel" 86 (⟨"PagePoolModel", "canWrite", "()Z"⟩ : MethodName) ∈ gt := gt_in 628 (by decide +kernel) (by decide +kernel)
set_option maxRecDepth 20000 in
theorem m_631 : Cond.code (⟨"PagePoolModel", "canWrite", "()Z"⟩ : MethodName) prog_7_method_7_code 1 (some .boolean) ∈ gt := gt_in 631 (by decide +kernel) (by decide +kernel)
set_option maxRecDepth 20000 in
theorem m_630 : Cond.instanceMethod (⟨"PagePoolModel", "canWrite", "()Z"⟩ : MethodName) ∈ gt := gt_in 630 (by decide +kernel) (by decide +kernel)
set_option maxRecDepth 20000 in
theorem ms_15 : Cond.selects "PagePoolModel" (⟨"PagePoolModel", "canWrite", "()Z"⟩ : MethodName) (⟨"PagePoolModel", "canWrite", "()Z"⟩ : MethodName) ∈ gt := gt_sel 15 (by decide +kernel) (by decide +kernel)
set_option maxRecDepth 20000 in
theorem m_530 : Cond.fieldLink "PagePoolModel" 13 "PagePoolModel" "spare" "[I" ∈ gt := gt_in 530 (by decide +kernel) (by decide +kernel)
set_option maxRecDepth 20000 in
theorem m_540 : Cond.fieldLink "PagePoolModel" 36 "PagePoolModel" "frames" "[I" ∈ gt := gt_in 540 (by decide +kernel) (by decide +kernel)
set_option maxRecDepth 20000 in
theorem m_529 : Cond.fieldLink "PagePoolModel" 7 "PagePoolModel" "pages" "[I" ∈ gt := gt_in 529 (by decide +kernel) (by decide +kernel)
set_option maxRecDepth 20000 in
theorem m_663 : Cond.methodLink "PagePoolModel" 94 (⟨"PagePoolModel", "toOwn", "(II)V"⟩ : MethodName) ∈ gt := gt_in 663 (by decide +kernel) (by decide +kernel)
set_option maxRecDepth 20000 in
theorem m_666 : Cond.code (⟨"PagePoolModel", "toOwn", "(II)V"⟩ : MethodName) prog_7_method_16_code 4 none ∈ gt := gt_in 666 (by decide +kernel) (by decide +kernel)
set_option maxRecDepth 20000 in
theorem m_665 : Cond.instanceMethod (⟨"PagePoolModel", "toOwn", "(II)V"⟩ : MethodName) ∈ gt := gt_in 665 (by decide +kernel) (by decide +kernel)
set_option maxRecDepth 20000 in
theorem ms_22 : Cond.selects "PagePoolModel" (⟨"PagePoolModel", "toOwn", "(II)V"⟩ : MethodName) (⟨"PagePoolModel", "toOwn", "(II)V"⟩ : MethodName) ∈ gt := gt_sel 22 (by decide +kernel) (by decide +kernel)
theorem d_R_forget_0 : decode b_R_forget 0 = .ok (.iconst 0, 1) := by decide +kernel
theorem d_R_forget_1 : decode b_R_forget 1 = .ok (.istore_n 1, 1) := by decide +kernel
theorem d_R_forget_2 : decode b_R_forget 2 = .ok (.iload_n 1, 1) := by decide +kernel
theorem d_R_forget_3 : decode b_R_forget 3 = .ok (.bipush 8, 2) := by decide +kernel
theorem d_R_forget_5 : decode b_R_forget 5 = .ok (.if_icmp .ge 37, 3) := by decide +kernel
theorem d_R_forget_8 : decode b_R_forget 8 = .ok (.aload_n 0, 1) := by decide +kernel
theorem d_R_forget_9 : decode b_R_forget 9 = .ok (.getfield 39, 3) := by decide +kernel
theorem d_R_forget_12 : decode b_R_forget 12 = .ok (.iload_n 1, 1) := by decide +kernel
theorem d_R_forget_13 : decode b_R_forget 13 = .ok (.iconst (-1), 1) := by decide +kernel
theorem d_R_forget_14 : decode b_R_forget 14 = .ok (.iastore, 1) := by decide +kernel
theorem d_R_forget_15 : decode b_R_forget 15 = .ok (.aload_n 0, 1) := by decide +kernel
theorem d_R_forget_16 : decode b_R_forget 16 = .ok (.getfield 42, 3) := by decide +kernel
theorem d_R_forget_19 : decode b_R_forget 19 = .ok (.iload_n 1, 1) := by decide +kernel
theorem d_R_forget_20 : decode b_R_forget 20 = .ok (.iconst 0, 1) := by decide +kernel
theorem d_R_forget_21 : decode b_R_forget 21 = .ok (.iastore, 1) := by decide +kernel
theorem d_R_forget_22 : decode b_R_forget 22 = .ok (.aload_n 0, 1) := by decide +kernel
theorem d_R_forget_23 : decode b_R_forget 23 = .ok (.getfield 45, 3) := by decide +kernel
theorem d_R_forget_26 : decode b_R_forget 26 = .ok (.iload_n 1, 1) := by decide +kernel
theorem d_R_forget_27 : decode b_R_forget 27 = .ok (.iconst 0, 1) := by decide +kernel
theorem d_R_forget_28 : decode b_R_forget 28 = .ok (.bastore, 1) := by decide +kernel
theorem d_R_forget_29 : decode b_R_forget 29 = .ok (.aload_n 0, 1) := by decide +kernel
theorem d_R_forget_30 : decode b_R_forget 30 = .ok (.getfield 48, 3) := by decide +kernel
theorem d_R_forget_33 : decode b_R_forget 33 = .ok (.iload_n 1, 1) := by decide +kernel
theorem d_R_forget_34 : decode b_R_forget 34 = .ok (.iconst (-1), 1) := by decide +kernel
theorem d_R_forget_35 : decode b_R_forget 35 = .ok (.iastore, 1) := by decide +kernel
theorem d_R_forget_36 : decode b_R_forget 36 = .ok (.iinc 1 1, 3) := by decide +kernel
theorem d_R_forget_39 : decode b_R_forget 39 = .ok (.goto (-37), 3) := by decide +kernel
theorem d_R_forget_42 : decode b_R_forget 42 = .ok (.aload_n 0, 1) := by decide +kernel
theorem d_R_forget_43 : decode b_R_forget 43 = .ok (.iconst 0, 1) := by decide +kernel
theorem d_R_forget_44 : decode b_R_forget 44 = .ok (.putfield 60, 3) := by decide +kernel
theorem d_R_forget_47 : decode b_R_forget 47 = .ok (.aload_n 0, 1) := by decide +kernel
theorem d_R_forget_48 : decode b_R_forget 48 = .ok (.aload_n 0, 1) := by decide +kernel
theorem d_R_forget_49 : decode b_R_forget 49 = .ok (.getfield 63, 3) := by decide +kernel
theorem d_R_forget_52 : decode b_R_forget 52 = .ok (.putfield 66, 3) := by decide +kernel
theorem d_R_forget_55 : decode b_R_forget 55 = .ok (.return_, 1) := by decide +kernel
theorem d_R_fail_0 : decode b_R_fail 0 = .ok (.aload_n 0, 1) := by decide +kernel
theorem d_R_fail_1 : decode b_R_fail 1 = .ok (.iconst 1, 1) := by decide +kernel
theorem d_R_fail_2 : decode b_R_fail 2 = .ok (.putfield 69, 3) := by decide +kernel
theorem d_R_fail_5 : decode b_R_fail 5 = .ok (.aload_n 0, 1) := by decide +kernel
theorem d_R_fail_6 : decode b_R_fail 6 = .ok (.iconst 1, 1) := by decide +kernel
theorem d_R_fail_7 : decode b_R_fail 7 = .ok (.putfield 73, 3) := by decide +kernel
theorem d_R_fail_10 : decode b_R_fail 10 = .ok (.aload_n 0, 1) := by decide +kernel
theorem d_R_fail_11 : decode b_R_fail 11 = .ok (.iconst (-1), 1) := by decide +kernel
theorem d_R_fail_12 : decode b_R_fail 12 = .ok (.putfield 51, 3) := by decide +kernel
theorem d_R_fail_15 : decode b_R_fail 15 = .ok (.aload_n 0, 1) := by decide +kernel
theorem d_R_fail_16 : decode b_R_fail 16 = .ok (.invokevirtual 54, 3) := by decide +kernel
theorem d_R_fail_19 : decode b_R_fail 19 = .ok (.return_, 1) := by decide +kernel
set_option maxRecDepth 20000 in
theorem g_R_fail_16 : GoodIn (kws (y_R_fail) b_R_fail 1 none) (wsV R_R 54 R_R y_R_forget (kws (y_R_forget) b_R_forget 2 none)) := kwV m_524 m_526 ms_11 m_6 m_527
theorem d_R_canWrite_0 : decode b_R_canWrite 0 = .ok (.aload_n 0, 1) := by decide +kernel
theorem d_R_canWrite_1 : decode b_R_canWrite 1 = .ok (.getfield 73, 3) := by decide +kernel
theorem d_R_canWrite_4 : decode b_R_canWrite 4 = .ok (.ifCond .ne 10, 3) := by decide +kernel
theorem d_R_canWrite_7 : decode b_R_canWrite 7 = .ok (.aload_n 0, 1) := by decide +kernel
theorem d_R_canWrite_8 : decode b_R_canWrite 8 = .ok (.getfield 51, 3) := by decide +kernel
theorem d_R_canWrite_11 : decode b_R_canWrite 11 = .ok (.ifCond .ne 16, 3) := by decide +kernel
theorem d_R_canWrite_14 : decode b_R_canWrite 14 = .ok (.aload_n 0, 1) := by decide +kernel
theorem d_R_canWrite_15 : decode b_R_canWrite 15 = .ok (.getfield 73, 3) := by decide +kernel
theorem d_R_canWrite_18 : decode b_R_canWrite 18 = .ok (.ifCond .ne 7, 3) := by decide +kernel
theorem d_R_canWrite_21 : decode b_R_canWrite 21 = .ok (.aload_n 0, 1) := by decide +kernel
theorem d_R_canWrite_22 : decode b_R_canWrite 22 = .ok (.invokevirtual 76, 3) := by decide +kernel
theorem d_R_canWrite_25 : decode b_R_canWrite 25 = .ok (.iconst 0, 1) := by decide +kernel
theorem d_R_canWrite_26 : decode b_R_canWrite 26 = .ok (.ireturn, 1) := by decide +kernel
theorem d_R_canWrite_27 : decode b_R_canWrite 27 = .ok (.aload_n 0, 1) := by decide +kernel
theorem d_R_canWrite_28 : decode b_R_canWrite 28 = .ok (.aload_n 0, 1) := by decide +kernel
theorem d_R_canWrite_29 : decode b_R_canWrite 29 = .ok (.getfield 51, 3) := by decide +kernel
theorem d_R_canWrite_32 : decode b_R_canWrite 32 = .ok (.ifCond .le 12, 3) := by decide +kernel
theorem d_R_canWrite_35 : decode b_R_canWrite 35 = .ok (.aload_n 0, 1) := by decide +kernel
theorem d_R_canWrite_36 : decode b_R_canWrite 36 = .ok (.getfield 51, 3) := by decide +kernel
theorem d_R_canWrite_39 : decode b_R_canWrite 39 = .ok (.iconst 1, 1) := by decide +kernel
theorem d_R_canWrite_40 : decode b_R_canWrite 40 = .ok (.isub, 1) := by decide +kernel
theorem d_R_canWrite_41 : decode b_R_canWrite 41 = .ok (.goto 7, 3) := by decide +kernel
theorem d_R_canWrite_44 : decode b_R_canWrite 44 = .ok (.aload_n 0, 1) := by decide +kernel
theorem d_R_canWrite_45 : decode b_R_canWrite 45 = .ok (.getfield 51, 3) := by decide +kernel
theorem d_R_canWrite_48 : decode b_R_canWrite 48 = .ok (.putfield 51, 3) := by decide +kernel
theorem d_R_canWrite_51 : decode b_R_canWrite 51 = .ok (.aload_n 0, 1) := by decide +kernel
theorem d_R_canWrite_52 : decode b_R_canWrite 52 = .ok (.dup, 1) := by decide +kernel
theorem d_R_canWrite_53 : decode b_R_canWrite 53 = .ok (.getfield 79, 3) := by decide +kernel
theorem d_R_canWrite_56 : decode b_R_canWrite 56 = .ok (.iconst 1, 1) := by decide +kernel
theorem d_R_canWrite_57 : decode b_R_canWrite 57 = .ok (.iadd, 1) := by decide +kernel
theorem d_R_canWrite_58 : decode b_R_canWrite 58 = .ok (.putfield 79, 3) := by decide +kernel
theorem d_R_canWrite_61 : decode b_R_canWrite 61 = .ok (.iconst 1, 1) := by decide +kernel
theorem d_R_canWrite_62 : decode b_R_canWrite 62 = .ok (.ireturn, 1) := by decide +kernel
set_option maxRecDepth 20000 in
theorem g_R_canWrite_22 : GoodIn (kws (y_R_canWrite) b_R_canWrite 1 (some .boolean)) (wsV R_R 76 R_R y_R_fail (kws (y_R_fail) b_R_fail 1 none)) := kwV m_612 m_614 ms_13 m_6 m_615
theorem d_R_forceTo_0 : decode b_R_forceTo 0 = .ok (.iconst 0, 1) := by decide +kernel
theorem d_R_forceTo_1 : decode b_R_forceTo 1 = .ok (.istore_n 2, 1) := by decide +kernel
theorem d_R_forceTo_2 : decode b_R_forceTo 2 = .ok (.aload_n 0, 1) := by decide +kernel
theorem d_R_forceTo_3 : decode b_R_forceTo 3 = .ok (.getfield 63, 3) := by decide +kernel
theorem d_R_forceTo_6 : decode b_R_forceTo 6 = .ok (.iload_n 1, 1) := by decide +kernel
theorem d_R_forceTo_7 : decode b_R_forceTo 7 = .ok (.if_icmp .ge 26, 3) := by decide +kernel
theorem d_R_forceTo_10 : decode b_R_forceTo 10 = .ok (.aload_n 0, 1) := by decide +kernel
theorem d_R_forceTo_11 : decode b_R_forceTo 11 = .ok (.invokevirtual 86, 3) := by decide +kernel
theorem d_R_forceTo_14 : decode b_R_forceTo 14 = .ok (.ifCond .eq 19, 3) := by decide +kernel
theorem d_R_forceTo_17 : decode b_R_forceTo 17 = .ok (.aload_n 0, 1) := by decide +kernel
theorem d_R_forceTo_18 : decode b_R_forceTo 18 = .ok (.dup, 1) := by decide +kernel
theorem d_R_forceTo_19 : decode b_R_forceTo 19 = .ok (.getfield 63, 3) := by decide +kernel
theorem d_R_forceTo_22 : decode b_R_forceTo 22 = .ok (.iconst 1, 1) := by decide +kernel
theorem d_R_forceTo_23 : decode b_R_forceTo 23 = .ok (.iadd, 1) := by decide +kernel
theorem d_R_forceTo_24 : decode b_R_forceTo 24 = .ok (.putfield 63, 3) := by decide +kernel
theorem d_R_forceTo_27 : decode b_R_forceTo 27 = .ok (.iinc 2 1, 3) := by decide +kernel
theorem d_R_forceTo_30 : decode b_R_forceTo 30 = .ok (.goto (-28), 3) := by decide +kernel
theorem d_R_forceTo_33 : decode b_R_forceTo 33 = .ok (.iload_n 2, 1) := by decide +kernel
theorem d_R_forceTo_34 : decode b_R_forceTo 34 = .ok (.ireturn, 1) := by decide +kernel
set_option maxRecDepth 20000 in
theorem g_R_forceTo_11 : GoodIn (kws (y_R_forceTo) b_R_forceTo 3 (some .int)) (wsV R_R 86 R_R y_R_canWrite (kws (y_R_canWrite) b_R_canWrite 1 (some .boolean))) := kwV m_628 m_630 ms_15 m_6 m_631
theorem d_R_toSpare_0 : decode b_R_toSpare 0 = .ok (.iload_n 2, 1) := by decide +kernel
theorem d_R_toSpare_1 : decode b_R_toSpare 1 = .ok (.bipush 32, 2) := by decide +kernel
theorem d_R_toSpare_3 : decode b_R_toSpare 3 = .ok (.imul, 1) := by decide +kernel
theorem d_R_toSpare_4 : decode b_R_toSpare 4 = .ok (.istore_n 3, 1) := by decide +kernel
theorem d_R_toSpare_5 : decode b_R_toSpare 5 = .ok (.iload_n 3, 1) := by decide +kernel
theorem d_R_toSpare_6 : decode b_R_toSpare 6 = .ok (.iload_n 2, 1) := by decide +kernel
theorem d_R_toSpare_7 : decode b_R_toSpare 7 = .ok (.bipush 32, 2) := by decide +kernel
theorem d_R_toSpare_9 : decode b_R_toSpare 9 = .ok (.imul, 1) := by decide +kernel
theorem d_R_toSpare_10 : decode b_R_toSpare 10 = .ok (.bipush 32, 2) := by decide +kernel
theorem d_R_toSpare_12 : decode b_R_toSpare 12 = .ok (.iadd, 1) := by decide +kernel
theorem d_R_toSpare_13 : decode b_R_toSpare 13 = .ok (.if_icmp .ge 26, 3) := by decide +kernel
theorem d_R_toSpare_16 : decode b_R_toSpare 16 = .ok (.aload_n 0, 1) := by decide +kernel
theorem d_R_toSpare_17 : decode b_R_toSpare 17 = .ok (.getfield 13, 3) := by decide +kernel
theorem d_R_toSpare_20 : decode b_R_toSpare 20 = .ok (.iload_n 3, 1) := by decide +kernel
theorem d_R_toSpare_21 : decode b_R_toSpare 21 = .ok (.aload_n 0, 1) := by decide +kernel
theorem d_R_toSpare_22 : decode b_R_toSpare 22 = .ok (.getfield 36, 3) := by decide +kernel
theorem d_R_toSpare_25 : decode b_R_toSpare 25 = .ok (.bipush 64, 2) := by decide +kernel
theorem d_R_toSpare_27 : decode b_R_toSpare 27 = .ok (.iload_n 1, 1) := by decide +kernel
theorem d_R_toSpare_28 : decode b_R_toSpare 28 = .ok (.imul, 1) := by decide +kernel
theorem d_R_toSpare_29 : decode b_R_toSpare 29 = .ok (.iload_n 3, 1) := by decide +kernel
theorem d_R_toSpare_30 : decode b_R_toSpare 30 = .ok (.iadd, 1) := by decide +kernel
theorem d_R_toSpare_31 : decode b_R_toSpare 31 = .ok (.iaload, 1) := by decide +kernel
theorem d_R_toSpare_32 : decode b_R_toSpare 32 = .ok (.iastore, 1) := by decide +kernel
theorem d_R_toSpare_33 : decode b_R_toSpare 33 = .ok (.iinc 3 1, 3) := by decide +kernel
theorem d_R_toSpare_36 : decode b_R_toSpare 36 = .ok (.goto (-31), 3) := by decide +kernel
theorem d_R_toSpare_39 : decode b_R_toSpare 39 = .ok (.return_, 1) := by decide +kernel
theorem d_R_toOwn_0 : decode b_R_toOwn 0 = .ok (.iload_n 2, 1) := by decide +kernel
theorem d_R_toOwn_1 : decode b_R_toOwn 1 = .ok (.bipush 32, 2) := by decide +kernel
theorem d_R_toOwn_3 : decode b_R_toOwn 3 = .ok (.imul, 1) := by decide +kernel
theorem d_R_toOwn_4 : decode b_R_toOwn 4 = .ok (.istore_n 3, 1) := by decide +kernel
theorem d_R_toOwn_5 : decode b_R_toOwn 5 = .ok (.iload_n 3, 1) := by decide +kernel
theorem d_R_toOwn_6 : decode b_R_toOwn 6 = .ok (.iload_n 2, 1) := by decide +kernel
theorem d_R_toOwn_7 : decode b_R_toOwn 7 = .ok (.bipush 32, 2) := by decide +kernel
theorem d_R_toOwn_9 : decode b_R_toOwn 9 = .ok (.imul, 1) := by decide +kernel
theorem d_R_toOwn_10 : decode b_R_toOwn 10 = .ok (.bipush 32, 2) := by decide +kernel
theorem d_R_toOwn_12 : decode b_R_toOwn 12 = .ok (.iadd, 1) := by decide +kernel
theorem d_R_toOwn_13 : decode b_R_toOwn 13 = .ok (.if_icmp .ge 26, 3) := by decide +kernel
theorem d_R_toOwn_16 : decode b_R_toOwn 16 = .ok (.aload_n 0, 1) := by decide +kernel
theorem d_R_toOwn_17 : decode b_R_toOwn 17 = .ok (.getfield 7, 3) := by decide +kernel
theorem d_R_toOwn_20 : decode b_R_toOwn 20 = .ok (.bipush 64, 2) := by decide +kernel
theorem d_R_toOwn_22 : decode b_R_toOwn 22 = .ok (.iload_n 1, 1) := by decide +kernel
theorem d_R_toOwn_23 : decode b_R_toOwn 23 = .ok (.imul, 1) := by decide +kernel
theorem d_R_toOwn_24 : decode b_R_toOwn 24 = .ok (.iload_n 3, 1) := by decide +kernel
theorem d_R_toOwn_25 : decode b_R_toOwn 25 = .ok (.iadd, 1) := by decide +kernel
theorem d_R_toOwn_26 : decode b_R_toOwn 26 = .ok (.aload_n 0, 1) := by decide +kernel
theorem d_R_toOwn_27 : decode b_R_toOwn 27 = .ok (.getfield 13, 3) := by decide +kernel
theorem d_R_toOwn_30 : decode b_R_toOwn 30 = .ok (.iload_n 3, 1) := by decide +kernel
theorem d_R_toOwn_31 : decode b_R_toOwn 31 = .ok (.iaload, 1) := by decide +kernel
theorem d_R_toOwn_32 : decode b_R_toOwn 32 = .ok (.iastore, 1) := by decide +kernel
theorem d_R_toOwn_33 : decode b_R_toOwn 33 = .ok (.iinc 3 1, 3) := by decide +kernel
theorem d_R_toOwn_36 : decode b_R_toOwn 36 = .ok (.goto (-31), 3) := by decide +kernel
theorem d_R_toOwn_39 : decode b_R_toOwn 39 = .ok (.return_, 1) := by decide +kernel
theorem d_R_writeOwn_0 : decode b_R_writeOwn 0 = .ok (.iconst 0, 1) := by decide +kernel
theorem d_R_writeOwn_1 : decode b_R_writeOwn 1 = .ok (.istore_n 2, 1) := by decide +kernel
theorem d_R_writeOwn_2 : decode b_R_writeOwn 2 = .ok (.iload_n 2, 1) := by decide +kernel
theorem d_R_writeOwn_3 : decode b_R_writeOwn 3 = .ok (.iconst 2, 1) := by decide +kernel
theorem d_R_writeOwn_4 : decode b_R_writeOwn 4 = .ok (.if_icmp .ge 35, 3) := by decide +kernel
theorem d_R_writeOwn_7 : decode b_R_writeOwn 7 = .ok (.aload_n 0, 1) := by decide +kernel
theorem d_R_writeOwn_8 : decode b_R_writeOwn 8 = .ok (.invokevirtual 86, 3) := by decide +kernel
theorem d_R_writeOwn_11 : decode b_R_writeOwn 11 = .ok (.ifCond .eq 28, 3) := by decide +kernel
theorem d_R_writeOwn_14 : decode b_R_writeOwn 14 = .ok (.aload_n 0, 1) := by decide +kernel
theorem d_R_writeOwn_15 : decode b_R_writeOwn 15 = .ok (.iload_n 1, 1) := by decide +kernel
theorem d_R_writeOwn_16 : decode b_R_writeOwn 16 = .ok (.iload_n 2, 1) := by decide +kernel
theorem d_R_writeOwn_17 : decode b_R_writeOwn 17 = .ok (.invokevirtual 94, 3) := by decide +kernel
theorem d_R_writeOwn_20 : decode b_R_writeOwn 20 = .ok (.aload_n 0, 1) := by decide +kernel
theorem d_R_writeOwn_21 : decode b_R_writeOwn 21 = .ok (.iload_n 2, 1) := by decide +kernel
theorem d_R_writeOwn_22 : decode b_R_writeOwn 22 = .ok (.ifCond .ne 7, 3) := by decide +kernel
theorem d_R_writeOwn_25 : decode b_R_writeOwn 25 = .ok (.iload_n 1, 1) := by decide +kernel
theorem d_R_writeOwn_26 : decode b_R_writeOwn 26 = .ok (.goto 4, 3) := by decide +kernel
theorem d_R_writeOwn_29 : decode b_R_writeOwn 29 = .ok (.iconst (-1), 1) := by decide +kernel
theorem d_R_writeOwn_30 : decode b_R_writeOwn 30 = .ok (.putfield 20, 3) := by decide +kernel
theorem d_R_writeOwn_33 : decode b_R_writeOwn 33 = .ok (.iinc 2 1, 3) := by decide +kernel
theorem d_R_writeOwn_36 : decode b_R_writeOwn 36 = .ok (.goto (-34), 3) := by decide +kernel
theorem d_R_writeOwn_39 : decode b_R_writeOwn 39 = .ok (.return_, 1) := by decide +kernel
set_option maxRecDepth 20000 in
theorem g_R_writeOwn_8 : GoodIn (kws (y_R_writeOwn) b_R_writeOwn 3 none) (wsV R_R 86 R_R y_R_canWrite (kws (y_R_canWrite) b_R_canWrite 1 (some .boolean))) := kwV m_628 m_630 ms_15 m_6 m_631
set_option maxRecDepth 20000 in
theorem g_R_writeOwn_17 : GoodIn (kws (y_R_writeOwn) b_R_writeOwn 3 none) (wsV R_R 94 R_R y_R_toOwn (kws (y_R_toOwn) b_R_toOwn 4 none)) := kwV m_663 m_665 ms_22 m_6 m_666
def qForgets : Nat → Nat → Mem → Mem
  | 0, _, τ => τ
  | n + 1, f, τ => qForgets n (f + 1) (mup (mup (mup (mup τ 8 f (-1)) 9 f (nI 0)) 10 f (nI 0)) 11 f (-1))
def qForget (σ : Mem) : Mem := mup (mup (qForgets 8 0 σ) 0 17 (nI 0)) 0 11 ((mup (qForgets 8 0 σ) 0 17 (nI 0)) 0 10)
set_option maxHeartbeats 4000000 in
set_option maxRecDepth 100000 in
theorem c_R_forget (σ : Mem) : KVR l D cI cF cZ cJ ad y_R_forget b_R_forget 2 0 0 [.ref (ad 0)] σ (fun σ' => σ' = qForget σ) := by
  refine KV.of (by decide) (Nat.le_of_ble_eq_true rfl) ?_
  intro p e s m args below meth c A ls F w hl hr hlk
  obtain ⟨hx, hb, hml, hown, hts⟩ := id F
  have hl : lv_has ls 2 [(0, .ref (ad 0))] := hl
  have loop : ∀ (n : Nat) (f : Nat) (τ : Mem) (hn : f + n = 8) (hk : qForgets n f τ = qForgets 8 0 σ) (H : Heap) (locs : List Loc) (ls : Array Slot), mW D clP (tyP cI cF cZ cJ) 12 (eR cI cZ ad) ad τ s A s.heap H locs → lv_has ls 2 [(1, .int (nI f)), (0, .ref (ad 0))] → W p l e { frames := 0, cells := 0, slots := 0, locals := 0 } s m args below meth c H locs 0 0 (MQ below (va_Qv (fun σ' => σ' = qForget σ) (KB D clP (tyP cI cF cZ cJ) 12 (eR cI cZ ad) ad) A) args s 0 0 A) (F0 m 2 ls []) := by
    intro n
    induction n with
    | zero =>
      intro f τ hn hk H locs ls w hl
      refine lv_iload_n hx hb d_R_forget_2 rfl (lv_at hl 0 rfl) ?_
      refine lv_bipush (v := nI 8) hx hb d_R_forget_3 (by decide) ?_
      refine nr_icmp_ge (tgt := 42) hx hb d_R_forget_5 (by decide) (by omega) (by omega) (fun c1 => ?_) (fun c1 => absurd (by omega) c1)
      refine lv_aload_n hx hb d_R_forget_42 rfl (lv_at hl 1 rfl) ?_
      refine lv_iconst (v := nI 0) hx hb d_R_forget_43 (by decide) ?_
      refine mr_put F w (kin in_R) t_R t_R_ok n_R 0 (by decide) rfl rfl 17 (by decide) (kws_in m_545) (fun _ h => h) rfl rfl rfl (Nat.le_of_ble_eq_true rfl) rfl d_R_forget_44 (fun H locs w => ?_)
      refine lv_aload_n hx hb d_R_forget_47 rfl (lv_at hl 1 rfl) ?_
      refine lv_aload_n hx hb d_R_forget_48 rfl (lv_at hl 1 rfl) ?_
      refine mr_get F w (kin in_R) 0 (by decide) rfl rfl 10 (by decide) (kws_in m_538) (fun _ h => h) rfl d_R_forget_49 ?_
      refine mr_put F w (kin in_R) t_R t_R_ok n_R 0 (by decide) rfl rfl 11 (by decide) (kws_in m_539) (fun _ h => h) rfl rfl rfl (Nat.le_of_ble_eq_true rfl) rfl d_R_forget_52 (fun H locs w => ?_)
      exact mr_vret F w hr hlk (by unfold qForget; rw [← hk]; rfl) d_R_forget_55
    | succ n ih =>
      intro f τ hn hk H locs ls w hl
      refine lv_iload_n hx hb d_R_forget_2 rfl (lv_at hl 0 rfl) ?_
      refine lv_bipush (v := nI 8) hx hb d_R_forget_3 (by decide) ?_
      refine nr_icmp_ge (tgt := 42) hx hb d_R_forget_5 (by decide) (by omega) (by omega) (fun c2 => absurd c2 (by omega)) (fun c2 => ?_)
      refine lv_aload_n hx hb d_R_forget_8 rfl (lv_at hl 1 rfl) ?_
      refine mr_get F w (kin in_R) 0 (by decide) rfl rfl 13 (by decide) (kws_in m_541) (fun _ h => h) rfl d_R_forget_9 ?_
      refine lv_iload_n hx hb d_R_forget_12 rfl (lv_at hl 0 rfl) ?_
      refine lv_iconst (v := -1) hx hb d_R_forget_13 (by decide) ?_
      refine mr_isN F w 8 0 (by decide) (fun _ => rfl) rfl f (by omega) (by decide) rfl d_R_forget_14 (fun H locs w => ?_)
      refine lv_aload_n hx hb d_R_forget_15 rfl (lv_at hl 1 rfl) ?_
      refine mr_get F w (kin in_R) 0 (by decide) rfl rfl 14 (by decide) (kws_in m_542) (fun _ h => h) rfl d_R_forget_16 ?_
      refine lv_iload_n hx hb d_R_forget_19 rfl (lv_at hl 0 rfl) ?_
      refine lv_iconst (v := nI 0) hx hb d_R_forget_20 (by decide) ?_
      refine mr_isN F w 9 0 (by decide) (fun _ => rfl) rfl f (by omega) (by decide) rfl d_R_forget_21 (fun H locs w => ?_)
      refine lv_aload_n hx hb d_R_forget_22 rfl (lv_at hl 1 rfl) ?_
      refine mr_get F w (kin in_R) 0 (by decide) rfl rfl 15 (by decide) (kws_in m_543) (fun _ h => h) rfl d_R_forget_23 ?_
      refine lv_iload_n hx hb d_R_forget_26 rfl (lv_at hl 0 rfl) ?_
      refine lv_iconst (v := nI 0) hx hb d_R_forget_27 (by decide) ?_
      refine mr_bsN F w 10 2 (by decide) (fun _ => rfl) rfl f (by omega) (by decide) rfl (Or.inl rfl) d_R_forget_28 (fun H locs w => ?_)
      refine lv_aload_n hx hb d_R_forget_29 rfl (lv_at hl 1 rfl) ?_
      refine mr_get F w (kin in_R) 0 (by decide) rfl rfl 16 (by decide) (kws_in m_544) (fun _ h => h) rfl d_R_forget_30 ?_
      refine lv_iload_n hx hb d_R_forget_33 rfl (lv_at hl 0 rfl) ?_
      refine lv_iconst (v := -1) hx hb d_R_forget_34 (by decide) ?_
      refine mr_isN F w 11 0 (by decide) (fun _ => rfl) rfl f (by omega) (by decide) rfl d_R_forget_35 (fun H locs w => ?_)
      refine lv_iinc (v := nI (f + 1)) (lv' := [(1, .int (nI (f + 1))), (0, .ref (ad 0))]) hx hb d_R_forget_36 hl (k := 0) rfl (nI_1 _) (by decide) rfl (fun ls hl => ?_)
      refine lv_goto (tgt := 2) hx hb d_R_forget_39 (by decide) ?_
      exact ih (f + 1) _ (by omega) (by rw [← hk]; rfl) _ _ ls w (lv_sub hl [0, 1] rfl)
  refine lv_iconst (v := nI 0) hx hb d_R_forget_0 (by decide) ?_
  refine lv_istore_n (lv' := [(1, .int (nI 0)), (0, .ref (ad 0))]) hx hb d_R_forget_1 rfl hl (by decide) rfl (fun ls hl => ?_)
  exact loop 8 0 _ rfl rfl _ _ ls w (lv_sub hl [0, 1] rfl)
def qFail (σ : Mem)  : Mem :=
  ((qForget (mup (mup (mup σ 0 18 (nI 1)) 0 21 (nI 1)) 0 19 ((-1)))))
set_option maxHeartbeats 4000000 in
set_option maxRecDepth 100000 in
theorem c_R_fail (σ : Mem) : KVR l D cI cF cZ cJ ad y_R_fail b_R_fail 1 1 25 [.ref (ad 0)] σ (fun σ' => σ' = qFail σ) := by
  refine KV.of (by decide) (Nat.le_of_ble_eq_true rfl) ?_
  intro p e s m args below meth c A ls F w hl hr hlk
  obtain ⟨hx, hb, hml, hown, hts⟩ := id F
  have hl : lv_has ls 1 [(0, .ref (ad 0))] := hl
  refine lv_aload_n hx hb d_R_fail_0 rfl (lv_at hl 0 rfl) ?_
  refine lv_iconst (v := nI 1) hx hb d_R_fail_1 (by decide) ?_
  refine mr_put F w (kin in_R) t_R t_R_ok n_R 0 (by decide) rfl rfl 18 (by decide) (kws_in m_546) (fun _ h => h) rfl rfl rfl (Nat.le_of_ble_eq_true rfl) rfl d_R_fail_2 (fun H locs w => ?_)
  refine lv_aload_n hx hb d_R_fail_5 rfl (lv_at hl 0 rfl) ?_
  refine lv_iconst (v := nI 1) hx hb d_R_fail_6 (by decide) ?_
  refine mr_put F w (kin in_R) t_R t_R_ok n_R 0 (by decide) rfl rfl 21 (by decide) (kws_in m_549) (fun _ h => h) rfl rfl rfl (Nat.le_of_ble_eq_true rfl) rfl d_R_fail_7 (fun H locs w => ?_)
  refine lv_aload_n hx hb d_R_fail_10 rfl (lv_at hl 0 rfl) ?_
  refine lv_iconst (v := -1) hx hb d_R_fail_11 (by decide) ?_
  refine mr_put F w (kin in_R) t_R t_R_ok n_R 0 (by decide) rfl rfl 19 (by decide) (kws_in m_547) (fun _ h => h) rfl rfl rfl (Nat.le_of_ble_eq_true rfl) rfl d_R_fail_12 (fun H locs w => ?_)
  refine lv_aload_n hx hb d_R_fail_15 rfl (lv_at hl 0 rfl) ?_
  refine mr_callVv (As := []) F w hl.1 (c_R_forget (mup (mup (mup σ 0 18 (nI 1)) 0 21 (nI 1)) 0 19 ((-1)))) (cwV 0 hts g_R_fail_16 rfl rfl rfl (by decide +kernel) ⟨Nat.le_of_ble_eq_true rfl, Nat.le_of_ble_eq_true rfl⟩) rfl (by decide) rfl rfl rfl (Nat.le_of_ble_eq_true rfl) d_R_fail_16 ⟨Nat.zero_le _, Nat.zero_le _⟩ (fun σ2 H locs e3 w => ?_)
  replace e3 := Eq.symm e3
  exact mr_vret F w hr hlk (by subst e3; unfold qFail; try rfl) d_R_fail_19
def qCW (σ : Mem)  : Int32 × Mem :=
  if (σ 0 21) = 0 then (if (σ 0 19) = 0 then (if (σ 0 21) = 0 then (nI 0, (qFail σ))
      else (nI 0, σ))
    else if (σ 0 19) ≤ 0 then (nI 1, mup (mup σ 0 19 (σ 0 19)) 0 20 (((mup σ 0 19 (σ 0 19)) 0 20) + (nI 1)))
    else (nI 1, mup (mup σ 0 19 ((σ 0 19) - (nI 1))) 0 20 (((mup σ 0 19 ((σ 0 19) - (nI 1))) 0 20) + (nI 1))))
  else if (σ 0 21) = 0 then (nI 0, (qFail σ))
  else (nI 0, σ)
set_option maxHeartbeats 4000000 in
set_option maxRecDepth 100000 in
theorem c_R_canWrite (σ : Mem) : KIR l D cI cF cZ cJ ad y_R_canWrite b_R_canWrite 1 (some .boolean) 2 50 [.ref (ad 0)] σ (fun r σ' => r = (qCW σ).1 ∧ σ' = (qCW σ).2) := by
  refine KI.of (by decide) (Nat.le_of_ble_eq_true rfl) ?_
  intro p e s m args below meth c A ls F w hl hr hlk
  obtain ⟨hx, hb, hml, hown, hts⟩ := id F
  have hl : lv_has ls 1 [(0, .ref (ad 0))] := hl
  refine lv_aload_n hx hb d_R_canWrite_0 rfl (lv_at hl 0 rfl) ?_
  refine mr_get F w (kin in_R) 0 (by decide) rfl rfl 21 (by decide) (kws_in m_549) (fun _ h => h) rfl d_R_canWrite_1 ?_
  refine lv_if_ne (tgt := 14) hx hb d_R_canWrite_4 (by decide) (fun c1 => ?_) (fun c1 => ?_)
  · refine lv_aload_n hx hb d_R_canWrite_14 rfl (lv_at hl 0 rfl) ?_
    refine mr_get F w (kin in_R) 0 (by decide) rfl rfl 21 (by decide) (kws_in m_549) (fun _ h => h) rfl d_R_canWrite_15 ?_
    refine lv_if_ne (tgt := 25) hx hb d_R_canWrite_18 (by decide) (fun c2 => ?_) (fun c2 => ?_)
    · refine lv_iconst (v := nI 0) hx hb d_R_canWrite_25 (by decide) ?_
      exact mr_zret F w hr hlk (Or.inl rfl) (by unfold qCW; rw [if_neg c1, if_neg c2]; exact ⟨rfl, rfl⟩) d_R_canWrite_26
    · refine lv_aload_n hx hb d_R_canWrite_21 rfl (lv_at hl 0 rfl) ?_
      refine mr_callVv (As := []) F w hl.1 (c_R_fail σ) (cwV 0 hts g_R_canWrite_22 rfl rfl rfl (by decide +kernel) ⟨Nat.le_of_ble_eq_true rfl, Nat.le_of_ble_eq_true rfl⟩) rfl (by decide) rfl rfl rfl (Nat.le_of_ble_eq_true rfl) d_R_canWrite_22 ⟨Nat.zero_le _, Nat.zero_le _⟩ (fun σ4 H locs e5 w => ?_)
      replace e5 := Eq.symm e5
      refine lv_iconst (v := nI 0) hx hb d_R_canWrite_25 (by decide) ?_
      exact mr_zret F w hr hlk (Or.inl rfl) (by subst e5; unfold qCW; rw [if_neg c1, if_pos c2]; exact ⟨rfl, rfl⟩) d_R_canWrite_26
  · refine lv_aload_n hx hb d_R_canWrite_7 rfl (lv_at hl 0 rfl) ?_
    refine mr_get F w (kin in_R) 0 (by decide) rfl rfl 19 (by decide) (kws_in m_547) (fun _ h => h) rfl d_R_canWrite_8 ?_
    refine lv_if_ne (tgt := 27) hx hb d_R_canWrite_11 (by decide) (fun c6 => ?_) (fun c6 => ?_)
    · refine lv_aload_n hx hb d_R_canWrite_27 rfl (lv_at hl 0 rfl) ?_
      refine lv_aload_n hx hb d_R_canWrite_28 rfl (lv_at hl 0 rfl) ?_
      refine mr_get F w (kin in_R) 0 (by decide) rfl rfl 19 (by decide) (kws_in m_547) (fun _ h => h) rfl d_R_canWrite_29 ?_
      refine lv_if_le (tgt := 44) hx hb d_R_canWrite_32 (by decide) (fun c7 => ?_) (fun c7 => ?_)
      · refine lv_aload_n hx hb d_R_canWrite_44 rfl (lv_at hl 0 rfl) ?_
        refine mr_get F w (kin in_R) 0 (by decide) rfl rfl 19 (by decide) (kws_in m_547) (fun _ h => h) rfl d_R_canWrite_45 ?_
        refine mr_put F w (kin in_R) t_R t_R_ok n_R 0 (by decide) rfl rfl 19 (by decide) (kws_in m_547) (fun _ h => h) rfl rfl rfl (Nat.le_of_ble_eq_true rfl) rfl d_R_canWrite_48 (fun H locs w => ?_)
        refine lv_aload_n hx hb d_R_canWrite_51 rfl (lv_at hl 0 rfl) ?_
        refine lv_dup hx hb d_R_canWrite_52 rfl ?_
        refine mr_get F w (kin in_R) 0 (by decide) rfl rfl 20 (by decide) (kws_in m_548) (fun _ h => h) rfl d_R_canWrite_53 ?_
        refine lv_iconst (v := nI 1) hx hb d_R_canWrite_56 (by decide) ?_
        refine lv_iadd hx hb d_R_canWrite_57 ?_
        refine mr_put F w (kin in_R) t_R t_R_ok n_R 0 (by decide) rfl rfl 20 (by decide) (kws_in m_548) (fun _ h => h) rfl rfl rfl (Nat.le_of_ble_eq_true rfl) rfl d_R_canWrite_58 (fun H locs w => ?_)
        refine lv_iconst (v := nI 1) hx hb d_R_canWrite_61 (by decide) ?_
        exact mr_zret F w hr hlk (Or.inr rfl) (by unfold qCW; rw [if_pos c1, if_neg c6, if_pos c7]; exact ⟨rfl, rfl⟩) d_R_canWrite_62
      · refine lv_aload_n hx hb d_R_canWrite_35 rfl (lv_at hl 0 rfl) ?_
        refine mr_get F w (kin in_R) 0 (by decide) rfl rfl 19 (by decide) (kws_in m_547) (fun _ h => h) rfl d_R_canWrite_36 ?_
        refine lv_iconst (v := nI 1) hx hb d_R_canWrite_39 (by decide) ?_
        refine lv_isub hx hb d_R_canWrite_40 ?_
        refine lv_goto (tgt := 48) hx hb d_R_canWrite_41 (by decide) ?_
        refine mr_put F w (kin in_R) t_R t_R_ok n_R 0 (by decide) rfl rfl 19 (by decide) (kws_in m_547) (fun _ h => h) rfl rfl rfl (Nat.le_of_ble_eq_true rfl) rfl d_R_canWrite_48 (fun H locs w => ?_)
        refine lv_aload_n hx hb d_R_canWrite_51 rfl (lv_at hl 0 rfl) ?_
        refine lv_dup hx hb d_R_canWrite_52 rfl ?_
        refine mr_get F w (kin in_R) 0 (by decide) rfl rfl 20 (by decide) (kws_in m_548) (fun _ h => h) rfl d_R_canWrite_53 ?_
        refine lv_iconst (v := nI 1) hx hb d_R_canWrite_56 (by decide) ?_
        refine lv_iadd hx hb d_R_canWrite_57 ?_
        refine mr_put F w (kin in_R) t_R t_R_ok n_R 0 (by decide) rfl rfl 20 (by decide) (kws_in m_548) (fun _ h => h) rfl rfl rfl (Nat.le_of_ble_eq_true rfl) rfl d_R_canWrite_58 (fun H locs w => ?_)
        refine lv_iconst (v := nI 1) hx hb d_R_canWrite_61 (by decide) ?_
        exact mr_zret F w hr hlk (Or.inr rfl) (by unfold qCW; rw [if_pos c1, if_neg c6, if_neg c7]; exact ⟨rfl, rfl⟩) d_R_canWrite_62
    · refine lv_aload_n hx hb d_R_canWrite_14 rfl (lv_at hl 0 rfl) ?_
      refine mr_get F w (kin in_R) 0 (by decide) rfl rfl 21 (by decide) (kws_in m_549) (fun _ h => h) rfl d_R_canWrite_15 ?_
      refine lv_if_ne (tgt := 25) hx hb d_R_canWrite_18 (by decide) (fun c8 => ?_) (fun c8 => ?_)
      · refine lv_iconst (v := nI 0) hx hb d_R_canWrite_25 (by decide) ?_
        exact mr_zret F w hr hlk (Or.inl rfl) (by unfold qCW; rw [if_pos c1, if_pos c6, if_neg c8]; exact ⟨rfl, rfl⟩) d_R_canWrite_26
      · refine lv_aload_n hx hb d_R_canWrite_21 rfl (lv_at hl 0 rfl) ?_
        refine mr_callVv (As := []) F w hl.1 (c_R_fail σ) (cwV 0 hts g_R_canWrite_22 rfl rfl rfl (by decide +kernel) ⟨Nat.le_of_ble_eq_true rfl, Nat.le_of_ble_eq_true rfl⟩) rfl (by decide) rfl rfl rfl (Nat.le_of_ble_eq_true rfl) d_R_canWrite_22 ⟨Nat.zero_le _, Nat.zero_le _⟩ (fun σ10 H locs e11 w => ?_)
        replace e11 := Eq.symm e11
        refine lv_iconst (v := nI 0) hx hb d_R_canWrite_25 (by decide) ?_
        exact mr_zret F w hr hlk (Or.inl rfl) (by subst e11; unfold qCW; rw [if_pos c1, if_pos c6, if_pos c8]; exact ⟨rfl, rfl⟩) d_R_canWrite_26
theorem qForgets_n : ∀ (n f : Nat) (σ : Mem) (i : Nat), i < 8 → qForgets n f σ i = σ i
  | 0, _, _, _, _ => rfl
  | n + 1, f, σ, i, h => by
    unfold qForgets
    rw [qForgets_n n _ _ i h, mup_n _ _ _ (by omega), mup_n _ _ _ (by omega), mup_n _ _ _ (by omega), mup_n _ _ _ (by omega)]
theorem mup_f (σ : Mem) (i k : Nat) (v : Int32) {j : Nat} (h : j ≠ k) : mup σ i k v i j = σ i j := by rw [mup_s]; simp [upd, h]
theorem mup_v (σ : Mem) (i k : Nat) (v : Int32) : mup σ i k v i k = v := by rw [mup_s]; simp [upd]
theorem qForget_10 (σ : Mem) : qForget σ 0 10 = σ 0 10 := by
  unfold qForget
  rw [mup_f _ _ _ _ (by decide), mup_f _ _ _ _ (by decide), qForgets_n 8 0 σ 0 (by decide)]
theorem qFail_10 (σ : Mem) : qFail σ 0 10 = σ 0 10 := by
  unfold qFail
  rw [qForget_10, mup_f _ _ _ _ (by decide), mup_f _ _ _ _ (by decide), mup_f _ _ _ _ (by decide)]
theorem qCW_10 (σ : Mem) : (qCW σ).2 0 10 = σ 0 10 := by
  unfold qCW
  repeat' split
  all_goals first | exact qFail_10 σ | rfl | (dsimp only; rw [mup_f _ _ _ _ (by decide), mup_f _ _ _ _ (by decide)])
def qFo : Nat → Int32 → Mem → Int32 × Mem
  | 0, k, τ => (k, τ)
  | n + 1, k, τ => if (qCW τ).1 = 0 then (k, (qCW τ).2) else qFo n (k + nI 1) (mup (qCW τ).2 0 10 ((qCW τ).2 0 10 + nI 1))
def qFT (σ : Mem) (pl : Int32) : Int32 × Mem := qFo (pl.toInt - (σ 0 10).toInt).toNat (nI 0) σ
theorem fo0 {a b : Int32} (h : (a.toInt - b.toInt).toNat = 0) : a ≤ b := by
  rw [Int32.le_iff_toInt_le]; omega
theorem foS {a b : Int32} {n : Nat} (h : (a.toInt - b.toInt).toNat = n + 1) : ¬ a ≤ b ∧ (a.toInt - (b + nI 1).toInt).toNat = n := by
  have h2 : a.toInt < 2 ^ 31 := Int32.toInt_lt a
  have h4 : -2 ^ 31 ≤ b.toInt := Int32.le_toInt b
  have h3 : (b + nI 1).toInt = b.toInt + 1 := by
    rw [Int32.toInt_add]
    show (b.toInt + 1).bmod (2 ^ 32) = _
    rw [Int.bmod_eq_of_le] <;> omega
  refine ⟨fun q => ?_, ?_⟩
  · rw [Int32.le_iff_toInt_le] at q
    omega
  · rw [h3]; omega
set_option maxHeartbeats 4000000 in
set_option maxRecDepth 100000 in
theorem c_R_forceTo (σ : Mem) (pl : Int32) : KIR l D cI cF cZ cJ ad y_R_forceTo b_R_forceTo 3 (some .int) 3 75 [.ref (ad 0), .int pl] σ (fun r σ' => r = (qFT σ pl).1 ∧ σ' = (qFT σ pl).2) := by
  refine KI.of (by decide) (Nat.le_of_ble_eq_true rfl) ?_
  intro p e s m args below meth c A ls F w hl hr hlk
  obtain ⟨hx, hb, hml, hown, hts⟩ := id F
  have hl : lv_has ls 3 [(0, .ref (ad 0)), (1, .int pl)] := hl
  have loop : ∀ (n : Nat) (k : Int32) (τ : Mem) (hn : (pl.toInt - (τ 0 10).toInt).toNat = n) (hk : qFo n k τ = qFT σ pl) (H : Heap) (locs : List Loc) (ls : Array Slot), mW D clP (tyP cI cF cZ cJ) 12 (eR cI cZ ad) ad τ s A s.heap H locs → lv_has ls 3 [(2, .int k), (0, .ref (ad 0)), (1, .int pl)] → W p l e { frames := 3, cells := 0, slots := 0, locals := 75 } s m args below meth c H locs 0 0 (MQ below (va_Qi (fun r σ' => r = (qFT σ pl).1 ∧ σ' = (qFT σ pl).2) (KB D clP (tyP cI cF cZ cJ) 12 (eR cI cZ ad) ad) A) args s 0 0 A) (F0 m 2 ls []) := by
    intro n
    induction n with
    | zero =>
      intro k τ hn hk H locs ls w hl
      refine lv_aload_n hx hb d_R_forceTo_2 rfl (lv_at hl 1 rfl) ?_
      refine mr_get F w (kin in_R) 0 (by decide) rfl rfl 10 (by decide) (kws_in m_538) (fun _ h => h) rfl d_R_forceTo_3 ?_
      refine lv_iload_n hx hb d_R_forceTo_6 rfl (lv_at hl 2 rfl) ?_
      refine lv_icmp_ge (tgt := 33) hx hb d_R_forceTo_7 (by decide) (fun c1 => ?_) (fun c1 => absurd (fo0 hn) c1)
      refine lv_iload_n hx hb d_R_forceTo_33 rfl (lv_at hl 0 rfl) ?_
      exact mr_iret F w hr hlk (⟨by rw [← hk]; first | rfl | (simp only [qFo]; done) | (simp only [qFo]; rfl), by rw [← hk]; first | rfl | (simp only [qFo]; done) | (simp only [qFo]; rfl)⟩) d_R_forceTo_34
    | succ n ih =>
      intro k τ hn hk H locs ls w hl
      refine lv_aload_n hx hb d_R_forceTo_2 rfl (lv_at hl 1 rfl) ?_
      refine mr_get F w (kin in_R) 0 (by decide) rfl rfl 10 (by decide) (kws_in m_538) (fun _ h => h) rfl d_R_forceTo_3 ?_
      refine lv_iload_n hx hb d_R_forceTo_6 rfl (lv_at hl 2 rfl) ?_
      refine lv_icmp_ge (tgt := 33) hx hb d_R_forceTo_7 (by decide) (fun c2 => absurd c2 (foS hn).1) (fun c2 => ?_)
      refine lv_aload_n hx hb d_R_forceTo_10 rfl (lv_at hl 1 rfl) ?_
      refine mr_callVi (As := []) F w hl.1 (c_R_canWrite τ) (cwV 0 hts g_R_forceTo_11 rfl rfl rfl (by decide +kernel) ⟨Nat.le_of_ble_eq_true rfl, Nat.le_of_ble_eq_true rfl⟩) rfl (by decide) rfl rfl rfl (Nat.le_of_ble_eq_true rfl) d_R_forceTo_11 ⟨Nat.zero_le _, Nat.zero_le _⟩ (fun r3 σ4 H locs e5 w => ?_)
      have e5_r := e5.1.symm
      have e5_s := e5.2.symm
      clear e5
      refine lv_if_eq (tgt := 33) hx hb d_R_forceTo_14 (by decide) (fun c6 => ?_) (fun c6 => ?_)
      · refine lv_iload_n hx hb d_R_forceTo_33 rfl (lv_at hl 0 rfl) ?_
        exact mr_iret F w hr hlk (⟨by subst e5_r e5_s; rw [← hk]; first | rfl | (simp only [qFo, if_pos c6]; done) | (simp only [qFo, if_pos c6]; rfl), by subst e5_r e5_s; rw [← hk]; first | rfl | (simp only [qFo, if_pos c6]; done) | (simp only [qFo, if_pos c6]; rfl)⟩) d_R_forceTo_34
      · refine lv_aload_n hx hb d_R_forceTo_17 rfl (lv_at hl 1 rfl) ?_
        refine lv_dup hx hb d_R_forceTo_18 rfl ?_
        refine mr_get F w (kin in_R) 0 (by decide) rfl rfl 10 (by decide) (kws_in m_538) (fun _ h => h) rfl d_R_forceTo_19 ?_
        refine lv_iconst (v := nI 1) hx hb d_R_forceTo_22 (by decide) ?_
        refine lv_iadd hx hb d_R_forceTo_23 ?_
        refine mr_put F w (kin in_R) t_R t_R_ok n_R 0 (by decide) rfl rfl 10 (by decide) (kws_in m_538) (fun _ h => h) rfl rfl rfl (Nat.le_of_ble_eq_true rfl) rfl d_R_forceTo_24 (fun H locs w => ?_)
        refine lv_iinc (v := k + nI 1) (lv' := [(2, .int (k + nI 1)), (0, .ref (ad 0)), (1, .int pl)]) hx hb d_R_forceTo_27 hl (k := 0) rfl rfl (by decide) rfl (fun ls hl => ?_)
        refine lv_goto (tgt := 2) hx hb d_R_forceTo_30 (by decide) ?_
        exact ih _ _ (by subst e5_r e5_s; show (pl.toInt - ((qCW τ).2 0 10 + nI 1).toInt).toNat = n; rw [qCW_10]; exact (foS hn).2) (by subst e5_r e5_s; rw [← hk]; simp only [qFo, if_neg c6]) _ _ ls w (lv_sub hl [0, 1, 2] rfl)
  refine lv_iconst (v := nI 0) hx hb d_R_forceTo_0 (by decide) ?_
  refine lv_istore_n (lv' := [(2, .int (nI 0)), (0, .ref (ad 0)), (1, .int pl)]) hx hb d_R_forceTo_1 rfl hl (by decide) rfl (fun ls hl => ?_)
  exact loop _ (nI 0) _ rfl rfl _ _ ls w (lv_sub hl [0, 1, 2] rfl)
def qTS (f : Nat) : Nat → Nat → Mem → Mem
  | 0, _, τ => τ
  | n + 1, i, τ => qTS f n (i + 1) (mup τ 2 i (τ 7 (64 * f + i)))
def qTO (pg : Nat) : Nat → Nat → Mem → Mem
  | 0, _, τ => τ
  | n + 1, i, τ => qTO pg n (i + 1) (mup τ 1 (64 * pg + i) (τ 2 i))
set_option maxHeartbeats 4000000 in
set_option maxRecDepth 100000 in
theorem c_R_toSpare (σ : Mem) (f hv : Nat) (hf : f < 8) (hh : hv < 2) : KVR l D cI cF cZ cJ ad y_R_toSpare b_R_toSpare 4 0 0 [.ref (ad 0), .int (nI f), .int (nI hv)] σ (fun σ' => σ' = qTS f 32 (hv * 32) σ) := by
  refine KV.of (by decide) (Nat.le_of_ble_eq_true rfl) ?_
  intro p e s m args below meth c A ls F w hl hr hlk
  obtain ⟨hx, hb, hml, hown, hts⟩ := id F
  have hl : lv_has ls 4 [(0, .ref (ad 0)), (1, .int (nI f)), (2, .int (nI hv))] := hl
  have loop : ∀ (n : Nat) (i : Nat) (τ : Mem) (hn : i + n = hv * 32 + 32) (hk : qTS f n i τ = qTS f 32 (hv * 32) σ) (H : Heap) (locs : List Loc) (ls : Array Slot), mW D clP (tyP cI cF cZ cJ) 12 (eR cI cZ ad) ad τ s A s.heap H locs → lv_has ls 4 [(3, .int (nI i)), (0, .ref (ad 0)), (1, .int (nI f)), (2, .int (nI hv))] → W p l e { frames := 0, cells := 0, slots := 0, locals := 0 } s m args below meth c H locs 0 0 (MQ below (va_Qv (fun σ' => σ' = qTS f 32 (hv * 32) σ) (KB D clP (tyP cI cF cZ cJ) 12 (eR cI cZ ad) ad) A) args s 0 0 A) (F0 m 5 ls []) := by
    intro n
    induction n with
    | zero =>
      intro i τ hn hk H locs ls w hl
      refine lv_iload_n hx hb d_R_toSpare_5 rfl (lv_at hl 0 rfl) ?_
      refine lv_iload_n hx hb d_R_toSpare_6 rfl (lv_at hl 3 rfl) ?_
      refine lv_bipush (v := nI 32) hx hb d_R_toSpare_7 (by decide) ?_
      refine nr_imul hx hb d_R_toSpare_9 ?_
      refine lv_bipush (v := nI 32) hx hb d_R_toSpare_10 (by decide) ?_
      refine nr_iadd hx hb d_R_toSpare_12 ?_
      refine nr_icmp_ge (tgt := 39) hx hb d_R_toSpare_13 (by decide) (by omega) (by omega) (fun c1 => ?_) (fun c1 => absurd (by omega) c1)
      exact mr_vret F w hr hlk (by rw [← hk]; rfl) d_R_toSpare_39
    | succ n ih =>
      intro i τ hn hk H locs ls w hl
      refine lv_iload_n hx hb d_R_toSpare_5 rfl (lv_at hl 0 rfl) ?_
      refine lv_iload_n hx hb d_R_toSpare_6 rfl (lv_at hl 3 rfl) ?_
      refine lv_bipush (v := nI 32) hx hb d_R_toSpare_7 (by decide) ?_
      refine nr_imul hx hb d_R_toSpare_9 ?_
      refine lv_bipush (v := nI 32) hx hb d_R_toSpare_10 (by decide) ?_
      refine nr_iadd hx hb d_R_toSpare_12 ?_
      refine nr_icmp_ge (tgt := 39) hx hb d_R_toSpare_13 (by decide) (by omega) (by omega) (fun c2 => absurd c2 (by omega)) (fun c2 => ?_)
      refine lv_aload_n hx hb d_R_toSpare_16 rfl (lv_at hl 1 rfl) ?_
      refine mr_get F w (kin in_R) 0 (by decide) rfl rfl 2 (by decide) (kws_in m_530) (fun _ h => h) rfl d_R_toSpare_17 ?_
      refine lv_iload_n hx hb d_R_toSpare_20 rfl (lv_at hl 0 rfl) ?_
      refine lv_aload_n hx hb d_R_toSpare_21 rfl (lv_at hl 1 rfl) ?_
      refine mr_get F w (kin in_R) 0 (by decide) rfl rfl 12 (by decide) (kws_in m_540) (fun _ h => h) rfl d_R_toSpare_22 ?_
      refine lv_bipush (v := nI 64) hx hb d_R_toSpare_25 (by decide) ?_
      refine lv_iload_n hx hb d_R_toSpare_27 rfl (lv_at hl 2 rfl) ?_
      refine nr_imul hx hb d_R_toSpare_28 ?_
      refine lv_iload_n hx hb d_R_toSpare_29 rfl (lv_at hl 0 rfl) ?_
      refine nr_iadd hx hb d_R_toSpare_30 ?_
      refine mr_iaN F w 7 0 (by decide) rfl rfl ((64 * f) + i) (by omega) (by decide) rfl d_R_toSpare_31 ?_
      refine mr_isN F w 2 0 (by decide) (fun _ => rfl) rfl i (by omega) (by decide) rfl d_R_toSpare_32 (fun H locs w => ?_)
      refine lv_iinc (v := nI (i + 1)) (lv' := [(3, .int (nI (i + 1))), (0, .ref (ad 0)), (1, .int (nI f)), (2, .int (nI hv))]) hx hb d_R_toSpare_33 hl (k := 0) rfl (nI_1 _) (by decide) rfl (fun ls hl => ?_)
      refine lv_goto (tgt := 5) hx hb d_R_toSpare_36 (by decide) ?_
      exact ih (i + 1) _ (by omega) (by rw [← hk]; rfl) _ _ ls w (lv_sub hl [0, 1, 2, 3] rfl)
  refine lv_iload_n hx hb d_R_toSpare_0 rfl (lv_at hl 2 rfl) ?_
  refine lv_bipush (v := nI 32) hx hb d_R_toSpare_1 (by decide) ?_
  refine nr_imul hx hb d_R_toSpare_3 ?_
  refine lv_istore_n (lv' := [(3, .int (nI (hv * 32))), (0, .ref (ad 0)), (1, .int (nI f)), (2, .int (nI hv))]) hx hb d_R_toSpare_4 rfl hl (by decide) rfl (fun ls hl => ?_)
  exact loop 32 (hv * 32) _ rfl rfl _ _ ls w (lv_sub hl [0, 1, 2, 3] rfl)
set_option maxHeartbeats 4000000 in
set_option maxRecDepth 100000 in
theorem c_R_toOwn (σ : Mem) (pg hv : Nat) (hf : pg < 256) (hh : hv < 2) : KVR l D cI cF cZ cJ ad y_R_toOwn b_R_toOwn 4 0 0 [.ref (ad 0), .int (nI pg), .int (nI hv)] σ (fun σ' => σ' = qTO pg 32 (hv * 32) σ) := by
  refine KV.of (by decide) (Nat.le_of_ble_eq_true rfl) ?_
  intro p e s m args below meth c A ls F w hl hr hlk
  obtain ⟨hx, hb, hml, hown, hts⟩ := id F
  have hl : lv_has ls 4 [(0, .ref (ad 0)), (1, .int (nI pg)), (2, .int (nI hv))] := hl
  have loop : ∀ (n : Nat) (i : Nat) (τ : Mem) (hn : i + n = hv * 32 + 32) (hk : qTO pg n i τ = qTO pg 32 (hv * 32) σ) (H : Heap) (locs : List Loc) (ls : Array Slot), mW D clP (tyP cI cF cZ cJ) 12 (eR cI cZ ad) ad τ s A s.heap H locs → lv_has ls 4 [(3, .int (nI i)), (0, .ref (ad 0)), (1, .int (nI pg)), (2, .int (nI hv))] → W p l e { frames := 0, cells := 0, slots := 0, locals := 0 } s m args below meth c H locs 0 0 (MQ below (va_Qv (fun σ' => σ' = qTO pg 32 (hv * 32) σ) (KB D clP (tyP cI cF cZ cJ) 12 (eR cI cZ ad) ad) A) args s 0 0 A) (F0 m 5 ls []) := by
    intro n
    induction n with
    | zero =>
      intro i τ hn hk H locs ls w hl
      refine lv_iload_n hx hb d_R_toOwn_5 rfl (lv_at hl 0 rfl) ?_
      refine lv_iload_n hx hb d_R_toOwn_6 rfl (lv_at hl 3 rfl) ?_
      refine lv_bipush (v := nI 32) hx hb d_R_toOwn_7 (by decide) ?_
      refine nr_imul hx hb d_R_toOwn_9 ?_
      refine lv_bipush (v := nI 32) hx hb d_R_toOwn_10 (by decide) ?_
      refine nr_iadd hx hb d_R_toOwn_12 ?_
      refine nr_icmp_ge (tgt := 39) hx hb d_R_toOwn_13 (by decide) (by omega) (by omega) (fun c1 => ?_) (fun c1 => absurd (by omega) c1)
      exact mr_vret F w hr hlk (by rw [← hk]; rfl) d_R_toOwn_39
    | succ n ih =>
      intro i τ hn hk H locs ls w hl
      refine lv_iload_n hx hb d_R_toOwn_5 rfl (lv_at hl 0 rfl) ?_
      refine lv_iload_n hx hb d_R_toOwn_6 rfl (lv_at hl 3 rfl) ?_
      refine lv_bipush (v := nI 32) hx hb d_R_toOwn_7 (by decide) ?_
      refine nr_imul hx hb d_R_toOwn_9 ?_
      refine lv_bipush (v := nI 32) hx hb d_R_toOwn_10 (by decide) ?_
      refine nr_iadd hx hb d_R_toOwn_12 ?_
      refine nr_icmp_ge (tgt := 39) hx hb d_R_toOwn_13 (by decide) (by omega) (by omega) (fun c2 => absurd c2 (by omega)) (fun c2 => ?_)
      refine lv_aload_n hx hb d_R_toOwn_16 rfl (lv_at hl 1 rfl) ?_
      refine mr_get F w (kin in_R) 0 (by decide) rfl rfl 1 (by decide) (kws_in m_529) (fun _ h => h) rfl d_R_toOwn_17 ?_
      refine lv_bipush (v := nI 64) hx hb d_R_toOwn_20 (by decide) ?_
      refine lv_iload_n hx hb d_R_toOwn_22 rfl (lv_at hl 2 rfl) ?_
      refine nr_imul hx hb d_R_toOwn_23 ?_
      refine lv_iload_n hx hb d_R_toOwn_24 rfl (lv_at hl 0 rfl) ?_
      refine nr_iadd hx hb d_R_toOwn_25 ?_
      refine lv_aload_n hx hb d_R_toOwn_26 rfl (lv_at hl 1 rfl) ?_
      refine mr_get F w (kin in_R) 0 (by decide) rfl rfl 2 (by decide) (kws_in m_530) (fun _ h => h) rfl d_R_toOwn_27 ?_
      refine lv_iload_n hx hb d_R_toOwn_30 rfl (lv_at hl 0 rfl) ?_
      refine mr_iaN F w 2 0 (by decide) rfl rfl i (by omega) (by decide) rfl d_R_toOwn_31 ?_
      refine mr_isN F w 1 0 (by decide) (fun _ => rfl) rfl ((64 * pg) + i) (by omega) (by decide) rfl d_R_toOwn_32 (fun H locs w => ?_)
      refine lv_iinc (v := nI (i + 1)) (lv' := [(3, .int (nI (i + 1))), (0, .ref (ad 0)), (1, .int (nI pg)), (2, .int (nI hv))]) hx hb d_R_toOwn_33 hl (k := 0) rfl (nI_1 _) (by decide) rfl (fun ls hl => ?_)
      refine lv_goto (tgt := 5) hx hb d_R_toOwn_36 (by decide) ?_
      exact ih (i + 1) _ (by omega) (by rw [← hk]; rfl) _ _ ls w (lv_sub hl [0, 1, 2, 3] rfl)
  refine lv_iload_n hx hb d_R_toOwn_0 rfl (lv_at hl 2 rfl) ?_
  refine lv_bipush (v := nI 32) hx hb d_R_toOwn_1 (by decide) ?_
  refine nr_imul hx hb d_R_toOwn_3 ?_
  refine lv_istore_n (lv' := [(3, .int (nI (hv * 32))), (0, .ref (ad 0)), (1, .int (nI pg)), (2, .int (nI hv))]) hx hb d_R_toOwn_4 rfl hl (by decide) rfl (fun ls hl => ?_)
  exact loop 32 (hv * 32) _ rfl rfl _ _ ls w (lv_sub hl [0, 1, 2, 3] rfl)
def qWO (σ : Mem) (pg : Nat) : Mem :=
  if ((qCW σ).1) = 0 then (((qCW σ).2))
  else if ((qCW (mup (qTO pg 32 (0 * 32) ((qCW σ).2)) 0 4 (nI pg))).1) = 0 then (((qCW (mup (qTO pg 32 (0 * 32) ((qCW σ).2)) 0 4 (nI pg))).2))
  else (mup (qTO pg 32 (1 * 32) ((qCW (mup (qTO pg 32 (0 * 32) ((qCW σ).2)) 0 4 (nI pg))).2)) 0 4 ((-1)))
set_option maxHeartbeats 4000000 in
set_option maxRecDepth 100000 in
theorem c_R_writeOwn (σ : Mem) (pg : Nat) (hpg : pg < 256) : KVR l D cI cF cZ cJ ad y_R_writeOwn b_R_writeOwn 3 3 80 [.ref (ad 0), .int (nI pg)] σ (fun σ' => σ' = qWO σ pg) := by
  refine KV.of (by decide) (Nat.le_of_ble_eq_true rfl) ?_
  intro p e s m args below meth c A ls F w hl hr hlk
  obtain ⟨hx, hb, hml, hown, hts⟩ := id F
  have hl : lv_has ls 3 [(0, .ref (ad 0)), (1, .int (nI pg))] := hl
  refine lv_iconst (v := nI 0) hx hb d_R_writeOwn_0 (by decide) ?_
  refine lv_istore_n (lv' := [(2, .int (nI 0)), (0, .ref (ad 0)), (1, .int (nI pg))]) hx hb d_R_writeOwn_1 rfl hl (by decide) rfl (fun ls hl => ?_)
  refine lv_iload_n hx hb d_R_writeOwn_2 rfl (lv_at hl 0 rfl) ?_
  refine lv_iconst (v := nI 2) hx hb d_R_writeOwn_3 (by decide) ?_
  refine nr_icmp_ge (tgt := 39) hx hb d_R_writeOwn_4 (by decide) (by omega) (by omega) (fun c1 => absurd c1 (by omega)) (fun _ => ?_)
  refine lv_aload_n hx hb d_R_writeOwn_7 rfl (lv_at hl 1 rfl) ?_
  refine mr_callVi (As := []) F w hl.1 (c_R_canWrite σ) (cwV 0 hts g_R_writeOwn_8 rfl rfl rfl (by decide +kernel) ⟨Nat.le_of_ble_eq_true rfl, Nat.le_of_ble_eq_true rfl⟩) rfl (by decide) rfl rfl rfl (Nat.le_of_ble_eq_true rfl) d_R_writeOwn_8 ⟨Nat.zero_le _, Nat.zero_le _⟩ (fun r2 σ3 H locs e4 w => ?_)
  have e4_r := e4.1.symm
  have e4_s := e4.2.symm
  clear e4
  refine lv_if_eq (tgt := 39) hx hb d_R_writeOwn_11 (by decide) (fun c5 => ?_) (fun c5 => ?_)
  · exact mr_vret F w hr hlk (by subst e4_r e4_s; unfold qWO; rw [if_pos c5]; try rfl) d_R_writeOwn_39
  · refine lv_aload_n hx hb d_R_writeOwn_14 rfl (lv_at hl 1 rfl) ?_
    refine lv_iload_n hx hb d_R_writeOwn_15 rfl (lv_at hl 2 rfl) ?_
    refine lv_iload_n hx hb d_R_writeOwn_16 rfl (lv_at hl 0 rfl) ?_
    refine mr_callVv (As := [.int (nI pg), .int (nI 0)]) F w hl.1 (c_R_toOwn σ3 pg 0 hpg (by decide)) (cwV 2 hts g_R_writeOwn_17 rfl rfl rfl (by decide +kernel) ⟨Nat.le_of_ble_eq_true rfl, Nat.le_of_ble_eq_true rfl⟩) rfl (by decide) rfl rfl rfl (Nat.le_of_ble_eq_true rfl) d_R_writeOwn_17 ⟨Nat.zero_le _, Nat.zero_le _⟩ (fun σ7 H locs e8 w => ?_)
    replace e8 := Eq.symm e8
    refine lv_aload_n hx hb d_R_writeOwn_20 rfl (lv_at hl 1 rfl) ?_
    refine lv_iload_n hx hb d_R_writeOwn_21 rfl (lv_at hl 0 rfl) ?_
    refine lv_if_ne (tgt := 29) hx hb d_R_writeOwn_22 (by decide) (fun c9 => absurd c9 (by decide)) (fun _ => ?_)
    refine lv_iload_n hx hb d_R_writeOwn_25 rfl (lv_at hl 2 rfl) ?_
    refine lv_goto (tgt := 30) hx hb d_R_writeOwn_26 (by decide) ?_
    refine mr_put F w (kin in_R) t_R t_R_ok n_R 0 (by decide) rfl rfl 4 (by decide) (kws_in m_532) (fun _ h => h) rfl rfl rfl (Nat.le_of_ble_eq_true rfl) rfl d_R_writeOwn_30 (fun H locs w => ?_)
    refine lv_iinc (v := nI 1) (lv' := [(2, .int (nI 1)), (0, .ref (ad 0)), (1, .int (nI pg))]) hx hb d_R_writeOwn_33 hl (k := 0) rfl (nI_add _ 1) (by decide) rfl (fun ls hl => ?_)
    refine lv_goto (tgt := 2) hx hb d_R_writeOwn_36 (by decide) ?_
    refine lv_iload_n hx hb d_R_writeOwn_2 rfl (lv_at hl 0 rfl) ?_
    refine lv_iconst (v := nI 2) hx hb d_R_writeOwn_3 (by decide) ?_
    refine nr_icmp_ge (tgt := 39) hx hb d_R_writeOwn_4 (by decide) (by omega) (by omega) (fun c10 => absurd c10 (by omega)) (fun _ => ?_)
    refine lv_aload_n hx hb d_R_writeOwn_7 rfl (lv_at hl 1 rfl) ?_
    refine mr_callVi (As := []) F w hl.1 (c_R_canWrite (mup σ7 0 4 (nI pg))) (cwV 0 hts g_R_writeOwn_8 rfl rfl rfl (by decide +kernel) ⟨Nat.le_of_ble_eq_true rfl, Nat.le_of_ble_eq_true rfl⟩) rfl (by decide) rfl rfl rfl (Nat.le_of_ble_eq_true rfl) d_R_writeOwn_8 ⟨Nat.zero_le _, Nat.zero_le _⟩ (fun r11 σ12 H locs e13 w => ?_)
    have e13_r := e13.1.symm
    have e13_s := e13.2.symm
    clear e13
    refine lv_if_eq (tgt := 39) hx hb d_R_writeOwn_11 (by decide) (fun c14 => ?_) (fun c14 => ?_)
    · exact mr_vret F w hr hlk (by subst e4_r e4_s e8 e13_r e13_s; unfold qWO; rw [if_neg c5, if_pos c14]; try rfl) d_R_writeOwn_39
    · refine lv_aload_n hx hb d_R_writeOwn_14 rfl (lv_at hl 1 rfl) ?_
      refine lv_iload_n hx hb d_R_writeOwn_15 rfl (lv_at hl 2 rfl) ?_
      refine lv_iload_n hx hb d_R_writeOwn_16 rfl (lv_at hl 0 rfl) ?_
      refine mr_callVv (As := [.int (nI pg), .int (nI 1)]) F w hl.1 (c_R_toOwn σ12 pg 1 hpg (by decide)) (cwV 2 hts g_R_writeOwn_17 rfl rfl rfl (by decide +kernel) ⟨Nat.le_of_ble_eq_true rfl, Nat.le_of_ble_eq_true rfl⟩) rfl (by decide) rfl rfl rfl (Nat.le_of_ble_eq_true rfl) d_R_writeOwn_17 ⟨Nat.zero_le _, Nat.zero_le _⟩ (fun σ16 H locs e17 w => ?_)
      replace e17 := Eq.symm e17
      refine lv_aload_n hx hb d_R_writeOwn_20 rfl (lv_at hl 1 rfl) ?_
      refine lv_iload_n hx hb d_R_writeOwn_21 rfl (lv_at hl 0 rfl) ?_
      refine lv_if_ne (tgt := 29) hx hb d_R_writeOwn_22 (by decide) (fun _ => ?_) (fun c18 => absurd c18 (by decide))
      refine lv_iconst (v := -1) hx hb d_R_writeOwn_29 (by decide) ?_
      refine mr_put F w (kin in_R) t_R t_R_ok n_R 0 (by decide) rfl rfl 4 (by decide) (kws_in m_532) (fun _ h => h) rfl rfl rfl (Nat.le_of_ble_eq_true rfl) rfl d_R_writeOwn_30 (fun H locs w => ?_)
      refine lv_iinc (v := nI 2) (lv' := [(2, .int (nI 2)), (0, .ref (ad 0)), (1, .int (nI pg))]) hx hb d_R_writeOwn_33 hl (k := 0) rfl (nI_add _ 1) (by decide) rfl (fun ls hl => ?_)
      refine lv_goto (tgt := 2) hx hb d_R_writeOwn_36 (by decide) ?_
      refine lv_iload_n hx hb d_R_writeOwn_2 rfl (lv_at hl 0 rfl) ?_
      refine lv_iconst (v := nI 2) hx hb d_R_writeOwn_3 (by decide) ?_
      refine nr_icmp_ge (tgt := 39) hx hb d_R_writeOwn_4 (by decide) (by omega) (by omega) (fun _ => ?_) (fun c19 => absurd c19 (by omega))
      exact mr_vret F w hr hlk (by subst e4_r e4_s e8 e13_r e13_s e17; unfold qWO; rw [if_neg c5, if_neg c14]; try rfl) d_R_writeOwn_39
end
