/-! The reference: write, flush, flushOldest -/
section
variable {l : Launch} {D : va_G} {cI cF cZ cJ : ClassId} {ad : Nat → Nat} {σ : Mem}
set_option maxRecDepth 20000 in
theorem m_659 : Cond.methodLink "PagePoolModel" 101 (⟨"PagePoolModel", "writeOwn", "(I)V"⟩ : MethodName) ∈ gt := gt_in 659 (by decide +kernel) (by decide +kernel)
set_option maxRecDepth 20000 in
theorem m_662 : Cond.code (⟨"PagePoolModel", "writeOwn", "(I)V"⟩ : MethodName) prog_7_method_17_code 3 none ∈ gt := gt_in 662 (by decide +kernel) (by decide +kernel)
set_option maxRecDepth 20000 in
theorem m_661 : Cond.instanceMethod (⟨"PagePoolModel", "writeOwn", "(I)V"⟩ : MethodName) ∈ gt := gt_in 661 (by decide +kernel) (by decide +kernel)
set_option maxRecDepth 20000 in
theorem ms_21 : Cond.selects "PagePoolModel" (⟨"PagePoolModel", "writeOwn", "(I)V"⟩ : MethodName) (⟨"PagePoolModel", "writeOwn", "(I)V"⟩ : MethodName) ∈ gt := gt_sel 21 (by decide +kernel) (by decide +kernel)
set_option maxRecDepth 20000 in
theorem m_531 : Cond.fieldLink "PagePoolModel" 16 "PagePoolModel" "spareOf" "I" ∈ gt := gt_in 531 (by decide +kernel) (by decide +kernel)
set_option maxRecDepth 20000 in
theorem m_655 : Cond.methodLink "PagePoolModel" 98 (⟨"PagePoolModel", "toSpare", "(II)V"⟩ : MethodName) ∈ gt := gt_in 655 (by decide +kernel) (by decide +kernel)
set_option maxRecDepth 20000 in
theorem m_658 : Cond.code (⟨"PagePoolModel", "toSpare", "(II)V"⟩ : MethodName) prog_7_method_15_code 4 none ∈ gt := gt_in 658 (by decide +kernel) (by decide +kernel)
set_option maxRecDepth 20000 in
theorem m_657 : Cond.instanceMethod (⟨"PagePoolModel", "toSpare", "(II)V"⟩ : MethodName) ∈ gt := gt_in 657 (by decide +kernel) (by decide +kernel)
set_option maxRecDepth 20000 in
theorem ms_20 : Cond.selects "PagePoolModel" (⟨"PagePoolModel", "toSpare", "(II)V"⟩ : MethodName) (⟨"PagePoolModel", "toSpare", "(II)V"⟩ : MethodName) ∈ gt := gt_sel 20 (by decide +kernel) (by decide +kernel)
set_option maxRecDepth 20000 in
theorem m_643 : Cond.methodLink "PagePoolModel" 105 (⟨"PagePoolModel", "frameWith", "(I)I"⟩ : MethodName) ∈ gt := gt_in 643 (by decide +kernel) (by decide +kernel)
set_option maxRecDepth 20000 in
theorem m_646 : Cond.code (⟨"PagePoolModel", "frameWith", "(I)I"⟩ : MethodName) prog_7_method_14_code 4 (some .int) ∈ gt := gt_in 646 (by decide +kernel) (by decide +kernel)
set_option maxRecDepth 20000 in
theorem m_645 : Cond.instanceMethod (⟨"PagePoolModel", "frameWith", "(I)I"⟩ : MethodName) ∈ gt := gt_in 645 (by decide +kernel) (by decide +kernel)
set_option maxRecDepth 20000 in
theorem ms_17 : Cond.selects "PagePoolModel" (⟨"PagePoolModel", "frameWith", "(I)I"⟩ : MethodName) (⟨"PagePoolModel", "frameWith", "(I)I"⟩ : MethodName) ∈ gt := gt_sel 17 (by decide +kernel) (by decide +kernel)
set_option maxRecDepth 20000 in
theorem m_651 : Cond.methodLink "PagePoolModel" 108 (⟨"PagePoolModel", "write", "(I)V"⟩ : MethodName) ∈ gt := gt_in 651 (by decide +kernel) (by decide +kernel)
set_option maxRecDepth 20000 in
theorem m_654 : Cond.code (⟨"PagePoolModel", "write", "(I)V"⟩ : MethodName) prog_7_method_18_code 3 none ∈ gt := gt_in 654 (by decide +kernel) (by decide +kernel)
set_option maxRecDepth 20000 in
theorem m_653 : Cond.instanceMethod (⟨"PagePoolModel", "write", "(I)V"⟩ : MethodName) ∈ gt := gt_in 653 (by decide +kernel) (by decide +kernel)
set_option maxRecDepth 20000 in
theorem ms_19 : Cond.selects "PagePoolModel" (⟨"PagePoolModel", "write", "(I)V"⟩ : MethodName) (⟨"PagePoolModel", "write", "(I)V"⟩ : MethodName) ∈ gt := gt_sel 19 (by decide +kernel) (by decide +kernel)
theorem d_R_write_0 : decode b_R_write 0 = .ok (.aload_n 0, 1) := by decide +kernel
theorem d_R_write_1 : decode b_R_write 1 = .ok (.aload_n 0, 1) := by decide +kernel
theorem d_R_write_2 : decode b_R_write 2 = .ok (.getfield 36, 3) := by decide +kernel
theorem d_R_write_5 : decode b_R_write 5 = .ok (.bipush 64, 2) := by decide +kernel
theorem d_R_write_7 : decode b_R_write 7 = .ok (.iload_n 1, 1) := by decide +kernel
theorem d_R_write_8 : decode b_R_write 8 = .ok (.imul, 1) := by decide +kernel
theorem d_R_write_9 : decode b_R_write 9 = .ok (.iaload, 1) := by decide +kernel
theorem d_R_write_10 : decode b_R_write 10 = .ok (.bipush 8, 2) := by decide +kernel
theorem d_R_write_12 : decode b_R_write 12 = .ok (.iadd, 1) := by decide +kernel
theorem d_R_write_13 : decode b_R_write 13 = .ok (.iconst 1, 1) := by decide +kernel
theorem d_R_write_14 : decode b_R_write 14 = .ok (.isub, 1) := by decide +kernel
theorem d_R_write_15 : decode b_R_write 15 = .ok (.invokevirtual 90, 3) := by decide +kernel
theorem d_R_write_18 : decode b_R_write 18 = .ok (.pop, 1) := by decide +kernel
theorem d_R_write_19 : decode b_R_write 19 = .ok (.iconst 0, 1) := by decide +kernel
theorem d_R_write_20 : decode b_R_write 20 = .ok (.istore_n 2, 1) := by decide +kernel
theorem d_R_write_21 : decode b_R_write 21 = .ok (.iload_n 2, 1) := by decide +kernel
theorem d_R_write_22 : decode b_R_write 22 = .ok (.iconst 2, 1) := by decide +kernel
theorem d_R_write_23 : decode b_R_write 23 = .ok (.if_icmp .ge 22, 3) := by decide +kernel
theorem d_R_write_26 : decode b_R_write 26 = .ok (.aload_n 0, 1) := by decide +kernel
theorem d_R_write_27 : decode b_R_write 27 = .ok (.invokevirtual 86, 3) := by decide +kernel
theorem d_R_write_30 : decode b_R_write 30 = .ok (.ifCond .eq 15, 3) := by decide +kernel
theorem d_R_write_33 : decode b_R_write 33 = .ok (.aload_n 0, 1) := by decide +kernel
theorem d_R_write_34 : decode b_R_write 34 = .ok (.iload_n 1, 1) := by decide +kernel
theorem d_R_write_35 : decode b_R_write 35 = .ok (.iload_n 2, 1) := by decide +kernel
theorem d_R_write_36 : decode b_R_write 36 = .ok (.invokevirtual 98, 3) := by decide +kernel
theorem d_R_write_39 : decode b_R_write 39 = .ok (.iinc 2 1, 3) := by decide +kernel
theorem d_R_write_42 : decode b_R_write 42 = .ok (.goto (-21), 3) := by decide +kernel
theorem d_R_write_45 : decode b_R_write 45 = .ok (.aload_n 0, 1) := by decide +kernel
theorem d_R_write_46 : decode b_R_write 46 = .ok (.invokevirtual 86, 3) := by decide +kernel
theorem d_R_write_49 : decode b_R_write 49 = .ok (.ifCond .eq 13, 3) := by decide +kernel
theorem d_R_write_52 : decode b_R_write 52 = .ok (.aload_n 0, 1) := by decide +kernel
theorem d_R_write_53 : decode b_R_write 53 = .ok (.aload_n 0, 1) := by decide +kernel
theorem d_R_write_54 : decode b_R_write 54 = .ok (.getfield 39, 3) := by decide +kernel
theorem d_R_write_57 : decode b_R_write 57 = .ok (.iload_n 1, 1) := by decide +kernel
theorem d_R_write_58 : decode b_R_write 58 = .ok (.iaload, 1) := by decide +kernel
theorem d_R_write_59 : decode b_R_write 59 = .ok (.putfield 16, 3) := by decide +kernel
theorem d_R_write_62 : decode b_R_write 62 = .ok (.aload_n 0, 1) := by decide +kernel
theorem d_R_write_63 : decode b_R_write 63 = .ok (.getfield 73, 3) := by decide +kernel
theorem d_R_write_66 : decode b_R_write 66 = .ok (.ifCond .ne 13, 3) := by decide +kernel
theorem d_R_write_69 : decode b_R_write 69 = .ok (.aload_n 0, 1) := by decide +kernel
theorem d_R_write_70 : decode b_R_write 70 = .ok (.aload_n 0, 1) := by decide +kernel
theorem d_R_write_71 : decode b_R_write 71 = .ok (.getfield 39, 3) := by decide +kernel
theorem d_R_write_74 : decode b_R_write 74 = .ok (.iload_n 1, 1) := by decide +kernel
theorem d_R_write_75 : decode b_R_write 75 = .ok (.iaload, 1) := by decide +kernel
theorem d_R_write_76 : decode b_R_write 76 = .ok (.invokevirtual 101, 3) := by decide +kernel
theorem d_R_write_79 : decode b_R_write 79 = .ok (.aload_n 0, 1) := by decide +kernel
theorem d_R_write_80 : decode b_R_write 80 = .ok (.getfield 73, 3) := by decide +kernel
theorem d_R_write_83 : decode b_R_write 83 = .ok (.ifCond .ne 10, 3) := by decide +kernel
theorem d_R_write_86 : decode b_R_write 86 = .ok (.aload_n 0, 1) := by decide +kernel
theorem d_R_write_87 : decode b_R_write 87 = .ok (.getfield 48, 3) := by decide +kernel
theorem d_R_write_90 : decode b_R_write 90 = .ok (.iload_n 1, 1) := by decide +kernel
theorem d_R_write_91 : decode b_R_write 91 = .ok (.iconst (-1), 1) := by decide +kernel
theorem d_R_write_92 : decode b_R_write 92 = .ok (.iastore, 1) := by decide +kernel
theorem d_R_write_93 : decode b_R_write 93 = .ok (.return_, 1) := by decide +kernel
set_option maxRecDepth 20000 in
theorem g_R_write_15 : GoodIn (kws (y_R_write) b_R_write 3 none) (wsV R_R 90 R_R y_R_forceTo (kws (y_R_forceTo) b_R_forceTo 3 (some .int))) := kwV m_624 m_626 ms_14 m_6 m_627
set_option maxRecDepth 20000 in
theorem g_R_write_27 : GoodIn (kws (y_R_write) b_R_write 3 none) (wsV R_R 86 R_R y_R_canWrite (kws (y_R_canWrite) b_R_canWrite 1 (some .boolean))) := kwV m_628 m_630 ms_15 m_6 m_631
set_option maxRecDepth 20000 in
theorem g_R_write_46 : GoodIn (kws (y_R_write) b_R_write 3 none) (wsV R_R 86 R_R y_R_canWrite (kws (y_R_canWrite) b_R_canWrite 1 (some .boolean))) := kwV m_628 m_630 ms_15 m_6 m_631
set_option maxRecDepth 20000 in
theorem g_R_write_76 : GoodIn (kws (y_R_write) b_R_write 3 none) (wsV R_R 101 R_R y_R_writeOwn (kws (y_R_writeOwn) b_R_writeOwn 3 none)) := kwV m_659 m_661 ms_21 m_6 m_662
set_option maxRecDepth 20000 in
theorem g_R_write_36 : GoodIn (kws (y_R_write) b_R_write 3 none) (wsV R_R 98 R_R y_R_toSpare (kws (y_R_toSpare) b_R_toSpare 4 none)) := kwV m_655 m_657 ms_20 m_6 m_658
theorem d_R_flush_0 : decode b_R_flush 0 = .ok (.aload_n 0, 1) := by decide +kernel
theorem d_R_flush_1 : decode b_R_flush 1 = .ok (.aload_n 0, 1) := by decide +kernel
theorem d_R_flush_2 : decode b_R_flush 2 = .ok (.getfield 69, 3) := by decide +kernel
theorem d_R_flush_5 : decode b_R_flush 5 = .ok (.iload_n 1, 1) := by decide +kernel
theorem d_R_flush_6 : decode b_R_flush 6 = .ok (.iconst 0, 1) := by decide +kernel
theorem d_R_flush_7 : decode b_R_flush 7 = .ok (.sipush 255, 3) := by decide +kernel
theorem d_R_flush_10 : decode b_R_flush 10 = .ok (.invokestatic 115, 3) := by decide +kernel
theorem d_R_flush_13 : decode b_R_flush 13 = .ok (.ifCond .ne 7, 3) := by decide +kernel
theorem d_R_flush_16 : decode b_R_flush 16 = .ok (.iconst 1, 1) := by decide +kernel
theorem d_R_flush_17 : decode b_R_flush 17 = .ok (.goto 4, 3) := by decide +kernel
theorem d_R_flush_20 : decode b_R_flush 20 = .ok (.iconst 0, 1) := by decide +kernel
theorem d_R_flush_21 : decode b_R_flush 21 = .ok (.iconst 0, 1) := by decide +kernel
theorem d_R_flush_22 : decode b_R_flush 22 = .ok (.invokevirtual 82, 3) := by decide +kernel
theorem d_R_flush_25 : decode b_R_flush 25 = .ok (.ifCond .eq 5, 3) := by decide +kernel
theorem d_R_flush_28 : decode b_R_flush 28 = .ok (.iconst 0, 1) := by decide +kernel
theorem d_R_flush_29 : decode b_R_flush 29 = .ok (.ireturn, 1) := by decide +kernel
theorem d_R_flush_30 : decode b_R_flush 30 = .ok (.aload_n 0, 1) := by decide +kernel
theorem d_R_flush_31 : decode b_R_flush 31 = .ok (.iload_n 1, 1) := by decide +kernel
theorem d_R_flush_32 : decode b_R_flush 32 = .ok (.invokevirtual 105, 3) := by decide +kernel
theorem d_R_flush_35 : decode b_R_flush 35 = .ok (.istore_n 2, 1) := by decide +kernel
theorem d_R_flush_36 : decode b_R_flush 36 = .ok (.iload_n 2, 1) := by decide +kernel
theorem d_R_flush_37 : decode b_R_flush 37 = .ok (.ifCond .lt 12, 3) := by decide +kernel
theorem d_R_flush_40 : decode b_R_flush 40 = .ok (.aload_n 0, 1) := by decide +kernel
theorem d_R_flush_41 : decode b_R_flush 41 = .ok (.getfield 48, 3) := by decide +kernel
theorem d_R_flush_44 : decode b_R_flush 44 = .ok (.iload_n 2, 1) := by decide +kernel
theorem d_R_flush_45 : decode b_R_flush 45 = .ok (.iaload, 1) := by decide +kernel
theorem d_R_flush_46 : decode b_R_flush 46 = .ok (.ifCond .ge 5, 3) := by decide +kernel
theorem d_R_flush_49 : decode b_R_flush 49 = .ok (.iconst 0, 1) := by decide +kernel
theorem d_R_flush_50 : decode b_R_flush 50 = .ok (.ireturn, 1) := by decide +kernel
theorem d_R_flush_51 : decode b_R_flush 51 = .ok (.aload_n 0, 1) := by decide +kernel
theorem d_R_flush_52 : decode b_R_flush 52 = .ok (.iconst 0, 1) := by decide +kernel
theorem d_R_flush_53 : decode b_R_flush 53 = .ok (.putfield 73, 3) := by decide +kernel
theorem d_R_flush_56 : decode b_R_flush 56 = .ok (.aload_n 0, 1) := by decide +kernel
theorem d_R_flush_57 : decode b_R_flush 57 = .ok (.iload_n 2, 1) := by decide +kernel
theorem d_R_flush_58 : decode b_R_flush 58 = .ok (.invokevirtual 108, 3) := by decide +kernel
theorem d_R_flush_61 : decode b_R_flush 61 = .ok (.aload_n 0, 1) := by decide +kernel
theorem d_R_flush_62 : decode b_R_flush 62 = .ok (.getfield 73, 3) := by decide +kernel
theorem d_R_flush_65 : decode b_R_flush 65 = .ok (.ifCond .eq 7, 3) := by decide +kernel
theorem d_R_flush_68 : decode b_R_flush 68 = .ok (.iconst (-1), 1) := by decide +kernel
theorem d_R_flush_69 : decode b_R_flush 69 = .ok (.goto 4, 3) := by decide +kernel
theorem d_R_flush_72 : decode b_R_flush 72 = .ok (.iconst 1, 1) := by decide +kernel
theorem d_R_flush_73 : decode b_R_flush 73 = .ok (.ireturn, 1) := by decide +kernel
set_option maxRecDepth 20000 in
theorem g_R_flush_10 : GoodIn (kws (y_R_flush) b_R_flush 3 (some .int)) (wsS R_R 115 y_R_in (kws (y_R_in) b_R_in 3 (some .boolean))) := kwS m_636 m_637 m_6 m_638
set_option maxRecDepth 20000 in
theorem g_R_flush_22 : GoodIn (kws (y_R_flush) b_R_flush 3 (some .int)) (wsV R_R 82 R_R y_R_refused (kws (y_R_refused) b_R_refused 4 (some .boolean))) := kwV m_604 m_606 ms_12 m_6 m_607
set_option maxRecDepth 20000 in
theorem g_R_flush_32 : GoodIn (kws (y_R_flush) b_R_flush 3 (some .int)) (wsV R_R 105 R_R y_R_frameWith (kws (y_R_frameWith) b_R_frameWith 4 (some .int))) := kwV m_643 m_645 ms_17 m_6 m_646
set_option maxRecDepth 20000 in
theorem g_R_flush_58 : GoodIn (kws (y_R_flush) b_R_flush 3 (some .int)) (wsV R_R 108 R_R y_R_write (kws (y_R_write) b_R_write 3 none)) := kwV m_651 m_653 ms_19 m_6 m_654
theorem d_R_flushOldest_0 : decode b_R_flushOldest 0 = .ok (.aload_n 0, 1) := by decide +kernel
theorem d_R_flushOldest_1 : decode b_R_flushOldest 1 = .ok (.aload_n 0, 1) := by decide +kernel
theorem d_R_flushOldest_2 : decode b_R_flushOldest 2 = .ok (.getfield 69, 3) := by decide +kernel
theorem d_R_flushOldest_5 : decode b_R_flushOldest 5 = .ok (.iconst 0, 1) := by decide +kernel
theorem d_R_flushOldest_6 : decode b_R_flushOldest 6 = .ok (.iconst 0, 1) := by decide +kernel
theorem d_R_flushOldest_7 : decode b_R_flushOldest 7 = .ok (.invokevirtual 82, 3) := by decide +kernel
theorem d_R_flushOldest_10 : decode b_R_flushOldest 10 = .ok (.ifCond .eq 5, 3) := by decide +kernel
theorem d_R_flushOldest_13 : decode b_R_flushOldest 13 = .ok (.iconst 0, 1) := by decide +kernel
theorem d_R_flushOldest_14 : decode b_R_flushOldest 14 = .ok (.ireturn, 1) := by decide +kernel
theorem d_R_flushOldest_15 : decode b_R_flushOldest 15 = .ok (.aload_n 0, 1) := by decide +kernel
theorem d_R_flushOldest_16 : decode b_R_flushOldest 16 = .ok (.iconst 0, 1) := by decide +kernel
theorem d_R_flushOldest_17 : decode b_R_flushOldest 17 = .ok (.invokevirtual 137, 3) := by decide +kernel
theorem d_R_flushOldest_20 : decode b_R_flushOldest 20 = .ok (.istore_n 1, 1) := by decide +kernel
theorem d_R_flushOldest_21 : decode b_R_flushOldest 21 = .ok (.iload_n 1, 1) := by decide +kernel
theorem d_R_flushOldest_22 : decode b_R_flushOldest 22 = .ok (.ifCond .ge 5, 3) := by decide +kernel
theorem d_R_flushOldest_25 : decode b_R_flushOldest 25 = .ok (.iconst (-1), 1) := by decide +kernel
theorem d_R_flushOldest_26 : decode b_R_flushOldest 26 = .ok (.ireturn, 1) := by decide +kernel
theorem d_R_flushOldest_27 : decode b_R_flushOldest 27 = .ok (.aload_n 0, 1) := by decide +kernel
theorem d_R_flushOldest_28 : decode b_R_flushOldest 28 = .ok (.getfield 39, 3) := by decide +kernel
theorem d_R_flushOldest_31 : decode b_R_flushOldest 31 = .ok (.iload_n 1, 1) := by decide +kernel
theorem d_R_flushOldest_32 : decode b_R_flushOldest 32 = .ok (.iaload, 1) := by decide +kernel
theorem d_R_flushOldest_33 : decode b_R_flushOldest 33 = .ok (.istore_n 2, 1) := by decide +kernel
theorem d_R_flushOldest_34 : decode b_R_flushOldest 34 = .ok (.aload_n 0, 1) := by decide +kernel
theorem d_R_flushOldest_35 : decode b_R_flushOldest 35 = .ok (.iconst 0, 1) := by decide +kernel
theorem d_R_flushOldest_36 : decode b_R_flushOldest 36 = .ok (.putfield 73, 3) := by decide +kernel
theorem d_R_flushOldest_39 : decode b_R_flushOldest 39 = .ok (.aload_n 0, 1) := by decide +kernel
theorem d_R_flushOldest_40 : decode b_R_flushOldest 40 = .ok (.iload_n 1, 1) := by decide +kernel
theorem d_R_flushOldest_41 : decode b_R_flushOldest 41 = .ok (.invokevirtual 108, 3) := by decide +kernel
theorem d_R_flushOldest_44 : decode b_R_flushOldest 44 = .ok (.aload_n 0, 1) := by decide +kernel
theorem d_R_flushOldest_45 : decode b_R_flushOldest 45 = .ok (.getfield 73, 3) := by decide +kernel
theorem d_R_flushOldest_48 : decode b_R_flushOldest 48 = .ok (.ifCond .eq 7, 3) := by decide +kernel
theorem d_R_flushOldest_51 : decode b_R_flushOldest 51 = .ok (.iconst (-1), 1) := by decide +kernel
theorem d_R_flushOldest_52 : decode b_R_flushOldest 52 = .ok (.goto 4, 3) := by decide +kernel
theorem d_R_flushOldest_55 : decode b_R_flushOldest 55 = .ok (.iload_n 2, 1) := by decide +kernel
theorem d_R_flushOldest_56 : decode b_R_flushOldest 56 = .ok (.ireturn, 1) := by decide +kernel
set_option maxRecDepth 20000 in
theorem g_R_flushOldest_7 : GoodIn (kws (y_R_flushOldest) b_R_flushOldest 3 (some .int)) (wsV R_R 82 R_R y_R_refused (kws (y_R_refused) b_R_refused 4 (some .boolean))) := kwV m_604 m_606 ms_12 m_6 m_607
set_option maxRecDepth 20000 in
theorem g_R_flushOldest_17 : GoodIn (kws (y_R_flushOldest) b_R_flushOldest 3 (some .int)) (wsV R_R 137 R_R y_R_kth (kws (y_R_kth) b_R_kth 6 (some .int))) := kwV m_702 m_704 ms_24 m_6 m_705
set_option maxRecDepth 20000 in
theorem g_R_flushOldest_41 : GoodIn (kws (y_R_flushOldest) b_R_flushOldest 3 (some .int)) (wsV R_R 108 R_R y_R_write (kws (y_R_write) b_R_write 3 none)) := kwV m_651 m_653 ms_19 m_6 m_654
theorem qForgets_n' : ∀ (n f : Nat) (σ : Mem), qForgets n f σ 0 = σ 0 := fun n f σ => qForgets_n n f σ 0 (by decide)
theorem qFail_21 (σ : Mem) : qFail σ 0 21 = nI 1 := by
  unfold qFail qForget
  rw [mup_f _ _ _ _ (by decide), mup_f _ _ _ _ (by decide), qForgets_n', mup_f _ _ _ _ (by decide), mup_v]
/-- unless it failed: it hadn't failed before, and the frames' numbers stay -/
def okk (σ τ : Mem) : Prop := τ 0 21 = 0 → σ 0 21 = 0 ∧ ∀ i, 8 ≤ i → τ i = σ i
theorem okk_rf (σ : Mem) : okk σ σ := fun h => ⟨h, fun _ _ => rfl⟩
theorem okk_tr {a b d : Mem} (h1 : okk a b) (h2 : okk b d) : okk a d := fun h => ⟨(h1 (h2 h).1).1, fun i hi => ((h2 h).2 i hi).trans ((h1 (h2 h).1).2 i hi)⟩
theorem okk_m0 (σ : Mem) {k : Nat} (v : Int32) (hk : 21 ≠ k) : okk σ (mup σ 0 k v) := fun h => ⟨by rw [mup_f _ _ _ _ hk] at h; exact h, fun i hi => mup_n _ _ _ (by omega)⟩
theorem okk_mi (σ : Mem) {j : Nat} (k : Nat) (v : Int32) (h0 : 0 < j) (h8 : j < 8) : okk σ (mup σ j k v) := fun h => ⟨by rw [mup_n _ _ _ (by omega)] at h; exact h, fun i hi => mup_n _ _ _ (by omega)⟩
theorem okk_fail (σ : Mem) : okk σ (qFail σ) := fun h => by
  rw [qFail_21] at h
  exact absurd h (by decide)
theorem okk_CW (σ : Mem) : okk σ (qCW σ).2 := by
  unfold qCW
  repeat' split
  all_goals first | exact okk_fail σ | exact okk_rf σ | exact okk_tr (okk_m0 _ _ (by decide)) (okk_m0 _ _ (by decide))
theorem okk_Fo : ∀ (n : Nat) (k : Int32) (σ : Mem), okk σ (qFo n k σ).2
  | 0, _, σ => okk_rf σ
  | n + 1, k, σ => by
    unfold qFo
    split
    · exact okk_CW σ
    · exact okk_tr (okk_CW σ) (okk_tr (okk_m0 _ _ (by decide)) (okk_Fo n _ _))
theorem okk_FT (σ : Mem) (x : Int32) : okk σ (qFT σ x).2 := okk_Fo _ _ σ
theorem okk_TS (f : Nat) : ∀ (n i : Nat) (σ : Mem), okk σ (qTS f n i σ)
  | 0, _, σ => okk_rf σ
  | n + 1, i, σ => by
    unfold qTS
    exact okk_tr (okk_mi _ _ _ (by decide) (by decide)) (okk_TS f n _ _)
theorem okk_TO (pg : Nat) : ∀ (n i : Nat) (σ : Mem), okk σ (qTO pg n i σ)
  | 0, _, σ => okk_rf σ
  | n + 1, i, σ => by
    unfold qTO
    exact okk_tr (okk_mi _ _ _ (by decide) (by decide)) (okk_TO pg n _ _)
def qWr (σ : Mem) (f : Nat) : Mem :=
  if ((qCW ((qFT σ (((σ 7 (64 * f)) + (nI 8)) - (nI 1))).2)).1) = 0 then (if ((qCW ((qCW ((qFT σ (((σ 7 (64 * f)) + (nI 8)) - (nI 1))).2)).2)).1) = 0 then (if (((qCW ((qCW ((qFT σ (((σ 7 (64 * f)) + (nI 8)) - (nI 1))).2)).2)).2) 0 21) = 0 then (if ((qWO ((qCW ((qCW ((qFT σ (((σ 7 (64 * f)) + (nI 8)) - (nI 1))).2)).2)).2) ((σ 8 f).toNatClampNeg)) 0 21) = 0 then (mup (qWO ((qCW ((qCW ((qFT σ (((σ 7 (64 * f)) + (nI 8)) - (nI 1))).2)).2)).2) ((σ 8 f).toNatClampNeg)) 11 f ((-1)))
        else ((qWO ((qCW ((qCW ((qFT σ (((σ 7 (64 * f)) + (nI 8)) - (nI 1))).2)).2)).2) ((σ 8 f).toNatClampNeg))))
      else if (((qCW ((qCW ((qFT σ (((σ 7 (64 * f)) + (nI 8)) - (nI 1))).2)).2)).2) 0 21) = 0 then (mup ((qCW ((qCW ((qFT σ (((σ 7 (64 * f)) + (nI 8)) - (nI 1))).2)).2)).2) 11 f ((-1)))
      else (((qCW ((qCW ((qFT σ (((σ 7 (64 * f)) + (nI 8)) - (nI 1))).2)).2)).2)))
    else if ((mup ((qCW ((qCW ((qFT σ (((σ 7 (64 * f)) + (nI 8)) - (nI 1))).2)).2)).2) 0 3 (((qCW ((qCW ((qFT σ (((σ 7 (64 * f)) + (nI 8)) - (nI 1))).2)).2)).2) 8 f)) 0 21) = 0 then (if ((qWO (mup ((qCW ((qCW ((qFT σ (((σ 7 (64 * f)) + (nI 8)) - (nI 1))).2)).2)).2) 0 3 (((qCW ((qCW ((qFT σ (((σ 7 (64 * f)) + (nI 8)) - (nI 1))).2)).2)).2) 8 f)) ((σ 8 f).toNatClampNeg)) 0 21) = 0 then (mup (qWO (mup ((qCW ((qCW ((qFT σ (((σ 7 (64 * f)) + (nI 8)) - (nI 1))).2)).2)).2) 0 3 (((qCW ((qCW ((qFT σ (((σ 7 (64 * f)) + (nI 8)) - (nI 1))).2)).2)).2) 8 f)) ((σ 8 f).toNatClampNeg)) 11 f ((-1)))
      else ((qWO (mup ((qCW ((qCW ((qFT σ (((σ 7 (64 * f)) + (nI 8)) - (nI 1))).2)).2)).2) 0 3 (((qCW ((qCW ((qFT σ (((σ 7 (64 * f)) + (nI 8)) - (nI 1))).2)).2)).2) 8 f)) ((σ 8 f).toNatClampNeg))))
    else if ((mup ((qCW ((qCW ((qFT σ (((σ 7 (64 * f)) + (nI 8)) - (nI 1))).2)).2)).2) 0 3 (((qCW ((qCW ((qFT σ (((σ 7 (64 * f)) + (nI 8)) - (nI 1))).2)).2)).2) 8 f)) 0 21) = 0 then (mup (mup ((qCW ((qCW ((qFT σ (((σ 7 (64 * f)) + (nI 8)) - (nI 1))).2)).2)).2) 0 3 (((qCW ((qCW ((qFT σ (((σ 7 (64 * f)) + (nI 8)) - (nI 1))).2)).2)).2) 8 f)) 11 f ((-1)))
    else (mup ((qCW ((qCW ((qFT σ (((σ 7 (64 * f)) + (nI 8)) - (nI 1))).2)).2)).2) 0 3 (((qCW ((qCW ((qFT σ (((σ 7 (64 * f)) + (nI 8)) - (nI 1))).2)).2)).2) 8 f)))
  else if ((qCW (qTS f 32 (0 * 32) ((qCW ((qFT σ (((σ 7 (64 * f)) + (nI 8)) - (nI 1))).2)).2))).1) = 0 then (if ((qCW ((qCW (qTS f 32 (0 * 32) ((qCW ((qFT σ (((σ 7 (64 * f)) + (nI 8)) - (nI 1))).2)).2))).2)).1) = 0 then (if (((qCW ((qCW (qTS f 32 (0 * 32) ((qCW ((qFT σ (((σ 7 (64 * f)) + (nI 8)) - (nI 1))).2)).2))).2)).2) 0 21) = 0 then (if ((qWO ((qCW ((qCW (qTS f 32 (0 * 32) ((qCW ((qFT σ (((σ 7 (64 * f)) + (nI 8)) - (nI 1))).2)).2))).2)).2) ((σ 8 f).toNatClampNeg)) 0 21) = 0 then (mup (qWO ((qCW ((qCW (qTS f 32 (0 * 32) ((qCW ((qFT σ (((σ 7 (64 * f)) + (nI 8)) - (nI 1))).2)).2))).2)).2) ((σ 8 f).toNatClampNeg)) 11 f ((-1)))
        else ((qWO ((qCW ((qCW (qTS f 32 (0 * 32) ((qCW ((qFT σ (((σ 7 (64 * f)) + (nI 8)) - (nI 1))).2)).2))).2)).2) ((σ 8 f).toNatClampNeg))))
      else if (((qCW ((qCW (qTS f 32 (0 * 32) ((qCW ((qFT σ (((σ 7 (64 * f)) + (nI 8)) - (nI 1))).2)).2))).2)).2) 0 21) = 0 then (mup ((qCW ((qCW (qTS f 32 (0 * 32) ((qCW ((qFT σ (((σ 7 (64 * f)) + (nI 8)) - (nI 1))).2)).2))).2)).2) 11 f ((-1)))
      else (((qCW ((qCW (qTS f 32 (0 * 32) ((qCW ((qFT σ (((σ 7 (64 * f)) + (nI 8)) - (nI 1))).2)).2))).2)).2)))
    else if ((mup ((qCW ((qCW (qTS f 32 (0 * 32) ((qCW ((qFT σ (((σ 7 (64 * f)) + (nI 8)) - (nI 1))).2)).2))).2)).2) 0 3 (((qCW ((qCW (qTS f 32 (0 * 32) ((qCW ((qFT σ (((σ 7 (64 * f)) + (nI 8)) - (nI 1))).2)).2))).2)).2) 8 f)) 0 21) = 0 then (if ((qWO (mup ((qCW ((qCW (qTS f 32 (0 * 32) ((qCW ((qFT σ (((σ 7 (64 * f)) + (nI 8)) - (nI 1))).2)).2))).2)).2) 0 3 (((qCW ((qCW (qTS f 32 (0 * 32) ((qCW ((qFT σ (((σ 7 (64 * f)) + (nI 8)) - (nI 1))).2)).2))).2)).2) 8 f)) ((σ 8 f).toNatClampNeg)) 0 21) = 0 then (mup (qWO (mup ((qCW ((qCW (qTS f 32 (0 * 32) ((qCW ((qFT σ (((σ 7 (64 * f)) + (nI 8)) - (nI 1))).2)).2))).2)).2) 0 3 (((qCW ((qCW (qTS f 32 (0 * 32) ((qCW ((qFT σ (((σ 7 (64 * f)) + (nI 8)) - (nI 1))).2)).2))).2)).2) 8 f)) ((σ 8 f).toNatClampNeg)) 11 f ((-1)))
      else ((qWO (mup ((qCW ((qCW (qTS f 32 (0 * 32) ((qCW ((qFT σ (((σ 7 (64 * f)) + (nI 8)) - (nI 1))).2)).2))).2)).2) 0 3 (((qCW ((qCW (qTS f 32 (0 * 32) ((qCW ((qFT σ (((σ 7 (64 * f)) + (nI 8)) - (nI 1))).2)).2))).2)).2) 8 f)) ((σ 8 f).toNatClampNeg))))
    else if ((mup ((qCW ((qCW (qTS f 32 (0 * 32) ((qCW ((qFT σ (((σ 7 (64 * f)) + (nI 8)) - (nI 1))).2)).2))).2)).2) 0 3 (((qCW ((qCW (qTS f 32 (0 * 32) ((qCW ((qFT σ (((σ 7 (64 * f)) + (nI 8)) - (nI 1))).2)).2))).2)).2) 8 f)) 0 21) = 0 then (mup (mup ((qCW ((qCW (qTS f 32 (0 * 32) ((qCW ((qFT σ (((σ 7 (64 * f)) + (nI 8)) - (nI 1))).2)).2))).2)).2) 0 3 (((qCW ((qCW (qTS f 32 (0 * 32) ((qCW ((qFT σ (((σ 7 (64 * f)) + (nI 8)) - (nI 1))).2)).2))).2)).2) 8 f)) 11 f ((-1)))
    else (mup ((qCW ((qCW (qTS f 32 (0 * 32) ((qCW ((qFT σ (((σ 7 (64 * f)) + (nI 8)) - (nI 1))).2)).2))).2)).2) 0 3 (((qCW ((qCW (qTS f 32 (0 * 32) ((qCW ((qFT σ (((σ 7 (64 * f)) + (nI 8)) - (nI 1))).2)).2))).2)).2) 8 f)))
  else if ((qCW (qTS f 32 (1 * 32) ((qCW (qTS f 32 (0 * 32) ((qCW ((qFT σ (((σ 7 (64 * f)) + (nI 8)) - (nI 1))).2)).2))).2))).1) = 0 then (if (((qCW (qTS f 32 (1 * 32) ((qCW (qTS f 32 (0 * 32) ((qCW ((qFT σ (((σ 7 (64 * f)) + (nI 8)) - (nI 1))).2)).2))).2))).2) 0 21) = 0 then (if ((qWO ((qCW (qTS f 32 (1 * 32) ((qCW (qTS f 32 (0 * 32) ((qCW ((qFT σ (((σ 7 (64 * f)) + (nI 8)) - (nI 1))).2)).2))).2))).2) ((σ 8 f).toNatClampNeg)) 0 21) = 0 then (mup (qWO ((qCW (qTS f 32 (1 * 32) ((qCW (qTS f 32 (0 * 32) ((qCW ((qFT σ (((σ 7 (64 * f)) + (nI 8)) - (nI 1))).2)).2))).2))).2) ((σ 8 f).toNatClampNeg)) 11 f ((-1)))
      else ((qWO ((qCW (qTS f 32 (1 * 32) ((qCW (qTS f 32 (0 * 32) ((qCW ((qFT σ (((σ 7 (64 * f)) + (nI 8)) - (nI 1))).2)).2))).2))).2) ((σ 8 f).toNatClampNeg))))
    else if (((qCW (qTS f 32 (1 * 32) ((qCW (qTS f 32 (0 * 32) ((qCW ((qFT σ (((σ 7 (64 * f)) + (nI 8)) - (nI 1))).2)).2))).2))).2) 0 21) = 0 then (mup ((qCW (qTS f 32 (1 * 32) ((qCW (qTS f 32 (0 * 32) ((qCW ((qFT σ (((σ 7 (64 * f)) + (nI 8)) - (nI 1))).2)).2))).2))).2) 11 f ((-1)))
    else (((qCW (qTS f 32 (1 * 32) ((qCW (qTS f 32 (0 * 32) ((qCW ((qFT σ (((σ 7 (64 * f)) + (nI 8)) - (nI 1))).2)).2))).2))).2)))
  else if ((mup ((qCW (qTS f 32 (1 * 32) ((qCW (qTS f 32 (0 * 32) ((qCW ((qFT σ (((σ 7 (64 * f)) + (nI 8)) - (nI 1))).2)).2))).2))).2) 0 3 (((qCW (qTS f 32 (1 * 32) ((qCW (qTS f 32 (0 * 32) ((qCW ((qFT σ (((σ 7 (64 * f)) + (nI 8)) - (nI 1))).2)).2))).2))).2) 8 f)) 0 21) = 0 then (if ((qWO (mup ((qCW (qTS f 32 (1 * 32) ((qCW (qTS f 32 (0 * 32) ((qCW ((qFT σ (((σ 7 (64 * f)) + (nI 8)) - (nI 1))).2)).2))).2))).2) 0 3 (((qCW (qTS f 32 (1 * 32) ((qCW (qTS f 32 (0 * 32) ((qCW ((qFT σ (((σ 7 (64 * f)) + (nI 8)) - (nI 1))).2)).2))).2))).2) 8 f)) ((σ 8 f).toNatClampNeg)) 0 21) = 0 then (mup (qWO (mup ((qCW (qTS f 32 (1 * 32) ((qCW (qTS f 32 (0 * 32) ((qCW ((qFT σ (((σ 7 (64 * f)) + (nI 8)) - (nI 1))).2)).2))).2))).2) 0 3 (((qCW (qTS f 32 (1 * 32) ((qCW (qTS f 32 (0 * 32) ((qCW ((qFT σ (((σ 7 (64 * f)) + (nI 8)) - (nI 1))).2)).2))).2))).2) 8 f)) ((σ 8 f).toNatClampNeg)) 11 f ((-1)))
    else ((qWO (mup ((qCW (qTS f 32 (1 * 32) ((qCW (qTS f 32 (0 * 32) ((qCW ((qFT σ (((σ 7 (64 * f)) + (nI 8)) - (nI 1))).2)).2))).2))).2) 0 3 (((qCW (qTS f 32 (1 * 32) ((qCW (qTS f 32 (0 * 32) ((qCW ((qFT σ (((σ 7 (64 * f)) + (nI 8)) - (nI 1))).2)).2))).2))).2) 8 f)) ((σ 8 f).toNatClampNeg))))
  else if ((mup ((qCW (qTS f 32 (1 * 32) ((qCW (qTS f 32 (0 * 32) ((qCW ((qFT σ (((σ 7 (64 * f)) + (nI 8)) - (nI 1))).2)).2))).2))).2) 0 3 (((qCW (qTS f 32 (1 * 32) ((qCW (qTS f 32 (0 * 32) ((qCW ((qFT σ (((σ 7 (64 * f)) + (nI 8)) - (nI 1))).2)).2))).2))).2) 8 f)) 0 21) = 0 then (mup (mup ((qCW (qTS f 32 (1 * 32) ((qCW (qTS f 32 (0 * 32) ((qCW ((qFT σ (((σ 7 (64 * f)) + (nI 8)) - (nI 1))).2)).2))).2))).2) 0 3 (((qCW (qTS f 32 (1 * 32) ((qCW (qTS f 32 (0 * 32) ((qCW ((qFT σ (((σ 7 (64 * f)) + (nI 8)) - (nI 1))).2)).2))).2))).2) 8 f)) 11 f ((-1)))
  else (mup ((qCW (qTS f 32 (1 * 32) ((qCW (qTS f 32 (0 * 32) ((qCW ((qFT σ (((σ 7 (64 * f)) + (nI 8)) - (nI 1))).2)).2))).2))).2) 0 3 (((qCW (qTS f 32 (1 * 32) ((qCW (qTS f 32 (0 * 32) ((qCW ((qFT σ (((σ 7 (64 * f)) + (nI 8)) - (nI 1))).2)).2))).2))).2) 8 f))
set_option maxHeartbeats 4000000 in
set_option maxRecDepth 100000 in
theorem c_R_write (σ : Mem) (f : Nat) (hf : f < 8) (hp : nat0 256 (σ 8 f)) : KVR l D cI cF cZ cJ ad y_R_write b_R_write 3 4 110 [.ref (ad 0), .int (nI f)] σ (fun σ' => σ' = qWr σ f) := by
  refine KV.of (by decide) (Nat.le_of_ble_eq_true rfl) ?_
  intro p e s m args below meth c A ls F w hl hr hlk
  obtain ⟨hx, hb, hml, hown, hts⟩ := id F
  have hl : lv_has ls 3 [(0, .ref (ad 0)), (1, .int (nI f))] := hl
  refine lv_aload_n hx hb d_R_write_0 rfl (lv_at hl 0 rfl) ?_
  refine lv_aload_n hx hb d_R_write_1 rfl (lv_at hl 0 rfl) ?_
  refine mr_get F w (kin in_R) 0 (by decide) rfl rfl 12 (by decide) (kws_in m_540) (fun _ h => h) rfl d_R_write_2 ?_
  refine lv_bipush (v := nI 64) hx hb d_R_write_5 (by decide) ?_
  refine lv_iload_n hx hb d_R_write_7 rfl (lv_at hl 1 rfl) ?_
  refine nr_imul hx hb d_R_write_8 ?_
  refine mr_iaN F w 7 0 (by decide) rfl rfl (64 * f) (by omega) (by decide) rfl d_R_write_9 ?_
  refine lv_bipush (v := nI 8) hx hb d_R_write_10 (by decide) ?_
  refine lv_iadd hx hb d_R_write_12 ?_
  refine lv_iconst (v := nI 1) hx hb d_R_write_13 (by decide) ?_
  refine lv_isub hx hb d_R_write_14 ?_
  refine mr_callVi (As := [.int (((σ 7 (64 * f)) + (nI 8)) - (nI 1))]) F w hl.1 (c_R_forceTo σ (((σ 7 (64 * f)) + (nI 8)) - (nI 1))) (cwV 1 hts g_R_write_15 rfl rfl rfl (by decide +kernel) ⟨Nat.le_of_ble_eq_true rfl, Nat.le_of_ble_eq_true rfl⟩) rfl (by decide) rfl rfl rfl (Nat.le_of_ble_eq_true rfl) d_R_write_15 ⟨Nat.zero_le _, Nat.zero_le _⟩ (fun r1 σ2 H locs e3 w => ?_)
  have e3_r := e3.1.symm
  have e3_s := e3.2.symm
  clear e3
  refine lv_pop hx hb d_R_write_18 rfl ?_
  refine lv_iconst (v := nI 0) hx hb d_R_write_19 (by decide) ?_
  refine lv_istore_n (lv' := [(2, .int (nI 0)), (0, .ref (ad 0)), (1, .int (nI f))]) hx hb d_R_write_20 rfl hl (by decide) rfl (fun ls hl => ?_)
  refine lv_iload_n hx hb d_R_write_21 rfl (lv_at hl 0 rfl) ?_
  refine lv_iconst (v := nI 2) hx hb d_R_write_22 (by decide) ?_
  refine nr_icmp_ge (tgt := 45) hx hb d_R_write_23 (by decide) (by omega) (by omega) (fun c4 => absurd c4 (by omega)) (fun _ => ?_)
  refine lv_aload_n hx hb d_R_write_26 rfl (lv_at hl 1 rfl) ?_
  refine mr_callVi (As := []) F w hl.1 (c_R_canWrite σ2) (cwV 0 hts g_R_write_27 rfl rfl rfl (by decide +kernel) ⟨Nat.le_of_ble_eq_true rfl, Nat.le_of_ble_eq_true rfl⟩) rfl (by decide) rfl rfl rfl (Nat.le_of_ble_eq_true rfl) d_R_write_27 ⟨Nat.zero_le _, Nat.zero_le _⟩ (fun r5 σ6 H locs e7 w => ?_)
  have e7_r := e7.1.symm
  have e7_s := e7.2.symm
  clear e7
  refine lv_if_eq (tgt := 45) hx hb d_R_write_30 (by decide) (fun c8 => ?_) (fun c8 => ?_)
  · refine lv_aload_n hx hb d_R_write_45 rfl (lv_at hl 1 rfl) ?_
    refine mr_callVi (As := []) F w hl.1 (c_R_canWrite σ6) (cwV 0 hts g_R_write_46 rfl rfl rfl (by decide +kernel) ⟨Nat.le_of_ble_eq_true rfl, Nat.le_of_ble_eq_true rfl⟩) rfl (by decide) rfl rfl rfl (Nat.le_of_ble_eq_true rfl) d_R_write_46 ⟨Nat.zero_le _, Nat.zero_le _⟩ (fun r9 σ10 H locs e11 w => ?_)
    have e11_r := e11.1.symm
    have e11_s := e11.2.symm
    clear e11
    refine lv_if_eq (tgt := 62) hx hb d_R_write_49 (by decide) (fun c12 => ?_) (fun c12 => ?_)
    · refine lv_aload_n hx hb d_R_write_62 rfl (lv_at hl 1 rfl) ?_
      refine mr_get F w (kin in_R) 0 (by decide) rfl rfl 21 (by decide) (kws_in m_549) (fun _ h => h) rfl d_R_write_63 ?_
      refine lv_if_ne (tgt := 79) hx hb d_R_write_66 (by decide) (fun c13 => ?_) (fun c13 => ?_)
      · refine lv_aload_n hx hb d_R_write_79 rfl (lv_at hl 1 rfl) ?_
        refine mr_get F w (kin in_R) 0 (by decide) rfl rfl 21 (by decide) (kws_in m_549) (fun _ h => h) rfl d_R_write_80 ?_
        refine lv_if_ne (tgt := 93) hx hb d_R_write_83 (by decide) (fun c14 => ?_) (fun c14 => ?_)
        · exact mr_vret F w hr hlk (by subst e3_r e3_s e7_r e7_s e11_r e11_s; unfold qWr; rw [if_pos c8, if_pos c12, if_neg c13, if_neg c14]; try rfl) d_R_write_93
        · refine lv_aload_n hx hb d_R_write_86 rfl (lv_at hl 1 rfl) ?_
          refine mr_get F w (kin in_R) 0 (by decide) rfl rfl 16 (by decide) (kws_in m_544) (fun _ h => h) rfl d_R_write_87 ?_
          refine lv_iload_n hx hb d_R_write_90 rfl (lv_at hl 2 rfl) ?_
          refine lv_iconst (v := -1) hx hb d_R_write_91 (by decide) ?_
          refine mr_isN F w 11 0 (by decide) (fun _ => rfl) rfl f (by omega) (by decide) rfl d_R_write_92 (fun H locs w => ?_)
          exact mr_vret F w hr hlk (by subst e3_r e3_s e7_r e7_s e11_r e11_s; unfold qWr; rw [if_pos c8, if_pos c12, if_neg c13, if_pos c14]; try rfl) d_R_write_93
      · refine lv_aload_n hx hb d_R_write_69 rfl (lv_at hl 1 rfl) ?_
        refine lv_aload_n hx hb d_R_write_70 rfl (lv_at hl 1 rfl) ?_
        refine mr_get F w (kin in_R) 0 (by decide) rfl rfl 13 (by decide) (kws_in m_541) (fun _ h => h) rfl d_R_write_71 ?_
        refine lv_iload_n hx hb d_R_write_74 rfl (lv_at hl 2 rfl) ?_
        refine mr_iaN F w 8 0 (by decide) rfl rfl f (by omega) (by decide) rfl d_R_write_75 ?_
        refine nr_as (k := (σ 8 f).toNatClampNeg) (by subst e3_r e3_s e7_r e7_s e11_r e11_s; have h9 := (okk_tr (okk_tr (okk_tr (okk_rf σ) (okk_FT _ _)) (okk_CW _)) (okk_CW _)) c13; rw [h9.2 8 (by decide)]; exact hp.2) ?_
        refine mr_callVv (As := [.int (nI ((σ 8 f).toNatClampNeg))]) F w hl.1 (c_R_writeOwn σ10 ((σ 8 f).toNatClampNeg) hp.1) (cwV 1 hts g_R_write_76 rfl rfl rfl (by decide +kernel) ⟨Nat.le_of_ble_eq_true rfl, Nat.le_of_ble_eq_true rfl⟩) rfl (by decide) rfl rfl rfl (Nat.le_of_ble_eq_true rfl) d_R_write_76 ⟨Nat.zero_le _, Nat.zero_le _⟩ (fun σ16 H locs e17 w => ?_)
        replace e17 := Eq.symm e17
        refine lv_aload_n hx hb d_R_write_79 rfl (lv_at hl 1 rfl) ?_
        refine mr_get F w (kin in_R) 0 (by decide) rfl rfl 21 (by decide) (kws_in m_549) (fun _ h => h) rfl d_R_write_80 ?_
        refine lv_if_ne (tgt := 93) hx hb d_R_write_83 (by decide) (fun c18 => ?_) (fun c18 => ?_)
        · exact mr_vret F w hr hlk (by subst e3_r e3_s e7_r e7_s e11_r e11_s e17; unfold qWr; rw [if_pos c8, if_pos c12, if_pos c13, if_neg c18]; try rfl) d_R_write_93
        · refine lv_aload_n hx hb d_R_write_86 rfl (lv_at hl 1 rfl) ?_
          refine mr_get F w (kin in_R) 0 (by decide) rfl rfl 16 (by decide) (kws_in m_544) (fun _ h => h) rfl d_R_write_87 ?_
          refine lv_iload_n hx hb d_R_write_90 rfl (lv_at hl 2 rfl) ?_
          refine lv_iconst (v := -1) hx hb d_R_write_91 (by decide) ?_
          refine mr_isN F w 11 0 (by decide) (fun _ => rfl) rfl f (by omega) (by decide) rfl d_R_write_92 (fun H locs w => ?_)
          exact mr_vret F w hr hlk (by subst e3_r e3_s e7_r e7_s e11_r e11_s e17; unfold qWr; rw [if_pos c8, if_pos c12, if_pos c13, if_pos c18]; try rfl) d_R_write_93
    · refine lv_aload_n hx hb d_R_write_52 rfl (lv_at hl 1 rfl) ?_
      refine lv_aload_n hx hb d_R_write_53 rfl (lv_at hl 1 rfl) ?_
      refine mr_get F w (kin in_R) 0 (by decide) rfl rfl 13 (by decide) (kws_in m_541) (fun _ h => h) rfl d_R_write_54 ?_
      refine lv_iload_n hx hb d_R_write_57 rfl (lv_at hl 2 rfl) ?_
      refine mr_iaN F w 8 0 (by decide) rfl rfl f (by omega) (by decide) rfl d_R_write_58 ?_
      refine mr_put F w (kin in_R) t_R t_R_ok n_R 0 (by decide) rfl rfl 3 (by decide) (kws_in m_531) (fun _ h => h) rfl rfl rfl (Nat.le_of_ble_eq_true rfl) rfl d_R_write_59 (fun H locs w => ?_)
      refine lv_aload_n hx hb d_R_write_62 rfl (lv_at hl 1 rfl) ?_
      refine mr_get F w (kin in_R) 0 (by decide) rfl rfl 21 (by decide) (kws_in m_549) (fun _ h => h) rfl d_R_write_63 ?_
      refine lv_if_ne (tgt := 79) hx hb d_R_write_66 (by decide) (fun c19 => ?_) (fun c19 => ?_)
      · refine lv_aload_n hx hb d_R_write_79 rfl (lv_at hl 1 rfl) ?_
        refine mr_get F w (kin in_R) 0 (by decide) rfl rfl 21 (by decide) (kws_in m_549) (fun _ h => h) rfl d_R_write_80 ?_
        refine lv_if_ne (tgt := 93) hx hb d_R_write_83 (by decide) (fun c20 => ?_) (fun c20 => ?_)
        · exact mr_vret F w hr hlk (by subst e3_r e3_s e7_r e7_s e11_r e11_s; unfold qWr; rw [if_pos c8, if_neg c12, if_neg c19, if_neg c20]; try rfl) d_R_write_93
        · refine lv_aload_n hx hb d_R_write_86 rfl (lv_at hl 1 rfl) ?_
          refine mr_get F w (kin in_R) 0 (by decide) rfl rfl 16 (by decide) (kws_in m_544) (fun _ h => h) rfl d_R_write_87 ?_
          refine lv_iload_n hx hb d_R_write_90 rfl (lv_at hl 2 rfl) ?_
          refine lv_iconst (v := -1) hx hb d_R_write_91 (by decide) ?_
          refine mr_isN F w 11 0 (by decide) (fun _ => rfl) rfl f (by omega) (by decide) rfl d_R_write_92 (fun H locs w => ?_)
          exact mr_vret F w hr hlk (by subst e3_r e3_s e7_r e7_s e11_r e11_s; unfold qWr; rw [if_pos c8, if_neg c12, if_neg c19, if_pos c20]; try rfl) d_R_write_93
      · refine lv_aload_n hx hb d_R_write_69 rfl (lv_at hl 1 rfl) ?_
        refine lv_aload_n hx hb d_R_write_70 rfl (lv_at hl 1 rfl) ?_
        refine mr_get F w (kin in_R) 0 (by decide) rfl rfl 13 (by decide) (kws_in m_541) (fun _ h => h) rfl d_R_write_71 ?_
        refine lv_iload_n hx hb d_R_write_74 rfl (lv_at hl 2 rfl) ?_
        refine mr_iaN F w 8 0 (by decide) rfl rfl f (by omega) (by decide) rfl d_R_write_75 ?_
        refine nr_as (k := (σ 8 f).toNatClampNeg) (by subst e3_r e3_s e7_r e7_s e11_r e11_s; have h9 := (okk_tr (okk_tr (okk_tr (okk_tr (okk_rf σ) (okk_FT _ _)) (okk_CW _)) (okk_CW _)) (okk_m0 _ _ (by decide))) c19; rw [h9.2 8 (by decide)]; exact hp.2) ?_
        refine mr_callVv (As := [.int (nI ((σ 8 f).toNatClampNeg))]) F w hl.1 (c_R_writeOwn (mup σ10 0 3 (σ10 8 f)) ((σ 8 f).toNatClampNeg) hp.1) (cwV 1 hts g_R_write_76 rfl rfl rfl (by decide +kernel) ⟨Nat.le_of_ble_eq_true rfl, Nat.le_of_ble_eq_true rfl⟩) rfl (by decide) rfl rfl rfl (Nat.le_of_ble_eq_true rfl) d_R_write_76 ⟨Nat.zero_le _, Nat.zero_le _⟩ (fun σ22 H locs e23 w => ?_)
        replace e23 := Eq.symm e23
        refine lv_aload_n hx hb d_R_write_79 rfl (lv_at hl 1 rfl) ?_
        refine mr_get F w (kin in_R) 0 (by decide) rfl rfl 21 (by decide) (kws_in m_549) (fun _ h => h) rfl d_R_write_80 ?_
        refine lv_if_ne (tgt := 93) hx hb d_R_write_83 (by decide) (fun c24 => ?_) (fun c24 => ?_)
        · exact mr_vret F w hr hlk (by subst e3_r e3_s e7_r e7_s e11_r e11_s e23; unfold qWr; rw [if_pos c8, if_neg c12, if_pos c19, if_neg c24]; try rfl) d_R_write_93
        · refine lv_aload_n hx hb d_R_write_86 rfl (lv_at hl 1 rfl) ?_
          refine mr_get F w (kin in_R) 0 (by decide) rfl rfl 16 (by decide) (kws_in m_544) (fun _ h => h) rfl d_R_write_87 ?_
          refine lv_iload_n hx hb d_R_write_90 rfl (lv_at hl 2 rfl) ?_
          refine lv_iconst (v := -1) hx hb d_R_write_91 (by decide) ?_
          refine mr_isN F w 11 0 (by decide) (fun _ => rfl) rfl f (by omega) (by decide) rfl d_R_write_92 (fun H locs w => ?_)
          exact mr_vret F w hr hlk (by subst e3_r e3_s e7_r e7_s e11_r e11_s e23; unfold qWr; rw [if_pos c8, if_neg c12, if_pos c19, if_pos c24]; try rfl) d_R_write_93
  · refine lv_aload_n hx hb d_R_write_33 rfl (lv_at hl 1 rfl) ?_
    refine lv_iload_n hx hb d_R_write_34 rfl (lv_at hl 2 rfl) ?_
    refine lv_iload_n hx hb d_R_write_35 rfl (lv_at hl 0 rfl) ?_
    refine mr_callVv (As := [.int (nI f), .int (nI 0)]) F w hl.1 (c_R_toSpare σ6 f 0 hf (by decide)) (cwV 2 hts g_R_write_36 rfl rfl rfl (by decide +kernel) ⟨Nat.le_of_ble_eq_true rfl, Nat.le_of_ble_eq_true rfl⟩) rfl (by decide) rfl rfl rfl (Nat.le_of_ble_eq_true rfl) d_R_write_36 ⟨Nat.zero_le _, Nat.zero_le _⟩ (fun σ26 H locs e27 w => ?_)
    replace e27 := Eq.symm e27
    refine lv_iinc (v := nI 1) (lv' := [(2, .int (nI 1)), (0, .ref (ad 0)), (1, .int (nI f))]) hx hb d_R_write_39 hl (k := 0) rfl (nI_add _ 1) (by decide) rfl (fun ls hl => ?_)
    refine lv_goto (tgt := 21) hx hb d_R_write_42 (by decide) ?_
    refine lv_iload_n hx hb d_R_write_21 rfl (lv_at hl 0 rfl) ?_
    refine lv_iconst (v := nI 2) hx hb d_R_write_22 (by decide) ?_
    refine nr_icmp_ge (tgt := 45) hx hb d_R_write_23 (by decide) (by omega) (by omega) (fun c28 => absurd c28 (by omega)) (fun _ => ?_)
    refine lv_aload_n hx hb d_R_write_26 rfl (lv_at hl 1 rfl) ?_
    refine mr_callVi (As := []) F w hl.1 (c_R_canWrite σ26) (cwV 0 hts g_R_write_27 rfl rfl rfl (by decide +kernel) ⟨Nat.le_of_ble_eq_true rfl, Nat.le_of_ble_eq_true rfl⟩) rfl (by decide) rfl rfl rfl (Nat.le_of_ble_eq_true rfl) d_R_write_27 ⟨Nat.zero_le _, Nat.zero_le _⟩ (fun r29 σ30 H locs e31 w => ?_)
    have e31_r := e31.1.symm
    have e31_s := e31.2.symm
    clear e31
    refine lv_if_eq (tgt := 45) hx hb d_R_write_30 (by decide) (fun c32 => ?_) (fun c32 => ?_)
    · refine lv_aload_n hx hb d_R_write_45 rfl (lv_at hl 1 rfl) ?_
      refine mr_callVi (As := []) F w hl.1 (c_R_canWrite σ30) (cwV 0 hts g_R_write_46 rfl rfl rfl (by decide +kernel) ⟨Nat.le_of_ble_eq_true rfl, Nat.le_of_ble_eq_true rfl⟩) rfl (by decide) rfl rfl rfl (Nat.le_of_ble_eq_true rfl) d_R_write_46 ⟨Nat.zero_le _, Nat.zero_le _⟩ (fun r33 σ34 H locs e35 w => ?_)
      have e35_r := e35.1.symm
      have e35_s := e35.2.symm
      clear e35
      refine lv_if_eq (tgt := 62) hx hb d_R_write_49 (by decide) (fun c36 => ?_) (fun c36 => ?_)
      · refine lv_aload_n hx hb d_R_write_62 rfl (lv_at hl 1 rfl) ?_
        refine mr_get F w (kin in_R) 0 (by decide) rfl rfl 21 (by decide) (kws_in m_549) (fun _ h => h) rfl d_R_write_63 ?_
        refine lv_if_ne (tgt := 79) hx hb d_R_write_66 (by decide) (fun c37 => ?_) (fun c37 => ?_)
        · refine lv_aload_n hx hb d_R_write_79 rfl (lv_at hl 1 rfl) ?_
          refine mr_get F w (kin in_R) 0 (by decide) rfl rfl 21 (by decide) (kws_in m_549) (fun _ h => h) rfl d_R_write_80 ?_
          refine lv_if_ne (tgt := 93) hx hb d_R_write_83 (by decide) (fun c38 => ?_) (fun c38 => ?_)
          · exact mr_vret F w hr hlk (by subst e3_r e3_s e7_r e7_s e27 e31_r e31_s e35_r e35_s; unfold qWr; rw [if_neg c8, if_pos c32, if_pos c36, if_neg c37, if_neg c38]; try rfl) d_R_write_93
          · refine lv_aload_n hx hb d_R_write_86 rfl (lv_at hl 1 rfl) ?_
            refine mr_get F w (kin in_R) 0 (by decide) rfl rfl 16 (by decide) (kws_in m_544) (fun _ h => h) rfl d_R_write_87 ?_
            refine lv_iload_n hx hb d_R_write_90 rfl (lv_at hl 2 rfl) ?_
            refine lv_iconst (v := -1) hx hb d_R_write_91 (by decide) ?_
            refine mr_isN F w 11 0 (by decide) (fun _ => rfl) rfl f (by omega) (by decide) rfl d_R_write_92 (fun H locs w => ?_)
            exact mr_vret F w hr hlk (by subst e3_r e3_s e7_r e7_s e27 e31_r e31_s e35_r e35_s; unfold qWr; rw [if_neg c8, if_pos c32, if_pos c36, if_neg c37, if_pos c38]; try rfl) d_R_write_93
        · refine lv_aload_n hx hb d_R_write_69 rfl (lv_at hl 1 rfl) ?_
          refine lv_aload_n hx hb d_R_write_70 rfl (lv_at hl 1 rfl) ?_
          refine mr_get F w (kin in_R) 0 (by decide) rfl rfl 13 (by decide) (kws_in m_541) (fun _ h => h) rfl d_R_write_71 ?_
          refine lv_iload_n hx hb d_R_write_74 rfl (lv_at hl 2 rfl) ?_
          refine mr_iaN F w 8 0 (by decide) rfl rfl f (by omega) (by decide) rfl d_R_write_75 ?_
          refine nr_as (k := (σ 8 f).toNatClampNeg) (by subst e3_r e3_s e7_r e7_s e27 e31_r e31_s e35_r e35_s; have h9 := (okk_tr (okk_tr (okk_tr (okk_tr (okk_tr (okk_rf σ) (okk_FT _ _)) (okk_CW _)) (okk_TS _ _ _ _)) (okk_CW _)) (okk_CW _)) c37; rw [h9.2 8 (by decide)]; exact hp.2) ?_
          refine mr_callVv (As := [.int (nI ((σ 8 f).toNatClampNeg))]) F w hl.1 (c_R_writeOwn σ34 ((σ 8 f).toNatClampNeg) hp.1) (cwV 1 hts g_R_write_76 rfl rfl rfl (by decide +kernel) ⟨Nat.le_of_ble_eq_true rfl, Nat.le_of_ble_eq_true rfl⟩) rfl (by decide) rfl rfl rfl (Nat.le_of_ble_eq_true rfl) d_R_write_76 ⟨Nat.zero_le _, Nat.zero_le _⟩ (fun σ40 H locs e41 w => ?_)
          replace e41 := Eq.symm e41
          refine lv_aload_n hx hb d_R_write_79 rfl (lv_at hl 1 rfl) ?_
          refine mr_get F w (kin in_R) 0 (by decide) rfl rfl 21 (by decide) (kws_in m_549) (fun _ h => h) rfl d_R_write_80 ?_
          refine lv_if_ne (tgt := 93) hx hb d_R_write_83 (by decide) (fun c42 => ?_) (fun c42 => ?_)
          · exact mr_vret F w hr hlk (by subst e3_r e3_s e7_r e7_s e27 e31_r e31_s e35_r e35_s e41; unfold qWr; rw [if_neg c8, if_pos c32, if_pos c36, if_pos c37, if_neg c42]; try rfl) d_R_write_93
          · refine lv_aload_n hx hb d_R_write_86 rfl (lv_at hl 1 rfl) ?_
            refine mr_get F w (kin in_R) 0 (by decide) rfl rfl 16 (by decide) (kws_in m_544) (fun _ h => h) rfl d_R_write_87 ?_
            refine lv_iload_n hx hb d_R_write_90 rfl (lv_at hl 2 rfl) ?_
            refine lv_iconst (v := -1) hx hb d_R_write_91 (by decide) ?_
            refine mr_isN F w 11 0 (by decide) (fun _ => rfl) rfl f (by omega) (by decide) rfl d_R_write_92 (fun H locs w => ?_)
            exact mr_vret F w hr hlk (by subst e3_r e3_s e7_r e7_s e27 e31_r e31_s e35_r e35_s e41; unfold qWr; rw [if_neg c8, if_pos c32, if_pos c36, if_pos c37, if_pos c42]; try rfl) d_R_write_93
      · refine lv_aload_n hx hb d_R_write_52 rfl (lv_at hl 1 rfl) ?_
        refine lv_aload_n hx hb d_R_write_53 rfl (lv_at hl 1 rfl) ?_
        refine mr_get F w (kin in_R) 0 (by decide) rfl rfl 13 (by decide) (kws_in m_541) (fun _ h => h) rfl d_R_write_54 ?_
        refine lv_iload_n hx hb d_R_write_57 rfl (lv_at hl 2 rfl) ?_
        refine mr_iaN F w 8 0 (by decide) rfl rfl f (by omega) (by decide) rfl d_R_write_58 ?_
        refine mr_put F w (kin in_R) t_R t_R_ok n_R 0 (by decide) rfl rfl 3 (by decide) (kws_in m_531) (fun _ h => h) rfl rfl rfl (Nat.le_of_ble_eq_true rfl) rfl d_R_write_59 (fun H locs w => ?_)
        refine lv_aload_n hx hb d_R_write_62 rfl (lv_at hl 1 rfl) ?_
        refine mr_get F w (kin in_R) 0 (by decide) rfl rfl 21 (by decide) (kws_in m_549) (fun _ h => h) rfl d_R_write_63 ?_
        refine lv_if_ne (tgt := 79) hx hb d_R_write_66 (by decide) (fun c43 => ?_) (fun c43 => ?_)
        · refine lv_aload_n hx hb d_R_write_79 rfl (lv_at hl 1 rfl) ?_
          refine mr_get F w (kin in_R) 0 (by decide) rfl rfl 21 (by decide) (kws_in m_549) (fun _ h => h) rfl d_R_write_80 ?_
          refine lv_if_ne (tgt := 93) hx hb d_R_write_83 (by decide) (fun c44 => ?_) (fun c44 => ?_)
          · exact mr_vret F w hr hlk (by subst e3_r e3_s e7_r e7_s e27 e31_r e31_s e35_r e35_s; unfold qWr; rw [if_neg c8, if_pos c32, if_neg c36, if_neg c43, if_neg c44]; try rfl) d_R_write_93
          · refine lv_aload_n hx hb d_R_write_86 rfl (lv_at hl 1 rfl) ?_
            refine mr_get F w (kin in_R) 0 (by decide) rfl rfl 16 (by decide) (kws_in m_544) (fun _ h => h) rfl d_R_write_87 ?_
            refine lv_iload_n hx hb d_R_write_90 rfl (lv_at hl 2 rfl) ?_
            refine lv_iconst (v := -1) hx hb d_R_write_91 (by decide) ?_
            refine mr_isN F w 11 0 (by decide) (fun _ => rfl) rfl f (by omega) (by decide) rfl d_R_write_92 (fun H locs w => ?_)
            exact mr_vret F w hr hlk (by subst e3_r e3_s e7_r e7_s e27 e31_r e31_s e35_r e35_s; unfold qWr; rw [if_neg c8, if_pos c32, if_neg c36, if_neg c43, if_pos c44]; try rfl) d_R_write_93
        · refine lv_aload_n hx hb d_R_write_69 rfl (lv_at hl 1 rfl) ?_
          refine lv_aload_n hx hb d_R_write_70 rfl (lv_at hl 1 rfl) ?_
          refine mr_get F w (kin in_R) 0 (by decide) rfl rfl 13 (by decide) (kws_in m_541) (fun _ h => h) rfl d_R_write_71 ?_
          refine lv_iload_n hx hb d_R_write_74 rfl (lv_at hl 2 rfl) ?_
          refine mr_iaN F w 8 0 (by decide) rfl rfl f (by omega) (by decide) rfl d_R_write_75 ?_
          refine nr_as (k := (σ 8 f).toNatClampNeg) (by subst e3_r e3_s e7_r e7_s e27 e31_r e31_s e35_r e35_s; have h9 := (okk_tr (okk_tr (okk_tr (okk_tr (okk_tr (okk_tr (okk_rf σ) (okk_FT _ _)) (okk_CW _)) (okk_TS _ _ _ _)) (okk_CW _)) (okk_CW _)) (okk_m0 _ _ (by decide))) c43; rw [h9.2 8 (by decide)]; exact hp.2) ?_
          refine mr_callVv (As := [.int (nI ((σ 8 f).toNatClampNeg))]) F w hl.1 (c_R_writeOwn (mup σ34 0 3 (σ34 8 f)) ((σ 8 f).toNatClampNeg) hp.1) (cwV 1 hts g_R_write_76 rfl rfl rfl (by decide +kernel) ⟨Nat.le_of_ble_eq_true rfl, Nat.le_of_ble_eq_true rfl⟩) rfl (by decide) rfl rfl rfl (Nat.le_of_ble_eq_true rfl) d_R_write_76 ⟨Nat.zero_le _, Nat.zero_le _⟩ (fun σ46 H locs e47 w => ?_)
          replace e47 := Eq.symm e47
          refine lv_aload_n hx hb d_R_write_79 rfl (lv_at hl 1 rfl) ?_
          refine mr_get F w (kin in_R) 0 (by decide) rfl rfl 21 (by decide) (kws_in m_549) (fun _ h => h) rfl d_R_write_80 ?_
          refine lv_if_ne (tgt := 93) hx hb d_R_write_83 (by decide) (fun c48 => ?_) (fun c48 => ?_)
          · exact mr_vret F w hr hlk (by subst e3_r e3_s e7_r e7_s e27 e31_r e31_s e35_r e35_s e47; unfold qWr; rw [if_neg c8, if_pos c32, if_neg c36, if_pos c43, if_neg c48]; try rfl) d_R_write_93
          · refine lv_aload_n hx hb d_R_write_86 rfl (lv_at hl 1 rfl) ?_
            refine mr_get F w (kin in_R) 0 (by decide) rfl rfl 16 (by decide) (kws_in m_544) (fun _ h => h) rfl d_R_write_87 ?_
            refine lv_iload_n hx hb d_R_write_90 rfl (lv_at hl 2 rfl) ?_
            refine lv_iconst (v := -1) hx hb d_R_write_91 (by decide) ?_
            refine mr_isN F w 11 0 (by decide) (fun _ => rfl) rfl f (by omega) (by decide) rfl d_R_write_92 (fun H locs w => ?_)
            exact mr_vret F w hr hlk (by subst e3_r e3_s e7_r e7_s e27 e31_r e31_s e35_r e35_s e47; unfold qWr; rw [if_neg c8, if_pos c32, if_neg c36, if_pos c43, if_pos c48]; try rfl) d_R_write_93
    · refine lv_aload_n hx hb d_R_write_33 rfl (lv_at hl 1 rfl) ?_
      refine lv_iload_n hx hb d_R_write_34 rfl (lv_at hl 2 rfl) ?_
      refine lv_iload_n hx hb d_R_write_35 rfl (lv_at hl 0 rfl) ?_
      refine mr_callVv (As := [.int (nI f), .int (nI 1)]) F w hl.1 (c_R_toSpare σ30 f 1 hf (by decide)) (cwV 2 hts g_R_write_36 rfl rfl rfl (by decide +kernel) ⟨Nat.le_of_ble_eq_true rfl, Nat.le_of_ble_eq_true rfl⟩) rfl (by decide) rfl rfl rfl (Nat.le_of_ble_eq_true rfl) d_R_write_36 ⟨Nat.zero_le _, Nat.zero_le _⟩ (fun σ50 H locs e51 w => ?_)
      replace e51 := Eq.symm e51
      refine lv_iinc (v := nI 2) (lv' := [(2, .int (nI 2)), (0, .ref (ad 0)), (1, .int (nI f))]) hx hb d_R_write_39 hl (k := 0) rfl (nI_add _ 1) (by decide) rfl (fun ls hl => ?_)
      refine lv_goto (tgt := 21) hx hb d_R_write_42 (by decide) ?_
      refine lv_iload_n hx hb d_R_write_21 rfl (lv_at hl 0 rfl) ?_
      refine lv_iconst (v := nI 2) hx hb d_R_write_22 (by decide) ?_
      refine nr_icmp_ge (tgt := 45) hx hb d_R_write_23 (by decide) (by omega) (by omega) (fun _ => ?_) (fun c52 => absurd c52 (by omega))
      refine lv_aload_n hx hb d_R_write_45 rfl (lv_at hl 1 rfl) ?_
      refine mr_callVi (As := []) F w hl.1 (c_R_canWrite σ50) (cwV 0 hts g_R_write_46 rfl rfl rfl (by decide +kernel) ⟨Nat.le_of_ble_eq_true rfl, Nat.le_of_ble_eq_true rfl⟩) rfl (by decide) rfl rfl rfl (Nat.le_of_ble_eq_true rfl) d_R_write_46 ⟨Nat.zero_le _, Nat.zero_le _⟩ (fun r53 σ54 H locs e55 w => ?_)
      have e55_r := e55.1.symm
      have e55_s := e55.2.symm
      clear e55
      refine lv_if_eq (tgt := 62) hx hb d_R_write_49 (by decide) (fun c56 => ?_) (fun c56 => ?_)
      · refine lv_aload_n hx hb d_R_write_62 rfl (lv_at hl 1 rfl) ?_
        refine mr_get F w (kin in_R) 0 (by decide) rfl rfl 21 (by decide) (kws_in m_549) (fun _ h => h) rfl d_R_write_63 ?_
        refine lv_if_ne (tgt := 79) hx hb d_R_write_66 (by decide) (fun c57 => ?_) (fun c57 => ?_)
        · refine lv_aload_n hx hb d_R_write_79 rfl (lv_at hl 1 rfl) ?_
          refine mr_get F w (kin in_R) 0 (by decide) rfl rfl 21 (by decide) (kws_in m_549) (fun _ h => h) rfl d_R_write_80 ?_
          refine lv_if_ne (tgt := 93) hx hb d_R_write_83 (by decide) (fun c58 => ?_) (fun c58 => ?_)
          · exact mr_vret F w hr hlk (by subst e3_r e3_s e7_r e7_s e27 e31_r e31_s e51 e55_r e55_s; unfold qWr; rw [if_neg c8, if_neg c32, if_pos c56, if_neg c57, if_neg c58]; try rfl) d_R_write_93
          · refine lv_aload_n hx hb d_R_write_86 rfl (lv_at hl 1 rfl) ?_
            refine mr_get F w (kin in_R) 0 (by decide) rfl rfl 16 (by decide) (kws_in m_544) (fun _ h => h) rfl d_R_write_87 ?_
            refine lv_iload_n hx hb d_R_write_90 rfl (lv_at hl 2 rfl) ?_
            refine lv_iconst (v := -1) hx hb d_R_write_91 (by decide) ?_
            refine mr_isN F w 11 0 (by decide) (fun _ => rfl) rfl f (by omega) (by decide) rfl d_R_write_92 (fun H locs w => ?_)
            exact mr_vret F w hr hlk (by subst e3_r e3_s e7_r e7_s e27 e31_r e31_s e51 e55_r e55_s; unfold qWr; rw [if_neg c8, if_neg c32, if_pos c56, if_neg c57, if_pos c58]; try rfl) d_R_write_93
        · refine lv_aload_n hx hb d_R_write_69 rfl (lv_at hl 1 rfl) ?_
          refine lv_aload_n hx hb d_R_write_70 rfl (lv_at hl 1 rfl) ?_
          refine mr_get F w (kin in_R) 0 (by decide) rfl rfl 13 (by decide) (kws_in m_541) (fun _ h => h) rfl d_R_write_71 ?_
          refine lv_iload_n hx hb d_R_write_74 rfl (lv_at hl 2 rfl) ?_
          refine mr_iaN F w 8 0 (by decide) rfl rfl f (by omega) (by decide) rfl d_R_write_75 ?_
          refine nr_as (k := (σ 8 f).toNatClampNeg) (by subst e3_r e3_s e7_r e7_s e27 e31_r e31_s e51 e55_r e55_s; have h9 := (okk_tr (okk_tr (okk_tr (okk_tr (okk_tr (okk_tr (okk_rf σ) (okk_FT _ _)) (okk_CW _)) (okk_TS _ _ _ _)) (okk_CW _)) (okk_TS _ _ _ _)) (okk_CW _)) c57; rw [h9.2 8 (by decide)]; exact hp.2) ?_
          refine mr_callVv (As := [.int (nI ((σ 8 f).toNatClampNeg))]) F w hl.1 (c_R_writeOwn σ54 ((σ 8 f).toNatClampNeg) hp.1) (cwV 1 hts g_R_write_76 rfl rfl rfl (by decide +kernel) ⟨Nat.le_of_ble_eq_true rfl, Nat.le_of_ble_eq_true rfl⟩) rfl (by decide) rfl rfl rfl (Nat.le_of_ble_eq_true rfl) d_R_write_76 ⟨Nat.zero_le _, Nat.zero_le _⟩ (fun σ60 H locs e61 w => ?_)
          replace e61 := Eq.symm e61
          refine lv_aload_n hx hb d_R_write_79 rfl (lv_at hl 1 rfl) ?_
          refine mr_get F w (kin in_R) 0 (by decide) rfl rfl 21 (by decide) (kws_in m_549) (fun _ h => h) rfl d_R_write_80 ?_
          refine lv_if_ne (tgt := 93) hx hb d_R_write_83 (by decide) (fun c62 => ?_) (fun c62 => ?_)
          · exact mr_vret F w hr hlk (by subst e3_r e3_s e7_r e7_s e27 e31_r e31_s e51 e55_r e55_s e61; unfold qWr; rw [if_neg c8, if_neg c32, if_pos c56, if_pos c57, if_neg c62]; try rfl) d_R_write_93
          · refine lv_aload_n hx hb d_R_write_86 rfl (lv_at hl 1 rfl) ?_
            refine mr_get F w (kin in_R) 0 (by decide) rfl rfl 16 (by decide) (kws_in m_544) (fun _ h => h) rfl d_R_write_87 ?_
            refine lv_iload_n hx hb d_R_write_90 rfl (lv_at hl 2 rfl) ?_
            refine lv_iconst (v := -1) hx hb d_R_write_91 (by decide) ?_
            refine mr_isN F w 11 0 (by decide) (fun _ => rfl) rfl f (by omega) (by decide) rfl d_R_write_92 (fun H locs w => ?_)
            exact mr_vret F w hr hlk (by subst e3_r e3_s e7_r e7_s e27 e31_r e31_s e51 e55_r e55_s e61; unfold qWr; rw [if_neg c8, if_neg c32, if_pos c56, if_pos c57, if_pos c62]; try rfl) d_R_write_93
      · refine lv_aload_n hx hb d_R_write_52 rfl (lv_at hl 1 rfl) ?_
        refine lv_aload_n hx hb d_R_write_53 rfl (lv_at hl 1 rfl) ?_
        refine mr_get F w (kin in_R) 0 (by decide) rfl rfl 13 (by decide) (kws_in m_541) (fun _ h => h) rfl d_R_write_54 ?_
        refine lv_iload_n hx hb d_R_write_57 rfl (lv_at hl 2 rfl) ?_
        refine mr_iaN F w 8 0 (by decide) rfl rfl f (by omega) (by decide) rfl d_R_write_58 ?_
        refine mr_put F w (kin in_R) t_R t_R_ok n_R 0 (by decide) rfl rfl 3 (by decide) (kws_in m_531) (fun _ h => h) rfl rfl rfl (Nat.le_of_ble_eq_true rfl) rfl d_R_write_59 (fun H locs w => ?_)
        refine lv_aload_n hx hb d_R_write_62 rfl (lv_at hl 1 rfl) ?_
        refine mr_get F w (kin in_R) 0 (by decide) rfl rfl 21 (by decide) (kws_in m_549) (fun _ h => h) rfl d_R_write_63 ?_
        refine lv_if_ne (tgt := 79) hx hb d_R_write_66 (by decide) (fun c63 => ?_) (fun c63 => ?_)
        · refine lv_aload_n hx hb d_R_write_79 rfl (lv_at hl 1 rfl) ?_
          refine mr_get F w (kin in_R) 0 (by decide) rfl rfl 21 (by decide) (kws_in m_549) (fun _ h => h) rfl d_R_write_80 ?_
          refine lv_if_ne (tgt := 93) hx hb d_R_write_83 (by decide) (fun c64 => ?_) (fun c64 => ?_)
          · exact mr_vret F w hr hlk (by subst e3_r e3_s e7_r e7_s e27 e31_r e31_s e51 e55_r e55_s; unfold qWr; rw [if_neg c8, if_neg c32, if_neg c56, if_neg c63, if_neg c64]; try rfl) d_R_write_93
          · refine lv_aload_n hx hb d_R_write_86 rfl (lv_at hl 1 rfl) ?_
            refine mr_get F w (kin in_R) 0 (by decide) rfl rfl 16 (by decide) (kws_in m_544) (fun _ h => h) rfl d_R_write_87 ?_
            refine lv_iload_n hx hb d_R_write_90 rfl (lv_at hl 2 rfl) ?_
            refine lv_iconst (v := -1) hx hb d_R_write_91 (by decide) ?_
            refine mr_isN F w 11 0 (by decide) (fun _ => rfl) rfl f (by omega) (by decide) rfl d_R_write_92 (fun H locs w => ?_)
            exact mr_vret F w hr hlk (by subst e3_r e3_s e7_r e7_s e27 e31_r e31_s e51 e55_r e55_s; unfold qWr; rw [if_neg c8, if_neg c32, if_neg c56, if_neg c63, if_pos c64]; try rfl) d_R_write_93
        · refine lv_aload_n hx hb d_R_write_69 rfl (lv_at hl 1 rfl) ?_
          refine lv_aload_n hx hb d_R_write_70 rfl (lv_at hl 1 rfl) ?_
          refine mr_get F w (kin in_R) 0 (by decide) rfl rfl 13 (by decide) (kws_in m_541) (fun _ h => h) rfl d_R_write_71 ?_
          refine lv_iload_n hx hb d_R_write_74 rfl (lv_at hl 2 rfl) ?_
          refine mr_iaN F w 8 0 (by decide) rfl rfl f (by omega) (by decide) rfl d_R_write_75 ?_
          refine nr_as (k := (σ 8 f).toNatClampNeg) (by subst e3_r e3_s e7_r e7_s e27 e31_r e31_s e51 e55_r e55_s; have h9 := (okk_tr (okk_tr (okk_tr (okk_tr (okk_tr (okk_tr (okk_tr (okk_rf σ) (okk_FT _ _)) (okk_CW _)) (okk_TS _ _ _ _)) (okk_CW _)) (okk_TS _ _ _ _)) (okk_CW _)) (okk_m0 _ _ (by decide))) c63; rw [h9.2 8 (by decide)]; exact hp.2) ?_
          refine mr_callVv (As := [.int (nI ((σ 8 f).toNatClampNeg))]) F w hl.1 (c_R_writeOwn (mup σ54 0 3 (σ54 8 f)) ((σ 8 f).toNatClampNeg) hp.1) (cwV 1 hts g_R_write_76 rfl rfl rfl (by decide +kernel) ⟨Nat.le_of_ble_eq_true rfl, Nat.le_of_ble_eq_true rfl⟩) rfl (by decide) rfl rfl rfl (Nat.le_of_ble_eq_true rfl) d_R_write_76 ⟨Nat.zero_le _, Nat.zero_le _⟩ (fun σ66 H locs e67 w => ?_)
          replace e67 := Eq.symm e67
          refine lv_aload_n hx hb d_R_write_79 rfl (lv_at hl 1 rfl) ?_
          refine mr_get F w (kin in_R) 0 (by decide) rfl rfl 21 (by decide) (kws_in m_549) (fun _ h => h) rfl d_R_write_80 ?_
          refine lv_if_ne (tgt := 93) hx hb d_R_write_83 (by decide) (fun c68 => ?_) (fun c68 => ?_)
          · exact mr_vret F w hr hlk (by subst e3_r e3_s e7_r e7_s e27 e31_r e31_s e51 e55_r e55_s e67; unfold qWr; rw [if_neg c8, if_neg c32, if_neg c56, if_pos c63, if_neg c68]; try rfl) d_R_write_93
          · refine lv_aload_n hx hb d_R_write_86 rfl (lv_at hl 1 rfl) ?_
            refine mr_get F w (kin in_R) 0 (by decide) rfl rfl 16 (by decide) (kws_in m_544) (fun _ h => h) rfl d_R_write_87 ?_
            refine lv_iload_n hx hb d_R_write_90 rfl (lv_at hl 2 rfl) ?_
            refine lv_iconst (v := -1) hx hb d_R_write_91 (by decide) ?_
            refine mr_isN F w 11 0 (by decide) (fun _ => rfl) rfl f (by omega) (by decide) rfl d_R_write_92 (fun H locs w => ?_)
            exact mr_vret F w hr hlk (by subst e3_r e3_s e7_r e7_s e27 e31_r e31_s e51 e55_r e55_s e67; unfold qWr; rw [if_neg c8, if_neg c32, if_neg c56, if_pos c63, if_pos c68]; try rfl) d_R_write_93
/-- changed frames have pages -/
def rOK (σ : Mem) : Prop := ∀ g, g < 8 → ¬ σ 11 g < 0 → nat0 256 (σ 8 g)
theorem qKth_ch (σ : Mem) (x : Int32) : ∀ (n f : Nat) (k : Int32), f + n ≤ 8 → ∀ g, g < 8 → qKth σ x n f k = nI g → k = nI g ∨ ¬ σ 11 g < 0
  | 0, _, _, _, _, _, h => Or.inl h
  | n + 1, f, k, hn, g, hg, h => by
    unfold qKth at h
    split at h
    · exact qKth_ch σ x n (f + 1) k (by omega) g hg h
    · split at h
      · rcases qKth_ch σ x n (f + 1) _ (by omega) g hg h with h9 | h9
        · have e : f = g := (nI_eq (by omega) (by omega)).mp h9
          rw [← e]; exact Or.inr (by assumption)
        · exact Or.inr h9
      · exact qKth_ch σ x n (f + 1) k (by omega) g hg h
theorem qKth_c (σ : Mem) (x : Int32) {g : Nat} (hg : g < 8) (h : qKth σ x 8 0 (-1) = nI g) : ¬ σ 11 g < 0 :=
  (qKth_ch σ x 8 0 (-1) (by decide) g hg h).elim (fun h9 => absurd h9.symm (nI_nm1 hg)) id
def qFlush (σ : Mem) (pg : Int32) : Int32 × Mem :=
  if (qInv pg (nI 0) (nI 255)) = 0 then (if σ 0 18 = 0 then (nI 0, mup σ 0 0 (nI 2))
    else (nI 0, mup σ 0 0 (nI 1)))
  else if σ 0 18 = 0 then (if (qFw (mup σ 0 0 (nI 0)) (nI pg.toNatClampNeg) 8 0 (-1)) = -1 then (nI 0, mup σ 0 0 (nI 0))
    else if 0 ≤ ((mup σ 0 0 (nI 0)) 11 (qFw (mup σ 0 0 (nI 0)) (nI pg.toNatClampNeg) 8 0 (-1)).toNatClampNeg) then (if ((qWr (mup (mup σ 0 0 (nI 0)) 0 21 (nI 0)) (qFw (mup σ 0 0 (nI 0)) (nI pg.toNatClampNeg) 8 0 (-1)).toNatClampNeg) 0 21) = 0 then (nI 1, (qWr (mup (mup σ 0 0 (nI 0)) 0 21 (nI 0)) (qFw (mup σ 0 0 (nI 0)) (nI pg.toNatClampNeg) 8 0 (-1)).toNatClampNeg))
      else ((-1), (qWr (mup (mup σ 0 0 (nI 0)) 0 21 (nI 0)) (qFw (mup σ 0 0 (nI 0)) (nI pg.toNatClampNeg) 8 0 (-1)).toNatClampNeg)))
    else (nI 0, mup σ 0 0 (nI 0)))
  else (nI 0, mup σ 0 0 (nI 1))
set_option maxHeartbeats 4000000 in
set_option maxRecDepth 100000 in
theorem c_R_flush (σ : Mem) (pg : Int32) (hok : rOK σ) : KIR l D cI cF cZ cJ ad y_R_flush b_R_flush 3 (some .int) 5 135 [.ref (ad 0), .int pg] σ (fun r σ' => r = (qFlush σ pg).1 ∧ σ' = (qFlush σ pg).2) := by
  refine KI.of (by decide) (Nat.le_of_ble_eq_true rfl) ?_
  intro p e s m args below meth c A ls F w hl hr hlk
  obtain ⟨hx, hb, hml, hown, hts⟩ := id F
  have hl : lv_has ls 3 [(0, .ref (ad 0)), (1, .int pg)] := hl
  refine lv_aload_n hx hb d_R_flush_0 rfl (lv_at hl 0 rfl) ?_
  refine lv_aload_n hx hb d_R_flush_1 rfl (lv_at hl 0 rfl) ?_
  refine mr_get F w (kin in_R) 0 (by decide) rfl rfl 18 (by decide) (kws_in m_546) (fun _ h => h) rfl d_R_flush_2 ?_
  refine lv_iload_n hx hb d_R_flush_5 rfl (lv_at hl 1 rfl) ?_
  refine lv_iconst (v := nI 0) hx hb d_R_flush_6 (by decide) ?_
  refine lv_sipush (v := nI 255) hx hb d_R_flush_7 (by decide) ?_
  refine mr_callSi (As := [.int pg, .int (nI 0), .int (nI 255)]) F w hl.1 (c_R_in σ pg (nI 0) (nI 255)) (cwS 3 hts g_R_flush_10 rfl rfl rfl (by decide +kernel) ⟨Nat.le_of_ble_eq_true rfl, Nat.le_of_ble_eq_true rfl⟩) rfl rfl (Nat.le_of_ble_eq_true rfl) d_R_flush_10 ⟨Nat.zero_le _, Nat.zero_le _⟩ (fun r1 σ2 H locs e3 w => ?_)
  obtain ⟨rfl, hs9⟩ := e3
  rw [hs9] at w
  clear hs9
  refine lv_if_ne (tgt := 20) hx hb d_R_flush_13 (by decide) (fun c4 => ?_) (fun c4 => ?_)
  · have hb5 : pg.toNatClampNeg < 256 := (qInv_nat (by decide) (by decide) c4).1.1
    have hb6 : 0 ≤ pg.toNatClampNeg := (qInv_nat (by decide) (by decide) c4).2
    refine lv_iconst (v := nI 0) hx hb d_R_flush_20 (by decide) ?_
    refine lv_iconst (v := nI 0) hx hb d_R_flush_21 (by decide) ?_
    refine mr_callVi (As := [.int (σ 0 18), .int (nI 0), .int (nI 0)]) F w hl.1 (c_R_refused σ (σ 0 18) (nI 0) (nI 0)) (cwV 3 hts g_R_flush_22 rfl rfl rfl (by decide +kernel) ⟨Nat.le_of_ble_eq_true rfl, Nat.le_of_ble_eq_true rfl⟩) rfl (by decide) rfl rfl rfl (Nat.le_of_ble_eq_true rfl) d_R_flush_22 ⟨Nat.zero_le _, Nat.zero_le _⟩ (fun r7 σ8 H locs e9 w => ?_)
    have e9_r := e9.1.symm
    have e9_s := e9.2.symm
    clear e9
    rcases Classical.em (σ 0 18 = 0) with c10 | c10
    · rw [show σ8 = mup σ 0 0 (nI 0) from (by subst e9_r e9_s; unfold qRef; rw [if_pos c10]; try rfl)] at w
      refine nr_as (k := 0) (by subst e9_r e9_s; unfold qRef; rw [if_pos c10]; try rfl) ?_
      clear e9_r e9_s
      refine lv_if_eq (tgt := 30) hx hb d_R_flush_25 (by decide) (fun _ => ?_) (fun c11 => absurd c11 (by decide))
      refine lv_aload_n hx hb d_R_flush_30 rfl (lv_at hl 0 rfl) ?_
      refine lv_iload_n hx hb d_R_flush_31 rfl (lv_at hl 1 rfl) ?_
      refine nr_as (k := pg.toNatClampNeg) (qInv_nat (by decide) (by decide) c4).1.2 ?_
      refine mr_callVi (As := [.int (nI pg.toNatClampNeg)]) F w hl.1 (c_R_frameWith (mup σ 0 0 (nI 0)) (nI pg.toNatClampNeg)) (cwV 1 hts g_R_flush_32 rfl rfl rfl (by decide +kernel) ⟨Nat.le_of_ble_eq_true rfl, Nat.le_of_ble_eq_true rfl⟩) rfl (by decide) rfl rfl rfl (Nat.le_of_ble_eq_true rfl) d_R_flush_32 ⟨Nat.zero_le _, Nat.zero_le _⟩ (fun r12 σ13 H locs e14 w => ?_)
      have e14_r := e14.1.symm
      have hs9 := e14.2
      rw [hs9] at w
      clear hs9 e14
      rcases Classical.em (r12 = -1) with c15 | c15
      · rw [c15]
        refine lv_istore_n (lv' := [(2, .int ((-1))), (0, .ref (ad 0)), (1, .int pg)]) hx hb d_R_flush_35 rfl hl (by decide) rfl (fun ls hl => ?_)
        refine lv_iload_n hx hb d_R_flush_36 rfl (lv_at hl 0 rfl) ?_
        refine lv_if_lt (tgt := 49) hx hb d_R_flush_37 (by decide) (fun _ => ?_) (fun c17 => absurd c17 (by decide))
        refine lv_iconst (v := nI 0) hx hb d_R_flush_49 (by decide) ?_
        exact mr_iret F w hr hlk (by subst e14_r; unfold qFlush; rw [if_neg c4, if_pos c10, if_pos c15]; exact ⟨rfl, rfl⟩) d_R_flush_50
      · have hb16 : r12.toNatClampNeg < 8 := (fr8_in (by rw [← e14_r]; exact (qFw_in (mup σ 0 0 (nI 0)) (nI pg.toNatClampNeg) 8 0 (-1) (by decide) fr8_m1)) c15).1
        rw [(fr8_in (R := r12) (by rw [← e14_r]; exact (qFw_in (mup σ 0 0 (nI 0)) (nI pg.toNatClampNeg) 8 0 (-1) (by decide) fr8_m1)) c15).2]
        refine lv_istore_n (lv' := [(2, .int (nI r12.toNatClampNeg)), (0, .ref (ad 0)), (1, .int pg)]) hx hb d_R_flush_35 rfl hl (by decide) rfl (fun ls hl => ?_)
        refine lv_iload_n hx hb d_R_flush_36 rfl (lv_at hl 0 rfl) ?_
        refine lv_if_lt (tgt := 49) hx hb d_R_flush_37 (by decide) (fun c18 => absurd c18 (nI_pos (by omega))) (fun _ => ?_)
        refine lv_aload_n hx hb d_R_flush_40 rfl (lv_at hl 1 rfl) ?_
        refine mr_get F w (kin in_R) 0 (by decide) rfl rfl 16 (by decide) (kws_in m_544) (fun _ h => h) rfl d_R_flush_41 ?_
        refine lv_iload_n hx hb d_R_flush_44 rfl (lv_at hl 0 rfl) ?_
        refine mr_iaN F w 11 0 (by decide) rfl rfl r12.toNatClampNeg (by omega) (by decide) rfl d_R_flush_45 ?_
        refine lv_if_ge (tgt := 51) hx hb d_R_flush_46 (by decide) (fun c19 => ?_) (fun c19 => ?_)
        · refine lv_aload_n hx hb d_R_flush_51 rfl (lv_at hl 1 rfl) ?_
          refine lv_iconst (v := nI 0) hx hb d_R_flush_52 (by decide) ?_
          refine mr_put F w (kin in_R) t_R t_R_ok n_R 0 (by decide) rfl rfl 21 (by decide) (kws_in m_549) (fun _ h => h) rfl rfl rfl (Nat.le_of_ble_eq_true rfl) rfl d_R_flush_53 (fun H locs w => ?_)
          refine lv_aload_n hx hb d_R_flush_56 rfl (lv_at hl 1 rfl) ?_
          refine lv_iload_n hx hb d_R_flush_57 rfl (lv_at hl 0 rfl) ?_
          refine mr_callVv (As := [.int (nI r12.toNatClampNeg)]) F w hl.1 (c_R_write (mup (mup σ 0 0 (nI 0)) 0 21 (nI 0)) r12.toNatClampNeg hb16 (hok _ hb16 (Int32.not_lt.mpr c19))) (cwV 1 hts g_R_flush_58 rfl rfl rfl (by decide +kernel) ⟨Nat.le_of_ble_eq_true rfl, Nat.le_of_ble_eq_true rfl⟩) rfl (by decide) rfl rfl rfl (Nat.le_of_ble_eq_true rfl) d_R_flush_58 ⟨Nat.zero_le _, Nat.zero_le _⟩ (fun σ21 H locs e22 w => ?_)
          replace e22 := Eq.symm e22
          refine lv_aload_n hx hb d_R_flush_61 rfl (lv_at hl 1 rfl) ?_
          refine mr_get F w (kin in_R) 0 (by decide) rfl rfl 21 (by decide) (kws_in m_549) (fun _ h => h) rfl d_R_flush_62 ?_
          refine lv_if_eq (tgt := 72) hx hb d_R_flush_65 (by decide) (fun c23 => ?_) (fun c23 => ?_)
          · refine lv_iconst (v := nI 1) hx hb d_R_flush_72 (by decide) ?_
            exact mr_iret F w hr hlk (by subst e14_r e22; unfold qFlush; rw [if_neg c4, if_pos c10, if_neg c15, if_pos c19, if_pos c23]; exact ⟨rfl, rfl⟩) d_R_flush_73
          · refine lv_iconst (v := -1) hx hb d_R_flush_68 (by decide) ?_
            refine lv_goto (tgt := 73) hx hb d_R_flush_69 (by decide) ?_
            exact mr_iret F w hr hlk (by subst e14_r e22; unfold qFlush; rw [if_neg c4, if_pos c10, if_neg c15, if_pos c19, if_neg c23]; exact ⟨rfl, rfl⟩) d_R_flush_73
        · refine lv_iconst (v := nI 0) hx hb d_R_flush_49 (by decide) ?_
          exact mr_iret F w hr hlk (by subst e14_r; unfold qFlush; rw [if_neg c4, if_pos c10, if_neg c15, if_neg c19]; exact ⟨rfl, rfl⟩) d_R_flush_50
    · rw [show σ8 = mup σ 0 0 (nI 1) from (by subst e9_r e9_s; unfold qRef; rw [if_neg c10]; try rfl)] at w
      refine nr_as (k := 1) (by subst e9_r e9_s; unfold qRef; rw [if_neg c10]; try rfl) ?_
      clear e9_r e9_s
      refine lv_if_eq (tgt := 30) hx hb d_R_flush_25 (by decide) (fun c24 => absurd c24 (by decide)) (fun _ => ?_)
      refine lv_iconst (v := nI 0) hx hb d_R_flush_28 (by decide) ?_
      exact mr_iret F w hr hlk (by unfold qFlush; rw [if_neg c4, if_neg c10]; exact ⟨rfl, rfl⟩) d_R_flush_29
  · refine lv_iconst (v := nI 1) hx hb d_R_flush_16 (by decide) ?_
    refine lv_goto (tgt := 21) hx hb d_R_flush_17 (by decide) ?_
    refine lv_iconst (v := nI 0) hx hb d_R_flush_21 (by decide) ?_
    refine mr_callVi (As := [.int (σ 0 18), .int (nI 1), .int (nI 0)]) F w hl.1 (c_R_refused σ (σ 0 18) (nI 1) (nI 0)) (cwV 3 hts g_R_flush_22 rfl rfl rfl (by decide +kernel) ⟨Nat.le_of_ble_eq_true rfl, Nat.le_of_ble_eq_true rfl⟩) rfl (by decide) rfl rfl rfl (Nat.le_of_ble_eq_true rfl) d_R_flush_22 ⟨Nat.zero_le _, Nat.zero_le _⟩ (fun r25 σ26 H locs e27 w => ?_)
    have e27_r := e27.1.symm
    have e27_s := e27.2.symm
    clear e27
    rcases Classical.em (σ 0 18 = 0) with c28 | c28
    · rw [show σ26 = mup σ 0 0 (nI 2) from (by subst e27_r e27_s; unfold qRef; rw [if_pos c28]; try rfl)] at w
      refine nr_as (k := 1) (by subst e27_r e27_s; unfold qRef; rw [if_pos c28]; try rfl) ?_
      clear e27_r e27_s
      refine lv_if_eq (tgt := 30) hx hb d_R_flush_25 (by decide) (fun c29 => absurd c29 (by decide)) (fun _ => ?_)
      refine lv_iconst (v := nI 0) hx hb d_R_flush_28 (by decide) ?_
      exact mr_iret F w hr hlk (by unfold qFlush; rw [if_pos c4, if_pos c28]; exact ⟨rfl, rfl⟩) d_R_flush_29
    · rw [show σ26 = mup σ 0 0 (nI 1) from (by subst e27_r e27_s; unfold qRef; rw [if_neg c28]; try rfl)] at w
      refine nr_as (k := 1) (by subst e27_r e27_s; unfold qRef; rw [if_neg c28]; try rfl) ?_
      clear e27_r e27_s
      refine lv_if_eq (tgt := 30) hx hb d_R_flush_25 (by decide) (fun c30 => absurd c30 (by decide)) (fun _ => ?_)
      refine lv_iconst (v := nI 0) hx hb d_R_flush_28 (by decide) ?_
      exact mr_iret F w hr hlk (by unfold qFlush; rw [if_pos c4, if_neg c28]; exact ⟨rfl, rfl⟩) d_R_flush_29
def qFlushO (σ : Mem)  : Int32 × Mem :=
  if σ 0 18 = 0 then (if (qKth (mup σ 0 0 (nI 0)) (nI 0) 8 0 (-1)) = -1 then ((-1), mup σ 0 0 (nI 0))
    else if ((qWr (mup (mup σ 0 0 (nI 0)) 0 21 (nI 0)) (qKth (mup σ 0 0 (nI 0)) (nI 0) 8 0 (-1)).toNatClampNeg) 0 21) = 0 then ((mup σ 0 0 (nI 0)) 8 (qKth (mup σ 0 0 (nI 0)) (nI 0) 8 0 (-1)).toNatClampNeg, (qWr (mup (mup σ 0 0 (nI 0)) 0 21 (nI 0)) (qKth (mup σ 0 0 (nI 0)) (nI 0) 8 0 (-1)).toNatClampNeg))
    else ((-1), (qWr (mup (mup σ 0 0 (nI 0)) 0 21 (nI 0)) (qKth (mup σ 0 0 (nI 0)) (nI 0) 8 0 (-1)).toNatClampNeg)))
  else (nI 0, mup σ 0 0 (nI 1))
set_option maxHeartbeats 4000000 in
set_option maxRecDepth 100000 in
theorem c_R_flushOldest (σ : Mem) (hok : rOK σ) : KIR l D cI cF cZ cJ ad y_R_flushOldest b_R_flushOldest 3 (some .int) 5 135 [.ref (ad 0)] σ (fun r σ' => r = (qFlushO σ).1 ∧ σ' = (qFlushO σ).2) := by
  refine KI.of (by decide) (Nat.le_of_ble_eq_true rfl) ?_
  intro p e s m args below meth c A ls F w hl hr hlk
  obtain ⟨hx, hb, hml, hown, hts⟩ := id F
  have hl : lv_has ls 3 [(0, .ref (ad 0))] := hl
  refine lv_aload_n hx hb d_R_flushOldest_0 rfl (lv_at hl 0 rfl) ?_
  refine lv_aload_n hx hb d_R_flushOldest_1 rfl (lv_at hl 0 rfl) ?_
  refine mr_get F w (kin in_R) 0 (by decide) rfl rfl 18 (by decide) (kws_in m_546) (fun _ h => h) rfl d_R_flushOldest_2 ?_
  refine lv_iconst (v := nI 0) hx hb d_R_flushOldest_5 (by decide) ?_
  refine lv_iconst (v := nI 0) hx hb d_R_flushOldest_6 (by decide) ?_
  refine mr_callVi (As := [.int (σ 0 18), .int (nI 0), .int (nI 0)]) F w hl.1 (c_R_refused σ (σ 0 18) (nI 0) (nI 0)) (cwV 3 hts g_R_flushOldest_7 rfl rfl rfl (by decide +kernel) ⟨Nat.le_of_ble_eq_true rfl, Nat.le_of_ble_eq_true rfl⟩) rfl (by decide) rfl rfl rfl (Nat.le_of_ble_eq_true rfl) d_R_flushOldest_7 ⟨Nat.zero_le _, Nat.zero_le _⟩ (fun r1 σ2 H locs e3 w => ?_)
  have e3_r := e3.1.symm
  have e3_s := e3.2.symm
  clear e3
  rcases Classical.em (σ 0 18 = 0) with c4 | c4
  · rw [show σ2 = mup σ 0 0 (nI 0) from (by subst e3_r e3_s; unfold qRef; rw [if_pos c4]; try rfl)] at w
    refine nr_as (k := 0) (by subst e3_r e3_s; unfold qRef; rw [if_pos c4]; try rfl) ?_
    clear e3_r e3_s
    refine lv_if_eq (tgt := 15) hx hb d_R_flushOldest_10 (by decide) (fun _ => ?_) (fun c5 => absurd c5 (by decide))
    refine lv_aload_n hx hb d_R_flushOldest_15 rfl (lv_at hl 0 rfl) ?_
    refine lv_iconst (v := nI 0) hx hb d_R_flushOldest_16 (by decide) ?_
    refine mr_callVi (As := [.int (nI 0)]) F w hl.1 (c_R_kth (mup σ 0 0 (nI 0)) (nI 0)) (cwV 1 hts g_R_flushOldest_17 rfl rfl rfl (by decide +kernel) ⟨Nat.le_of_ble_eq_true rfl, Nat.le_of_ble_eq_true rfl⟩) rfl (by decide) rfl rfl rfl (Nat.le_of_ble_eq_true rfl) d_R_flushOldest_17 ⟨Nat.zero_le _, Nat.zero_le _⟩ (fun r6 σ7 H locs e8 w => ?_)
    have e8_r := e8.1.symm
    have hs9 := e8.2
    rw [hs9] at w
    clear hs9 e8
    rcases Classical.em (r6 = -1) with c9 | c9
    · rw [c9]
      refine lv_istore_n (lv' := [(1, .int ((-1))), (0, .ref (ad 0))]) hx hb d_R_flushOldest_20 rfl hl (by decide) rfl (fun ls hl => ?_)
      refine lv_iload_n hx hb d_R_flushOldest_21 rfl (lv_at hl 0 rfl) ?_
      refine lv_if_ge (tgt := 27) hx hb d_R_flushOldest_22 (by decide) (fun c11 => absurd c11 (by decide)) (fun _ => ?_)
      refine lv_iconst (v := -1) hx hb d_R_flushOldest_25 (by decide) ?_
      exact mr_iret F w hr hlk (by subst e8_r; unfold qFlushO; rw [if_pos c4, if_pos c9]; exact ⟨rfl, rfl⟩) d_R_flushOldest_26
    · have hb10 : r6.toNatClampNeg < 8 := (fr8_in (by rw [← e8_r]; exact (qKth_in (mup σ 0 0 (nI 0)) (nI 0) 8 0 (-1) (by decide) fr8_m1)) c9).1
      rw [(fr8_in (R := r6) (by rw [← e8_r]; exact (qKth_in (mup σ 0 0 (nI 0)) (nI 0) 8 0 (-1) (by decide) fr8_m1)) c9).2]
      refine lv_istore_n (lv' := [(1, .int (nI r6.toNatClampNeg)), (0, .ref (ad 0))]) hx hb d_R_flushOldest_20 rfl hl (by decide) rfl (fun ls hl => ?_)
      refine lv_iload_n hx hb d_R_flushOldest_21 rfl (lv_at hl 0 rfl) ?_
      refine lv_if_ge (tgt := 27) hx hb d_R_flushOldest_22 (by decide) (fun _ => ?_) (fun c12 => absurd (nI_pos' (by omega)) c12)
      refine lv_aload_n hx hb d_R_flushOldest_27 rfl (lv_at hl 1 rfl) ?_
      refine mr_get F w (kin in_R) 0 (by decide) rfl rfl 13 (by decide) (kws_in m_541) (fun _ h => h) rfl d_R_flushOldest_28 ?_
      refine lv_iload_n hx hb d_R_flushOldest_31 rfl (lv_at hl 0 rfl) ?_
      refine mr_iaN F w 8 0 (by decide) rfl rfl r6.toNatClampNeg (by omega) (by decide) rfl d_R_flushOldest_32 ?_
      refine lv_istore_n (lv' := [(2, .int ((mup σ 0 0 (nI 0)) 8 r6.toNatClampNeg)), (1, .int (nI r6.toNatClampNeg)), (0, .ref (ad 0))]) hx hb d_R_flushOldest_33 rfl hl (by decide) rfl (fun ls hl => ?_)
      refine lv_aload_n hx hb d_R_flushOldest_34 rfl (lv_at hl 2 rfl) ?_
      refine lv_iconst (v := nI 0) hx hb d_R_flushOldest_35 (by decide) ?_
      refine mr_put F w (kin in_R) t_R t_R_ok n_R 0 (by decide) rfl rfl 21 (by decide) (kws_in m_549) (fun _ h => h) rfl rfl rfl (Nat.le_of_ble_eq_true rfl) rfl d_R_flushOldest_36 (fun H locs w => ?_)
      refine lv_aload_n hx hb d_R_flushOldest_39 rfl (lv_at hl 2 rfl) ?_
      refine lv_iload_n hx hb d_R_flushOldest_40 rfl (lv_at hl 1 rfl) ?_
      refine mr_callVv (As := [.int (nI r6.toNatClampNeg)]) F w hl.1 (c_R_write (mup (mup σ 0 0 (nI 0)) 0 21 (nI 0)) r6.toNatClampNeg hb10 (hok _ hb10 (qKth_c (mup σ 0 0 (nI 0)) (nI 0) hb10 (by rw [e8_r]; exact (fr8_in (R := r6) (by rw [← e8_r]; exact qKth_in _ _ 8 0 (-1) (by decide) fr8_m1) c9).2)))) (cwV 1 hts g_R_flushOldest_41 rfl rfl rfl (by decide +kernel) ⟨Nat.le_of_ble_eq_true rfl, Nat.le_of_ble_eq_true rfl⟩) rfl (by decide) rfl rfl rfl (Nat.le_of_ble_eq_true rfl) d_R_flushOldest_41 ⟨Nat.zero_le _, Nat.zero_le _⟩ (fun σ14 H locs e15 w => ?_)
      replace e15 := Eq.symm e15
      refine lv_aload_n hx hb d_R_flushOldest_44 rfl (lv_at hl 2 rfl) ?_
      refine mr_get F w (kin in_R) 0 (by decide) rfl rfl 21 (by decide) (kws_in m_549) (fun _ h => h) rfl d_R_flushOldest_45 ?_
      refine lv_if_eq (tgt := 55) hx hb d_R_flushOldest_48 (by decide) (fun c16 => ?_) (fun c16 => ?_)
      · refine lv_iload_n hx hb d_R_flushOldest_55 rfl (lv_at hl 0 rfl) ?_
        exact mr_iret F w hr hlk (by subst e8_r e15; unfold qFlushO; rw [if_pos c4, if_neg c9, if_pos c16]; exact ⟨rfl, rfl⟩) d_R_flushOldest_56
      · refine lv_iconst (v := -1) hx hb d_R_flushOldest_51 (by decide) ?_
        refine lv_goto (tgt := 56) hx hb d_R_flushOldest_52 (by decide) ?_
        exact mr_iret F w hr hlk (by subst e8_r e15; unfold qFlushO; rw [if_pos c4, if_neg c9, if_neg c16]; exact ⟨rfl, rfl⟩) d_R_flushOldest_56
  · rw [show σ2 = mup σ 0 0 (nI 1) from (by subst e3_r e3_s; unfold qRef; rw [if_neg c4]; try rfl)] at w
    refine nr_as (k := 1) (by subst e3_r e3_s; unfold qRef; rw [if_neg c4]; try rfl) ?_
    clear e3_r e3_s
    refine lv_if_eq (tgt := 15) hx hb d_R_flushOldest_10 (by decide) (fun c17 => absurd c17 (by decide)) (fun _ => ?_)
    refine lv_iconst (v := nI 0) hx hb d_R_flushOldest_13 (by decide) ?_
    exact mr_iret F w hr hlk (by unfold qFlushO; rw [if_neg c4]; exact ⟨rfl, rfl⟩) d_R_flushOldest_14
end
