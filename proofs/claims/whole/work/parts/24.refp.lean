/-! The reference: public methods -/
section
variable {l : Launch} {D : va_G} {cI cF cZ cJ : ClassId} {ad : Nat → Nat} {σ : Mem}
set_option maxRecDepth 20000 in
theorem m_604 : Cond.methodLink "PagePoolModel" 82 (⟨"PagePoolModel", "refused", "(ZZZ)Z"⟩ : MethodName) ∈ gt := gt_in 604 (by decide +kernel) (by decide +kernel)
set_option maxRecDepth 20000 in
theorem m_607 : Cond.code (⟨"PagePoolModel", "refused", "(ZZZ)Z"⟩ : MethodName) prog_7_method_3_code 4 (some .boolean) ∈ gt := gt_in 607 (by decide +kernel) (by decide +kernel)
set_option maxRecDepth 20000 in
theorem m_606 : Cond.instanceMethod (⟨"PagePoolModel", "refused", "(ZZZ)Z"⟩ : MethodName) ∈ gt := gt_in 606 (by decide +kernel) (by decide +kernel)
set_option maxRecDepth 20000 in
theorem ms_12 : Cond.selects "PagePoolModel" (⟨"PagePoolModel", "refused", "(ZZZ)Z"⟩ : MethodName) (⟨"PagePoolModel", "refused", "(ZZZ)Z"⟩ : MethodName) ∈ gt := gt_sel 12 (by decide +kernel) (by decide +kernel)
set_option maxRecDepth 20000 in
theorem m_624 : Cond.methodLink "PagePoolModel" 90 (⟨"PagePoolModel", "forceTo", "(I)I"⟩ : MethodName) ∈ gt := gt_in 624 (by decide +kernel) (by decide +kernel)
set_option maxRecDepth 20000 in
theorem m_627 : Cond.code (⟨"PagePoolModel", "forceTo", "(I)I"⟩ : MethodName) prog_7_method_11_code 3 (some .int) ∈ gt := gt_in 627 (by decide +kernel) (by decide +kernel)
set_option maxRecDepth 20000 in
theorem m_626 : Cond.instanceMethod (⟨"PagePoolModel", "forceTo", "(I)I"⟩ : MethodName) ∈ gt := gt_in 626 (by decide +kernel) (by decide +kernel)
set_option maxRecDepth 20000 in
theorem ms_14 : Cond.selects "PagePoolModel" (⟨"PagePoolModel", "forceTo", "(I)I"⟩ : MethodName) (⟨"PagePoolModel", "forceTo", "(I)I"⟩ : MethodName) ∈ gt := gt_sel 14 (by decide +kernel) (by decide +kernel)
set_option maxRecDepth 20000 in
theorem m_671 : Cond.methodLink "PagePoolModel" 122 (⟨"PagePoolModel", "isFrame", "(I)Z"⟩ : MethodName) ∈ gt := gt_in 671 (by decide +kernel) (by decide +kernel)
set_option maxRecDepth 20000 in
theorem m_673 : Cond.code (⟨"PagePoolModel", "isFrame", "(I)Z"⟩ : MethodName) prog_7_method_22_code 1 (some .boolean) ∈ gt := gt_in 673 (by decide +kernel) (by decide +kernel)
set_option maxRecDepth 20000 in
theorem m_672 : Cond.static (⟨"PagePoolModel", "isFrame", "(I)Z"⟩ : MethodName) ∈ gt := gt_in 672 (by decide +kernel) (by decide +kernel)
set_option maxRecDepth 20000 in
theorem m_537 : Cond.fieldLink "PagePoolModel" 126 "PagePoolModel" "first" "I" ∈ gt := gt_in 537 (by decide +kernel) (by decide +kernel)
set_option maxRecDepth 20000 in
theorem m_702 : Cond.methodLink "PagePoolModel" 137 (⟨"PagePoolModel", "kth", "(I)I"⟩ : MethodName) ∈ gt := gt_in 702 (by decide +kernel) (by decide +kernel)
set_option maxRecDepth 20000 in
theorem m_705 : Cond.code (⟨"PagePoolModel", "kth", "(I)I"⟩ : MethodName) prog_7_method_29_code 6 (some .int) ∈ gt := gt_in 705 (by decide +kernel) (by decide +kernel)
set_option maxRecDepth 20000 in
theorem m_704 : Cond.instanceMethod (⟨"PagePoolModel", "kth", "(I)I"⟩ : MethodName) ∈ gt := gt_in 704 (by decide +kernel) (by decide +kernel)
set_option maxRecDepth 20000 in
theorem ms_24 : Cond.selects "PagePoolModel" (⟨"PagePoolModel", "kth", "(I)I"⟩ : MethodName) (⟨"PagePoolModel", "kth", "(I)I"⟩ : MethodName) ∈ gt := gt_sel 24 (by decide +kernel) (by decide +kernel)
set_option maxRecDepth 20000 in
theorem m_678 : Cond.constant "PagePoolModel" 129 (65536 : Int32) ∈ gt := gt_in 678 (by decide +kernel) (by decide +kernel)
set_option maxRecDepth 20000 in
theorem m_679 : Cond.methodLink "PagePoolModel" 130 (⟨"PagePoolModel", "rowOf", "(I)I"⟩ : MethodName) ∈ gt := gt_in 679 (by decide +kernel) (by decide +kernel)
set_option maxRecDepth 20000 in
theorem m_681 : Cond.code (⟨"PagePoolModel", "rowOf", "(I)I"⟩ : MethodName) prog_7_method_13_code 1 (some .int) ∈ gt := gt_in 681 (by decide +kernel) (by decide +kernel)
set_option maxRecDepth 20000 in
theorem m_680 : Cond.static (⟨"PagePoolModel", "rowOf", "(I)I"⟩ : MethodName) ∈ gt := gt_in 680 (by decide +kernel) (by decide +kernel)
set_option maxRecDepth 20000 in
theorem m_533 : Cond.fieldLink "PagePoolModel" 23 "PagePoolModel" "pageOf" "[I" ∈ gt := gt_in 533 (by decide +kernel) (by decide +kernel)
set_option maxRecDepth 20000 in
theorem m_534 : Cond.fieldLink "PagePoolModel" 26 "PagePoolModel" "wordOf" "[I" ∈ gt := gt_in 534 (by decide +kernel) (by decide +kernel)
set_option maxRecDepth 20000 in
theorem m_535 : Cond.fieldLink "PagePoolModel" 29 "PagePoolModel" "valueOf" "[I" ∈ gt := gt_in 535 (by decide +kernel) (by decide +kernel)
set_option maxRecDepth 20000 in
theorem m_536 : Cond.fieldLink "PagePoolModel" 32 "PagePoolModel" "isVoid" "[Z" ∈ gt := gt_in 536 (by decide +kernel) (by decide +kernel)
set_option maxRecDepth 20000 in
theorem m_682 : Cond.methodLink "PagePoolModel" 133 (⟨"PagePoolModel", "put", "(IIII)V"⟩ : MethodName) ∈ gt := gt_in 682 (by decide +kernel) (by decide +kernel)
set_option maxRecDepth 20000 in
theorem m_685 : Cond.code (⟨"PagePoolModel", "put", "(IIII)V"⟩ : MethodName) prog_7_method_24_code 5 none ∈ gt := gt_in 685 (by decide +kernel) (by decide +kernel)
set_option maxRecDepth 20000 in
theorem m_684 : Cond.instanceMethod (⟨"PagePoolModel", "put", "(IIII)V"⟩ : MethodName) ∈ gt := gt_in 684 (by decide +kernel) (by decide +kernel)
set_option maxRecDepth 20000 in
theorem ms_23 : Cond.selects "PagePoolModel" (⟨"PagePoolModel", "put", "(IIII)V"⟩ : MethodName) (⟨"PagePoolModel", "put", "(IIII)V"⟩ : MethodName) ∈ gt := gt_sel 23 (by decide +kernel) (by decide +kernel)
theorem d_R_cutAfter_0 : decode b_R_cutAfter 0 = .ok (.aload_n 0, 1) := by decide +kernel
theorem d_R_cutAfter_1 : decode b_R_cutAfter 1 = .ok (.iload_n 1, 1) := by decide +kernel
theorem d_R_cutAfter_2 : decode b_R_cutAfter 2 = .ok (.iconst (-1), 1) := by decide +kernel
theorem d_R_cutAfter_3 : decode b_R_cutAfter 3 = .ok (.if_icmp .ge 7, 3) := by decide +kernel
theorem d_R_cutAfter_6 : decode b_R_cutAfter 6 = .ok (.iconst 1, 1) := by decide +kernel
theorem d_R_cutAfter_7 : decode b_R_cutAfter 7 = .ok (.goto 4, 3) := by decide +kernel
theorem d_R_cutAfter_10 : decode b_R_cutAfter 10 = .ok (.iconst 0, 1) := by decide +kernel
theorem d_R_cutAfter_11 : decode b_R_cutAfter 11 = .ok (.iconst 0, 1) := by decide +kernel
theorem d_R_cutAfter_12 : decode b_R_cutAfter 12 = .ok (.iconst 0, 1) := by decide +kernel
theorem d_R_cutAfter_13 : decode b_R_cutAfter 13 = .ok (.invokevirtual 82, 3) := by decide +kernel
theorem d_R_cutAfter_16 : decode b_R_cutAfter 16 = .ok (.ifCond .ne 8, 3) := by decide +kernel
theorem d_R_cutAfter_19 : decode b_R_cutAfter 19 = .ok (.aload_n 0, 1) := by decide +kernel
theorem d_R_cutAfter_20 : decode b_R_cutAfter 20 = .ok (.iload_n 1, 1) := by decide +kernel
theorem d_R_cutAfter_21 : decode b_R_cutAfter 21 = .ok (.putfield 51, 3) := by decide +kernel
theorem d_R_cutAfter_24 : decode b_R_cutAfter 24 = .ok (.return_, 1) := by decide +kernel
set_option maxRecDepth 20000 in
theorem g_R_cutAfter_13 : GoodIn (kws (y_R_cutAfter) b_R_cutAfter 2 none) (wsV R_R 82 R_R y_R_refused (kws (y_R_refused) b_R_refused 4 (some .boolean))) := kwV m_604 m_606 ms_12 m_6 m_607
theorem d_R_cut_0 : decode b_R_cut 0 = .ok (.aload_n 0, 1) := by decide +kernel
theorem d_R_cut_1 : decode b_R_cut 1 = .ok (.iconst 0, 1) := by decide +kernel
theorem d_R_cut_2 : decode b_R_cut 2 = .ok (.putfield 57, 3) := by decide +kernel
theorem d_R_cut_5 : decode b_R_cut 5 = .ok (.aload_n 0, 1) := by decide +kernel
theorem d_R_cut_6 : decode b_R_cut 6 = .ok (.getfield 69, 3) := by decide +kernel
theorem d_R_cut_9 : decode b_R_cut 9 = .ok (.ifCond .eq 5, 3) := by decide +kernel
theorem d_R_cut_12 : decode b_R_cut 12 = .ok (.iconst 0, 1) := by decide +kernel
theorem d_R_cut_13 : decode b_R_cut 13 = .ok (.ireturn, 1) := by decide +kernel
theorem d_R_cut_14 : decode b_R_cut 14 = .ok (.aload_n 0, 1) := by decide +kernel
theorem d_R_cut_15 : decode b_R_cut 15 = .ok (.invokevirtual 76, 3) := by decide +kernel
theorem d_R_cut_18 : decode b_R_cut 18 = .ok (.iconst 1, 1) := by decide +kernel
theorem d_R_cut_19 : decode b_R_cut 19 = .ok (.ireturn, 1) := by decide +kernel
set_option maxRecDepth 20000 in
theorem g_R_cut_15 : GoodIn (kws (y_R_cut) b_R_cut 1 (some .boolean)) (wsV R_R 76 R_R y_R_fail (kws (y_R_fail) b_R_fail 1 none)) := kwV m_612 m_614 ms_13 m_6 m_615
theorem d_R_force_0 : decode b_R_force 0 = .ok (.aload_n 0, 1) := by decide +kernel
theorem d_R_force_1 : decode b_R_force 1 = .ok (.aload_n 0, 1) := by decide +kernel
theorem d_R_force_2 : decode b_R_force 2 = .ok (.getfield 69, 3) := by decide +kernel
theorem d_R_force_5 : decode b_R_force 5 = .ok (.iconst 0, 1) := by decide +kernel
theorem d_R_force_6 : decode b_R_force 6 = .ok (.iconst 0, 1) := by decide +kernel
theorem d_R_force_7 : decode b_R_force 7 = .ok (.invokevirtual 82, 3) := by decide +kernel
theorem d_R_force_10 : decode b_R_force 10 = .ok (.ifCond .eq 5, 3) := by decide +kernel
theorem d_R_force_13 : decode b_R_force 13 = .ok (.iconst 0, 1) := by decide +kernel
theorem d_R_force_14 : decode b_R_force 14 = .ok (.ireturn, 1) := by decide +kernel
theorem d_R_force_15 : decode b_R_force 15 = .ok (.aload_n 0, 1) := by decide +kernel
theorem d_R_force_16 : decode b_R_force 16 = .ok (.iconst 0, 1) := by decide +kernel
theorem d_R_force_17 : decode b_R_force 17 = .ok (.putfield 73, 3) := by decide +kernel
theorem d_R_force_20 : decode b_R_force 20 = .ok (.aload_n 0, 1) := by decide +kernel
theorem d_R_force_21 : decode b_R_force 21 = .ok (.aload_n 0, 1) := by decide +kernel
theorem d_R_force_22 : decode b_R_force 22 = .ok (.getfield 66, 3) := by decide +kernel
theorem d_R_force_25 : decode b_R_force 25 = .ok (.invokevirtual 90, 3) := by decide +kernel
theorem d_R_force_28 : decode b_R_force 28 = .ok (.istore_n 1, 1) := by decide +kernel
theorem d_R_force_29 : decode b_R_force 29 = .ok (.aload_n 0, 1) := by decide +kernel
theorem d_R_force_30 : decode b_R_force 30 = .ok (.getfield 73, 3) := by decide +kernel
theorem d_R_force_33 : decode b_R_force 33 = .ok (.ifCond .eq 7, 3) := by decide +kernel
theorem d_R_force_36 : decode b_R_force 36 = .ok (.iconst (-1), 1) := by decide +kernel
theorem d_R_force_37 : decode b_R_force 37 = .ok (.goto 4, 3) := by decide +kernel
theorem d_R_force_40 : decode b_R_force 40 = .ok (.iload_n 1, 1) := by decide +kernel
theorem d_R_force_41 : decode b_R_force 41 = .ok (.ireturn, 1) := by decide +kernel
set_option maxRecDepth 20000 in
theorem g_R_force_7 : GoodIn (kws (y_R_force) b_R_force 2 (some .int)) (wsV R_R 82 R_R y_R_refused (kws (y_R_refused) b_R_refused 4 (some .boolean))) := kwV m_604 m_606 ms_12 m_6 m_607
set_option maxRecDepth 20000 in
theorem g_R_force_25 : GoodIn (kws (y_R_force) b_R_force 2 (some .int)) (wsV R_R 90 R_R y_R_forceTo (kws (y_R_forceTo) b_R_forceTo 3 (some .int))) := kwV m_624 m_626 ms_14 m_6 m_627
theorem d_R_unfix_0 : decode b_R_unfix 0 = .ok (.aload_n 0, 1) := by decide +kernel
theorem d_R_unfix_1 : decode b_R_unfix 1 = .ok (.aload_n 0, 1) := by decide +kernel
theorem d_R_unfix_2 : decode b_R_unfix 2 = .ok (.getfield 69, 3) := by decide +kernel
theorem d_R_unfix_5 : decode b_R_unfix 5 = .ok (.ifCond .ne 19, 3) := by decide +kernel
theorem d_R_unfix_8 : decode b_R_unfix 8 = .ok (.iload_n 1, 1) := by decide +kernel
theorem d_R_unfix_9 : decode b_R_unfix 9 = .ok (.invokestatic 122, 3) := by decide +kernel
theorem d_R_unfix_12 : decode b_R_unfix 12 = .ok (.ifCond .eq 16, 3) := by decide +kernel
theorem d_R_unfix_15 : decode b_R_unfix 15 = .ok (.aload_n 0, 1) := by decide +kernel
theorem d_R_unfix_16 : decode b_R_unfix 16 = .ok (.getfield 42, 3) := by decide +kernel
theorem d_R_unfix_19 : decode b_R_unfix 19 = .ok (.iload_n 1, 1) := by decide +kernel
theorem d_R_unfix_20 : decode b_R_unfix 20 = .ok (.iaload, 1) := by decide +kernel
theorem d_R_unfix_21 : decode b_R_unfix 21 = .ok (.ifCond .ne 7, 3) := by decide +kernel
theorem d_R_unfix_24 : decode b_R_unfix 24 = .ok (.iconst 1, 1) := by decide +kernel
theorem d_R_unfix_25 : decode b_R_unfix 25 = .ok (.goto 4, 3) := by decide +kernel
theorem d_R_unfix_28 : decode b_R_unfix 28 = .ok (.iconst 0, 1) := by decide +kernel
theorem d_R_unfix_29 : decode b_R_unfix 29 = .ok (.iload_n 1, 1) := by decide +kernel
theorem d_R_unfix_30 : decode b_R_unfix 30 = .ok (.invokestatic 122, 3) := by decide +kernel
theorem d_R_unfix_33 : decode b_R_unfix 33 = .ok (.ifCond .ne 7, 3) := by decide +kernel
theorem d_R_unfix_36 : decode b_R_unfix 36 = .ok (.iconst 1, 1) := by decide +kernel
theorem d_R_unfix_37 : decode b_R_unfix 37 = .ok (.goto 4, 3) := by decide +kernel
theorem d_R_unfix_40 : decode b_R_unfix 40 = .ok (.iconst 0, 1) := by decide +kernel
theorem d_R_unfix_41 : decode b_R_unfix 41 = .ok (.iconst 0, 1) := by decide +kernel
theorem d_R_unfix_42 : decode b_R_unfix 42 = .ok (.invokevirtual 82, 3) := by decide +kernel
theorem d_R_unfix_45 : decode b_R_unfix 45 = .ok (.ifCond .eq 5, 3) := by decide +kernel
theorem d_R_unfix_48 : decode b_R_unfix 48 = .ok (.iconst 0, 1) := by decide +kernel
theorem d_R_unfix_49 : decode b_R_unfix 49 = .ok (.ireturn, 1) := by decide +kernel
theorem d_R_unfix_50 : decode b_R_unfix 50 = .ok (.aload_n 0, 1) := by decide +kernel
theorem d_R_unfix_51 : decode b_R_unfix 51 = .ok (.getfield 42, 3) := by decide +kernel
theorem d_R_unfix_54 : decode b_R_unfix 54 = .ok (.iload_n 1, 1) := by decide +kernel
theorem d_R_unfix_55 : decode b_R_unfix 55 = .ok (.dup2, 1) := by decide +kernel
theorem d_R_unfix_56 : decode b_R_unfix 56 = .ok (.iaload, 1) := by decide +kernel
theorem d_R_unfix_57 : decode b_R_unfix 57 = .ok (.iconst 1, 1) := by decide +kernel
theorem d_R_unfix_58 : decode b_R_unfix 58 = .ok (.isub, 1) := by decide +kernel
theorem d_R_unfix_59 : decode b_R_unfix 59 = .ok (.iastore, 1) := by decide +kernel
theorem d_R_unfix_60 : decode b_R_unfix 60 = .ok (.aload_n 0, 1) := by decide +kernel
theorem d_R_unfix_61 : decode b_R_unfix 61 = .ok (.getfield 42, 3) := by decide +kernel
theorem d_R_unfix_64 : decode b_R_unfix 64 = .ok (.iload_n 1, 1) := by decide +kernel
theorem d_R_unfix_65 : decode b_R_unfix 65 = .ok (.iaload, 1) := by decide +kernel
theorem d_R_unfix_66 : decode b_R_unfix 66 = .ok (.ireturn, 1) := by decide +kernel
set_option maxRecDepth 20000 in
theorem g_R_unfix_30 : GoodIn (kws (y_R_unfix) b_R_unfix 2 (some .int)) (wsS R_R 122 y_R_isFrame (kws (y_R_isFrame) b_R_isFrame 1 (some .boolean))) := kwS m_671 m_672 m_6 m_673
set_option maxRecDepth 20000 in
theorem g_R_unfix_42 : GoodIn (kws (y_R_unfix) b_R_unfix 2 (some .int)) (wsV R_R 82 R_R y_R_refused (kws (y_R_refused) b_R_refused 4 (some .boolean))) := kwV m_604 m_606 ms_12 m_6 m_607
set_option maxRecDepth 20000 in
theorem g_R_unfix_9 : GoodIn (kws (y_R_unfix) b_R_unfix 2 (some .int)) (wsS R_R 122 y_R_isFrame (kws (y_R_isFrame) b_R_isFrame 1 (some .boolean))) := kwS m_671 m_672 m_6 m_673
theorem d_R_word_0 : decode b_R_word 0 = .ok (.aload_n 0, 1) := by decide +kernel
theorem d_R_word_1 : decode b_R_word 1 = .ok (.aload_n 0, 1) := by decide +kernel
theorem d_R_word_2 : decode b_R_word 2 = .ok (.getfield 69, 3) := by decide +kernel
theorem d_R_word_5 : decode b_R_word 5 = .ok (.ifCond .ne 19, 3) := by decide +kernel
theorem d_R_word_8 : decode b_R_word 8 = .ok (.iload_n 1, 1) := by decide +kernel
theorem d_R_word_9 : decode b_R_word 9 = .ok (.invokestatic 122, 3) := by decide +kernel
theorem d_R_word_12 : decode b_R_word 12 = .ok (.ifCond .eq 16, 3) := by decide +kernel
theorem d_R_word_15 : decode b_R_word 15 = .ok (.aload_n 0, 1) := by decide +kernel
theorem d_R_word_16 : decode b_R_word 16 = .ok (.getfield 39, 3) := by decide +kernel
theorem d_R_word_19 : decode b_R_word 19 = .ok (.iload_n 1, 1) := by decide +kernel
theorem d_R_word_20 : decode b_R_word 20 = .ok (.iaload, 1) := by decide +kernel
theorem d_R_word_21 : decode b_R_word 21 = .ok (.ifCond .ge 7, 3) := by decide +kernel
theorem d_R_word_24 : decode b_R_word 24 = .ok (.iconst 1, 1) := by decide +kernel
theorem d_R_word_25 : decode b_R_word 25 = .ok (.goto 4, 3) := by decide +kernel
theorem d_R_word_28 : decode b_R_word 28 = .ok (.iconst 0, 1) := by decide +kernel
theorem d_R_word_29 : decode b_R_word 29 = .ok (.iload_n 1, 1) := by decide +kernel
theorem d_R_word_30 : decode b_R_word 30 = .ok (.invokestatic 122, 3) := by decide +kernel
theorem d_R_word_33 : decode b_R_word 33 = .ok (.ifCond .eq 13, 3) := by decide +kernel
theorem d_R_word_36 : decode b_R_word 36 = .ok (.iload_n 2, 1) := by decide +kernel
theorem d_R_word_37 : decode b_R_word 37 = .ok (.iconst 0, 1) := by decide +kernel
theorem d_R_word_38 : decode b_R_word 38 = .ok (.bipush 63, 2) := by decide +kernel
theorem d_R_word_40 : decode b_R_word 40 = .ok (.invokestatic 115, 3) := by decide +kernel
theorem d_R_word_43 : decode b_R_word 43 = .ok (.ifCond .ne 7, 3) := by decide +kernel
theorem d_R_word_46 : decode b_R_word 46 = .ok (.iconst 1, 1) := by decide +kernel
theorem d_R_word_47 : decode b_R_word 47 = .ok (.goto 4, 3) := by decide +kernel
theorem d_R_word_50 : decode b_R_word 50 = .ok (.iconst 0, 1) := by decide +kernel
theorem d_R_word_51 : decode b_R_word 51 = .ok (.iconst 0, 1) := by decide +kernel
theorem d_R_word_52 : decode b_R_word 52 = .ok (.invokevirtual 82, 3) := by decide +kernel
theorem d_R_word_55 : decode b_R_word 55 = .ok (.ifCond .eq 5, 3) := by decide +kernel
theorem d_R_word_58 : decode b_R_word 58 = .ok (.iconst 0, 1) := by decide +kernel
theorem d_R_word_59 : decode b_R_word 59 = .ok (.ireturn, 1) := by decide +kernel
theorem d_R_word_60 : decode b_R_word 60 = .ok (.aload_n 0, 1) := by decide +kernel
theorem d_R_word_61 : decode b_R_word 61 = .ok (.getfield 36, 3) := by decide +kernel
theorem d_R_word_64 : decode b_R_word 64 = .ok (.bipush 64, 2) := by decide +kernel
theorem d_R_word_66 : decode b_R_word 66 = .ok (.iload_n 1, 1) := by decide +kernel
theorem d_R_word_67 : decode b_R_word 67 = .ok (.imul, 1) := by decide +kernel
theorem d_R_word_68 : decode b_R_word 68 = .ok (.iload_n 2, 1) := by decide +kernel
theorem d_R_word_69 : decode b_R_word 69 = .ok (.iadd, 1) := by decide +kernel
theorem d_R_word_70 : decode b_R_word 70 = .ok (.iaload, 1) := by decide +kernel
theorem d_R_word_71 : decode b_R_word 71 = .ok (.ireturn, 1) := by decide +kernel
set_option maxRecDepth 20000 in
theorem g_R_word_30 : GoodIn (kws (y_R_word) b_R_word 3 (some .int)) (wsS R_R 122 y_R_isFrame (kws (y_R_isFrame) b_R_isFrame 1 (some .boolean))) := kwS m_671 m_672 m_6 m_673
set_option maxRecDepth 20000 in
theorem g_R_word_52 : GoodIn (kws (y_R_word) b_R_word 3 (some .int)) (wsV R_R 82 R_R y_R_refused (kws (y_R_refused) b_R_refused 4 (some .boolean))) := kwV m_604 m_606 ms_12 m_6 m_607
set_option maxRecDepth 20000 in
theorem g_R_word_40 : GoodIn (kws (y_R_word) b_R_word 3 (some .int)) (wsS R_R 115 y_R_in (kws (y_R_in) b_R_in 3 (some .boolean))) := kwS m_636 m_637 m_6 m_638
set_option maxRecDepth 20000 in
theorem g_R_word_9 : GoodIn (kws (y_R_word) b_R_word 3 (some .int)) (wsS R_R 122 y_R_isFrame (kws (y_R_isFrame) b_R_isFrame 1 (some .boolean))) := kwS m_671 m_672 m_6 m_673
theorem d_R_frame_0 : decode b_R_frame 0 = .ok (.aload_n 0, 1) := by decide +kernel
theorem d_R_frame_1 : decode b_R_frame 1 = .ok (.iload_n 1, 1) := by decide +kernel
theorem d_R_frame_2 : decode b_R_frame 2 = .ok (.invokestatic 122, 3) := by decide +kernel
theorem d_R_frame_5 : decode b_R_frame 5 = .ok (.ifCond .eq 12, 3) := by decide +kernel
theorem d_R_frame_8 : decode b_R_frame 8 = .ok (.iload_n 2, 1) := by decide +kernel
theorem d_R_frame_9 : decode b_R_frame 9 = .ok (.iconst 0, 1) := by decide +kernel
theorem d_R_frame_10 : decode b_R_frame 10 = .ok (.iconst 4, 1) := by decide +kernel
theorem d_R_frame_11 : decode b_R_frame 11 = .ok (.invokestatic 115, 3) := by decide +kernel
theorem d_R_frame_14 : decode b_R_frame 14 = .ok (.ifCond .ne 7, 3) := by decide +kernel
theorem d_R_frame_17 : decode b_R_frame 17 = .ok (.iconst 1, 1) := by decide +kernel
theorem d_R_frame_18 : decode b_R_frame 18 = .ok (.goto 4, 3) := by decide +kernel
theorem d_R_frame_21 : decode b_R_frame 21 = .ok (.iconst 0, 1) := by decide +kernel
theorem d_R_frame_22 : decode b_R_frame 22 = .ok (.iconst 0, 1) := by decide +kernel
theorem d_R_frame_23 : decode b_R_frame 23 = .ok (.iconst 0, 1) := by decide +kernel
theorem d_R_frame_24 : decode b_R_frame 24 = .ok (.invokevirtual 82, 3) := by decide +kernel
theorem d_R_frame_27 : decode b_R_frame 27 = .ok (.ifCond .eq 5, 3) := by decide +kernel
theorem d_R_frame_30 : decode b_R_frame 30 = .ok (.iconst 0, 1) := by decide +kernel
theorem d_R_frame_31 : decode b_R_frame 31 = .ok (.ireturn, 1) := by decide +kernel
theorem d_R_frame_32 : decode b_R_frame 32 = .ok (.iload_n 2, 1) := by decide +kernel
theorem d_R_frame_33 : decode b_R_frame 33 = .ok (.tableswitch 75 0 3 #[31, 38, 45, 60], 31) := by decide +kernel
theorem d_R_frame_64 : decode b_R_frame 64 = .ok (.aload_n 0, 1) := by decide +kernel
theorem d_R_frame_65 : decode b_R_frame 65 = .ok (.getfield 39, 3) := by decide +kernel
theorem d_R_frame_68 : decode b_R_frame 68 = .ok (.iload_n 1, 1) := by decide +kernel
theorem d_R_frame_69 : decode b_R_frame 69 = .ok (.iaload, 1) := by decide +kernel
theorem d_R_frame_70 : decode b_R_frame 70 = .ok (.ireturn, 1) := by decide +kernel
theorem d_R_frame_71 : decode b_R_frame 71 = .ok (.aload_n 0, 1) := by decide +kernel
theorem d_R_frame_72 : decode b_R_frame 72 = .ok (.getfield 42, 3) := by decide +kernel
theorem d_R_frame_75 : decode b_R_frame 75 = .ok (.iload_n 1, 1) := by decide +kernel
theorem d_R_frame_76 : decode b_R_frame 76 = .ok (.iaload, 1) := by decide +kernel
theorem d_R_frame_77 : decode b_R_frame 77 = .ok (.ireturn, 1) := by decide +kernel
theorem d_R_frame_78 : decode b_R_frame 78 = .ok (.aload_n 0, 1) := by decide +kernel
theorem d_R_frame_79 : decode b_R_frame 79 = .ok (.getfield 45, 3) := by decide +kernel
theorem d_R_frame_82 : decode b_R_frame 82 = .ok (.iload_n 1, 1) := by decide +kernel
theorem d_R_frame_83 : decode b_R_frame 83 = .ok (.baload, 1) := by decide +kernel
theorem d_R_frame_84 : decode b_R_frame 84 = .ok (.ifCond .eq 7, 3) := by decide +kernel
theorem d_R_frame_87 : decode b_R_frame 87 = .ok (.iconst 1, 1) := by decide +kernel
theorem d_R_frame_88 : decode b_R_frame 88 = .ok (.goto 4, 3) := by decide +kernel
theorem d_R_frame_91 : decode b_R_frame 91 = .ok (.iconst 0, 1) := by decide +kernel
theorem d_R_frame_92 : decode b_R_frame 92 = .ok (.ireturn, 1) := by decide +kernel
theorem d_R_frame_93 : decode b_R_frame 93 = .ok (.aload_n 0, 1) := by decide +kernel
theorem d_R_frame_94 : decode b_R_frame 94 = .ok (.getfield 48, 3) := by decide +kernel
theorem d_R_frame_97 : decode b_R_frame 97 = .ok (.iload_n 1, 1) := by decide +kernel
theorem d_R_frame_98 : decode b_R_frame 98 = .ok (.iaload, 1) := by decide +kernel
theorem d_R_frame_99 : decode b_R_frame 99 = .ok (.ifCond .lt 7, 3) := by decide +kernel
theorem d_R_frame_102 : decode b_R_frame 102 = .ok (.iconst 1, 1) := by decide +kernel
theorem d_R_frame_103 : decode b_R_frame 103 = .ok (.goto 4, 3) := by decide +kernel
theorem d_R_frame_106 : decode b_R_frame 106 = .ok (.iconst 0, 1) := by decide +kernel
theorem d_R_frame_107 : decode b_R_frame 107 = .ok (.ireturn, 1) := by decide +kernel
theorem d_R_frame_108 : decode b_R_frame 108 = .ok (.aload_n 0, 1) := by decide +kernel
theorem d_R_frame_109 : decode b_R_frame 109 = .ok (.getfield 48, 3) := by decide +kernel
theorem d_R_frame_112 : decode b_R_frame 112 = .ok (.iload_n 1, 1) := by decide +kernel
theorem d_R_frame_113 : decode b_R_frame 113 = .ok (.iaload, 1) := by decide +kernel
theorem d_R_frame_114 : decode b_R_frame 114 = .ok (.ireturn, 1) := by decide +kernel
set_option maxRecDepth 20000 in
theorem g_R_frame_2 : GoodIn (kws (y_R_frame) b_R_frame 3 (some .int)) (wsS R_R 122 y_R_isFrame (kws (y_R_isFrame) b_R_isFrame 1 (some .boolean))) := kwS m_671 m_672 m_6 m_673
set_option maxRecDepth 20000 in
theorem g_R_frame_24 : GoodIn (kws (y_R_frame) b_R_frame 3 (some .int)) (wsV R_R 82 R_R y_R_refused (kws (y_R_refused) b_R_refused 4 (some .boolean))) := kwV m_604 m_606 ms_12 m_6 m_607
set_option maxRecDepth 20000 in
theorem g_R_frame_11 : GoodIn (kws (y_R_frame) b_R_frame 3 (some .int)) (wsS R_R 115 y_R_in (kws (y_R_in) b_R_in 3 (some .boolean))) := kwS m_636 m_637 m_6 m_638
theorem d_R_log_0 : decode b_R_log 0 = .ok (.aload_n 0, 1) := by decide +kernel
theorem d_R_log_1 : decode b_R_log 1 = .ok (.iload_n 1, 1) := by decide +kernel
theorem d_R_log_2 : decode b_R_log 2 = .ok (.iconst 0, 1) := by decide +kernel
theorem d_R_log_3 : decode b_R_log 3 = .ok (.iconst 2, 1) := by decide +kernel
theorem d_R_log_4 : decode b_R_log 4 = .ok (.invokestatic 115, 3) := by decide +kernel
theorem d_R_log_7 : decode b_R_log 7 = .ok (.ifCond .ne 7, 3) := by decide +kernel
theorem d_R_log_10 : decode b_R_log 10 = .ok (.iconst 1, 1) := by decide +kernel
theorem d_R_log_11 : decode b_R_log 11 = .ok (.goto 4, 3) := by decide +kernel
theorem d_R_log_14 : decode b_R_log 14 = .ok (.iconst 0, 1) := by decide +kernel
theorem d_R_log_15 : decode b_R_log 15 = .ok (.iconst 0, 1) := by decide +kernel
theorem d_R_log_16 : decode b_R_log 16 = .ok (.iconst 0, 1) := by decide +kernel
theorem d_R_log_17 : decode b_R_log 17 = .ok (.invokevirtual 82, 3) := by decide +kernel
theorem d_R_log_20 : decode b_R_log 20 = .ok (.ifCond .eq 5, 3) := by decide +kernel
theorem d_R_log_23 : decode b_R_log 23 = .ok (.iconst 0, 1) := by decide +kernel
theorem d_R_log_24 : decode b_R_log 24 = .ok (.ireturn, 1) := by decide +kernel
theorem d_R_log_25 : decode b_R_log 25 = .ok (.iload_n 1, 1) := by decide +kernel
theorem d_R_log_26 : decode b_R_log 26 = .ok (.ifCond .ne 10, 3) := by decide +kernel
theorem d_R_log_29 : decode b_R_log 29 = .ok (.aload_n 0, 1) := by decide +kernel
theorem d_R_log_30 : decode b_R_log 30 = .ok (.getfield 126, 3) := by decide +kernel
theorem d_R_log_33 : decode b_R_log 33 = .ok (.goto 19, 3) := by decide +kernel
theorem d_R_log_36 : decode b_R_log 36 = .ok (.iload_n 1, 1) := by decide +kernel
theorem d_R_log_37 : decode b_R_log 37 = .ok (.iconst 1, 1) := by decide +kernel
theorem d_R_log_38 : decode b_R_log 38 = .ok (.if_icmp .ne 10, 3) := by decide +kernel
theorem d_R_log_41 : decode b_R_log 41 = .ok (.aload_n 0, 1) := by decide +kernel
theorem d_R_log_42 : decode b_R_log 42 = .ok (.getfield 63, 3) := by decide +kernel
theorem d_R_log_45 : decode b_R_log 45 = .ok (.goto 7, 3) := by decide +kernel
theorem d_R_log_48 : decode b_R_log 48 = .ok (.aload_n 0, 1) := by decide +kernel
theorem d_R_log_49 : decode b_R_log 49 = .ok (.getfield 66, 3) := by decide +kernel
theorem d_R_log_52 : decode b_R_log 52 = .ok (.ireturn, 1) := by decide +kernel
set_option maxRecDepth 20000 in
theorem g_R_log_4 : GoodIn (kws (y_R_log) b_R_log 2 (some .int)) (wsS R_R 115 y_R_in (kws (y_R_in) b_R_in 3 (some .boolean))) := kwS m_636 m_637 m_6 m_638
set_option maxRecDepth 20000 in
theorem g_R_log_17 : GoodIn (kws (y_R_log) b_R_log 2 (some .int)) (wsV R_R 82 R_R y_R_refused (kws (y_R_refused) b_R_refused 4 (some .boolean))) := kwV m_604 m_606 ms_12 m_6 m_607
theorem d_R_onMedium_0 : decode b_R_onMedium 0 = .ok (.aload_n 0, 1) := by decide +kernel
theorem d_R_onMedium_1 : decode b_R_onMedium 1 = .ok (.iload_n 1, 1) := by decide +kernel
theorem d_R_onMedium_2 : decode b_R_onMedium 2 = .ok (.iconst 0, 1) := by decide +kernel
theorem d_R_onMedium_3 : decode b_R_onMedium 3 = .ok (.sipush 255, 3) := by decide +kernel
theorem d_R_onMedium_6 : decode b_R_onMedium 6 = .ok (.invokestatic 115, 3) := by decide +kernel
theorem d_R_onMedium_9 : decode b_R_onMedium 9 = .ok (.ifCond .eq 13, 3) := by decide +kernel
theorem d_R_onMedium_12 : decode b_R_onMedium 12 = .ok (.iload_n 2, 1) := by decide +kernel
theorem d_R_onMedium_13 : decode b_R_onMedium 13 = .ok (.iconst 0, 1) := by decide +kernel
theorem d_R_onMedium_14 : decode b_R_onMedium 14 = .ok (.bipush 63, 2) := by decide +kernel
theorem d_R_onMedium_16 : decode b_R_onMedium 16 = .ok (.invokestatic 115, 3) := by decide +kernel
theorem d_R_onMedium_19 : decode b_R_onMedium 19 = .ok (.ifCond .ne 7, 3) := by decide +kernel
theorem d_R_onMedium_22 : decode b_R_onMedium 22 = .ok (.iconst 1, 1) := by decide +kernel
theorem d_R_onMedium_23 : decode b_R_onMedium 23 = .ok (.goto 4, 3) := by decide +kernel
theorem d_R_onMedium_26 : decode b_R_onMedium 26 = .ok (.iconst 0, 1) := by decide +kernel
theorem d_R_onMedium_27 : decode b_R_onMedium 27 = .ok (.iconst 0, 1) := by decide +kernel
theorem d_R_onMedium_28 : decode b_R_onMedium 28 = .ok (.iconst 0, 1) := by decide +kernel
theorem d_R_onMedium_29 : decode b_R_onMedium 29 = .ok (.invokevirtual 82, 3) := by decide +kernel
theorem d_R_onMedium_32 : decode b_R_onMedium 32 = .ok (.ifCond .eq 7, 3) := by decide +kernel
theorem d_R_onMedium_35 : decode b_R_onMedium 35 = .ok (.iconst 0, 1) := by decide +kernel
theorem d_R_onMedium_36 : decode b_R_onMedium 36 = .ok (.goto 14, 3) := by decide +kernel
theorem d_R_onMedium_39 : decode b_R_onMedium 39 = .ok (.aload_n 0, 1) := by decide +kernel
theorem d_R_onMedium_40 : decode b_R_onMedium 40 = .ok (.getfield 7, 3) := by decide +kernel
theorem d_R_onMedium_43 : decode b_R_onMedium 43 = .ok (.bipush 64, 2) := by decide +kernel
theorem d_R_onMedium_45 : decode b_R_onMedium 45 = .ok (.iload_n 1, 1) := by decide +kernel
theorem d_R_onMedium_46 : decode b_R_onMedium 46 = .ok (.imul, 1) := by decide +kernel
theorem d_R_onMedium_47 : decode b_R_onMedium 47 = .ok (.iload_n 2, 1) := by decide +kernel
theorem d_R_onMedium_48 : decode b_R_onMedium 48 = .ok (.iadd, 1) := by decide +kernel
theorem d_R_onMedium_49 : decode b_R_onMedium 49 = .ok (.iaload, 1) := by decide +kernel
theorem d_R_onMedium_50 : decode b_R_onMedium 50 = .ok (.ireturn, 1) := by decide +kernel
set_option maxRecDepth 20000 in
theorem g_R_onMedium_6 : GoodIn (kws (y_R_onMedium) b_R_onMedium 3 (some .int)) (wsS R_R 115 y_R_in (kws (y_R_in) b_R_in 3 (some .boolean))) := kwS m_636 m_637 m_6 m_638
set_option maxRecDepth 20000 in
theorem g_R_onMedium_29 : GoodIn (kws (y_R_onMedium) b_R_onMedium 3 (some .int)) (wsV R_R 82 R_R y_R_refused (kws (y_R_refused) b_R_refused 4 (some .boolean))) := kwV m_604 m_606 ms_12 m_6 m_607
set_option maxRecDepth 20000 in
theorem g_R_onMedium_16 : GoodIn (kws (y_R_onMedium) b_R_onMedium 3 (some .int)) (wsS R_R 115 y_R_in (kws (y_R_in) b_R_in 3 (some .boolean))) := kwS m_636 m_637 m_6 m_638
theorem d_R_oldest_0 : decode b_R_oldest 0 = .ok (.aload_n 0, 1) := by decide +kernel
theorem d_R_oldest_1 : decode b_R_oldest 1 = .ok (.iconst 0, 1) := by decide +kernel
theorem d_R_oldest_2 : decode b_R_oldest 2 = .ok (.putfield 57, 3) := by decide +kernel
theorem d_R_oldest_5 : decode b_R_oldest 5 = .ok (.iload_n 1, 1) := by decide +kernel
theorem d_R_oldest_6 : decode b_R_oldest 6 = .ok (.ifCond .ge 7, 3) := by decide +kernel
theorem d_R_oldest_9 : decode b_R_oldest 9 = .ok (.iconst (-1), 1) := by decide +kernel
theorem d_R_oldest_10 : decode b_R_oldest 10 = .ok (.goto 8, 3) := by decide +kernel
theorem d_R_oldest_13 : decode b_R_oldest 13 = .ok (.aload_n 0, 1) := by decide +kernel
theorem d_R_oldest_14 : decode b_R_oldest 14 = .ok (.iload_n 1, 1) := by decide +kernel
theorem d_R_oldest_15 : decode b_R_oldest 15 = .ok (.invokevirtual 137, 3) := by decide +kernel
theorem d_R_oldest_18 : decode b_R_oldest 18 = .ok (.ireturn, 1) := by decide +kernel
set_option maxRecDepth 20000 in
theorem g_R_oldest_15 : GoodIn (kws (y_R_oldest) b_R_oldest 2 (some .int)) (wsV R_R 137 R_R y_R_kth (kws (y_R_kth) b_R_kth 6 (some .int))) := kwV m_702 m_704 ms_24 m_6 m_705
theorem d_R_change_0 : decode b_R_change 0 = .ok (.aload_n 0, 1) := by decide +kernel
theorem d_R_change_1 : decode b_R_change 1 = .ok (.aload_n 0, 1) := by decide +kernel
theorem d_R_change_2 : decode b_R_change 2 = .ok (.getfield 69, 3) := by decide +kernel
theorem d_R_change_5 : decode b_R_change 5 = .ok (.ifCond .ne 19, 3) := by decide +kernel
theorem d_R_change_8 : decode b_R_change 8 = .ok (.iload_n 1, 1) := by decide +kernel
theorem d_R_change_9 : decode b_R_change 9 = .ok (.invokestatic 122, 3) := by decide +kernel
theorem d_R_change_12 : decode b_R_change 12 = .ok (.ifCond .eq 16, 3) := by decide +kernel
theorem d_R_change_15 : decode b_R_change 15 = .ok (.aload_n 0, 1) := by decide +kernel
theorem d_R_change_16 : decode b_R_change 16 = .ok (.getfield 42, 3) := by decide +kernel
theorem d_R_change_19 : decode b_R_change 19 = .ok (.iload_n 1, 1) := by decide +kernel
theorem d_R_change_20 : decode b_R_change 20 = .ok (.iaload, 1) := by decide +kernel
theorem d_R_change_21 : decode b_R_change 21 = .ok (.ifCond .ne 7, 3) := by decide +kernel
theorem d_R_change_24 : decode b_R_change 24 = .ok (.iconst 1, 1) := by decide +kernel
theorem d_R_change_25 : decode b_R_change 25 = .ok (.goto 4, 3) := by decide +kernel
theorem d_R_change_28 : decode b_R_change 28 = .ok (.iconst 0, 1) := by decide +kernel
theorem d_R_change_29 : decode b_R_change 29 = .ok (.iload_n 1, 1) := by decide +kernel
theorem d_R_change_30 : decode b_R_change 30 = .ok (.invokestatic 122, 3) := by decide +kernel
theorem d_R_change_33 : decode b_R_change 33 = .ok (.ifCond .eq 13, 3) := by decide +kernel
theorem d_R_change_36 : decode b_R_change 36 = .ok (.iload_n 2, 1) := by decide +kernel
theorem d_R_change_37 : decode b_R_change 37 = .ok (.iconst 1, 1) := by decide +kernel
theorem d_R_change_38 : decode b_R_change 38 = .ok (.bipush 63, 2) := by decide +kernel
theorem d_R_change_40 : decode b_R_change 40 = .ok (.invokestatic 115, 3) := by decide +kernel
theorem d_R_change_43 : decode b_R_change 43 = .ok (.ifCond .ne 7, 3) := by decide +kernel
theorem d_R_change_46 : decode b_R_change 46 = .ok (.iconst 1, 1) := by decide +kernel
theorem d_R_change_47 : decode b_R_change 47 = .ok (.goto 4, 3) := by decide +kernel
theorem d_R_change_50 : decode b_R_change 50 = .ok (.iconst 0, 1) := by decide +kernel
theorem d_R_change_51 : decode b_R_change 51 = .ok (.iconst 0, 1) := by decide +kernel
theorem d_R_change_52 : decode b_R_change 52 = .ok (.invokevirtual 82, 3) := by decide +kernel
theorem d_R_change_55 : decode b_R_change 55 = .ok (.ifCond .eq 5, 3) := by decide +kernel
theorem d_R_change_58 : decode b_R_change 58 = .ok (.iconst 0, 1) := by decide +kernel
theorem d_R_change_59 : decode b_R_change 59 = .ok (.ireturn, 1) := by decide +kernel
theorem d_R_change_60 : decode b_R_change 60 = .ok (.aload_n 0, 1) := by decide +kernel
theorem d_R_change_61 : decode b_R_change 61 = .ok (.getfield 66, 3) := by decide +kernel
theorem d_R_change_64 : decode b_R_change 64 = .ok (.aload_n 0, 1) := by decide +kernel
theorem d_R_change_65 : decode b_R_change 65 = .ok (.getfield 126, 3) := by decide +kernel
theorem d_R_change_68 : decode b_R_change 68 = .ok (.isub, 1) := by decide +kernel
theorem d_R_change_69 : decode b_R_change 69 = .ok (.bipush 8, 2) := by decide +kernel
theorem d_R_change_71 : decode b_R_change 71 = .ok (.iadd, 1) := by decide +kernel
theorem d_R_change_72 : decode b_R_change 72 = .ok (.ldc 129, 2) := by decide +kernel
theorem d_R_change_74 : decode b_R_change 74 = .ok (.if_icmp .le 5, 3) := by decide +kernel
theorem d_R_change_77 : decode b_R_change 77 = .ok (.iconst (-1), 1) := by decide +kernel
theorem d_R_change_78 : decode b_R_change 78 = .ok (.ireturn, 1) := by decide +kernel
theorem d_R_change_79 : decode b_R_change 79 = .ok (.aload_n 0, 1) := by decide +kernel
theorem d_R_change_80 : decode b_R_change 80 = .ok (.getfield 66, 3) := by decide +kernel
theorem d_R_change_83 : decode b_R_change 83 = .ok (.invokestatic 130, 3) := by decide +kernel
theorem d_R_change_86 : decode b_R_change 86 = .ok (.istore 4, 2) := by decide +kernel
theorem d_R_change_88 : decode b_R_change 88 = .ok (.aload_n 0, 1) := by decide +kernel
theorem d_R_change_89 : decode b_R_change 89 = .ok (.getfield 23, 3) := by decide +kernel
theorem d_R_change_92 : decode b_R_change 92 = .ok (.iload 4, 2) := by decide +kernel
theorem d_R_change_94 : decode b_R_change 94 = .ok (.aload_n 0, 1) := by decide +kernel
theorem d_R_change_95 : decode b_R_change 95 = .ok (.getfield 39, 3) := by decide +kernel
theorem d_R_change_98 : decode b_R_change 98 = .ok (.iload_n 1, 1) := by decide +kernel
theorem d_R_change_99 : decode b_R_change 99 = .ok (.iaload, 1) := by decide +kernel
theorem d_R_change_100 : decode b_R_change 100 = .ok (.iastore, 1) := by decide +kernel
theorem d_R_change_101 : decode b_R_change 101 = .ok (.aload_n 0, 1) := by decide +kernel
theorem d_R_change_102 : decode b_R_change 102 = .ok (.getfield 26, 3) := by decide +kernel
theorem d_R_change_105 : decode b_R_change 105 = .ok (.iload 4, 2) := by decide +kernel
theorem d_R_change_107 : decode b_R_change 107 = .ok (.iload_n 2, 1) := by decide +kernel
theorem d_R_change_108 : decode b_R_change 108 = .ok (.iastore, 1) := by decide +kernel
theorem d_R_change_109 : decode b_R_change 109 = .ok (.aload_n 0, 1) := by decide +kernel
theorem d_R_change_110 : decode b_R_change 110 = .ok (.getfield 29, 3) := by decide +kernel
theorem d_R_change_113 : decode b_R_change 113 = .ok (.iload 4, 2) := by decide +kernel
theorem d_R_change_115 : decode b_R_change 115 = .ok (.iload_n 3, 1) := by decide +kernel
theorem d_R_change_116 : decode b_R_change 116 = .ok (.iastore, 1) := by decide +kernel
theorem d_R_change_117 : decode b_R_change 117 = .ok (.aload_n 0, 1) := by decide +kernel
theorem d_R_change_118 : decode b_R_change 118 = .ok (.getfield 32, 3) := by decide +kernel
theorem d_R_change_121 : decode b_R_change 121 = .ok (.iload 4, 2) := by decide +kernel
theorem d_R_change_123 : decode b_R_change 123 = .ok (.iconst 0, 1) := by decide +kernel
theorem d_R_change_124 : decode b_R_change 124 = .ok (.bastore, 1) := by decide +kernel
theorem d_R_change_125 : decode b_R_change 125 = .ok (.aload_n 0, 1) := by decide +kernel
theorem d_R_change_126 : decode b_R_change 126 = .ok (.iload_n 1, 1) := by decide +kernel
theorem d_R_change_127 : decode b_R_change 127 = .ok (.iload_n 2, 1) := by decide +kernel
theorem d_R_change_128 : decode b_R_change 128 = .ok (.iload_n 3, 1) := by decide +kernel
theorem d_R_change_129 : decode b_R_change 129 = .ok (.aload_n 0, 1) := by decide +kernel
theorem d_R_change_130 : decode b_R_change 130 = .ok (.getfield 66, 3) := by decide +kernel
theorem d_R_change_133 : decode b_R_change 133 = .ok (.invokevirtual 133, 3) := by decide +kernel
theorem d_R_change_136 : decode b_R_change 136 = .ok (.aload_n 0, 1) := by decide +kernel
theorem d_R_change_137 : decode b_R_change 137 = .ok (.aload_n 0, 1) := by decide +kernel
theorem d_R_change_138 : decode b_R_change 138 = .ok (.getfield 66, 3) := by decide +kernel
theorem d_R_change_141 : decode b_R_change 141 = .ok (.bipush 8, 2) := by decide +kernel
theorem d_R_change_143 : decode b_R_change 143 = .ok (.iadd, 1) := by decide +kernel
theorem d_R_change_144 : decode b_R_change 144 = .ok (.putfield 66, 3) := by decide +kernel
theorem d_R_change_147 : decode b_R_change 147 = .ok (.aload_n 0, 1) := by decide +kernel
theorem d_R_change_148 : decode b_R_change 148 = .ok (.getfield 66, 3) := by decide +kernel
theorem d_R_change_151 : decode b_R_change 151 = .ok (.bipush 8, 2) := by decide +kernel
theorem d_R_change_153 : decode b_R_change 153 = .ok (.isub, 1) := by decide +kernel
theorem d_R_change_154 : decode b_R_change 154 = .ok (.ireturn, 1) := by decide +kernel
set_option maxRecDepth 20000 in
theorem g_R_change_30 : GoodIn (kws (y_R_change) b_R_change 5 (some .int)) (wsS R_R 122 y_R_isFrame (kws (y_R_isFrame) b_R_isFrame 1 (some .boolean))) := kwS m_671 m_672 m_6 m_673
set_option maxRecDepth 20000 in
theorem g_R_change_52 : GoodIn (kws (y_R_change) b_R_change 5 (some .int)) (wsV R_R 82 R_R y_R_refused (kws (y_R_refused) b_R_refused 4 (some .boolean))) := kwV m_604 m_606 ms_12 m_6 m_607
set_option maxRecDepth 20000 in
theorem g_R_change_40 : GoodIn (kws (y_R_change) b_R_change 5 (some .int)) (wsS R_R 115 y_R_in (kws (y_R_in) b_R_in 3 (some .boolean))) := kwS m_636 m_637 m_6 m_638
set_option maxRecDepth 20000 in
theorem g_R_change_9 : GoodIn (kws (y_R_change) b_R_change 5 (some .int)) (wsS R_R 122 y_R_isFrame (kws (y_R_isFrame) b_R_isFrame 1 (some .boolean))) := kwS m_671 m_672 m_6 m_673
set_option maxRecDepth 20000 in
theorem g_R_change_83 : GoodIn (kws (y_R_change) b_R_change 5 (some .int)) (wsS R_R 130 y_R_rowOf (kws (y_R_rowOf) b_R_rowOf 1 (some .int))) := kwS m_679 m_680 m_6 m_681
set_option maxRecDepth 20000 in
theorem g_R_change_133 : GoodIn (kws (y_R_change) b_R_change 5 (some .int)) (wsV R_R 133 R_R y_R_put (kws (y_R_put) b_R_put 5 none)) := kwV m_682 m_684 ms_23 m_6 m_685
def qCutA (σ : Mem) (n : Int32) : Mem :=
  if ((-1)) ≤ n then (mup (mup σ 0 0 (nI 0)) 0 19 n)
  else (mup σ 0 0 (nI 1))
set_option maxHeartbeats 4000000 in
set_option maxRecDepth 100000 in
theorem c_R_cutAfter (σ : Mem) (n : Int32) : KVR l D cI cF cZ cJ ad y_R_cutAfter b_R_cutAfter 2 1 30 [.ref (ad 0), .int n] σ (fun σ' => σ' = qCutA σ n) := by
  refine KV.of (by decide) (Nat.le_of_ble_eq_true rfl) ?_
  intro p e s m args below meth c A ls F w hl hr hlk
  obtain ⟨hx, hb, hml, hown, hts⟩ := id F
  have hl : lv_has ls 2 [(0, .ref (ad 0)), (1, .int n)] := hl
  refine lv_aload_n hx hb d_R_cutAfter_0 rfl (lv_at hl 0 rfl) ?_
  refine lv_iload_n hx hb d_R_cutAfter_1 rfl (lv_at hl 1 rfl) ?_
  refine lv_iconst (v := -1) hx hb d_R_cutAfter_2 (by decide) ?_
  refine lv_icmp_ge (tgt := 10) hx hb d_R_cutAfter_3 (by decide) (fun c1 => ?_) (fun c1 => ?_)
  · refine lv_iconst (v := nI 0) hx hb d_R_cutAfter_10 (by decide) ?_
    refine lv_iconst (v := nI 0) hx hb d_R_cutAfter_11 (by decide) ?_
    refine lv_iconst (v := nI 0) hx hb d_R_cutAfter_12 (by decide) ?_
    refine mr_callVi (As := [.int (nI 0), .int (nI 0), .int (nI 0)]) F w hl.1 (c_R_refused σ (nI 0) (nI 0) (nI 0)) (cwV 3 hts g_R_cutAfter_13 rfl rfl rfl (by decide +kernel) ⟨Nat.le_of_ble_eq_true rfl, Nat.le_of_ble_eq_true rfl⟩) rfl (by decide) rfl rfl rfl (Nat.le_of_ble_eq_true rfl) d_R_cutAfter_13 ⟨Nat.zero_le _, Nat.zero_le _⟩ (fun r2 σ3 H locs e4 w => ?_)
    have e4_r := e4.1.symm
    have e4_s := e4.2.symm
    clear e4
    rw [show σ3 = mup σ 0 0 (nI 0) from (by subst e4_r e4_s; rfl)] at w
    refine nr_as (k := 0) (by subst e4_r e4_s; rfl) ?_
    clear e4_r e4_s
    refine lv_if_ne (tgt := 24) hx hb d_R_cutAfter_16 (by decide) (fun c5 => absurd c5 (by decide)) (fun _ => ?_)
    refine lv_aload_n hx hb d_R_cutAfter_19 rfl (lv_at hl 0 rfl) ?_
    refine lv_iload_n hx hb d_R_cutAfter_20 rfl (lv_at hl 1 rfl) ?_
    refine mr_put F w (kin in_R) t_R t_R_ok n_R 0 (by decide) rfl rfl 19 (by decide) (kws_in m_547) (fun _ h => h) rfl rfl rfl (Nat.le_of_ble_eq_true rfl) rfl d_R_cutAfter_21 (fun H locs w => ?_)
    exact mr_vret F w hr hlk (by unfold qCutA; rw [if_pos c1]; try rfl) d_R_cutAfter_24
  · refine lv_iconst (v := nI 1) hx hb d_R_cutAfter_6 (by decide) ?_
    refine lv_goto (tgt := 11) hx hb d_R_cutAfter_7 (by decide) ?_
    refine lv_iconst (v := nI 0) hx hb d_R_cutAfter_11 (by decide) ?_
    refine lv_iconst (v := nI 0) hx hb d_R_cutAfter_12 (by decide) ?_
    refine mr_callVi (As := [.int (nI 1), .int (nI 0), .int (nI 0)]) F w hl.1 (c_R_refused σ (nI 1) (nI 0) (nI 0)) (cwV 3 hts g_R_cutAfter_13 rfl rfl rfl (by decide +kernel) ⟨Nat.le_of_ble_eq_true rfl, Nat.le_of_ble_eq_true rfl⟩) rfl (by decide) rfl rfl rfl (Nat.le_of_ble_eq_true rfl) d_R_cutAfter_13 ⟨Nat.zero_le _, Nat.zero_le _⟩ (fun r6 σ7 H locs e8 w => ?_)
    have e8_r := e8.1.symm
    have e8_s := e8.2.symm
    clear e8
    rw [show σ7 = mup σ 0 0 (nI 1) from (by subst e8_r e8_s; rfl)] at w
    refine nr_as (k := 1) (by subst e8_r e8_s; rfl) ?_
    clear e8_r e8_s
    refine lv_if_ne (tgt := 24) hx hb d_R_cutAfter_16 (by decide) (fun _ => ?_) (fun c9 => absurd c9 (by decide))
    exact mr_vret F w hr hlk (by unfold qCutA; rw [if_neg c1]; try rfl) d_R_cutAfter_24
def qCut (σ : Mem)  : Int32 × Mem :=
  if ((mup σ 0 0 (nI 0)) 0 18) = 0 then (nI 1, (qFail (mup σ 0 0 (nI 0))))
  else (nI 0, mup σ 0 0 (nI 0))
set_option maxHeartbeats 4000000 in
set_option maxRecDepth 100000 in
theorem c_R_cut (σ : Mem) : KIR l D cI cF cZ cJ ad y_R_cut b_R_cut 1 (some .boolean) 2 50 [.ref (ad 0)] σ (fun r σ' => r = (qCut σ).1 ∧ σ' = (qCut σ).2) := by
  refine KI.of (by decide) (Nat.le_of_ble_eq_true rfl) ?_
  intro p e s m args below meth c A ls F w hl hr hlk
  obtain ⟨hx, hb, hml, hown, hts⟩ := id F
  have hl : lv_has ls 1 [(0, .ref (ad 0))] := hl
  refine lv_aload_n hx hb d_R_cut_0 rfl (lv_at hl 0 rfl) ?_
  refine lv_iconst (v := nI 0) hx hb d_R_cut_1 (by decide) ?_
  refine mr_put F w (kin in_R) t_R t_R_ok n_R 0 (by decide) rfl rfl 0 (by decide) (kws_in m_528) (fun _ h => h) rfl rfl rfl (Nat.le_of_ble_eq_true rfl) rfl d_R_cut_2 (fun H locs w => ?_)
  refine lv_aload_n hx hb d_R_cut_5 rfl (lv_at hl 0 rfl) ?_
  refine mr_get F w (kin in_R) 0 (by decide) rfl rfl 18 (by decide) (kws_in m_546) (fun _ h => h) rfl d_R_cut_6 ?_
  refine lv_if_eq (tgt := 14) hx hb d_R_cut_9 (by decide) (fun c1 => ?_) (fun c1 => ?_)
  · refine lv_aload_n hx hb d_R_cut_14 rfl (lv_at hl 0 rfl) ?_
    refine mr_callVv (As := []) F w hl.1 (c_R_fail (mup σ 0 0 (nI 0))) (cwV 0 hts g_R_cut_15 rfl rfl rfl (by decide +kernel) ⟨Nat.le_of_ble_eq_true rfl, Nat.le_of_ble_eq_true rfl⟩) rfl (by decide) rfl rfl rfl (Nat.le_of_ble_eq_true rfl) d_R_cut_15 ⟨Nat.zero_le _, Nat.zero_le _⟩ (fun σ3 H locs e4 w => ?_)
    replace e4 := Eq.symm e4
    refine lv_iconst (v := nI 1) hx hb d_R_cut_18 (by decide) ?_
    exact mr_zret F w hr hlk (Or.inr rfl) (by subst e4; unfold qCut; rw [if_pos c1]; exact ⟨rfl, rfl⟩) d_R_cut_19
  · refine lv_iconst (v := nI 0) hx hb d_R_cut_12 (by decide) ?_
    exact mr_zret F w hr hlk (Or.inl rfl) (by unfold qCut; rw [if_neg c1]; exact ⟨rfl, rfl⟩) d_R_cut_13
def qForceP (σ : Mem)  : Int32 × Mem :=
  if σ 0 18 = 0 then (if (((qFT (mup (mup σ 0 0 (nI 0)) 0 21 (nI 0)) ((mup (mup σ 0 0 (nI 0)) 0 21 (nI 0)) 0 11)).2) 0 21) = 0 then (((qFT (mup (mup σ 0 0 (nI 0)) 0 21 (nI 0)) ((mup (mup σ 0 0 (nI 0)) 0 21 (nI 0)) 0 11)).1), ((qFT (mup (mup σ 0 0 (nI 0)) 0 21 (nI 0)) ((mup (mup σ 0 0 (nI 0)) 0 21 (nI 0)) 0 11)).2))
    else ((-1), ((qFT (mup (mup σ 0 0 (nI 0)) 0 21 (nI 0)) ((mup (mup σ 0 0 (nI 0)) 0 21 (nI 0)) 0 11)).2)))
  else (nI 0, mup σ 0 0 (nI 1))
set_option maxHeartbeats 4000000 in
set_option maxRecDepth 100000 in
theorem c_R_force (σ : Mem) : KIR l D cI cF cZ cJ ad y_R_force b_R_force 2 (some .int) 4 100 [.ref (ad 0)] σ (fun r σ' => r = (qForceP σ).1 ∧ σ' = (qForceP σ).2) := by
  refine KI.of (by decide) (Nat.le_of_ble_eq_true rfl) ?_
  intro p e s m args below meth c A ls F w hl hr hlk
  obtain ⟨hx, hb, hml, hown, hts⟩ := id F
  have hl : lv_has ls 2 [(0, .ref (ad 0))] := hl
  refine lv_aload_n hx hb d_R_force_0 rfl (lv_at hl 0 rfl) ?_
  refine lv_aload_n hx hb d_R_force_1 rfl (lv_at hl 0 rfl) ?_
  refine mr_get F w (kin in_R) 0 (by decide) rfl rfl 18 (by decide) (kws_in m_546) (fun _ h => h) rfl d_R_force_2 ?_
  refine lv_iconst (v := nI 0) hx hb d_R_force_5 (by decide) ?_
  refine lv_iconst (v := nI 0) hx hb d_R_force_6 (by decide) ?_
  refine mr_callVi (As := [.int (σ 0 18), .int (nI 0), .int (nI 0)]) F w hl.1 (c_R_refused σ (σ 0 18) (nI 0) (nI 0)) (cwV 3 hts g_R_force_7 rfl rfl rfl (by decide +kernel) ⟨Nat.le_of_ble_eq_true rfl, Nat.le_of_ble_eq_true rfl⟩) rfl (by decide) rfl rfl rfl (Nat.le_of_ble_eq_true rfl) d_R_force_7 ⟨Nat.zero_le _, Nat.zero_le _⟩ (fun r1 σ2 H locs e3 w => ?_)
  have e3_r := e3.1.symm
  have e3_s := e3.2.symm
  clear e3
  rcases Classical.em (σ 0 18 = 0) with c4 | c4
  · rw [show σ2 = mup σ 0 0 (nI 0) from (by subst e3_r e3_s; unfold qRef; rw [if_pos c4]; try rfl)] at w
    refine nr_as (k := 0) (by subst e3_r e3_s; unfold qRef; rw [if_pos c4]; try rfl) ?_
    clear e3_r e3_s
    refine lv_if_eq (tgt := 15) hx hb d_R_force_10 (by decide) (fun _ => ?_) (fun c5 => absurd c5 (by decide))
    refine lv_aload_n hx hb d_R_force_15 rfl (lv_at hl 0 rfl) ?_
    refine lv_iconst (v := nI 0) hx hb d_R_force_16 (by decide) ?_
    refine mr_put F w (kin in_R) t_R t_R_ok n_R 0 (by decide) rfl rfl 21 (by decide) (kws_in m_549) (fun _ h => h) rfl rfl rfl (Nat.le_of_ble_eq_true rfl) rfl d_R_force_17 (fun H locs w => ?_)
    refine lv_aload_n hx hb d_R_force_20 rfl (lv_at hl 0 rfl) ?_
    refine lv_aload_n hx hb d_R_force_21 rfl (lv_at hl 0 rfl) ?_
    refine mr_get F w (kin in_R) 0 (by decide) rfl rfl 11 (by decide) (kws_in m_539) (fun _ h => h) rfl d_R_force_22 ?_
    refine mr_callVi (As := [.int ((mup (mup σ 0 0 (nI 0)) 0 21 (nI 0)) 0 11)]) F w hl.1 (c_R_forceTo (mup (mup σ 0 0 (nI 0)) 0 21 (nI 0)) ((mup (mup σ 0 0 (nI 0)) 0 21 (nI 0)) 0 11)) (cwV 1 hts g_R_force_25 rfl rfl rfl (by decide +kernel) ⟨Nat.le_of_ble_eq_true rfl, Nat.le_of_ble_eq_true rfl⟩) rfl (by decide) rfl rfl rfl (Nat.le_of_ble_eq_true rfl) d_R_force_25 ⟨Nat.zero_le _, Nat.zero_le _⟩ (fun r6 σ7 H locs e8 w => ?_)
    have e8_r := e8.1.symm
    have e8_s := e8.2.symm
    clear e8
    refine lv_istore_n (lv' := [(1, .int r6), (0, .ref (ad 0))]) hx hb d_R_force_28 rfl hl (by decide) rfl (fun ls hl => ?_)
    refine lv_aload_n hx hb d_R_force_29 rfl (lv_at hl 1 rfl) ?_
    refine mr_get F w (kin in_R) 0 (by decide) rfl rfl 21 (by decide) (kws_in m_549) (fun _ h => h) rfl d_R_force_30 ?_
    refine lv_if_eq (tgt := 40) hx hb d_R_force_33 (by decide) (fun c9 => ?_) (fun c9 => ?_)
    · refine lv_iload_n hx hb d_R_force_40 rfl (lv_at hl 0 rfl) ?_
      exact mr_iret F w hr hlk (by subst e8_r e8_s; unfold qForceP; rw [if_pos c4, if_pos c9]; exact ⟨rfl, rfl⟩) d_R_force_41
    · refine lv_iconst (v := -1) hx hb d_R_force_36 (by decide) ?_
      refine lv_goto (tgt := 41) hx hb d_R_force_37 (by decide) ?_
      exact mr_iret F w hr hlk (by subst e8_r e8_s; unfold qForceP; rw [if_pos c4, if_neg c9]; exact ⟨rfl, rfl⟩) d_R_force_41
  · rw [show σ2 = mup σ 0 0 (nI 1) from (by subst e3_r e3_s; unfold qRef; rw [if_neg c4]; try rfl)] at w
    refine nr_as (k := 1) (by subst e3_r e3_s; unfold qRef; rw [if_neg c4]; try rfl) ?_
    clear e3_r e3_s
    refine lv_if_eq (tgt := 15) hx hb d_R_force_10 (by decide) (fun c10 => absurd c10 (by decide)) (fun _ => ?_)
    refine lv_iconst (v := nI 0) hx hb d_R_force_13 (by decide) ?_
    exact mr_iret F w hr hlk (by unfold qForceP; rw [if_neg c4]; exact ⟨rfl, rfl⟩) d_R_force_14
def qUnfix (σ : Mem) (f : Int32) : Int32 × Mem :=
  if (σ 0 18) = 0 then (if (qInv f (nI 0) (nI 7)) = 0 then (if (qInv f (nI 0) (nI 7)) = 0 then (nI 0, mup σ 0 0 (nI 2))
      else ((mup (mup σ 0 0 (nI 0)) 9 f.toNatClampNeg (((mup σ 0 0 (nI 0)) 9 f.toNatClampNeg) - (nI 1))) 9 f.toNatClampNeg, mup (mup σ 0 0 (nI 0)) 9 f.toNatClampNeg (((mup σ 0 0 (nI 0)) 9 f.toNatClampNeg) - (nI 1))))
    else if (σ 9 f.toNatClampNeg) = 0 then (if (qInv (nI f.toNatClampNeg) (nI 0) (nI 7)) = 0 then (nI 0, mup σ 0 0 (nI 1))
      else (nI 0, mup σ 0 0 (nI 1)))
    else if (qInv (nI f.toNatClampNeg) (nI 0) (nI 7)) = 0 then (nI 0, mup σ 0 0 (nI 2))
    else ((mup (mup σ 0 0 (nI 0)) 9 f.toNatClampNeg (((mup σ 0 0 (nI 0)) 9 f.toNatClampNeg) - (nI 1))) 9 f.toNatClampNeg, mup (mup σ 0 0 (nI 0)) 9 f.toNatClampNeg (((mup σ 0 0 (nI 0)) 9 f.toNatClampNeg) - (nI 1))))
  else if (qInv f (nI 0) (nI 7)) = 0 then (nI 0, mup σ 0 0 (nI 1))
  else (nI 0, mup σ 0 0 (nI 1))
set_option maxHeartbeats 4000000 in
set_option maxRecDepth 100000 in
theorem c_R_unfix (σ : Mem) (f : Int32) : KIR l D cI cF cZ cJ ad y_R_unfix b_R_unfix 2 (some .int) 2 60 [.ref (ad 0), .int f] σ (fun r σ' => r = (qUnfix σ f).1 ∧ σ' = (qUnfix σ f).2) := by
  refine KI.of (by decide) (Nat.le_of_ble_eq_true rfl) ?_
  intro p e s m args below meth c A ls F w hl hr hlk
  obtain ⟨hx, hb, hml, hown, hts⟩ := id F
  have hl : lv_has ls 2 [(0, .ref (ad 0)), (1, .int f)] := hl
  refine lv_aload_n hx hb d_R_unfix_0 rfl (lv_at hl 0 rfl) ?_
  refine lv_aload_n hx hb d_R_unfix_1 rfl (lv_at hl 0 rfl) ?_
  refine mr_get F w (kin in_R) 0 (by decide) rfl rfl 18 (by decide) (kws_in m_546) (fun _ h => h) rfl d_R_unfix_2 ?_
  refine lv_if_ne (tgt := 24) hx hb d_R_unfix_5 (by decide) (fun c1 => ?_) (fun c1 => ?_)
  · refine lv_iconst (v := nI 1) hx hb d_R_unfix_24 (by decide) ?_
    refine lv_goto (tgt := 29) hx hb d_R_unfix_25 (by decide) ?_
    refine lv_iload_n hx hb d_R_unfix_29 rfl (lv_at hl 1 rfl) ?_
    refine mr_callSi (As := [.int f]) F w hl.1 (c_R_isFrame σ f) (cwS 1 hts g_R_unfix_30 rfl rfl rfl (by decide +kernel) ⟨Nat.le_of_ble_eq_true rfl, Nat.le_of_ble_eq_true rfl⟩) rfl rfl (Nat.le_of_ble_eq_true rfl) d_R_unfix_30 ⟨Nat.zero_le _, Nat.zero_le _⟩ (fun r2 σ3 H locs e4 w => ?_)
    obtain ⟨rfl, hs9⟩ := e4
    rw [hs9] at w
    clear hs9
    refine lv_if_ne (tgt := 40) hx hb d_R_unfix_33 (by decide) (fun c5 => ?_) (fun c5 => ?_)
    · have hb6 : f.toNatClampNeg < 8 := (qInv_nat (by decide) (by decide) c5).1.1
      have hb7 : 0 ≤ f.toNatClampNeg := (qInv_nat (by decide) (by decide) c5).2
      refine lv_iconst (v := nI 0) hx hb d_R_unfix_40 (by decide) ?_
      refine lv_iconst (v := nI 0) hx hb d_R_unfix_41 (by decide) ?_
      refine mr_callVi (As := [.int (nI 1), .int (nI 0), .int (nI 0)]) F w hl.1 (c_R_refused σ (nI 1) (nI 0) (nI 0)) (cwV 3 hts g_R_unfix_42 rfl rfl rfl (by decide +kernel) ⟨Nat.le_of_ble_eq_true rfl, Nat.le_of_ble_eq_true rfl⟩) rfl (by decide) rfl rfl rfl (Nat.le_of_ble_eq_true rfl) d_R_unfix_42 ⟨Nat.zero_le _, Nat.zero_le _⟩ (fun r8 σ9 H locs e10 w => ?_)
      have e10_r := e10.1.symm
      have e10_s := e10.2.symm
      clear e10
      rw [show σ9 = mup σ 0 0 (nI 1) from (by subst e10_r e10_s; rfl)] at w
      refine nr_as (k := 1) (by subst e10_r e10_s; rfl) ?_
      clear e10_r e10_s
      refine lv_if_eq (tgt := 50) hx hb d_R_unfix_45 (by decide) (fun c11 => absurd c11 (by decide)) (fun _ => ?_)
      refine lv_iconst (v := nI 0) hx hb d_R_unfix_48 (by decide) ?_
      exact mr_iret F w hr hlk (by unfold qUnfix; rw [if_neg c1, if_neg c5]; exact ⟨rfl, rfl⟩) d_R_unfix_49
    · refine lv_iconst (v := nI 1) hx hb d_R_unfix_36 (by decide) ?_
      refine lv_goto (tgt := 41) hx hb d_R_unfix_37 (by decide) ?_
      refine lv_iconst (v := nI 0) hx hb d_R_unfix_41 (by decide) ?_
      refine mr_callVi (As := [.int (nI 1), .int (nI 1), .int (nI 0)]) F w hl.1 (c_R_refused σ (nI 1) (nI 1) (nI 0)) (cwV 3 hts g_R_unfix_42 rfl rfl rfl (by decide +kernel) ⟨Nat.le_of_ble_eq_true rfl, Nat.le_of_ble_eq_true rfl⟩) rfl (by decide) rfl rfl rfl (Nat.le_of_ble_eq_true rfl) d_R_unfix_42 ⟨Nat.zero_le _, Nat.zero_le _⟩ (fun r12 σ13 H locs e14 w => ?_)
      have e14_r := e14.1.symm
      have e14_s := e14.2.symm
      clear e14
      rw [show σ13 = mup σ 0 0 (nI 1) from (by subst e14_r e14_s; rfl)] at w
      refine nr_as (k := 1) (by subst e14_r e14_s; rfl) ?_
      clear e14_r e14_s
      refine lv_if_eq (tgt := 50) hx hb d_R_unfix_45 (by decide) (fun c15 => absurd c15 (by decide)) (fun _ => ?_)
      refine lv_iconst (v := nI 0) hx hb d_R_unfix_48 (by decide) ?_
      exact mr_iret F w hr hlk (by unfold qUnfix; rw [if_neg c1, if_pos c5]; exact ⟨rfl, rfl⟩) d_R_unfix_49
  · refine lv_iload_n hx hb d_R_unfix_8 rfl (lv_at hl 1 rfl) ?_
    refine mr_callSi (As := [.int f]) F w hl.1 (c_R_isFrame σ f) (cwS 1 hts g_R_unfix_9 rfl rfl rfl (by decide +kernel) ⟨Nat.le_of_ble_eq_true rfl, Nat.le_of_ble_eq_true rfl⟩) rfl rfl (Nat.le_of_ble_eq_true rfl) d_R_unfix_9 ⟨Nat.zero_le _, Nat.zero_le _⟩ (fun r16 σ17 H locs e18 w => ?_)
    obtain ⟨rfl, hs9⟩ := e18
    rw [hs9] at w
    clear hs9
    refine lv_if_eq (tgt := 28) hx hb d_R_unfix_12 (by decide) (fun c19 => ?_) (fun c19 => ?_)
    · refine lv_iconst (v := nI 0) hx hb d_R_unfix_28 (by decide) ?_
      refine lv_iload_n hx hb d_R_unfix_29 rfl (lv_at hl 1 rfl) ?_
      refine mr_callSi (As := [.int f]) F w hl.1 (c_R_isFrame σ f) (cwS 1 hts g_R_unfix_30 rfl rfl rfl (by decide +kernel) ⟨Nat.le_of_ble_eq_true rfl, Nat.le_of_ble_eq_true rfl⟩) rfl rfl (Nat.le_of_ble_eq_true rfl) d_R_unfix_30 ⟨Nat.zero_le _, Nat.zero_le _⟩ (fun r20 σ21 H locs e22 w => ?_)
      obtain ⟨rfl, hs9⟩ := e22
      rw [hs9] at w
      clear hs9
      refine lv_if_ne (tgt := 40) hx hb d_R_unfix_33 (by decide) (fun c23 => ?_) (fun c23 => ?_)
      · have hb24 : f.toNatClampNeg < 8 := (qInv_nat (by decide) (by decide) c23).1.1
        have hb25 : 0 ≤ f.toNatClampNeg := (qInv_nat (by decide) (by decide) c23).2
        refine lv_iconst (v := nI 0) hx hb d_R_unfix_40 (by decide) ?_
        refine lv_iconst (v := nI 0) hx hb d_R_unfix_41 (by decide) ?_
        refine mr_callVi (As := [.int (nI 0), .int (nI 0), .int (nI 0)]) F w hl.1 (c_R_refused σ (nI 0) (nI 0) (nI 0)) (cwV 3 hts g_R_unfix_42 rfl rfl rfl (by decide +kernel) ⟨Nat.le_of_ble_eq_true rfl, Nat.le_of_ble_eq_true rfl⟩) rfl (by decide) rfl rfl rfl (Nat.le_of_ble_eq_true rfl) d_R_unfix_42 ⟨Nat.zero_le _, Nat.zero_le _⟩ (fun r26 σ27 H locs e28 w => ?_)
        have e28_r := e28.1.symm
        have e28_s := e28.2.symm
        clear e28
        rw [show σ27 = mup σ 0 0 (nI 0) from (by subst e28_r e28_s; rfl)] at w
        refine nr_as (k := 0) (by subst e28_r e28_s; rfl) ?_
        clear e28_r e28_s
        refine lv_if_eq (tgt := 50) hx hb d_R_unfix_45 (by decide) (fun _ => ?_) (fun c29 => absurd c29 (by decide))
        refine lv_aload_n hx hb d_R_unfix_50 rfl (lv_at hl 0 rfl) ?_
        refine mr_get F w (kin in_R) 0 (by decide) rfl rfl 14 (by decide) (kws_in m_542) (fun _ h => h) rfl d_R_unfix_51 ?_
        refine lv_iload_n hx hb d_R_unfix_54 rfl (lv_at hl 1 rfl) ?_
        refine nr_as (k := f.toNatClampNeg) (qInv_nat (by decide) (by decide) c23).1.2 ?_
        refine lv_dup2_11 hx hb d_R_unfix_55 rfl rfl ?_
        refine mr_iaN F w 9 0 (by decide) rfl rfl f.toNatClampNeg (by omega) (by decide) rfl d_R_unfix_56 ?_
        refine lv_iconst (v := nI 1) hx hb d_R_unfix_57 (by decide) ?_
        refine lv_isub hx hb d_R_unfix_58 ?_
        refine mr_isN F w 9 0 (by decide) (fun _ => rfl) rfl f.toNatClampNeg (by omega) (by decide) rfl d_R_unfix_59 (fun H locs w => ?_)
        refine lv_aload_n hx hb d_R_unfix_60 rfl (lv_at hl 0 rfl) ?_
        refine mr_get F w (kin in_R) 0 (by decide) rfl rfl 14 (by decide) (kws_in m_542) (fun _ h => h) rfl d_R_unfix_61 ?_
        refine lv_iload_n hx hb d_R_unfix_64 rfl (lv_at hl 1 rfl) ?_
        refine nr_as (k := f.toNatClampNeg) (qInv_nat (by decide) (by decide) c23).1.2 ?_
        refine mr_iaN F w 9 0 (by decide) rfl rfl f.toNatClampNeg (by omega) (by decide) rfl d_R_unfix_65 ?_
        exact mr_iret F w hr hlk (by unfold qUnfix; rw [if_pos c1, if_pos c19, if_neg c23]; exact ⟨rfl, rfl⟩) d_R_unfix_66
      · refine lv_iconst (v := nI 1) hx hb d_R_unfix_36 (by decide) ?_
        refine lv_goto (tgt := 41) hx hb d_R_unfix_37 (by decide) ?_
        refine lv_iconst (v := nI 0) hx hb d_R_unfix_41 (by decide) ?_
        refine mr_callVi (As := [.int (nI 0), .int (nI 1), .int (nI 0)]) F w hl.1 (c_R_refused σ (nI 0) (nI 1) (nI 0)) (cwV 3 hts g_R_unfix_42 rfl rfl rfl (by decide +kernel) ⟨Nat.le_of_ble_eq_true rfl, Nat.le_of_ble_eq_true rfl⟩) rfl (by decide) rfl rfl rfl (Nat.le_of_ble_eq_true rfl) d_R_unfix_42 ⟨Nat.zero_le _, Nat.zero_le _⟩ (fun r30 σ31 H locs e32 w => ?_)
        have e32_r := e32.1.symm
        have e32_s := e32.2.symm
        clear e32
        rw [show σ31 = mup σ 0 0 (nI 2) from (by subst e32_r e32_s; rfl)] at w
        refine nr_as (k := 1) (by subst e32_r e32_s; rfl) ?_
        clear e32_r e32_s
        refine lv_if_eq (tgt := 50) hx hb d_R_unfix_45 (by decide) (fun c33 => absurd c33 (by decide)) (fun _ => ?_)
        refine lv_iconst (v := nI 0) hx hb d_R_unfix_48 (by decide) ?_
        exact mr_iret F w hr hlk (by unfold qUnfix; rw [if_pos c1, if_pos c19, if_pos c23]; exact ⟨rfl, rfl⟩) d_R_unfix_49
    · have hb34 : f.toNatClampNeg < 8 := (qInv_nat (by decide) (by decide) c19).1.1
      have hb35 : 0 ≤ f.toNatClampNeg := (qInv_nat (by decide) (by decide) c19).2
      refine lv_aload_n hx hb d_R_unfix_15 rfl (lv_at hl 0 rfl) ?_
      refine mr_get F w (kin in_R) 0 (by decide) rfl rfl 14 (by decide) (kws_in m_542) (fun _ h => h) rfl d_R_unfix_16 ?_
      refine lv_iload_n hx hb d_R_unfix_19 rfl (lv_at hl 1 rfl) ?_
      refine nr_as (k := f.toNatClampNeg) (qInv_nat (by decide) (by decide) c19).1.2 ?_
      refine mr_iaN F w 9 0 (by decide) rfl rfl f.toNatClampNeg (by omega) (by decide) rfl d_R_unfix_20 ?_
      refine lv_if_ne (tgt := 28) hx hb d_R_unfix_21 (by decide) (fun c36 => ?_) (fun c36 => ?_)
      · refine lv_iconst (v := nI 0) hx hb d_R_unfix_28 (by decide) ?_
        refine lv_iload_n hx hb d_R_unfix_29 rfl (lv_at hl 1 rfl) ?_
        refine nr_as (k := f.toNatClampNeg) (qInv_nat (by decide) (by decide) c19).1.2 ?_
        refine mr_callSi (As := [.int (nI f.toNatClampNeg)]) F w hl.1 (c_R_isFrame σ (nI f.toNatClampNeg)) (cwS 1 hts g_R_unfix_30 rfl rfl rfl (by decide +kernel) ⟨Nat.le_of_ble_eq_true rfl, Nat.le_of_ble_eq_true rfl⟩) rfl rfl (Nat.le_of_ble_eq_true rfl) d_R_unfix_30 ⟨Nat.zero_le _, Nat.zero_le _⟩ (fun r37 σ38 H locs e39 w => ?_)
        obtain ⟨rfl, hs9⟩ := e39
        rw [hs9] at w
        clear hs9
        refine lv_if_ne (tgt := 40) hx hb d_R_unfix_33 (by decide) (fun c40 => ?_) (fun c40 => ?_)
        · refine lv_iconst (v := nI 0) hx hb d_R_unfix_40 (by decide) ?_
          refine lv_iconst (v := nI 0) hx hb d_R_unfix_41 (by decide) ?_
          refine mr_callVi (As := [.int (nI 0), .int (nI 0), .int (nI 0)]) F w hl.1 (c_R_refused σ (nI 0) (nI 0) (nI 0)) (cwV 3 hts g_R_unfix_42 rfl rfl rfl (by decide +kernel) ⟨Nat.le_of_ble_eq_true rfl, Nat.le_of_ble_eq_true rfl⟩) rfl (by decide) rfl rfl rfl (Nat.le_of_ble_eq_true rfl) d_R_unfix_42 ⟨Nat.zero_le _, Nat.zero_le _⟩ (fun r41 σ42 H locs e43 w => ?_)
          have e43_r := e43.1.symm
          have e43_s := e43.2.symm
          clear e43
          rw [show σ42 = mup σ 0 0 (nI 0) from (by subst e43_r e43_s; rfl)] at w
          refine nr_as (k := 0) (by subst e43_r e43_s; rfl) ?_
          clear e43_r e43_s
          refine lv_if_eq (tgt := 50) hx hb d_R_unfix_45 (by decide) (fun _ => ?_) (fun c44 => absurd c44 (by decide))
          refine lv_aload_n hx hb d_R_unfix_50 rfl (lv_at hl 0 rfl) ?_
          refine mr_get F w (kin in_R) 0 (by decide) rfl rfl 14 (by decide) (kws_in m_542) (fun _ h => h) rfl d_R_unfix_51 ?_
          refine lv_iload_n hx hb d_R_unfix_54 rfl (lv_at hl 1 rfl) ?_
          refine nr_as (k := f.toNatClampNeg) (qInv_nat (by decide) (by decide) c19).1.2 ?_
          refine lv_dup2_11 hx hb d_R_unfix_55 rfl rfl ?_
          refine mr_iaN F w 9 0 (by decide) rfl rfl f.toNatClampNeg (by omega) (by decide) rfl d_R_unfix_56 ?_
          refine lv_iconst (v := nI 1) hx hb d_R_unfix_57 (by decide) ?_
          refine lv_isub hx hb d_R_unfix_58 ?_
          refine mr_isN F w 9 0 (by decide) (fun _ => rfl) rfl f.toNatClampNeg (by omega) (by decide) rfl d_R_unfix_59 (fun H locs w => ?_)
          refine lv_aload_n hx hb d_R_unfix_60 rfl (lv_at hl 0 rfl) ?_
          refine mr_get F w (kin in_R) 0 (by decide) rfl rfl 14 (by decide) (kws_in m_542) (fun _ h => h) rfl d_R_unfix_61 ?_
          refine lv_iload_n hx hb d_R_unfix_64 rfl (lv_at hl 1 rfl) ?_
          refine nr_as (k := f.toNatClampNeg) (qInv_nat (by decide) (by decide) c19).1.2 ?_
          refine mr_iaN F w 9 0 (by decide) rfl rfl f.toNatClampNeg (by omega) (by decide) rfl d_R_unfix_65 ?_
          exact mr_iret F w hr hlk (by unfold qUnfix; rw [if_pos c1, if_neg c19, if_neg c36, if_neg c40]; exact ⟨rfl, rfl⟩) d_R_unfix_66
        · refine lv_iconst (v := nI 1) hx hb d_R_unfix_36 (by decide) ?_
          refine lv_goto (tgt := 41) hx hb d_R_unfix_37 (by decide) ?_
          refine lv_iconst (v := nI 0) hx hb d_R_unfix_41 (by decide) ?_
          refine mr_callVi (As := [.int (nI 0), .int (nI 1), .int (nI 0)]) F w hl.1 (c_R_refused σ (nI 0) (nI 1) (nI 0)) (cwV 3 hts g_R_unfix_42 rfl rfl rfl (by decide +kernel) ⟨Nat.le_of_ble_eq_true rfl, Nat.le_of_ble_eq_true rfl⟩) rfl (by decide) rfl rfl rfl (Nat.le_of_ble_eq_true rfl) d_R_unfix_42 ⟨Nat.zero_le _, Nat.zero_le _⟩ (fun r45 σ46 H locs e47 w => ?_)
          have e47_r := e47.1.symm
          have e47_s := e47.2.symm
          clear e47
          rw [show σ46 = mup σ 0 0 (nI 2) from (by subst e47_r e47_s; rfl)] at w
          refine nr_as (k := 1) (by subst e47_r e47_s; rfl) ?_
          clear e47_r e47_s
          refine lv_if_eq (tgt := 50) hx hb d_R_unfix_45 (by decide) (fun c48 => absurd c48 (by decide)) (fun _ => ?_)
          refine lv_iconst (v := nI 0) hx hb d_R_unfix_48 (by decide) ?_
          exact mr_iret F w hr hlk (by unfold qUnfix; rw [if_pos c1, if_neg c19, if_neg c36, if_pos c40]; exact ⟨rfl, rfl⟩) d_R_unfix_49
      · refine lv_iconst (v := nI 1) hx hb d_R_unfix_24 (by decide) ?_
        refine lv_goto (tgt := 29) hx hb d_R_unfix_25 (by decide) ?_
        refine lv_iload_n hx hb d_R_unfix_29 rfl (lv_at hl 1 rfl) ?_
        refine nr_as (k := f.toNatClampNeg) (qInv_nat (by decide) (by decide) c19).1.2 ?_
        refine mr_callSi (As := [.int (nI f.toNatClampNeg)]) F w hl.1 (c_R_isFrame σ (nI f.toNatClampNeg)) (cwS 1 hts g_R_unfix_30 rfl rfl rfl (by decide +kernel) ⟨Nat.le_of_ble_eq_true rfl, Nat.le_of_ble_eq_true rfl⟩) rfl rfl (Nat.le_of_ble_eq_true rfl) d_R_unfix_30 ⟨Nat.zero_le _, Nat.zero_le _⟩ (fun r49 σ50 H locs e51 w => ?_)
        obtain ⟨rfl, hs9⟩ := e51
        rw [hs9] at w
        clear hs9
        refine lv_if_ne (tgt := 40) hx hb d_R_unfix_33 (by decide) (fun c52 => ?_) (fun c52 => ?_)
        · refine lv_iconst (v := nI 0) hx hb d_R_unfix_40 (by decide) ?_
          refine lv_iconst (v := nI 0) hx hb d_R_unfix_41 (by decide) ?_
          refine mr_callVi (As := [.int (nI 1), .int (nI 0), .int (nI 0)]) F w hl.1 (c_R_refused σ (nI 1) (nI 0) (nI 0)) (cwV 3 hts g_R_unfix_42 rfl rfl rfl (by decide +kernel) ⟨Nat.le_of_ble_eq_true rfl, Nat.le_of_ble_eq_true rfl⟩) rfl (by decide) rfl rfl rfl (Nat.le_of_ble_eq_true rfl) d_R_unfix_42 ⟨Nat.zero_le _, Nat.zero_le _⟩ (fun r53 σ54 H locs e55 w => ?_)
          have e55_r := e55.1.symm
          have e55_s := e55.2.symm
          clear e55
          rw [show σ54 = mup σ 0 0 (nI 1) from (by subst e55_r e55_s; rfl)] at w
          refine nr_as (k := 1) (by subst e55_r e55_s; rfl) ?_
          clear e55_r e55_s
          refine lv_if_eq (tgt := 50) hx hb d_R_unfix_45 (by decide) (fun c56 => absurd c56 (by decide)) (fun _ => ?_)
          refine lv_iconst (v := nI 0) hx hb d_R_unfix_48 (by decide) ?_
          exact mr_iret F w hr hlk (by unfold qUnfix; rw [if_pos c1, if_neg c19, if_pos c36, if_neg c52]; exact ⟨rfl, rfl⟩) d_R_unfix_49
        · refine lv_iconst (v := nI 1) hx hb d_R_unfix_36 (by decide) ?_
          refine lv_goto (tgt := 41) hx hb d_R_unfix_37 (by decide) ?_
          refine lv_iconst (v := nI 0) hx hb d_R_unfix_41 (by decide) ?_
          refine mr_callVi (As := [.int (nI 1), .int (nI 1), .int (nI 0)]) F w hl.1 (c_R_refused σ (nI 1) (nI 1) (nI 0)) (cwV 3 hts g_R_unfix_42 rfl rfl rfl (by decide +kernel) ⟨Nat.le_of_ble_eq_true rfl, Nat.le_of_ble_eq_true rfl⟩) rfl (by decide) rfl rfl rfl (Nat.le_of_ble_eq_true rfl) d_R_unfix_42 ⟨Nat.zero_le _, Nat.zero_le _⟩ (fun r57 σ58 H locs e59 w => ?_)
          have e59_r := e59.1.symm
          have e59_s := e59.2.symm
          clear e59
          rw [show σ58 = mup σ 0 0 (nI 1) from (by subst e59_r e59_s; rfl)] at w
          refine nr_as (k := 1) (by subst e59_r e59_s; rfl) ?_
          clear e59_r e59_s
          refine lv_if_eq (tgt := 50) hx hb d_R_unfix_45 (by decide) (fun c60 => absurd c60 (by decide)) (fun _ => ?_)
          refine lv_iconst (v := nI 0) hx hb d_R_unfix_48 (by decide) ?_
          exact mr_iret F w hr hlk (by unfold qUnfix; rw [if_pos c1, if_neg c19, if_pos c36, if_pos c52]; exact ⟨rfl, rfl⟩) d_R_unfix_49
def qWord (σ : Mem) (f i : Int32) : Int32 × Mem :=
  if (σ 0 18) = 0 then (if (qInv f (nI 0) (nI 7)) = 0 then (if (qInv f (nI 0) (nI 7)) = 0 then (nI 0, mup σ 0 0 (nI 2))
      else if (qInv i (nI 0) (nI 63)) = 0 then (nI 0, mup σ 0 0 (nI 2))
      else ((mup σ 0 0 (nI 0)) 7 ((64 * f.toNatClampNeg) + i.toNatClampNeg), mup σ 0 0 (nI 0)))
    else if 0 ≤ (σ 8 f.toNatClampNeg) then (if (qInv (nI f.toNatClampNeg) (nI 0) (nI 7)) = 0 then (nI 0, mup σ 0 0 (nI 2))
      else if (qInv i (nI 0) (nI 63)) = 0 then (nI 0, mup σ 0 0 (nI 2))
      else ((mup σ 0 0 (nI 0)) 7 ((64 * f.toNatClampNeg) + i.toNatClampNeg), mup σ 0 0 (nI 0)))
    else if (qInv (nI f.toNatClampNeg) (nI 0) (nI 7)) = 0 then (nI 0, mup σ 0 0 (nI 1))
    else if (qInv i (nI 0) (nI 63)) = 0 then (nI 0, mup σ 0 0 (nI 1))
    else (nI 0, mup σ 0 0 (nI 1)))
  else if (qInv f (nI 0) (nI 7)) = 0 then (nI 0, mup σ 0 0 (nI 1))
  else if (qInv i (nI 0) (nI 63)) = 0 then (nI 0, mup σ 0 0 (nI 1))
  else (nI 0, mup σ 0 0 (nI 1))
set_option maxHeartbeats 4000000 in
set_option maxRecDepth 100000 in
theorem c_R_word (σ : Mem) (f i : Int32) : KIR l D cI cF cZ cJ ad y_R_word b_R_word 3 (some .int) 2 60 [.ref (ad 0), .int f, .int i] σ (fun r σ' => r = (qWord σ f i).1 ∧ σ' = (qWord σ f i).2) := by
  refine KI.of (by decide) (Nat.le_of_ble_eq_true rfl) ?_
  intro p e s m args below meth c A ls F w hl hr hlk
  obtain ⟨hx, hb, hml, hown, hts⟩ := id F
  have hl : lv_has ls 3 [(0, .ref (ad 0)), (1, .int f), (2, .int i)] := hl
  refine lv_aload_n hx hb d_R_word_0 rfl (lv_at hl 0 rfl) ?_
  refine lv_aload_n hx hb d_R_word_1 rfl (lv_at hl 0 rfl) ?_
  refine mr_get F w (kin in_R) 0 (by decide) rfl rfl 18 (by decide) (kws_in m_546) (fun _ h => h) rfl d_R_word_2 ?_
  refine lv_if_ne (tgt := 24) hx hb d_R_word_5 (by decide) (fun c1 => ?_) (fun c1 => ?_)
  · refine lv_iconst (v := nI 1) hx hb d_R_word_24 (by decide) ?_
    refine lv_goto (tgt := 29) hx hb d_R_word_25 (by decide) ?_
    refine lv_iload_n hx hb d_R_word_29 rfl (lv_at hl 1 rfl) ?_
    refine mr_callSi (As := [.int f]) F w hl.1 (c_R_isFrame σ f) (cwS 1 hts g_R_word_30 rfl rfl rfl (by decide +kernel) ⟨Nat.le_of_ble_eq_true rfl, Nat.le_of_ble_eq_true rfl⟩) rfl rfl (Nat.le_of_ble_eq_true rfl) d_R_word_30 ⟨Nat.zero_le _, Nat.zero_le _⟩ (fun r2 σ3 H locs e4 w => ?_)
    obtain ⟨rfl, hs9⟩ := e4
    rw [hs9] at w
    clear hs9
    refine lv_if_eq (tgt := 46) hx hb d_R_word_33 (by decide) (fun c5 => ?_) (fun c5 => ?_)
    · refine lv_iconst (v := nI 1) hx hb d_R_word_46 (by decide) ?_
      refine lv_goto (tgt := 51) hx hb d_R_word_47 (by decide) ?_
      refine lv_iconst (v := nI 0) hx hb d_R_word_51 (by decide) ?_
      refine mr_callVi (As := [.int (nI 1), .int (nI 1), .int (nI 0)]) F w hl.1 (c_R_refused σ (nI 1) (nI 1) (nI 0)) (cwV 3 hts g_R_word_52 rfl rfl rfl (by decide +kernel) ⟨Nat.le_of_ble_eq_true rfl, Nat.le_of_ble_eq_true rfl⟩) rfl (by decide) rfl rfl rfl (Nat.le_of_ble_eq_true rfl) d_R_word_52 ⟨Nat.zero_le _, Nat.zero_le _⟩ (fun r6 σ7 H locs e8 w => ?_)
      have e8_r := e8.1.symm
      have e8_s := e8.2.symm
      clear e8
      rw [show σ7 = mup σ 0 0 (nI 1) from (by subst e8_r e8_s; rfl)] at w
      refine nr_as (k := 1) (by subst e8_r e8_s; rfl) ?_
      clear e8_r e8_s
      refine lv_if_eq (tgt := 60) hx hb d_R_word_55 (by decide) (fun c9 => absurd c9 (by decide)) (fun _ => ?_)
      refine lv_iconst (v := nI 0) hx hb d_R_word_58 (by decide) ?_
      exact mr_iret F w hr hlk (by unfold qWord; rw [if_neg c1, if_pos c5]; exact ⟨rfl, rfl⟩) d_R_word_59
    · have hb10 : f.toNatClampNeg < 8 := (qInv_nat (by decide) (by decide) c5).1.1
      have hb11 : 0 ≤ f.toNatClampNeg := (qInv_nat (by decide) (by decide) c5).2
      refine lv_iload_n hx hb d_R_word_36 rfl (lv_at hl 2 rfl) ?_
      refine lv_iconst (v := nI 0) hx hb d_R_word_37 (by decide) ?_
      refine lv_bipush (v := nI 63) hx hb d_R_word_38 (by decide) ?_
      refine mr_callSi (As := [.int i, .int (nI 0), .int (nI 63)]) F w hl.1 (c_R_in σ i (nI 0) (nI 63)) (cwS 3 hts g_R_word_40 rfl rfl rfl (by decide +kernel) ⟨Nat.le_of_ble_eq_true rfl, Nat.le_of_ble_eq_true rfl⟩) rfl rfl (Nat.le_of_ble_eq_true rfl) d_R_word_40 ⟨Nat.zero_le _, Nat.zero_le _⟩ (fun r12 σ13 H locs e14 w => ?_)
      obtain ⟨rfl, hs9⟩ := e14
      rw [hs9] at w
      clear hs9
      refine lv_if_ne (tgt := 50) hx hb d_R_word_43 (by decide) (fun c15 => ?_) (fun c15 => ?_)
      · have hb16 : i.toNatClampNeg < 64 := (qInv_nat (by decide) (by decide) c15).1.1
        have hb17 : 0 ≤ i.toNatClampNeg := (qInv_nat (by decide) (by decide) c15).2
        refine lv_iconst (v := nI 0) hx hb d_R_word_50 (by decide) ?_
        refine lv_iconst (v := nI 0) hx hb d_R_word_51 (by decide) ?_
        refine mr_callVi (As := [.int (nI 1), .int (nI 0), .int (nI 0)]) F w hl.1 (c_R_refused σ (nI 1) (nI 0) (nI 0)) (cwV 3 hts g_R_word_52 rfl rfl rfl (by decide +kernel) ⟨Nat.le_of_ble_eq_true rfl, Nat.le_of_ble_eq_true rfl⟩) rfl (by decide) rfl rfl rfl (Nat.le_of_ble_eq_true rfl) d_R_word_52 ⟨Nat.zero_le _, Nat.zero_le _⟩ (fun r18 σ19 H locs e20 w => ?_)
        have e20_r := e20.1.symm
        have e20_s := e20.2.symm
        clear e20
        rw [show σ19 = mup σ 0 0 (nI 1) from (by subst e20_r e20_s; rfl)] at w
        refine nr_as (k := 1) (by subst e20_r e20_s; rfl) ?_
        clear e20_r e20_s
        refine lv_if_eq (tgt := 60) hx hb d_R_word_55 (by decide) (fun c21 => absurd c21 (by decide)) (fun _ => ?_)
        refine lv_iconst (v := nI 0) hx hb d_R_word_58 (by decide) ?_
        exact mr_iret F w hr hlk (by unfold qWord; rw [if_neg c1, if_neg c5, if_neg c15]; exact ⟨rfl, rfl⟩) d_R_word_59
      · refine lv_iconst (v := nI 1) hx hb d_R_word_46 (by decide) ?_
        refine lv_goto (tgt := 51) hx hb d_R_word_47 (by decide) ?_
        refine lv_iconst (v := nI 0) hx hb d_R_word_51 (by decide) ?_
        refine mr_callVi (As := [.int (nI 1), .int (nI 1), .int (nI 0)]) F w hl.1 (c_R_refused σ (nI 1) (nI 1) (nI 0)) (cwV 3 hts g_R_word_52 rfl rfl rfl (by decide +kernel) ⟨Nat.le_of_ble_eq_true rfl, Nat.le_of_ble_eq_true rfl⟩) rfl (by decide) rfl rfl rfl (Nat.le_of_ble_eq_true rfl) d_R_word_52 ⟨Nat.zero_le _, Nat.zero_le _⟩ (fun r22 σ23 H locs e24 w => ?_)
        have e24_r := e24.1.symm
        have e24_s := e24.2.symm
        clear e24
        rw [show σ23 = mup σ 0 0 (nI 1) from (by subst e24_r e24_s; rfl)] at w
        refine nr_as (k := 1) (by subst e24_r e24_s; rfl) ?_
        clear e24_r e24_s
        refine lv_if_eq (tgt := 60) hx hb d_R_word_55 (by decide) (fun c25 => absurd c25 (by decide)) (fun _ => ?_)
        refine lv_iconst (v := nI 0) hx hb d_R_word_58 (by decide) ?_
        exact mr_iret F w hr hlk (by unfold qWord; rw [if_neg c1, if_neg c5, if_pos c15]; exact ⟨rfl, rfl⟩) d_R_word_59
  · refine lv_iload_n hx hb d_R_word_8 rfl (lv_at hl 1 rfl) ?_
    refine mr_callSi (As := [.int f]) F w hl.1 (c_R_isFrame σ f) (cwS 1 hts g_R_word_9 rfl rfl rfl (by decide +kernel) ⟨Nat.le_of_ble_eq_true rfl, Nat.le_of_ble_eq_true rfl⟩) rfl rfl (Nat.le_of_ble_eq_true rfl) d_R_word_9 ⟨Nat.zero_le _, Nat.zero_le _⟩ (fun r26 σ27 H locs e28 w => ?_)
    obtain ⟨rfl, hs9⟩ := e28
    rw [hs9] at w
    clear hs9
    refine lv_if_eq (tgt := 28) hx hb d_R_word_12 (by decide) (fun c29 => ?_) (fun c29 => ?_)
    · refine lv_iconst (v := nI 0) hx hb d_R_word_28 (by decide) ?_
      refine lv_iload_n hx hb d_R_word_29 rfl (lv_at hl 1 rfl) ?_
      refine mr_callSi (As := [.int f]) F w hl.1 (c_R_isFrame σ f) (cwS 1 hts g_R_word_30 rfl rfl rfl (by decide +kernel) ⟨Nat.le_of_ble_eq_true rfl, Nat.le_of_ble_eq_true rfl⟩) rfl rfl (Nat.le_of_ble_eq_true rfl) d_R_word_30 ⟨Nat.zero_le _, Nat.zero_le _⟩ (fun r30 σ31 H locs e32 w => ?_)
      obtain ⟨rfl, hs9⟩ := e32
      rw [hs9] at w
      clear hs9
      refine lv_if_eq (tgt := 46) hx hb d_R_word_33 (by decide) (fun c33 => ?_) (fun c33 => ?_)
      · refine lv_iconst (v := nI 1) hx hb d_R_word_46 (by decide) ?_
        refine lv_goto (tgt := 51) hx hb d_R_word_47 (by decide) ?_
        refine lv_iconst (v := nI 0) hx hb d_R_word_51 (by decide) ?_
        refine mr_callVi (As := [.int (nI 0), .int (nI 1), .int (nI 0)]) F w hl.1 (c_R_refused σ (nI 0) (nI 1) (nI 0)) (cwV 3 hts g_R_word_52 rfl rfl rfl (by decide +kernel) ⟨Nat.le_of_ble_eq_true rfl, Nat.le_of_ble_eq_true rfl⟩) rfl (by decide) rfl rfl rfl (Nat.le_of_ble_eq_true rfl) d_R_word_52 ⟨Nat.zero_le _, Nat.zero_le _⟩ (fun r34 σ35 H locs e36 w => ?_)
        have e36_r := e36.1.symm
        have e36_s := e36.2.symm
        clear e36
        rw [show σ35 = mup σ 0 0 (nI 2) from (by subst e36_r e36_s; rfl)] at w
        refine nr_as (k := 1) (by subst e36_r e36_s; rfl) ?_
        clear e36_r e36_s
        refine lv_if_eq (tgt := 60) hx hb d_R_word_55 (by decide) (fun c37 => absurd c37 (by decide)) (fun _ => ?_)
        refine lv_iconst (v := nI 0) hx hb d_R_word_58 (by decide) ?_
        exact mr_iret F w hr hlk (by unfold qWord; rw [if_pos c1, if_pos c29, if_pos c33]; exact ⟨rfl, rfl⟩) d_R_word_59
      · have hb38 : f.toNatClampNeg < 8 := (qInv_nat (by decide) (by decide) c33).1.1
        have hb39 : 0 ≤ f.toNatClampNeg := (qInv_nat (by decide) (by decide) c33).2
        refine lv_iload_n hx hb d_R_word_36 rfl (lv_at hl 2 rfl) ?_
        refine lv_iconst (v := nI 0) hx hb d_R_word_37 (by decide) ?_
        refine lv_bipush (v := nI 63) hx hb d_R_word_38 (by decide) ?_
        refine mr_callSi (As := [.int i, .int (nI 0), .int (nI 63)]) F w hl.1 (c_R_in σ i (nI 0) (nI 63)) (cwS 3 hts g_R_word_40 rfl rfl rfl (by decide +kernel) ⟨Nat.le_of_ble_eq_true rfl, Nat.le_of_ble_eq_true rfl⟩) rfl rfl (Nat.le_of_ble_eq_true rfl) d_R_word_40 ⟨Nat.zero_le _, Nat.zero_le _⟩ (fun r40 σ41 H locs e42 w => ?_)
        obtain ⟨rfl, hs9⟩ := e42
        rw [hs9] at w
        clear hs9
        refine lv_if_ne (tgt := 50) hx hb d_R_word_43 (by decide) (fun c43 => ?_) (fun c43 => ?_)
        · have hb44 : i.toNatClampNeg < 64 := (qInv_nat (by decide) (by decide) c43).1.1
          have hb45 : 0 ≤ i.toNatClampNeg := (qInv_nat (by decide) (by decide) c43).2
          refine lv_iconst (v := nI 0) hx hb d_R_word_50 (by decide) ?_
          refine lv_iconst (v := nI 0) hx hb d_R_word_51 (by decide) ?_
          refine mr_callVi (As := [.int (nI 0), .int (nI 0), .int (nI 0)]) F w hl.1 (c_R_refused σ (nI 0) (nI 0) (nI 0)) (cwV 3 hts g_R_word_52 rfl rfl rfl (by decide +kernel) ⟨Nat.le_of_ble_eq_true rfl, Nat.le_of_ble_eq_true rfl⟩) rfl (by decide) rfl rfl rfl (Nat.le_of_ble_eq_true rfl) d_R_word_52 ⟨Nat.zero_le _, Nat.zero_le _⟩ (fun r46 σ47 H locs e48 w => ?_)
          have e48_r := e48.1.symm
          have e48_s := e48.2.symm
          clear e48
          rw [show σ47 = mup σ 0 0 (nI 0) from (by subst e48_r e48_s; rfl)] at w
          refine nr_as (k := 0) (by subst e48_r e48_s; rfl) ?_
          clear e48_r e48_s
          refine lv_if_eq (tgt := 60) hx hb d_R_word_55 (by decide) (fun _ => ?_) (fun c49 => absurd c49 (by decide))
          refine lv_aload_n hx hb d_R_word_60 rfl (lv_at hl 0 rfl) ?_
          refine mr_get F w (kin in_R) 0 (by decide) rfl rfl 12 (by decide) (kws_in m_540) (fun _ h => h) rfl d_R_word_61 ?_
          refine lv_bipush (v := nI 64) hx hb d_R_word_64 (by decide) ?_
          refine lv_iload_n hx hb d_R_word_66 rfl (lv_at hl 1 rfl) ?_
          refine nr_as (k := f.toNatClampNeg) (qInv_nat (by decide) (by decide) c33).1.2 ?_
          refine nr_imul hx hb d_R_word_67 ?_
          refine lv_iload_n hx hb d_R_word_68 rfl (lv_at hl 2 rfl) ?_
          refine nr_as (k := i.toNatClampNeg) (qInv_nat (by decide) (by decide) c43).1.2 ?_
          refine nr_iadd hx hb d_R_word_69 ?_
          refine mr_iaN F w 7 0 (by decide) rfl rfl ((64 * f.toNatClampNeg) + i.toNatClampNeg) (by omega) (by decide) rfl d_R_word_70 ?_
          exact mr_iret F w hr hlk (by unfold qWord; rw [if_pos c1, if_pos c29, if_neg c33, if_neg c43]; exact ⟨rfl, rfl⟩) d_R_word_71
        · refine lv_iconst (v := nI 1) hx hb d_R_word_46 (by decide) ?_
          refine lv_goto (tgt := 51) hx hb d_R_word_47 (by decide) ?_
          refine lv_iconst (v := nI 0) hx hb d_R_word_51 (by decide) ?_
          refine mr_callVi (As := [.int (nI 0), .int (nI 1), .int (nI 0)]) F w hl.1 (c_R_refused σ (nI 0) (nI 1) (nI 0)) (cwV 3 hts g_R_word_52 rfl rfl rfl (by decide +kernel) ⟨Nat.le_of_ble_eq_true rfl, Nat.le_of_ble_eq_true rfl⟩) rfl (by decide) rfl rfl rfl (Nat.le_of_ble_eq_true rfl) d_R_word_52 ⟨Nat.zero_le _, Nat.zero_le _⟩ (fun r50 σ51 H locs e52 w => ?_)
          have e52_r := e52.1.symm
          have e52_s := e52.2.symm
          clear e52
          rw [show σ51 = mup σ 0 0 (nI 2) from (by subst e52_r e52_s; rfl)] at w
          refine nr_as (k := 1) (by subst e52_r e52_s; rfl) ?_
          clear e52_r e52_s
          refine lv_if_eq (tgt := 60) hx hb d_R_word_55 (by decide) (fun c53 => absurd c53 (by decide)) (fun _ => ?_)
          refine lv_iconst (v := nI 0) hx hb d_R_word_58 (by decide) ?_
          exact mr_iret F w hr hlk (by unfold qWord; rw [if_pos c1, if_pos c29, if_neg c33, if_pos c43]; exact ⟨rfl, rfl⟩) d_R_word_59
    · have hb54 : f.toNatClampNeg < 8 := (qInv_nat (by decide) (by decide) c29).1.1
      have hb55 : 0 ≤ f.toNatClampNeg := (qInv_nat (by decide) (by decide) c29).2
      refine lv_aload_n hx hb d_R_word_15 rfl (lv_at hl 0 rfl) ?_
      refine mr_get F w (kin in_R) 0 (by decide) rfl rfl 13 (by decide) (kws_in m_541) (fun _ h => h) rfl d_R_word_16 ?_
      refine lv_iload_n hx hb d_R_word_19 rfl (lv_at hl 1 rfl) ?_
      refine nr_as (k := f.toNatClampNeg) (qInv_nat (by decide) (by decide) c29).1.2 ?_
      refine mr_iaN F w 8 0 (by decide) rfl rfl f.toNatClampNeg (by omega) (by decide) rfl d_R_word_20 ?_
      refine lv_if_ge (tgt := 28) hx hb d_R_word_21 (by decide) (fun c56 => ?_) (fun c56 => ?_)
      · refine lv_iconst (v := nI 0) hx hb d_R_word_28 (by decide) ?_
        refine lv_iload_n hx hb d_R_word_29 rfl (lv_at hl 1 rfl) ?_
        refine nr_as (k := f.toNatClampNeg) (qInv_nat (by decide) (by decide) c29).1.2 ?_
        refine mr_callSi (As := [.int (nI f.toNatClampNeg)]) F w hl.1 (c_R_isFrame σ (nI f.toNatClampNeg)) (cwS 1 hts g_R_word_30 rfl rfl rfl (by decide +kernel) ⟨Nat.le_of_ble_eq_true rfl, Nat.le_of_ble_eq_true rfl⟩) rfl rfl (Nat.le_of_ble_eq_true rfl) d_R_word_30 ⟨Nat.zero_le _, Nat.zero_le _⟩ (fun r57 σ58 H locs e59 w => ?_)
        obtain ⟨rfl, hs9⟩ := e59
        rw [hs9] at w
        clear hs9
        refine lv_if_eq (tgt := 46) hx hb d_R_word_33 (by decide) (fun c60 => ?_) (fun c60 => ?_)
        · refine lv_iconst (v := nI 1) hx hb d_R_word_46 (by decide) ?_
          refine lv_goto (tgt := 51) hx hb d_R_word_47 (by decide) ?_
          refine lv_iconst (v := nI 0) hx hb d_R_word_51 (by decide) ?_
          refine mr_callVi (As := [.int (nI 0), .int (nI 1), .int (nI 0)]) F w hl.1 (c_R_refused σ (nI 0) (nI 1) (nI 0)) (cwV 3 hts g_R_word_52 rfl rfl rfl (by decide +kernel) ⟨Nat.le_of_ble_eq_true rfl, Nat.le_of_ble_eq_true rfl⟩) rfl (by decide) rfl rfl rfl (Nat.le_of_ble_eq_true rfl) d_R_word_52 ⟨Nat.zero_le _, Nat.zero_le _⟩ (fun r61 σ62 H locs e63 w => ?_)
          have e63_r := e63.1.symm
          have e63_s := e63.2.symm
          clear e63
          rw [show σ62 = mup σ 0 0 (nI 2) from (by subst e63_r e63_s; rfl)] at w
          refine nr_as (k := 1) (by subst e63_r e63_s; rfl) ?_
          clear e63_r e63_s
          refine lv_if_eq (tgt := 60) hx hb d_R_word_55 (by decide) (fun c64 => absurd c64 (by decide)) (fun _ => ?_)
          refine lv_iconst (v := nI 0) hx hb d_R_word_58 (by decide) ?_
          exact mr_iret F w hr hlk (by unfold qWord; rw [if_pos c1, if_neg c29, if_pos c56, if_pos c60]; exact ⟨rfl, rfl⟩) d_R_word_59
        · refine lv_iload_n hx hb d_R_word_36 rfl (lv_at hl 2 rfl) ?_
          refine lv_iconst (v := nI 0) hx hb d_R_word_37 (by decide) ?_
          refine lv_bipush (v := nI 63) hx hb d_R_word_38 (by decide) ?_
          refine mr_callSi (As := [.int i, .int (nI 0), .int (nI 63)]) F w hl.1 (c_R_in σ i (nI 0) (nI 63)) (cwS 3 hts g_R_word_40 rfl rfl rfl (by decide +kernel) ⟨Nat.le_of_ble_eq_true rfl, Nat.le_of_ble_eq_true rfl⟩) rfl rfl (Nat.le_of_ble_eq_true rfl) d_R_word_40 ⟨Nat.zero_le _, Nat.zero_le _⟩ (fun r65 σ66 H locs e67 w => ?_)
          obtain ⟨rfl, hs9⟩ := e67
          rw [hs9] at w
          clear hs9
          refine lv_if_ne (tgt := 50) hx hb d_R_word_43 (by decide) (fun c68 => ?_) (fun c68 => ?_)
          · have hb69 : i.toNatClampNeg < 64 := (qInv_nat (by decide) (by decide) c68).1.1
            have hb70 : 0 ≤ i.toNatClampNeg := (qInv_nat (by decide) (by decide) c68).2
            refine lv_iconst (v := nI 0) hx hb d_R_word_50 (by decide) ?_
            refine lv_iconst (v := nI 0) hx hb d_R_word_51 (by decide) ?_
            refine mr_callVi (As := [.int (nI 0), .int (nI 0), .int (nI 0)]) F w hl.1 (c_R_refused σ (nI 0) (nI 0) (nI 0)) (cwV 3 hts g_R_word_52 rfl rfl rfl (by decide +kernel) ⟨Nat.le_of_ble_eq_true rfl, Nat.le_of_ble_eq_true rfl⟩) rfl (by decide) rfl rfl rfl (Nat.le_of_ble_eq_true rfl) d_R_word_52 ⟨Nat.zero_le _, Nat.zero_le _⟩ (fun r71 σ72 H locs e73 w => ?_)
            have e73_r := e73.1.symm
            have e73_s := e73.2.symm
            clear e73
            rw [show σ72 = mup σ 0 0 (nI 0) from (by subst e73_r e73_s; rfl)] at w
            refine nr_as (k := 0) (by subst e73_r e73_s; rfl) ?_
            clear e73_r e73_s
            refine lv_if_eq (tgt := 60) hx hb d_R_word_55 (by decide) (fun _ => ?_) (fun c74 => absurd c74 (by decide))
            refine lv_aload_n hx hb d_R_word_60 rfl (lv_at hl 0 rfl) ?_
            refine mr_get F w (kin in_R) 0 (by decide) rfl rfl 12 (by decide) (kws_in m_540) (fun _ h => h) rfl d_R_word_61 ?_
            refine lv_bipush (v := nI 64) hx hb d_R_word_64 (by decide) ?_
            refine lv_iload_n hx hb d_R_word_66 rfl (lv_at hl 1 rfl) ?_
            refine nr_as (k := f.toNatClampNeg) (qInv_nat (by decide) (by decide) c29).1.2 ?_
            refine nr_imul hx hb d_R_word_67 ?_
            refine lv_iload_n hx hb d_R_word_68 rfl (lv_at hl 2 rfl) ?_
            refine nr_as (k := i.toNatClampNeg) (qInv_nat (by decide) (by decide) c68).1.2 ?_
            refine nr_iadd hx hb d_R_word_69 ?_
            refine mr_iaN F w 7 0 (by decide) rfl rfl ((64 * f.toNatClampNeg) + i.toNatClampNeg) (by omega) (by decide) rfl d_R_word_70 ?_
            exact mr_iret F w hr hlk (by unfold qWord; rw [if_pos c1, if_neg c29, if_pos c56, if_neg c60, if_neg c68]; exact ⟨rfl, rfl⟩) d_R_word_71
          · refine lv_iconst (v := nI 1) hx hb d_R_word_46 (by decide) ?_
            refine lv_goto (tgt := 51) hx hb d_R_word_47 (by decide) ?_
            refine lv_iconst (v := nI 0) hx hb d_R_word_51 (by decide) ?_
            refine mr_callVi (As := [.int (nI 0), .int (nI 1), .int (nI 0)]) F w hl.1 (c_R_refused σ (nI 0) (nI 1) (nI 0)) (cwV 3 hts g_R_word_52 rfl rfl rfl (by decide +kernel) ⟨Nat.le_of_ble_eq_true rfl, Nat.le_of_ble_eq_true rfl⟩) rfl (by decide) rfl rfl rfl (Nat.le_of_ble_eq_true rfl) d_R_word_52 ⟨Nat.zero_le _, Nat.zero_le _⟩ (fun r75 σ76 H locs e77 w => ?_)
            have e77_r := e77.1.symm
            have e77_s := e77.2.symm
            clear e77
            rw [show σ76 = mup σ 0 0 (nI 2) from (by subst e77_r e77_s; rfl)] at w
            refine nr_as (k := 1) (by subst e77_r e77_s; rfl) ?_
            clear e77_r e77_s
            refine lv_if_eq (tgt := 60) hx hb d_R_word_55 (by decide) (fun c78 => absurd c78 (by decide)) (fun _ => ?_)
            refine lv_iconst (v := nI 0) hx hb d_R_word_58 (by decide) ?_
            exact mr_iret F w hr hlk (by unfold qWord; rw [if_pos c1, if_neg c29, if_pos c56, if_neg c60, if_pos c68]; exact ⟨rfl, rfl⟩) d_R_word_59
      · refine lv_iconst (v := nI 1) hx hb d_R_word_24 (by decide) ?_
        refine lv_goto (tgt := 29) hx hb d_R_word_25 (by decide) ?_
        refine lv_iload_n hx hb d_R_word_29 rfl (lv_at hl 1 rfl) ?_
        refine nr_as (k := f.toNatClampNeg) (qInv_nat (by decide) (by decide) c29).1.2 ?_
        refine mr_callSi (As := [.int (nI f.toNatClampNeg)]) F w hl.1 (c_R_isFrame σ (nI f.toNatClampNeg)) (cwS 1 hts g_R_word_30 rfl rfl rfl (by decide +kernel) ⟨Nat.le_of_ble_eq_true rfl, Nat.le_of_ble_eq_true rfl⟩) rfl rfl (Nat.le_of_ble_eq_true rfl) d_R_word_30 ⟨Nat.zero_le _, Nat.zero_le _⟩ (fun r79 σ80 H locs e81 w => ?_)
        obtain ⟨rfl, hs9⟩ := e81
        rw [hs9] at w
        clear hs9
        refine lv_if_eq (tgt := 46) hx hb d_R_word_33 (by decide) (fun c82 => ?_) (fun c82 => ?_)
        · refine lv_iconst (v := nI 1) hx hb d_R_word_46 (by decide) ?_
          refine lv_goto (tgt := 51) hx hb d_R_word_47 (by decide) ?_
          refine lv_iconst (v := nI 0) hx hb d_R_word_51 (by decide) ?_
          refine mr_callVi (As := [.int (nI 1), .int (nI 1), .int (nI 0)]) F w hl.1 (c_R_refused σ (nI 1) (nI 1) (nI 0)) (cwV 3 hts g_R_word_52 rfl rfl rfl (by decide +kernel) ⟨Nat.le_of_ble_eq_true rfl, Nat.le_of_ble_eq_true rfl⟩) rfl (by decide) rfl rfl rfl (Nat.le_of_ble_eq_true rfl) d_R_word_52 ⟨Nat.zero_le _, Nat.zero_le _⟩ (fun r83 σ84 H locs e85 w => ?_)
          have e85_r := e85.1.symm
          have e85_s := e85.2.symm
          clear e85
          rw [show σ84 = mup σ 0 0 (nI 1) from (by subst e85_r e85_s; rfl)] at w
          refine nr_as (k := 1) (by subst e85_r e85_s; rfl) ?_
          clear e85_r e85_s
          refine lv_if_eq (tgt := 60) hx hb d_R_word_55 (by decide) (fun c86 => absurd c86 (by decide)) (fun _ => ?_)
          refine lv_iconst (v := nI 0) hx hb d_R_word_58 (by decide) ?_
          exact mr_iret F w hr hlk (by unfold qWord; rw [if_pos c1, if_neg c29, if_neg c56, if_pos c82]; exact ⟨rfl, rfl⟩) d_R_word_59
        · refine lv_iload_n hx hb d_R_word_36 rfl (lv_at hl 2 rfl) ?_
          refine lv_iconst (v := nI 0) hx hb d_R_word_37 (by decide) ?_
          refine lv_bipush (v := nI 63) hx hb d_R_word_38 (by decide) ?_
          refine mr_callSi (As := [.int i, .int (nI 0), .int (nI 63)]) F w hl.1 (c_R_in σ i (nI 0) (nI 63)) (cwS 3 hts g_R_word_40 rfl rfl rfl (by decide +kernel) ⟨Nat.le_of_ble_eq_true rfl, Nat.le_of_ble_eq_true rfl⟩) rfl rfl (Nat.le_of_ble_eq_true rfl) d_R_word_40 ⟨Nat.zero_le _, Nat.zero_le _⟩ (fun r87 σ88 H locs e89 w => ?_)
          obtain ⟨rfl, hs9⟩ := e89
          rw [hs9] at w
          clear hs9
          refine lv_if_ne (tgt := 50) hx hb d_R_word_43 (by decide) (fun c90 => ?_) (fun c90 => ?_)
          · have hb91 : i.toNatClampNeg < 64 := (qInv_nat (by decide) (by decide) c90).1.1
            have hb92 : 0 ≤ i.toNatClampNeg := (qInv_nat (by decide) (by decide) c90).2
            refine lv_iconst (v := nI 0) hx hb d_R_word_50 (by decide) ?_
            refine lv_iconst (v := nI 0) hx hb d_R_word_51 (by decide) ?_
            refine mr_callVi (As := [.int (nI 1), .int (nI 0), .int (nI 0)]) F w hl.1 (c_R_refused σ (nI 1) (nI 0) (nI 0)) (cwV 3 hts g_R_word_52 rfl rfl rfl (by decide +kernel) ⟨Nat.le_of_ble_eq_true rfl, Nat.le_of_ble_eq_true rfl⟩) rfl (by decide) rfl rfl rfl (Nat.le_of_ble_eq_true rfl) d_R_word_52 ⟨Nat.zero_le _, Nat.zero_le _⟩ (fun r93 σ94 H locs e95 w => ?_)
            have e95_r := e95.1.symm
            have e95_s := e95.2.symm
            clear e95
            rw [show σ94 = mup σ 0 0 (nI 1) from (by subst e95_r e95_s; rfl)] at w
            refine nr_as (k := 1) (by subst e95_r e95_s; rfl) ?_
            clear e95_r e95_s
            refine lv_if_eq (tgt := 60) hx hb d_R_word_55 (by decide) (fun c96 => absurd c96 (by decide)) (fun _ => ?_)
            refine lv_iconst (v := nI 0) hx hb d_R_word_58 (by decide) ?_
            exact mr_iret F w hr hlk (by unfold qWord; rw [if_pos c1, if_neg c29, if_neg c56, if_neg c82, if_neg c90]; exact ⟨rfl, rfl⟩) d_R_word_59
          · refine lv_iconst (v := nI 1) hx hb d_R_word_46 (by decide) ?_
            refine lv_goto (tgt := 51) hx hb d_R_word_47 (by decide) ?_
            refine lv_iconst (v := nI 0) hx hb d_R_word_51 (by decide) ?_
            refine mr_callVi (As := [.int (nI 1), .int (nI 1), .int (nI 0)]) F w hl.1 (c_R_refused σ (nI 1) (nI 1) (nI 0)) (cwV 3 hts g_R_word_52 rfl rfl rfl (by decide +kernel) ⟨Nat.le_of_ble_eq_true rfl, Nat.le_of_ble_eq_true rfl⟩) rfl (by decide) rfl rfl rfl (Nat.le_of_ble_eq_true rfl) d_R_word_52 ⟨Nat.zero_le _, Nat.zero_le _⟩ (fun r97 σ98 H locs e99 w => ?_)
            have e99_r := e99.1.symm
            have e99_s := e99.2.symm
            clear e99
            rw [show σ98 = mup σ 0 0 (nI 1) from (by subst e99_r e99_s; rfl)] at w
            refine nr_as (k := 1) (by subst e99_r e99_s; rfl) ?_
            clear e99_r e99_s
            refine lv_if_eq (tgt := 60) hx hb d_R_word_55 (by decide) (fun c100 => absurd c100 (by decide)) (fun _ => ?_)
            refine lv_iconst (v := nI 0) hx hb d_R_word_58 (by decide) ?_
            exact mr_iret F w hr hlk (by unfold qWord; rw [if_pos c1, if_neg c29, if_neg c56, if_neg c82, if_pos c90]; exact ⟨rfl, rfl⟩) d_R_word_59
def qFrame (σ : Mem) (f k : Int32) : Int32 × Mem :=
  if (qInv f (nI 0) (nI 7)) = 0 then (nI 0, mup σ 0 0 (nI 1))
  else if (qInv k (nI 0) (nI 4)) = 0 then (nI 0, mup σ 0 0 (nI 1))
  else if nI k.toNatClampNeg = nI 0 then ((mup σ 0 0 (nI 0)) 8 f.toNatClampNeg, mup σ 0 0 (nI 0))
  else if nI k.toNatClampNeg = nI 1 then ((mup σ 0 0 (nI 0)) 9 f.toNatClampNeg, mup σ 0 0 (nI 0))
  else if nI k.toNatClampNeg = nI 2 then (if ((mup σ 0 0 (nI 0)) 10 f.toNatClampNeg) = 0 then (nI 0, mup σ 0 0 (nI 0))
    else (nI 1, mup σ 0 0 (nI 0)))
  else if nI k.toNatClampNeg = nI 3 then (if ((mup σ 0 0 (nI 0)) 11 f.toNatClampNeg) < 0 then (nI 0, mup σ 0 0 (nI 0))
    else (nI 1, mup σ 0 0 (nI 0)))
  else ((mup σ 0 0 (nI 0)) 11 f.toNatClampNeg, mup σ 0 0 (nI 0))
set_option maxHeartbeats 4000000 in
set_option maxRecDepth 100000 in
theorem c_R_frame (σ : Mem) (f k : Int32) : KIR l D cI cF cZ cJ ad y_R_frame b_R_frame 3 (some .int) 2 60 [.ref (ad 0), .int f, .int k] σ (fun r σ' => r = (qFrame σ f k).1 ∧ σ' = (qFrame σ f k).2) := by
  refine KI.of (by decide) (Nat.le_of_ble_eq_true rfl) ?_
  intro p e s m args below meth c A ls F w hl hr hlk
  obtain ⟨hx, hb, hml, hown, hts⟩ := id F
  have hl : lv_has ls 3 [(0, .ref (ad 0)), (1, .int f), (2, .int k)] := hl
  refine lv_aload_n hx hb d_R_frame_0 rfl (lv_at hl 0 rfl) ?_
  refine lv_iload_n hx hb d_R_frame_1 rfl (lv_at hl 1 rfl) ?_
  refine mr_callSi (As := [.int f]) F w hl.1 (c_R_isFrame σ f) (cwS 1 hts g_R_frame_2 rfl rfl rfl (by decide +kernel) ⟨Nat.le_of_ble_eq_true rfl, Nat.le_of_ble_eq_true rfl⟩) rfl rfl (Nat.le_of_ble_eq_true rfl) d_R_frame_2 ⟨Nat.zero_le _, Nat.zero_le _⟩ (fun r1 σ2 H locs e3 w => ?_)
  obtain ⟨rfl, hs9⟩ := e3
  rw [hs9] at w
  clear hs9
  refine lv_if_eq (tgt := 17) hx hb d_R_frame_5 (by decide) (fun c4 => ?_) (fun c4 => ?_)
  · refine lv_iconst (v := nI 1) hx hb d_R_frame_17 (by decide) ?_
    refine lv_goto (tgt := 22) hx hb d_R_frame_18 (by decide) ?_
    refine lv_iconst (v := nI 0) hx hb d_R_frame_22 (by decide) ?_
    refine lv_iconst (v := nI 0) hx hb d_R_frame_23 (by decide) ?_
    refine mr_callVi (As := [.int (nI 1), .int (nI 0), .int (nI 0)]) F w hl.1 (c_R_refused σ (nI 1) (nI 0) (nI 0)) (cwV 3 hts g_R_frame_24 rfl rfl rfl (by decide +kernel) ⟨Nat.le_of_ble_eq_true rfl, Nat.le_of_ble_eq_true rfl⟩) rfl (by decide) rfl rfl rfl (Nat.le_of_ble_eq_true rfl) d_R_frame_24 ⟨Nat.zero_le _, Nat.zero_le _⟩ (fun r5 σ6 H locs e7 w => ?_)
    have e7_r := e7.1.symm
    have e7_s := e7.2.symm
    clear e7
    rw [show σ6 = mup σ 0 0 (nI 1) from (by subst e7_r e7_s; rfl)] at w
    refine nr_as (k := 1) (by subst e7_r e7_s; rfl) ?_
    clear e7_r e7_s
    refine lv_if_eq (tgt := 32) hx hb d_R_frame_27 (by decide) (fun c8 => absurd c8 (by decide)) (fun _ => ?_)
    refine lv_iconst (v := nI 0) hx hb d_R_frame_30 (by decide) ?_
    exact mr_iret F w hr hlk (by unfold qFrame; rw [if_pos c4]; exact ⟨rfl, rfl⟩) d_R_frame_31
  · have hb9 : f.toNatClampNeg < 8 := (qInv_nat (by decide) (by decide) c4).1.1
    have hb10 : 0 ≤ f.toNatClampNeg := (qInv_nat (by decide) (by decide) c4).2
    refine lv_iload_n hx hb d_R_frame_8 rfl (lv_at hl 2 rfl) ?_
    refine lv_iconst (v := nI 0) hx hb d_R_frame_9 (by decide) ?_
    refine lv_iconst (v := nI 4) hx hb d_R_frame_10 (by decide) ?_
    refine mr_callSi (As := [.int k, .int (nI 0), .int (nI 4)]) F w hl.1 (c_R_in σ k (nI 0) (nI 4)) (cwS 3 hts g_R_frame_11 rfl rfl rfl (by decide +kernel) ⟨Nat.le_of_ble_eq_true rfl, Nat.le_of_ble_eq_true rfl⟩) rfl rfl (Nat.le_of_ble_eq_true rfl) d_R_frame_11 ⟨Nat.zero_le _, Nat.zero_le _⟩ (fun r11 σ12 H locs e13 w => ?_)
    obtain ⟨rfl, hs9⟩ := e13
    rw [hs9] at w
    clear hs9
    refine lv_if_ne (tgt := 21) hx hb d_R_frame_14 (by decide) (fun c14 => ?_) (fun c14 => ?_)
    · have hb15 : k.toNatClampNeg < 5 := (qInv_nat (by decide) (by decide) c14).1.1
      have hb16 : 0 ≤ k.toNatClampNeg := (qInv_nat (by decide) (by decide) c14).2
      refine lv_iconst (v := nI 0) hx hb d_R_frame_21 (by decide) ?_
      refine lv_iconst (v := nI 0) hx hb d_R_frame_22 (by decide) ?_
      refine lv_iconst (v := nI 0) hx hb d_R_frame_23 (by decide) ?_
      refine mr_callVi (As := [.int (nI 0), .int (nI 0), .int (nI 0)]) F w hl.1 (c_R_refused σ (nI 0) (nI 0) (nI 0)) (cwV 3 hts g_R_frame_24 rfl rfl rfl (by decide +kernel) ⟨Nat.le_of_ble_eq_true rfl, Nat.le_of_ble_eq_true rfl⟩) rfl (by decide) rfl rfl rfl (Nat.le_of_ble_eq_true rfl) d_R_frame_24 ⟨Nat.zero_le _, Nat.zero_le _⟩ (fun r17 σ18 H locs e19 w => ?_)
      have e19_r := e19.1.symm
      have e19_s := e19.2.symm
      clear e19
      rw [show σ18 = mup σ 0 0 (nI 0) from (by subst e19_r e19_s; rfl)] at w
      refine nr_as (k := 0) (by subst e19_r e19_s; rfl) ?_
      clear e19_r e19_s
      refine lv_if_eq (tgt := 32) hx hb d_R_frame_27 (by decide) (fun _ => ?_) (fun c20 => absurd c20 (by decide))
      refine lv_iload_n hx hb d_R_frame_32 rfl (lv_at hl 2 rfl) ?_
      refine nr_as (k := k.toNatClampNeg) (qInv_nat (by decide) (by decide) c14).1.2 ?_
      rcases Classical.em (nI k.toNatClampNeg = nI 0) with c21 | c21
      · refine nr_tabIn (tgt := 64) hx hb d_R_frame_33 c21 (by decide) (by decide) rfl (by decide) ?_
        refine lv_aload_n hx hb d_R_frame_64 rfl (lv_at hl 0 rfl) ?_
        refine mr_get F w (kin in_R) 0 (by decide) rfl rfl 13 (by decide) (kws_in m_541) (fun _ h => h) rfl d_R_frame_65 ?_
        refine lv_iload_n hx hb d_R_frame_68 rfl (lv_at hl 1 rfl) ?_
        refine nr_as (k := f.toNatClampNeg) (qInv_nat (by decide) (by decide) c4).1.2 ?_
        refine mr_iaN F w 8 0 (by decide) rfl rfl f.toNatClampNeg (by omega) (by decide) rfl d_R_frame_69 ?_
        exact mr_iret F w hr hlk (by unfold qFrame; rw [if_neg c4, if_neg c14, if_pos c21]; exact ⟨rfl, rfl⟩) d_R_frame_70
      · rcases Classical.em (nI k.toNatClampNeg = nI 1) with c22 | c22
        · refine nr_tabIn (tgt := 71) hx hb d_R_frame_33 c22 (by decide) (by decide) rfl (by decide) ?_
          refine lv_aload_n hx hb d_R_frame_71 rfl (lv_at hl 0 rfl) ?_
          refine mr_get F w (kin in_R) 0 (by decide) rfl rfl 14 (by decide) (kws_in m_542) (fun _ h => h) rfl d_R_frame_72 ?_
          refine lv_iload_n hx hb d_R_frame_75 rfl (lv_at hl 1 rfl) ?_
          refine nr_as (k := f.toNatClampNeg) (qInv_nat (by decide) (by decide) c4).1.2 ?_
          refine mr_iaN F w 9 0 (by decide) rfl rfl f.toNatClampNeg (by omega) (by decide) rfl d_R_frame_76 ?_
          exact mr_iret F w hr hlk (by unfold qFrame; rw [if_neg c4, if_neg c14, if_neg c21, if_pos c22]; exact ⟨rfl, rfl⟩) d_R_frame_77
        · rcases Classical.em (nI k.toNatClampNeg = nI 2) with c23 | c23
          · refine nr_tabIn (tgt := 78) hx hb d_R_frame_33 c23 (by decide) (by decide) rfl (by decide) ?_
            refine lv_aload_n hx hb d_R_frame_78 rfl (lv_at hl 0 rfl) ?_
            refine mr_get F w (kin in_R) 0 (by decide) rfl rfl 15 (by decide) (kws_in m_543) (fun _ h => h) rfl d_R_frame_79 ?_
            refine lv_iload_n hx hb d_R_frame_82 rfl (lv_at hl 1 rfl) ?_
            refine nr_as (k := f.toNatClampNeg) (qInv_nat (by decide) (by decide) c4).1.2 ?_
            refine mr_baN F w 10 2 (by decide) rfl rfl f.toNatClampNeg (by omega) (by decide) rfl d_R_frame_83 ?_
            refine lv_if_eq (tgt := 91) hx hb d_R_frame_84 (by decide) (fun c24 => ?_) (fun c24 => ?_)
            · refine lv_iconst (v := nI 0) hx hb d_R_frame_91 (by decide) ?_
              exact mr_iret F w hr hlk (by unfold qFrame; rw [if_neg c4, if_neg c14, if_neg c21, if_neg c22, if_pos c23, if_pos c24]; exact ⟨rfl, rfl⟩) d_R_frame_92
            · refine lv_iconst (v := nI 1) hx hb d_R_frame_87 (by decide) ?_
              refine lv_goto (tgt := 92) hx hb d_R_frame_88 (by decide) ?_
              exact mr_iret F w hr hlk (by unfold qFrame; rw [if_neg c4, if_neg c14, if_neg c21, if_neg c22, if_pos c23, if_neg c24]; exact ⟨rfl, rfl⟩) d_R_frame_92
          · rcases Classical.em (nI k.toNatClampNeg = nI 3) with c25 | c25
            · refine nr_tabIn (tgt := 93) hx hb d_R_frame_33 c25 (by decide) (by decide) rfl (by decide) ?_
              refine lv_aload_n hx hb d_R_frame_93 rfl (lv_at hl 0 rfl) ?_
              refine mr_get F w (kin in_R) 0 (by decide) rfl rfl 16 (by decide) (kws_in m_544) (fun _ h => h) rfl d_R_frame_94 ?_
              refine lv_iload_n hx hb d_R_frame_97 rfl (lv_at hl 1 rfl) ?_
              refine nr_as (k := f.toNatClampNeg) (qInv_nat (by decide) (by decide) c4).1.2 ?_
              refine mr_iaN F w 11 0 (by decide) rfl rfl f.toNatClampNeg (by omega) (by decide) rfl d_R_frame_98 ?_
              refine lv_if_lt (tgt := 106) hx hb d_R_frame_99 (by decide) (fun c26 => ?_) (fun c26 => ?_)
              · refine lv_iconst (v := nI 0) hx hb d_R_frame_106 (by decide) ?_
                exact mr_iret F w hr hlk (by unfold qFrame; rw [if_neg c4, if_neg c14, if_neg c21, if_neg c22, if_neg c23, if_pos c25, if_pos c26]; exact ⟨rfl, rfl⟩) d_R_frame_107
              · refine lv_iconst (v := nI 1) hx hb d_R_frame_102 (by decide) ?_
                refine lv_goto (tgt := 107) hx hb d_R_frame_103 (by decide) ?_
                exact mr_iret F w hr hlk (by unfold qFrame; rw [if_neg c4, if_neg c14, if_neg c21, if_neg c22, if_neg c23, if_pos c25, if_neg c26]; exact ⟨rfl, rfl⟩) d_R_frame_107
            · refine lv_tableOut (tgt := 108) hx hb d_R_frame_33 (tabOut 3 (by decide) (fun k9 hk9 => by rcases (show k9 = 0 ∨ k9 = 1 ∨ k9 = 2 ∨ k9 = 3 by omega) with rfl | rfl | rfl | rfl <;> assumption)) (by decide) ?_
              refine lv_aload_n hx hb d_R_frame_108 rfl (lv_at hl 0 rfl) ?_
              refine mr_get F w (kin in_R) 0 (by decide) rfl rfl 16 (by decide) (kws_in m_544) (fun _ h => h) rfl d_R_frame_109 ?_
              refine lv_iload_n hx hb d_R_frame_112 rfl (lv_at hl 1 rfl) ?_
              refine nr_as (k := f.toNatClampNeg) (qInv_nat (by decide) (by decide) c4).1.2 ?_
              refine mr_iaN F w 11 0 (by decide) rfl rfl f.toNatClampNeg (by omega) (by decide) rfl d_R_frame_113 ?_
              exact mr_iret F w hr hlk (by unfold qFrame; rw [if_neg c4, if_neg c14, if_neg c21, if_neg c22, if_neg c23, if_neg c25]; exact ⟨rfl, rfl⟩) d_R_frame_114
    · refine lv_iconst (v := nI 1) hx hb d_R_frame_17 (by decide) ?_
      refine lv_goto (tgt := 22) hx hb d_R_frame_18 (by decide) ?_
      refine lv_iconst (v := nI 0) hx hb d_R_frame_22 (by decide) ?_
      refine lv_iconst (v := nI 0) hx hb d_R_frame_23 (by decide) ?_
      refine mr_callVi (As := [.int (nI 1), .int (nI 0), .int (nI 0)]) F w hl.1 (c_R_refused σ (nI 1) (nI 0) (nI 0)) (cwV 3 hts g_R_frame_24 rfl rfl rfl (by decide +kernel) ⟨Nat.le_of_ble_eq_true rfl, Nat.le_of_ble_eq_true rfl⟩) rfl (by decide) rfl rfl rfl (Nat.le_of_ble_eq_true rfl) d_R_frame_24 ⟨Nat.zero_le _, Nat.zero_le _⟩ (fun r27 σ28 H locs e29 w => ?_)
      have e29_r := e29.1.symm
      have e29_s := e29.2.symm
      clear e29
      rw [show σ28 = mup σ 0 0 (nI 1) from (by subst e29_r e29_s; rfl)] at w
      refine nr_as (k := 1) (by subst e29_r e29_s; rfl) ?_
      clear e29_r e29_s
      refine lv_if_eq (tgt := 32) hx hb d_R_frame_27 (by decide) (fun c30 => absurd c30 (by decide)) (fun _ => ?_)
      refine lv_iconst (v := nI 0) hx hb d_R_frame_30 (by decide) ?_
      exact mr_iret F w hr hlk (by unfold qFrame; rw [if_neg c4, if_pos c14]; exact ⟨rfl, rfl⟩) d_R_frame_31
def qLog (σ : Mem) (k : Int32) : Int32 × Mem :=
  if (qInv k (nI 0) (nI 2)) = 0 then (nI 0, mup σ 0 0 (nI 1))
  else if (nI k.toNatClampNeg) = 0 then ((mup σ 0 0 (nI 0)) 0 9, mup σ 0 0 (nI 0))
  else if k.toNatClampNeg = 1 then ((mup σ 0 0 (nI 0)) 0 10, mup σ 0 0 (nI 0))
  else ((mup σ 0 0 (nI 0)) 0 11, mup σ 0 0 (nI 0))
set_option maxHeartbeats 4000000 in
set_option maxRecDepth 100000 in
theorem c_R_log (σ : Mem) (k : Int32) : KIR l D cI cF cZ cJ ad y_R_log b_R_log 2 (some .int) 2 60 [.ref (ad 0), .int k] σ (fun r σ' => r = (qLog σ k).1 ∧ σ' = (qLog σ k).2) := by
  refine KI.of (by decide) (Nat.le_of_ble_eq_true rfl) ?_
  intro p e s m args below meth c A ls F w hl hr hlk
  obtain ⟨hx, hb, hml, hown, hts⟩ := id F
  have hl : lv_has ls 2 [(0, .ref (ad 0)), (1, .int k)] := hl
  refine lv_aload_n hx hb d_R_log_0 rfl (lv_at hl 0 rfl) ?_
  refine lv_iload_n hx hb d_R_log_1 rfl (lv_at hl 1 rfl) ?_
  refine lv_iconst (v := nI 0) hx hb d_R_log_2 (by decide) ?_
  refine lv_iconst (v := nI 2) hx hb d_R_log_3 (by decide) ?_
  refine mr_callSi (As := [.int k, .int (nI 0), .int (nI 2)]) F w hl.1 (c_R_in σ k (nI 0) (nI 2)) (cwS 3 hts g_R_log_4 rfl rfl rfl (by decide +kernel) ⟨Nat.le_of_ble_eq_true rfl, Nat.le_of_ble_eq_true rfl⟩) rfl rfl (Nat.le_of_ble_eq_true rfl) d_R_log_4 ⟨Nat.zero_le _, Nat.zero_le _⟩ (fun r1 σ2 H locs e3 w => ?_)
  obtain ⟨rfl, hs9⟩ := e3
  rw [hs9] at w
  clear hs9
  refine lv_if_ne (tgt := 14) hx hb d_R_log_7 (by decide) (fun c4 => ?_) (fun c4 => ?_)
  · have hb5 : k.toNatClampNeg < 3 := (qInv_nat (by decide) (by decide) c4).1.1
    have hb6 : 0 ≤ k.toNatClampNeg := (qInv_nat (by decide) (by decide) c4).2
    refine lv_iconst (v := nI 0) hx hb d_R_log_14 (by decide) ?_
    refine lv_iconst (v := nI 0) hx hb d_R_log_15 (by decide) ?_
    refine lv_iconst (v := nI 0) hx hb d_R_log_16 (by decide) ?_
    refine mr_callVi (As := [.int (nI 0), .int (nI 0), .int (nI 0)]) F w hl.1 (c_R_refused σ (nI 0) (nI 0) (nI 0)) (cwV 3 hts g_R_log_17 rfl rfl rfl (by decide +kernel) ⟨Nat.le_of_ble_eq_true rfl, Nat.le_of_ble_eq_true rfl⟩) rfl (by decide) rfl rfl rfl (Nat.le_of_ble_eq_true rfl) d_R_log_17 ⟨Nat.zero_le _, Nat.zero_le _⟩ (fun r7 σ8 H locs e9 w => ?_)
    have e9_r := e9.1.symm
    have e9_s := e9.2.symm
    clear e9
    rw [show σ8 = mup σ 0 0 (nI 0) from (by subst e9_r e9_s; rfl)] at w
    refine nr_as (k := 0) (by subst e9_r e9_s; rfl) ?_
    clear e9_r e9_s
    refine lv_if_eq (tgt := 25) hx hb d_R_log_20 (by decide) (fun _ => ?_) (fun c10 => absurd c10 (by decide))
    refine lv_iload_n hx hb d_R_log_25 rfl (lv_at hl 1 rfl) ?_
    refine nr_as (k := k.toNatClampNeg) (qInv_nat (by decide) (by decide) c4).1.2 ?_
    refine lv_if_ne (tgt := 36) hx hb d_R_log_26 (by decide) (fun c11 => ?_) (fun c11 => ?_)
    · refine lv_iload_n hx hb d_R_log_36 rfl (lv_at hl 1 rfl) ?_
      refine nr_as (k := k.toNatClampNeg) (qInv_nat (by decide) (by decide) c4).1.2 ?_
      refine lv_iconst (v := nI 1) hx hb d_R_log_37 (by decide) ?_
      refine nr_icmp_ne (tgt := 48) hx hb d_R_log_38 (by decide) (by omega) (by omega) (fun c12 => ?_) (fun c12 => ?_)
      · refine lv_aload_n hx hb d_R_log_48 rfl (lv_at hl 0 rfl) ?_
        refine mr_get F w (kin in_R) 0 (by decide) rfl rfl 11 (by decide) (kws_in m_539) (fun _ h => h) rfl d_R_log_49 ?_
        exact mr_iret F w hr hlk (by unfold qLog; rw [if_neg c4, if_neg c11, if_neg c12]; exact ⟨rfl, rfl⟩) d_R_log_52
      · refine lv_aload_n hx hb d_R_log_41 rfl (lv_at hl 0 rfl) ?_
        refine mr_get F w (kin in_R) 0 (by decide) rfl rfl 10 (by decide) (kws_in m_538) (fun _ h => h) rfl d_R_log_42 ?_
        refine lv_goto (tgt := 52) hx hb d_R_log_45 (by decide) ?_
        exact mr_iret F w hr hlk (by unfold qLog; rw [if_neg c4, if_neg c11, if_pos c12]; exact ⟨rfl, rfl⟩) d_R_log_52
    · refine lv_aload_n hx hb d_R_log_29 rfl (lv_at hl 0 rfl) ?_
      refine mr_get F w (kin in_R) 0 (by decide) rfl rfl 9 (by decide) (kws_in m_537) (fun _ h => h) rfl d_R_log_30 ?_
      refine lv_goto (tgt := 52) hx hb d_R_log_33 (by decide) ?_
      exact mr_iret F w hr hlk (by unfold qLog; rw [if_neg c4, if_pos c11]; exact ⟨rfl, rfl⟩) d_R_log_52
  · refine lv_iconst (v := nI 1) hx hb d_R_log_10 (by decide) ?_
    refine lv_goto (tgt := 15) hx hb d_R_log_11 (by decide) ?_
    refine lv_iconst (v := nI 0) hx hb d_R_log_15 (by decide) ?_
    refine lv_iconst (v := nI 0) hx hb d_R_log_16 (by decide) ?_
    refine mr_callVi (As := [.int (nI 1), .int (nI 0), .int (nI 0)]) F w hl.1 (c_R_refused σ (nI 1) (nI 0) (nI 0)) (cwV 3 hts g_R_log_17 rfl rfl rfl (by decide +kernel) ⟨Nat.le_of_ble_eq_true rfl, Nat.le_of_ble_eq_true rfl⟩) rfl (by decide) rfl rfl rfl (Nat.le_of_ble_eq_true rfl) d_R_log_17 ⟨Nat.zero_le _, Nat.zero_le _⟩ (fun r13 σ14 H locs e15 w => ?_)
    have e15_r := e15.1.symm
    have e15_s := e15.2.symm
    clear e15
    rw [show σ14 = mup σ 0 0 (nI 1) from (by subst e15_r e15_s; rfl)] at w
    refine nr_as (k := 1) (by subst e15_r e15_s; rfl) ?_
    clear e15_r e15_s
    refine lv_if_eq (tgt := 25) hx hb d_R_log_20 (by decide) (fun c16 => absurd c16 (by decide)) (fun _ => ?_)
    refine lv_iconst (v := nI 0) hx hb d_R_log_23 (by decide) ?_
    exact mr_iret F w hr hlk (by unfold qLog; rw [if_pos c4]; exact ⟨rfl, rfl⟩) d_R_log_24
def qOnM (σ : Mem) (pg i : Int32) : Int32 × Mem :=
  if (qInv pg (nI 0) (nI 255)) = 0 then (nI 0, mup σ 0 0 (nI 1))
  else if (qInv i (nI 0) (nI 63)) = 0 then (nI 0, mup σ 0 0 (nI 1))
  else ((mup σ 0 0 (nI 0)) 1 ((64 * pg.toNatClampNeg) + i.toNatClampNeg), mup σ 0 0 (nI 0))
set_option maxHeartbeats 4000000 in
set_option maxRecDepth 100000 in
theorem c_R_onMedium (σ : Mem) (pg i : Int32) : KIR l D cI cF cZ cJ ad y_R_onMedium b_R_onMedium 3 (some .int) 2 60 [.ref (ad 0), .int pg, .int i] σ (fun r σ' => r = (qOnM σ pg i).1 ∧ σ' = (qOnM σ pg i).2) := by
  refine KI.of (by decide) (Nat.le_of_ble_eq_true rfl) ?_
  intro p e s m args below meth c A ls F w hl hr hlk
  obtain ⟨hx, hb, hml, hown, hts⟩ := id F
  have hl : lv_has ls 3 [(0, .ref (ad 0)), (1, .int pg), (2, .int i)] := hl
  refine lv_aload_n hx hb d_R_onMedium_0 rfl (lv_at hl 0 rfl) ?_
  refine lv_iload_n hx hb d_R_onMedium_1 rfl (lv_at hl 1 rfl) ?_
  refine lv_iconst (v := nI 0) hx hb d_R_onMedium_2 (by decide) ?_
  refine lv_sipush (v := nI 255) hx hb d_R_onMedium_3 (by decide) ?_
  refine mr_callSi (As := [.int pg, .int (nI 0), .int (nI 255)]) F w hl.1 (c_R_in σ pg (nI 0) (nI 255)) (cwS 3 hts g_R_onMedium_6 rfl rfl rfl (by decide +kernel) ⟨Nat.le_of_ble_eq_true rfl, Nat.le_of_ble_eq_true rfl⟩) rfl rfl (Nat.le_of_ble_eq_true rfl) d_R_onMedium_6 ⟨Nat.zero_le _, Nat.zero_le _⟩ (fun r1 σ2 H locs e3 w => ?_)
  obtain ⟨rfl, hs9⟩ := e3
  rw [hs9] at w
  clear hs9
  refine lv_if_eq (tgt := 22) hx hb d_R_onMedium_9 (by decide) (fun c4 => ?_) (fun c4 => ?_)
  · refine lv_iconst (v := nI 1) hx hb d_R_onMedium_22 (by decide) ?_
    refine lv_goto (tgt := 27) hx hb d_R_onMedium_23 (by decide) ?_
    refine lv_iconst (v := nI 0) hx hb d_R_onMedium_27 (by decide) ?_
    refine lv_iconst (v := nI 0) hx hb d_R_onMedium_28 (by decide) ?_
    refine mr_callVi (As := [.int (nI 1), .int (nI 0), .int (nI 0)]) F w hl.1 (c_R_refused σ (nI 1) (nI 0) (nI 0)) (cwV 3 hts g_R_onMedium_29 rfl rfl rfl (by decide +kernel) ⟨Nat.le_of_ble_eq_true rfl, Nat.le_of_ble_eq_true rfl⟩) rfl (by decide) rfl rfl rfl (Nat.le_of_ble_eq_true rfl) d_R_onMedium_29 ⟨Nat.zero_le _, Nat.zero_le _⟩ (fun r5 σ6 H locs e7 w => ?_)
    have e7_r := e7.1.symm
    have e7_s := e7.2.symm
    clear e7
    rw [show σ6 = mup σ 0 0 (nI 1) from (by subst e7_r e7_s; rfl)] at w
    refine nr_as (k := 1) (by subst e7_r e7_s; rfl) ?_
    clear e7_r e7_s
    refine lv_if_eq (tgt := 39) hx hb d_R_onMedium_32 (by decide) (fun c8 => absurd c8 (by decide)) (fun _ => ?_)
    refine lv_iconst (v := nI 0) hx hb d_R_onMedium_35 (by decide) ?_
    refine lv_goto (tgt := 50) hx hb d_R_onMedium_36 (by decide) ?_
    exact mr_iret F w hr hlk (by unfold qOnM; rw [if_pos c4]; exact ⟨rfl, rfl⟩) d_R_onMedium_50
  · have hb9 : pg.toNatClampNeg < 256 := (qInv_nat (by decide) (by decide) c4).1.1
    have hb10 : 0 ≤ pg.toNatClampNeg := (qInv_nat (by decide) (by decide) c4).2
    refine lv_iload_n hx hb d_R_onMedium_12 rfl (lv_at hl 2 rfl) ?_
    refine lv_iconst (v := nI 0) hx hb d_R_onMedium_13 (by decide) ?_
    refine lv_bipush (v := nI 63) hx hb d_R_onMedium_14 (by decide) ?_
    refine mr_callSi (As := [.int i, .int (nI 0), .int (nI 63)]) F w hl.1 (c_R_in σ i (nI 0) (nI 63)) (cwS 3 hts g_R_onMedium_16 rfl rfl rfl (by decide +kernel) ⟨Nat.le_of_ble_eq_true rfl, Nat.le_of_ble_eq_true rfl⟩) rfl rfl (Nat.le_of_ble_eq_true rfl) d_R_onMedium_16 ⟨Nat.zero_le _, Nat.zero_le _⟩ (fun r11 σ12 H locs e13 w => ?_)
    obtain ⟨rfl, hs9⟩ := e13
    rw [hs9] at w
    clear hs9
    refine lv_if_ne (tgt := 26) hx hb d_R_onMedium_19 (by decide) (fun c14 => ?_) (fun c14 => ?_)
    · have hb15 : i.toNatClampNeg < 64 := (qInv_nat (by decide) (by decide) c14).1.1
      have hb16 : 0 ≤ i.toNatClampNeg := (qInv_nat (by decide) (by decide) c14).2
      refine lv_iconst (v := nI 0) hx hb d_R_onMedium_26 (by decide) ?_
      refine lv_iconst (v := nI 0) hx hb d_R_onMedium_27 (by decide) ?_
      refine lv_iconst (v := nI 0) hx hb d_R_onMedium_28 (by decide) ?_
      refine mr_callVi (As := [.int (nI 0), .int (nI 0), .int (nI 0)]) F w hl.1 (c_R_refused σ (nI 0) (nI 0) (nI 0)) (cwV 3 hts g_R_onMedium_29 rfl rfl rfl (by decide +kernel) ⟨Nat.le_of_ble_eq_true rfl, Nat.le_of_ble_eq_true rfl⟩) rfl (by decide) rfl rfl rfl (Nat.le_of_ble_eq_true rfl) d_R_onMedium_29 ⟨Nat.zero_le _, Nat.zero_le _⟩ (fun r17 σ18 H locs e19 w => ?_)
      have e19_r := e19.1.symm
      have e19_s := e19.2.symm
      clear e19
      rw [show σ18 = mup σ 0 0 (nI 0) from (by subst e19_r e19_s; rfl)] at w
      refine nr_as (k := 0) (by subst e19_r e19_s; rfl) ?_
      clear e19_r e19_s
      refine lv_if_eq (tgt := 39) hx hb d_R_onMedium_32 (by decide) (fun _ => ?_) (fun c20 => absurd c20 (by decide))
      refine lv_aload_n hx hb d_R_onMedium_39 rfl (lv_at hl 0 rfl) ?_
      refine mr_get F w (kin in_R) 0 (by decide) rfl rfl 1 (by decide) (kws_in m_529) (fun _ h => h) rfl d_R_onMedium_40 ?_
      refine lv_bipush (v := nI 64) hx hb d_R_onMedium_43 (by decide) ?_
      refine lv_iload_n hx hb d_R_onMedium_45 rfl (lv_at hl 1 rfl) ?_
      refine nr_as (k := pg.toNatClampNeg) (qInv_nat (by decide) (by decide) c4).1.2 ?_
      refine nr_imul hx hb d_R_onMedium_46 ?_
      refine lv_iload_n hx hb d_R_onMedium_47 rfl (lv_at hl 2 rfl) ?_
      refine nr_as (k := i.toNatClampNeg) (qInv_nat (by decide) (by decide) c14).1.2 ?_
      refine nr_iadd hx hb d_R_onMedium_48 ?_
      refine mr_iaN F w 1 0 (by decide) rfl rfl ((64 * pg.toNatClampNeg) + i.toNatClampNeg) (by omega) (by decide) rfl d_R_onMedium_49 ?_
      exact mr_iret F w hr hlk (by unfold qOnM; rw [if_neg c4, if_neg c14]; exact ⟨rfl, rfl⟩) d_R_onMedium_50
    · refine lv_iconst (v := nI 1) hx hb d_R_onMedium_22 (by decide) ?_
      refine lv_goto (tgt := 27) hx hb d_R_onMedium_23 (by decide) ?_
      refine lv_iconst (v := nI 0) hx hb d_R_onMedium_27 (by decide) ?_
      refine lv_iconst (v := nI 0) hx hb d_R_onMedium_28 (by decide) ?_
      refine mr_callVi (As := [.int (nI 1), .int (nI 0), .int (nI 0)]) F w hl.1 (c_R_refused σ (nI 1) (nI 0) (nI 0)) (cwV 3 hts g_R_onMedium_29 rfl rfl rfl (by decide +kernel) ⟨Nat.le_of_ble_eq_true rfl, Nat.le_of_ble_eq_true rfl⟩) rfl (by decide) rfl rfl rfl (Nat.le_of_ble_eq_true rfl) d_R_onMedium_29 ⟨Nat.zero_le _, Nat.zero_le _⟩ (fun r21 σ22 H locs e23 w => ?_)
      have e23_r := e23.1.symm
      have e23_s := e23.2.symm
      clear e23
      rw [show σ22 = mup σ 0 0 (nI 1) from (by subst e23_r e23_s; rfl)] at w
      refine nr_as (k := 1) (by subst e23_r e23_s; rfl) ?_
      clear e23_r e23_s
      refine lv_if_eq (tgt := 39) hx hb d_R_onMedium_32 (by decide) (fun c24 => absurd c24 (by decide)) (fun _ => ?_)
      refine lv_iconst (v := nI 0) hx hb d_R_onMedium_35 (by decide) ?_
      refine lv_goto (tgt := 50) hx hb d_R_onMedium_36 (by decide) ?_
      exact mr_iret F w hr hlk (by unfold qOnM; rw [if_neg c4, if_pos c14]; exact ⟨rfl, rfl⟩) d_R_onMedium_50
def qOldest (σ : Mem) (k : Int32) : Int32 × Mem :=
  if 0 ≤ k then (qKth (mup σ 0 0 (nI 0)) k 8 0 (-1), mup σ 0 0 (nI 0))
  else ((-1), mup σ 0 0 (nI 0))
set_option maxHeartbeats 4000000 in
set_option maxRecDepth 100000 in
theorem c_R_oldest (σ : Mem) (k : Int32) : KIR l D cI cF cZ cJ ad y_R_oldest b_R_oldest 2 (some .int) 2 60 [.ref (ad 0), .int k] σ (fun r σ' => r = (qOldest σ k).1 ∧ σ' = (qOldest σ k).2) := by
  refine KI.of (by decide) (Nat.le_of_ble_eq_true rfl) ?_
  intro p e s m args below meth c A ls F w hl hr hlk
  obtain ⟨hx, hb, hml, hown, hts⟩ := id F
  have hl : lv_has ls 2 [(0, .ref (ad 0)), (1, .int k)] := hl
  refine lv_aload_n hx hb d_R_oldest_0 rfl (lv_at hl 0 rfl) ?_
  refine lv_iconst (v := nI 0) hx hb d_R_oldest_1 (by decide) ?_
  refine mr_put F w (kin in_R) t_R t_R_ok n_R 0 (by decide) rfl rfl 0 (by decide) (kws_in m_528) (fun _ h => h) rfl rfl rfl (Nat.le_of_ble_eq_true rfl) rfl d_R_oldest_2 (fun H locs w => ?_)
  refine lv_iload_n hx hb d_R_oldest_5 rfl (lv_at hl 1 rfl) ?_
  refine lv_if_ge (tgt := 13) hx hb d_R_oldest_6 (by decide) (fun c1 => ?_) (fun c1 => ?_)
  · refine lv_aload_n hx hb d_R_oldest_13 rfl (lv_at hl 0 rfl) ?_
    refine lv_iload_n hx hb d_R_oldest_14 rfl (lv_at hl 1 rfl) ?_
    refine mr_callVi (As := [.int k]) F w hl.1 (c_R_kth (mup σ 0 0 (nI 0)) k) (cwV 1 hts g_R_oldest_15 rfl rfl rfl (by decide +kernel) ⟨Nat.le_of_ble_eq_true rfl, Nat.le_of_ble_eq_true rfl⟩) rfl (by decide) rfl rfl rfl (Nat.le_of_ble_eq_true rfl) d_R_oldest_15 ⟨Nat.zero_le _, Nat.zero_le _⟩ (fun r2 σ3 H locs e4 w => ?_)
    obtain ⟨rfl, hs9⟩ := e4
    rw [hs9] at w
    clear hs9
    exact mr_iret F w hr hlk (by unfold qOldest; rw [if_pos c1]; exact ⟨rfl, rfl⟩) d_R_oldest_18
  · refine lv_iconst (v := -1) hx hb d_R_oldest_9 (by decide) ?_
    refine lv_goto (tgt := 18) hx hb d_R_oldest_10 (by decide) ?_
    exact mr_iret F w hr hlk (by unfold qOldest; rw [if_neg c1]; exact ⟨rfl, rfl⟩) d_R_oldest_18
theorem qPut_0 (σ : Mem) (f i : Nat) (v x : Int32) {j : Nat} (h7 : j ≠ 7) (h11 : j ≠ 11) : qPut σ f i v x j = σ j := by
  unfold qPut
  split <;> rw [mup_n _ _ _ h11, mup_n _ _ _ h7, mup_n _ _ _ h7]
def qChange (σ : Mem) (f i v : Int32) : Int32 × Mem :=
  if (σ 0 18) = 0 then (if (qInv f (nI 0) (nI 7)) = 0 then (if (qInv f (nI 0) (nI 7)) = 0 then (nI 0, mup σ 0 0 (nI 2))
      else if (qInv i (nI 1) (nI 63)) = 0 then (nI 0, mup σ 0 0 (nI 2))
      else if (((nI ((σ 0 11).toNatClampNeg)) - ((mup σ 0 0 (nI 0)) 0 9)) + (nI 8)) ≤ (nI 65536) then ((nI (((σ 0 11).toNatClampNeg) + 8)) - (nI 8), mup (qPut (mup (mup (mup (mup (mup σ 0 0 (nI 0)) 3 (((σ 0 11).toNatClampNeg) / 8 % 8192) ((mup σ 0 0 (nI 0)) 8 f.toNatClampNeg)) 4 (((σ 0 11).toNatClampNeg) / 8 % 8192) (nI i.toNatClampNeg)) 5 (((σ 0 11).toNatClampNeg) / 8 % 8192) v) 6 (((σ 0 11).toNatClampNeg) / 8 % 8192) (nI 0)) f.toNatClampNeg i.toNatClampNeg v (nI ((σ 0 11).toNatClampNeg))) 0 11 (nI (((σ 0 11).toNatClampNeg) + 8)))
      else ((-1), mup σ 0 0 (nI 0)))
    else if (σ 9 f.toNatClampNeg) = 0 then (if (qInv (nI f.toNatClampNeg) (nI 0) (nI 7)) = 0 then (nI 0, mup σ 0 0 (nI 1))
      else if (qInv i (nI 1) (nI 63)) = 0 then (nI 0, mup σ 0 0 (nI 1))
      else (nI 0, mup σ 0 0 (nI 1)))
    else if (qInv (nI f.toNatClampNeg) (nI 0) (nI 7)) = 0 then (nI 0, mup σ 0 0 (nI 2))
    else if (qInv i (nI 1) (nI 63)) = 0 then (nI 0, mup σ 0 0 (nI 2))
    else if (((nI ((σ 0 11).toNatClampNeg)) - ((mup σ 0 0 (nI 0)) 0 9)) + (nI 8)) ≤ (nI 65536) then ((nI (((σ 0 11).toNatClampNeg) + 8)) - (nI 8), mup (qPut (mup (mup (mup (mup (mup σ 0 0 (nI 0)) 3 (((σ 0 11).toNatClampNeg) / 8 % 8192) ((mup σ 0 0 (nI 0)) 8 f.toNatClampNeg)) 4 (((σ 0 11).toNatClampNeg) / 8 % 8192) (nI i.toNatClampNeg)) 5 (((σ 0 11).toNatClampNeg) / 8 % 8192) v) 6 (((σ 0 11).toNatClampNeg) / 8 % 8192) (nI 0)) f.toNatClampNeg i.toNatClampNeg v (nI ((σ 0 11).toNatClampNeg))) 0 11 (nI (((σ 0 11).toNatClampNeg) + 8)))
    else ((-1), mup σ 0 0 (nI 0)))
  else if (qInv f (nI 0) (nI 7)) = 0 then (nI 0, mup σ 0 0 (nI 1))
  else if (qInv i (nI 1) (nI 63)) = 0 then (nI 0, mup σ 0 0 (nI 1))
  else (nI 0, mup σ 0 0 (nI 1))
set_option maxHeartbeats 4000000 in
set_option maxRecDepth 100000 in
theorem c_R_change (σ : Mem) (f i v : Int32) (hE1 : (σ 0 11).toNatClampNeg < 2 ^ 30) (hE2 : σ 0 11 = nI (σ 0 11).toNatClampNeg) : KIR l D cI cF cZ cJ ad y_R_change b_R_change 5 (some .int) 2 60 [.ref (ad 0), .int f, .int i, .int v] σ (fun r σ' => r = (qChange σ f i v).1 ∧ σ' = (qChange σ f i v).2) := by
  refine KI.of (by decide) (Nat.le_of_ble_eq_true rfl) ?_
  intro p e s m args below meth c A ls F w hl hr hlk
  obtain ⟨hx, hb, hml, hown, hts⟩ := id F
  have hl : lv_has ls 5 [(0, .ref (ad 0)), (1, .int f), (2, .int i), (3, .int v)] := hl
  refine lv_aload_n hx hb d_R_change_0 rfl (lv_at hl 0 rfl) ?_
  refine lv_aload_n hx hb d_R_change_1 rfl (lv_at hl 0 rfl) ?_
  refine mr_get F w (kin in_R) 0 (by decide) rfl rfl 18 (by decide) (kws_in m_546) (fun _ h => h) rfl d_R_change_2 ?_
  refine lv_if_ne (tgt := 24) hx hb d_R_change_5 (by decide) (fun c1 => ?_) (fun c1 => ?_)
  · refine lv_iconst (v := nI 1) hx hb d_R_change_24 (by decide) ?_
    refine lv_goto (tgt := 29) hx hb d_R_change_25 (by decide) ?_
    refine lv_iload_n hx hb d_R_change_29 rfl (lv_at hl 1 rfl) ?_
    refine mr_callSi (As := [.int f]) F w hl.1 (c_R_isFrame σ f) (cwS 1 hts g_R_change_30 rfl rfl rfl (by decide +kernel) ⟨Nat.le_of_ble_eq_true rfl, Nat.le_of_ble_eq_true rfl⟩) rfl rfl (Nat.le_of_ble_eq_true rfl) d_R_change_30 ⟨Nat.zero_le _, Nat.zero_le _⟩ (fun r2 σ3 H locs e4 w => ?_)
    obtain ⟨rfl, hs9⟩ := e4
    rw [hs9] at w
    clear hs9
    refine lv_if_eq (tgt := 46) hx hb d_R_change_33 (by decide) (fun c5 => ?_) (fun c5 => ?_)
    · refine lv_iconst (v := nI 1) hx hb d_R_change_46 (by decide) ?_
      refine lv_goto (tgt := 51) hx hb d_R_change_47 (by decide) ?_
      refine lv_iconst (v := nI 0) hx hb d_R_change_51 (by decide) ?_
      refine mr_callVi (As := [.int (nI 1), .int (nI 1), .int (nI 0)]) F w hl.1 (c_R_refused σ (nI 1) (nI 1) (nI 0)) (cwV 3 hts g_R_change_52 rfl rfl rfl (by decide +kernel) ⟨Nat.le_of_ble_eq_true rfl, Nat.le_of_ble_eq_true rfl⟩) rfl (by decide) rfl rfl rfl (Nat.le_of_ble_eq_true rfl) d_R_change_52 ⟨Nat.zero_le _, Nat.zero_le _⟩ (fun r6 σ7 H locs e8 w => ?_)
      have e8_r := e8.1.symm
      have e8_s := e8.2.symm
      clear e8
      rw [show σ7 = mup σ 0 0 (nI 1) from (by subst e8_r e8_s; rfl)] at w
      refine nr_as (k := 1) (by subst e8_r e8_s; rfl) ?_
      clear e8_r e8_s
      refine lv_if_eq (tgt := 60) hx hb d_R_change_55 (by decide) (fun c9 => absurd c9 (by decide)) (fun _ => ?_)
      refine lv_iconst (v := nI 0) hx hb d_R_change_58 (by decide) ?_
      exact mr_iret F w hr hlk (by unfold qChange; rw [if_neg c1, if_pos c5]; exact ⟨rfl, rfl⟩) d_R_change_59
    · have hb10 : f.toNatClampNeg < 8 := (qInv_nat (by decide) (by decide) c5).1.1
      have hb11 : 0 ≤ f.toNatClampNeg := (qInv_nat (by decide) (by decide) c5).2
      refine lv_iload_n hx hb d_R_change_36 rfl (lv_at hl 2 rfl) ?_
      refine lv_iconst (v := nI 1) hx hb d_R_change_37 (by decide) ?_
      refine lv_bipush (v := nI 63) hx hb d_R_change_38 (by decide) ?_
      refine mr_callSi (As := [.int i, .int (nI 1), .int (nI 63)]) F w hl.1 (c_R_in σ i (nI 1) (nI 63)) (cwS 3 hts g_R_change_40 rfl rfl rfl (by decide +kernel) ⟨Nat.le_of_ble_eq_true rfl, Nat.le_of_ble_eq_true rfl⟩) rfl rfl (Nat.le_of_ble_eq_true rfl) d_R_change_40 ⟨Nat.zero_le _, Nat.zero_le _⟩ (fun r12 σ13 H locs e14 w => ?_)
      obtain ⟨rfl, hs9⟩ := e14
      rw [hs9] at w
      clear hs9
      refine lv_if_ne (tgt := 50) hx hb d_R_change_43 (by decide) (fun c15 => ?_) (fun c15 => ?_)
      · have hb16 : i.toNatClampNeg < 64 := (qInv_nat (by decide) (by decide) c15).1.1
        have hb17 : 1 ≤ i.toNatClampNeg := (qInv_nat (by decide) (by decide) c15).2
        refine lv_iconst (v := nI 0) hx hb d_R_change_50 (by decide) ?_
        refine lv_iconst (v := nI 0) hx hb d_R_change_51 (by decide) ?_
        refine mr_callVi (As := [.int (nI 1), .int (nI 0), .int (nI 0)]) F w hl.1 (c_R_refused σ (nI 1) (nI 0) (nI 0)) (cwV 3 hts g_R_change_52 rfl rfl rfl (by decide +kernel) ⟨Nat.le_of_ble_eq_true rfl, Nat.le_of_ble_eq_true rfl⟩) rfl (by decide) rfl rfl rfl (Nat.le_of_ble_eq_true rfl) d_R_change_52 ⟨Nat.zero_le _, Nat.zero_le _⟩ (fun r18 σ19 H locs e20 w => ?_)
        have e20_r := e20.1.symm
        have e20_s := e20.2.symm
        clear e20
        rw [show σ19 = mup σ 0 0 (nI 1) from (by subst e20_r e20_s; rfl)] at w
        refine nr_as (k := 1) (by subst e20_r e20_s; rfl) ?_
        clear e20_r e20_s
        refine lv_if_eq (tgt := 60) hx hb d_R_change_55 (by decide) (fun c21 => absurd c21 (by decide)) (fun _ => ?_)
        refine lv_iconst (v := nI 0) hx hb d_R_change_58 (by decide) ?_
        exact mr_iret F w hr hlk (by unfold qChange; rw [if_neg c1, if_neg c5, if_neg c15]; exact ⟨rfl, rfl⟩) d_R_change_59
      · refine lv_iconst (v := nI 1) hx hb d_R_change_46 (by decide) ?_
        refine lv_goto (tgt := 51) hx hb d_R_change_47 (by decide) ?_
        refine lv_iconst (v := nI 0) hx hb d_R_change_51 (by decide) ?_
        refine mr_callVi (As := [.int (nI 1), .int (nI 1), .int (nI 0)]) F w hl.1 (c_R_refused σ (nI 1) (nI 1) (nI 0)) (cwV 3 hts g_R_change_52 rfl rfl rfl (by decide +kernel) ⟨Nat.le_of_ble_eq_true rfl, Nat.le_of_ble_eq_true rfl⟩) rfl (by decide) rfl rfl rfl (Nat.le_of_ble_eq_true rfl) d_R_change_52 ⟨Nat.zero_le _, Nat.zero_le _⟩ (fun r22 σ23 H locs e24 w => ?_)
        have e24_r := e24.1.symm
        have e24_s := e24.2.symm
        clear e24
        rw [show σ23 = mup σ 0 0 (nI 1) from (by subst e24_r e24_s; rfl)] at w
        refine nr_as (k := 1) (by subst e24_r e24_s; rfl) ?_
        clear e24_r e24_s
        refine lv_if_eq (tgt := 60) hx hb d_R_change_55 (by decide) (fun c25 => absurd c25 (by decide)) (fun _ => ?_)
        refine lv_iconst (v := nI 0) hx hb d_R_change_58 (by decide) ?_
        exact mr_iret F w hr hlk (by unfold qChange; rw [if_neg c1, if_neg c5, if_pos c15]; exact ⟨rfl, rfl⟩) d_R_change_59
  · refine lv_iload_n hx hb d_R_change_8 rfl (lv_at hl 1 rfl) ?_
    refine mr_callSi (As := [.int f]) F w hl.1 (c_R_isFrame σ f) (cwS 1 hts g_R_change_9 rfl rfl rfl (by decide +kernel) ⟨Nat.le_of_ble_eq_true rfl, Nat.le_of_ble_eq_true rfl⟩) rfl rfl (Nat.le_of_ble_eq_true rfl) d_R_change_9 ⟨Nat.zero_le _, Nat.zero_le _⟩ (fun r26 σ27 H locs e28 w => ?_)
    obtain ⟨rfl, hs9⟩ := e28
    rw [hs9] at w
    clear hs9
    refine lv_if_eq (tgt := 28) hx hb d_R_change_12 (by decide) (fun c29 => ?_) (fun c29 => ?_)
    · refine lv_iconst (v := nI 0) hx hb d_R_change_28 (by decide) ?_
      refine lv_iload_n hx hb d_R_change_29 rfl (lv_at hl 1 rfl) ?_
      refine mr_callSi (As := [.int f]) F w hl.1 (c_R_isFrame σ f) (cwS 1 hts g_R_change_30 rfl rfl rfl (by decide +kernel) ⟨Nat.le_of_ble_eq_true rfl, Nat.le_of_ble_eq_true rfl⟩) rfl rfl (Nat.le_of_ble_eq_true rfl) d_R_change_30 ⟨Nat.zero_le _, Nat.zero_le _⟩ (fun r30 σ31 H locs e32 w => ?_)
      obtain ⟨rfl, hs9⟩ := e32
      rw [hs9] at w
      clear hs9
      refine lv_if_eq (tgt := 46) hx hb d_R_change_33 (by decide) (fun c33 => ?_) (fun c33 => ?_)
      · refine lv_iconst (v := nI 1) hx hb d_R_change_46 (by decide) ?_
        refine lv_goto (tgt := 51) hx hb d_R_change_47 (by decide) ?_
        refine lv_iconst (v := nI 0) hx hb d_R_change_51 (by decide) ?_
        refine mr_callVi (As := [.int (nI 0), .int (nI 1), .int (nI 0)]) F w hl.1 (c_R_refused σ (nI 0) (nI 1) (nI 0)) (cwV 3 hts g_R_change_52 rfl rfl rfl (by decide +kernel) ⟨Nat.le_of_ble_eq_true rfl, Nat.le_of_ble_eq_true rfl⟩) rfl (by decide) rfl rfl rfl (Nat.le_of_ble_eq_true rfl) d_R_change_52 ⟨Nat.zero_le _, Nat.zero_le _⟩ (fun r34 σ35 H locs e36 w => ?_)
        have e36_r := e36.1.symm
        have e36_s := e36.2.symm
        clear e36
        rw [show σ35 = mup σ 0 0 (nI 2) from (by subst e36_r e36_s; rfl)] at w
        refine nr_as (k := 1) (by subst e36_r e36_s; rfl) ?_
        clear e36_r e36_s
        refine lv_if_eq (tgt := 60) hx hb d_R_change_55 (by decide) (fun c37 => absurd c37 (by decide)) (fun _ => ?_)
        refine lv_iconst (v := nI 0) hx hb d_R_change_58 (by decide) ?_
        exact mr_iret F w hr hlk (by unfold qChange; rw [if_pos c1, if_pos c29, if_pos c33]; exact ⟨rfl, rfl⟩) d_R_change_59
      · have hb38 : f.toNatClampNeg < 8 := (qInv_nat (by decide) (by decide) c33).1.1
        have hb39 : 0 ≤ f.toNatClampNeg := (qInv_nat (by decide) (by decide) c33).2
        refine lv_iload_n hx hb d_R_change_36 rfl (lv_at hl 2 rfl) ?_
        refine lv_iconst (v := nI 1) hx hb d_R_change_37 (by decide) ?_
        refine lv_bipush (v := nI 63) hx hb d_R_change_38 (by decide) ?_
        refine mr_callSi (As := [.int i, .int (nI 1), .int (nI 63)]) F w hl.1 (c_R_in σ i (nI 1) (nI 63)) (cwS 3 hts g_R_change_40 rfl rfl rfl (by decide +kernel) ⟨Nat.le_of_ble_eq_true rfl, Nat.le_of_ble_eq_true rfl⟩) rfl rfl (Nat.le_of_ble_eq_true rfl) d_R_change_40 ⟨Nat.zero_le _, Nat.zero_le _⟩ (fun r40 σ41 H locs e42 w => ?_)
        obtain ⟨rfl, hs9⟩ := e42
        rw [hs9] at w
        clear hs9
        refine lv_if_ne (tgt := 50) hx hb d_R_change_43 (by decide) (fun c43 => ?_) (fun c43 => ?_)
        · have hb44 : i.toNatClampNeg < 64 := (qInv_nat (by decide) (by decide) c43).1.1
          have hb45 : 1 ≤ i.toNatClampNeg := (qInv_nat (by decide) (by decide) c43).2
          refine lv_iconst (v := nI 0) hx hb d_R_change_50 (by decide) ?_
          refine lv_iconst (v := nI 0) hx hb d_R_change_51 (by decide) ?_
          refine mr_callVi (As := [.int (nI 0), .int (nI 0), .int (nI 0)]) F w hl.1 (c_R_refused σ (nI 0) (nI 0) (nI 0)) (cwV 3 hts g_R_change_52 rfl rfl rfl (by decide +kernel) ⟨Nat.le_of_ble_eq_true rfl, Nat.le_of_ble_eq_true rfl⟩) rfl (by decide) rfl rfl rfl (Nat.le_of_ble_eq_true rfl) d_R_change_52 ⟨Nat.zero_le _, Nat.zero_le _⟩ (fun r46 σ47 H locs e48 w => ?_)
          have e48_r := e48.1.symm
          have e48_s := e48.2.symm
          clear e48
          rw [show σ47 = mup σ 0 0 (nI 0) from (by subst e48_r e48_s; rfl)] at w
          refine nr_as (k := 0) (by subst e48_r e48_s; rfl) ?_
          clear e48_r e48_s
          refine lv_if_eq (tgt := 60) hx hb d_R_change_55 (by decide) (fun _ => ?_) (fun c49 => absurd c49 (by decide))
          refine lv_aload_n hx hb d_R_change_60 rfl (lv_at hl 0 rfl) ?_
          refine mr_get F w (kin in_R) 0 (by decide) rfl rfl 11 (by decide) (kws_in m_539) (fun _ h => h) rfl d_R_change_61 ?_
          refine nr_as (k := (σ 0 11).toNatClampNeg) (hE2) ?_
          refine lv_aload_n hx hb d_R_change_64 rfl (lv_at hl 0 rfl) ?_
          refine mr_get F w (kin in_R) 0 (by decide) rfl rfl 9 (by decide) (kws_in m_537) (fun _ h => h) rfl d_R_change_65 ?_
          refine lv_isub hx hb d_R_change_68 ?_
          refine lv_bipush (v := nI 8) hx hb d_R_change_69 (by decide) ?_
          refine lv_iadd hx hb d_R_change_71 ?_
          refine lv_ldc (v := nI 65536) hx hb hown (hts _ (kws_in m_678)) d_R_change_72 ?_
          refine lv_icmp_le (tgt := 79) hx hb d_R_change_74 (by decide) (fun c50 => ?_) (fun c50 => ?_)
          · refine lv_aload_n hx hb d_R_change_79 rfl (lv_at hl 0 rfl) ?_
            refine mr_get F w (kin in_R) 0 (by decide) rfl rfl 11 (by decide) (kws_in m_539) (fun _ h => h) rfl d_R_change_80 ?_
            refine nr_as (k := (σ 0 11).toNatClampNeg) (hE2) ?_
            refine mr_callSi (As := [.int (nI ((σ 0 11).toNatClampNeg))]) F w hl.1 ((fun sz => by have h9 := c_R_rowOf (l := l) (D := D) (cI := cI) (cF := cF) (cZ := cZ) (cJ := cJ) (ad := ad) (mup σ 0 0 (nI 0)) ((σ 0 11).toNatClampNeg) (by omega) sz; exact h9)) (cwS 1 hts g_R_change_83 rfl rfl rfl (by decide +kernel) ⟨Nat.le_of_ble_eq_true rfl, Nat.le_of_ble_eq_true rfl⟩) rfl rfl (Nat.le_of_ble_eq_true rfl) d_R_change_83 ⟨Nat.zero_le _, Nat.zero_le _⟩ (fun r51 σ52 H locs e53 w => ?_)
            obtain ⟨rfl, hs9⟩ := e53
            rw [hs9] at w
            clear hs9
            refine lv_istore (lv' := [(4, .int (nI (((σ 0 11).toNatClampNeg) / 8 % 8192))), (0, .ref (ad 0)), (1, .int f), (2, .int i), (3, .int v)]) hx hb d_R_change_86 hl (by decide) rfl (fun ls hl => ?_)
            refine lv_aload_n hx hb d_R_change_88 rfl (lv_at hl 1 rfl) ?_
            refine mr_get F w (kin in_R) 0 (by decide) rfl rfl 5 (by decide) (kws_in m_533) (fun _ h => h) rfl d_R_change_89 ?_
            refine lv_iload hx hb d_R_change_92 (lv_at hl 0 rfl) ?_
            refine lv_aload_n hx hb d_R_change_94 rfl (lv_at hl 1 rfl) ?_
            refine mr_get F w (kin in_R) 0 (by decide) rfl rfl 13 (by decide) (kws_in m_541) (fun _ h => h) rfl d_R_change_95 ?_
            refine lv_iload_n hx hb d_R_change_98 rfl (lv_at hl 2 rfl) ?_
            refine nr_as (k := f.toNatClampNeg) (qInv_nat (by decide) (by decide) c33).1.2 ?_
            refine mr_iaN F w 8 0 (by decide) rfl rfl f.toNatClampNeg (by omega) (by decide) rfl d_R_change_99 ?_
            refine mr_isN F w 3 0 (by decide) (fun _ => rfl) rfl (((σ 0 11).toNatClampNeg) / 8 % 8192) (by omega) (by decide) rfl d_R_change_100 (fun H locs w => ?_)
            refine lv_aload_n hx hb d_R_change_101 rfl (lv_at hl 1 rfl) ?_
            refine mr_get F w (kin in_R) 0 (by decide) rfl rfl 6 (by decide) (kws_in m_534) (fun _ h => h) rfl d_R_change_102 ?_
            refine lv_iload hx hb d_R_change_105 (lv_at hl 0 rfl) ?_
            refine lv_iload_n hx hb d_R_change_107 rfl (lv_at hl 3 rfl) ?_
            refine nr_as (k := i.toNatClampNeg) (qInv_nat (by decide) (by decide) c43).1.2 ?_
            refine mr_isN F w 4 0 (by decide) (fun _ => rfl) rfl (((σ 0 11).toNatClampNeg) / 8 % 8192) (by omega) (by decide) rfl d_R_change_108 (fun H locs w => ?_)
            refine lv_aload_n hx hb d_R_change_109 rfl (lv_at hl 1 rfl) ?_
            refine mr_get F w (kin in_R) 0 (by decide) rfl rfl 7 (by decide) (kws_in m_535) (fun _ h => h) rfl d_R_change_110 ?_
            refine lv_iload hx hb d_R_change_113 (lv_at hl 0 rfl) ?_
            refine lv_iload_n hx hb d_R_change_115 rfl (lv_at hl 4 rfl) ?_
            refine mr_isN F w 5 0 (by decide) (fun _ => rfl) rfl (((σ 0 11).toNatClampNeg) / 8 % 8192) (by omega) (by decide) rfl d_R_change_116 (fun H locs w => ?_)
            refine lv_aload_n hx hb d_R_change_117 rfl (lv_at hl 1 rfl) ?_
            refine mr_get F w (kin in_R) 0 (by decide) rfl rfl 8 (by decide) (kws_in m_536) (fun _ h => h) rfl d_R_change_118 ?_
            refine lv_iload hx hb d_R_change_121 (lv_at hl 0 rfl) ?_
            refine lv_iconst (v := nI 0) hx hb d_R_change_123 (by decide) ?_
            refine mr_bsN F w 6 2 (by decide) (fun _ => rfl) rfl (((σ 0 11).toNatClampNeg) / 8 % 8192) (by omega) (by decide) rfl (Or.inl rfl) d_R_change_124 (fun H locs w => ?_)
            refine lv_aload_n hx hb d_R_change_125 rfl (lv_at hl 1 rfl) ?_
            refine lv_iload_n hx hb d_R_change_126 rfl (lv_at hl 2 rfl) ?_
            refine nr_as (k := f.toNatClampNeg) (qInv_nat (by decide) (by decide) c33).1.2 ?_
            refine lv_iload_n hx hb d_R_change_127 rfl (lv_at hl 3 rfl) ?_
            refine nr_as (k := i.toNatClampNeg) (qInv_nat (by decide) (by decide) c43).1.2 ?_
            refine lv_iload_n hx hb d_R_change_128 rfl (lv_at hl 4 rfl) ?_
            refine lv_aload_n hx hb d_R_change_129 rfl (lv_at hl 1 rfl) ?_
            refine mr_get F w (kin in_R) 0 (by decide) rfl rfl 11 (by decide) (kws_in m_539) (fun _ h => h) rfl d_R_change_130 ?_
            refine nr_as (k := (σ 0 11).toNatClampNeg) (hE2) ?_
            refine mr_callVv (As := [.int (nI f.toNatClampNeg), .int (nI i.toNatClampNeg), .int v, .int (nI ((σ 0 11).toNatClampNeg))]) F w hl.1 (c_R_put (mup (mup (mup (mup (mup σ 0 0 (nI 0)) 3 (((σ 0 11).toNatClampNeg) / 8 % 8192) ((mup σ 0 0 (nI 0)) 8 f.toNatClampNeg)) 4 (((σ 0 11).toNatClampNeg) / 8 % 8192) (nI i.toNatClampNeg)) 5 (((σ 0 11).toNatClampNeg) / 8 % 8192) v) 6 (((σ 0 11).toNatClampNeg) / 8 % 8192) (nI 0)) f.toNatClampNeg i.toNatClampNeg (by omega) (by omega) v (nI ((σ 0 11).toNatClampNeg))) (cwV 4 hts g_R_change_133 rfl rfl rfl (by decide +kernel) ⟨Nat.le_of_ble_eq_true rfl, Nat.le_of_ble_eq_true rfl⟩) rfl (by decide) rfl rfl rfl (Nat.le_of_ble_eq_true rfl) d_R_change_133 ⟨Nat.zero_le _, Nat.zero_le _⟩ (fun σ55 H locs e56 w => ?_)
            replace e56 := Eq.symm e56
            refine lv_aload_n hx hb d_R_change_136 rfl (lv_at hl 1 rfl) ?_
            refine lv_aload_n hx hb d_R_change_137 rfl (lv_at hl 1 rfl) ?_
            refine mr_get F w (kin in_R) 0 (by decide) rfl rfl 11 (by decide) (kws_in m_539) (fun _ h => h) rfl d_R_change_138 ?_
            refine nr_as (k := (σ 0 11).toNatClampNeg) (by subst e56; rw [qPut_0 _ _ _ _ _ (by decide) (by decide)]; exact hE2) ?_
            refine lv_bipush (v := nI 8) hx hb d_R_change_141 (by decide) ?_
            refine nr_iadd hx hb d_R_change_143 ?_
            refine mr_put F w (kin in_R) t_R t_R_ok n_R 0 (by decide) rfl rfl 11 (by decide) (kws_in m_539) (fun _ h => h) rfl rfl rfl (Nat.le_of_ble_eq_true rfl) rfl d_R_change_144 (fun H locs w => ?_)
            refine lv_aload_n hx hb d_R_change_147 rfl (lv_at hl 1 rfl) ?_
            refine mr_get F w (kin in_R) 0 (by decide) rfl rfl 11 (by decide) (kws_in m_539) (fun _ h => h) rfl d_R_change_148 ?_
            refine nr_as (k := ((σ 0 11).toNatClampNeg) + 8) rfl ?_
            refine lv_bipush (v := nI 8) hx hb d_R_change_151 (by decide) ?_
            refine lv_isub hx hb d_R_change_153 ?_
            exact mr_iret F w hr hlk (by subst e56; unfold qChange; rw [if_pos c1, if_pos c29, if_neg c33, if_neg c43, if_pos c50]; exact ⟨rfl, rfl⟩) d_R_change_154
          · refine lv_iconst (v := -1) hx hb d_R_change_77 (by decide) ?_
            exact mr_iret F w hr hlk (by unfold qChange; rw [if_pos c1, if_pos c29, if_neg c33, if_neg c43, if_neg c50]; exact ⟨rfl, rfl⟩) d_R_change_78
        · refine lv_iconst (v := nI 1) hx hb d_R_change_46 (by decide) ?_
          refine lv_goto (tgt := 51) hx hb d_R_change_47 (by decide) ?_
          refine lv_iconst (v := nI 0) hx hb d_R_change_51 (by decide) ?_
          refine mr_callVi (As := [.int (nI 0), .int (nI 1), .int (nI 0)]) F w hl.1 (c_R_refused σ (nI 0) (nI 1) (nI 0)) (cwV 3 hts g_R_change_52 rfl rfl rfl (by decide +kernel) ⟨Nat.le_of_ble_eq_true rfl, Nat.le_of_ble_eq_true rfl⟩) rfl (by decide) rfl rfl rfl (Nat.le_of_ble_eq_true rfl) d_R_change_52 ⟨Nat.zero_le _, Nat.zero_le _⟩ (fun r57 σ58 H locs e59 w => ?_)
          have e59_r := e59.1.symm
          have e59_s := e59.2.symm
          clear e59
          rw [show σ58 = mup σ 0 0 (nI 2) from (by subst e59_r e59_s; rfl)] at w
          refine nr_as (k := 1) (by subst e59_r e59_s; rfl) ?_
          clear e59_r e59_s
          refine lv_if_eq (tgt := 60) hx hb d_R_change_55 (by decide) (fun c60 => absurd c60 (by decide)) (fun _ => ?_)
          refine lv_iconst (v := nI 0) hx hb d_R_change_58 (by decide) ?_
          exact mr_iret F w hr hlk (by unfold qChange; rw [if_pos c1, if_pos c29, if_neg c33, if_pos c43]; exact ⟨rfl, rfl⟩) d_R_change_59
    · have hb61 : f.toNatClampNeg < 8 := (qInv_nat (by decide) (by decide) c29).1.1
      have hb62 : 0 ≤ f.toNatClampNeg := (qInv_nat (by decide) (by decide) c29).2
      refine lv_aload_n hx hb d_R_change_15 rfl (lv_at hl 0 rfl) ?_
      refine mr_get F w (kin in_R) 0 (by decide) rfl rfl 14 (by decide) (kws_in m_542) (fun _ h => h) rfl d_R_change_16 ?_
      refine lv_iload_n hx hb d_R_change_19 rfl (lv_at hl 1 rfl) ?_
      refine nr_as (k := f.toNatClampNeg) (qInv_nat (by decide) (by decide) c29).1.2 ?_
      refine mr_iaN F w 9 0 (by decide) rfl rfl f.toNatClampNeg (by omega) (by decide) rfl d_R_change_20 ?_
      refine lv_if_ne (tgt := 28) hx hb d_R_change_21 (by decide) (fun c63 => ?_) (fun c63 => ?_)
      · refine lv_iconst (v := nI 0) hx hb d_R_change_28 (by decide) ?_
        refine lv_iload_n hx hb d_R_change_29 rfl (lv_at hl 1 rfl) ?_
        refine nr_as (k := f.toNatClampNeg) (qInv_nat (by decide) (by decide) c29).1.2 ?_
        refine mr_callSi (As := [.int (nI f.toNatClampNeg)]) F w hl.1 (c_R_isFrame σ (nI f.toNatClampNeg)) (cwS 1 hts g_R_change_30 rfl rfl rfl (by decide +kernel) ⟨Nat.le_of_ble_eq_true rfl, Nat.le_of_ble_eq_true rfl⟩) rfl rfl (Nat.le_of_ble_eq_true rfl) d_R_change_30 ⟨Nat.zero_le _, Nat.zero_le _⟩ (fun r64 σ65 H locs e66 w => ?_)
        obtain ⟨rfl, hs9⟩ := e66
        rw [hs9] at w
        clear hs9
        refine lv_if_eq (tgt := 46) hx hb d_R_change_33 (by decide) (fun c67 => ?_) (fun c67 => ?_)
        · refine lv_iconst (v := nI 1) hx hb d_R_change_46 (by decide) ?_
          refine lv_goto (tgt := 51) hx hb d_R_change_47 (by decide) ?_
          refine lv_iconst (v := nI 0) hx hb d_R_change_51 (by decide) ?_
          refine mr_callVi (As := [.int (nI 0), .int (nI 1), .int (nI 0)]) F w hl.1 (c_R_refused σ (nI 0) (nI 1) (nI 0)) (cwV 3 hts g_R_change_52 rfl rfl rfl (by decide +kernel) ⟨Nat.le_of_ble_eq_true rfl, Nat.le_of_ble_eq_true rfl⟩) rfl (by decide) rfl rfl rfl (Nat.le_of_ble_eq_true rfl) d_R_change_52 ⟨Nat.zero_le _, Nat.zero_le _⟩ (fun r68 σ69 H locs e70 w => ?_)
          have e70_r := e70.1.symm
          have e70_s := e70.2.symm
          clear e70
          rw [show σ69 = mup σ 0 0 (nI 2) from (by subst e70_r e70_s; rfl)] at w
          refine nr_as (k := 1) (by subst e70_r e70_s; rfl) ?_
          clear e70_r e70_s
          refine lv_if_eq (tgt := 60) hx hb d_R_change_55 (by decide) (fun c71 => absurd c71 (by decide)) (fun _ => ?_)
          refine lv_iconst (v := nI 0) hx hb d_R_change_58 (by decide) ?_
          exact mr_iret F w hr hlk (by unfold qChange; rw [if_pos c1, if_neg c29, if_neg c63, if_pos c67]; exact ⟨rfl, rfl⟩) d_R_change_59
        · refine lv_iload_n hx hb d_R_change_36 rfl (lv_at hl 2 rfl) ?_
          refine lv_iconst (v := nI 1) hx hb d_R_change_37 (by decide) ?_
          refine lv_bipush (v := nI 63) hx hb d_R_change_38 (by decide) ?_
          refine mr_callSi (As := [.int i, .int (nI 1), .int (nI 63)]) F w hl.1 (c_R_in σ i (nI 1) (nI 63)) (cwS 3 hts g_R_change_40 rfl rfl rfl (by decide +kernel) ⟨Nat.le_of_ble_eq_true rfl, Nat.le_of_ble_eq_true rfl⟩) rfl rfl (Nat.le_of_ble_eq_true rfl) d_R_change_40 ⟨Nat.zero_le _, Nat.zero_le _⟩ (fun r72 σ73 H locs e74 w => ?_)
          obtain ⟨rfl, hs9⟩ := e74
          rw [hs9] at w
          clear hs9
          refine lv_if_ne (tgt := 50) hx hb d_R_change_43 (by decide) (fun c75 => ?_) (fun c75 => ?_)
          · have hb76 : i.toNatClampNeg < 64 := (qInv_nat (by decide) (by decide) c75).1.1
            have hb77 : 1 ≤ i.toNatClampNeg := (qInv_nat (by decide) (by decide) c75).2
            refine lv_iconst (v := nI 0) hx hb d_R_change_50 (by decide) ?_
            refine lv_iconst (v := nI 0) hx hb d_R_change_51 (by decide) ?_
            refine mr_callVi (As := [.int (nI 0), .int (nI 0), .int (nI 0)]) F w hl.1 (c_R_refused σ (nI 0) (nI 0) (nI 0)) (cwV 3 hts g_R_change_52 rfl rfl rfl (by decide +kernel) ⟨Nat.le_of_ble_eq_true rfl, Nat.le_of_ble_eq_true rfl⟩) rfl (by decide) rfl rfl rfl (Nat.le_of_ble_eq_true rfl) d_R_change_52 ⟨Nat.zero_le _, Nat.zero_le _⟩ (fun r78 σ79 H locs e80 w => ?_)
            have e80_r := e80.1.symm
            have e80_s := e80.2.symm
            clear e80
            rw [show σ79 = mup σ 0 0 (nI 0) from (by subst e80_r e80_s; rfl)] at w
            refine nr_as (k := 0) (by subst e80_r e80_s; rfl) ?_
            clear e80_r e80_s
            refine lv_if_eq (tgt := 60) hx hb d_R_change_55 (by decide) (fun _ => ?_) (fun c81 => absurd c81 (by decide))
            refine lv_aload_n hx hb d_R_change_60 rfl (lv_at hl 0 rfl) ?_
            refine mr_get F w (kin in_R) 0 (by decide) rfl rfl 11 (by decide) (kws_in m_539) (fun _ h => h) rfl d_R_change_61 ?_
            refine nr_as (k := (σ 0 11).toNatClampNeg) (hE2) ?_
            refine lv_aload_n hx hb d_R_change_64 rfl (lv_at hl 0 rfl) ?_
            refine mr_get F w (kin in_R) 0 (by decide) rfl rfl 9 (by decide) (kws_in m_537) (fun _ h => h) rfl d_R_change_65 ?_
            refine lv_isub hx hb d_R_change_68 ?_
            refine lv_bipush (v := nI 8) hx hb d_R_change_69 (by decide) ?_
            refine lv_iadd hx hb d_R_change_71 ?_
            refine lv_ldc (v := nI 65536) hx hb hown (hts _ (kws_in m_678)) d_R_change_72 ?_
            refine lv_icmp_le (tgt := 79) hx hb d_R_change_74 (by decide) (fun c82 => ?_) (fun c82 => ?_)
            · refine lv_aload_n hx hb d_R_change_79 rfl (lv_at hl 0 rfl) ?_
              refine mr_get F w (kin in_R) 0 (by decide) rfl rfl 11 (by decide) (kws_in m_539) (fun _ h => h) rfl d_R_change_80 ?_
              refine nr_as (k := (σ 0 11).toNatClampNeg) (hE2) ?_
              refine mr_callSi (As := [.int (nI ((σ 0 11).toNatClampNeg))]) F w hl.1 ((fun sz => by have h9 := c_R_rowOf (l := l) (D := D) (cI := cI) (cF := cF) (cZ := cZ) (cJ := cJ) (ad := ad) (mup σ 0 0 (nI 0)) ((σ 0 11).toNatClampNeg) (by omega) sz; exact h9)) (cwS 1 hts g_R_change_83 rfl rfl rfl (by decide +kernel) ⟨Nat.le_of_ble_eq_true rfl, Nat.le_of_ble_eq_true rfl⟩) rfl rfl (Nat.le_of_ble_eq_true rfl) d_R_change_83 ⟨Nat.zero_le _, Nat.zero_le _⟩ (fun r83 σ84 H locs e85 w => ?_)
              obtain ⟨rfl, hs9⟩ := e85
              rw [hs9] at w
              clear hs9
              refine lv_istore (lv' := [(4, .int (nI (((σ 0 11).toNatClampNeg) / 8 % 8192))), (0, .ref (ad 0)), (1, .int f), (2, .int i), (3, .int v)]) hx hb d_R_change_86 hl (by decide) rfl (fun ls hl => ?_)
              refine lv_aload_n hx hb d_R_change_88 rfl (lv_at hl 1 rfl) ?_
              refine mr_get F w (kin in_R) 0 (by decide) rfl rfl 5 (by decide) (kws_in m_533) (fun _ h => h) rfl d_R_change_89 ?_
              refine lv_iload hx hb d_R_change_92 (lv_at hl 0 rfl) ?_
              refine lv_aload_n hx hb d_R_change_94 rfl (lv_at hl 1 rfl) ?_
              refine mr_get F w (kin in_R) 0 (by decide) rfl rfl 13 (by decide) (kws_in m_541) (fun _ h => h) rfl d_R_change_95 ?_
              refine lv_iload_n hx hb d_R_change_98 rfl (lv_at hl 2 rfl) ?_
              refine nr_as (k := f.toNatClampNeg) (qInv_nat (by decide) (by decide) c29).1.2 ?_
              refine mr_iaN F w 8 0 (by decide) rfl rfl f.toNatClampNeg (by omega) (by decide) rfl d_R_change_99 ?_
              refine mr_isN F w 3 0 (by decide) (fun _ => rfl) rfl (((σ 0 11).toNatClampNeg) / 8 % 8192) (by omega) (by decide) rfl d_R_change_100 (fun H locs w => ?_)
              refine lv_aload_n hx hb d_R_change_101 rfl (lv_at hl 1 rfl) ?_
              refine mr_get F w (kin in_R) 0 (by decide) rfl rfl 6 (by decide) (kws_in m_534) (fun _ h => h) rfl d_R_change_102 ?_
              refine lv_iload hx hb d_R_change_105 (lv_at hl 0 rfl) ?_
              refine lv_iload_n hx hb d_R_change_107 rfl (lv_at hl 3 rfl) ?_
              refine nr_as (k := i.toNatClampNeg) (qInv_nat (by decide) (by decide) c75).1.2 ?_
              refine mr_isN F w 4 0 (by decide) (fun _ => rfl) rfl (((σ 0 11).toNatClampNeg) / 8 % 8192) (by omega) (by decide) rfl d_R_change_108 (fun H locs w => ?_)
              refine lv_aload_n hx hb d_R_change_109 rfl (lv_at hl 1 rfl) ?_
              refine mr_get F w (kin in_R) 0 (by decide) rfl rfl 7 (by decide) (kws_in m_535) (fun _ h => h) rfl d_R_change_110 ?_
              refine lv_iload hx hb d_R_change_113 (lv_at hl 0 rfl) ?_
              refine lv_iload_n hx hb d_R_change_115 rfl (lv_at hl 4 rfl) ?_
              refine mr_isN F w 5 0 (by decide) (fun _ => rfl) rfl (((σ 0 11).toNatClampNeg) / 8 % 8192) (by omega) (by decide) rfl d_R_change_116 (fun H locs w => ?_)
              refine lv_aload_n hx hb d_R_change_117 rfl (lv_at hl 1 rfl) ?_
              refine mr_get F w (kin in_R) 0 (by decide) rfl rfl 8 (by decide) (kws_in m_536) (fun _ h => h) rfl d_R_change_118 ?_
              refine lv_iload hx hb d_R_change_121 (lv_at hl 0 rfl) ?_
              refine lv_iconst (v := nI 0) hx hb d_R_change_123 (by decide) ?_
              refine mr_bsN F w 6 2 (by decide) (fun _ => rfl) rfl (((σ 0 11).toNatClampNeg) / 8 % 8192) (by omega) (by decide) rfl (Or.inl rfl) d_R_change_124 (fun H locs w => ?_)
              refine lv_aload_n hx hb d_R_change_125 rfl (lv_at hl 1 rfl) ?_
              refine lv_iload_n hx hb d_R_change_126 rfl (lv_at hl 2 rfl) ?_
              refine nr_as (k := f.toNatClampNeg) (qInv_nat (by decide) (by decide) c29).1.2 ?_
              refine lv_iload_n hx hb d_R_change_127 rfl (lv_at hl 3 rfl) ?_
              refine nr_as (k := i.toNatClampNeg) (qInv_nat (by decide) (by decide) c75).1.2 ?_
              refine lv_iload_n hx hb d_R_change_128 rfl (lv_at hl 4 rfl) ?_
              refine lv_aload_n hx hb d_R_change_129 rfl (lv_at hl 1 rfl) ?_
              refine mr_get F w (kin in_R) 0 (by decide) rfl rfl 11 (by decide) (kws_in m_539) (fun _ h => h) rfl d_R_change_130 ?_
              refine nr_as (k := (σ 0 11).toNatClampNeg) (hE2) ?_
              refine mr_callVv (As := [.int (nI f.toNatClampNeg), .int (nI i.toNatClampNeg), .int v, .int (nI ((σ 0 11).toNatClampNeg))]) F w hl.1 (c_R_put (mup (mup (mup (mup (mup σ 0 0 (nI 0)) 3 (((σ 0 11).toNatClampNeg) / 8 % 8192) ((mup σ 0 0 (nI 0)) 8 f.toNatClampNeg)) 4 (((σ 0 11).toNatClampNeg) / 8 % 8192) (nI i.toNatClampNeg)) 5 (((σ 0 11).toNatClampNeg) / 8 % 8192) v) 6 (((σ 0 11).toNatClampNeg) / 8 % 8192) (nI 0)) f.toNatClampNeg i.toNatClampNeg (by omega) (by omega) v (nI ((σ 0 11).toNatClampNeg))) (cwV 4 hts g_R_change_133 rfl rfl rfl (by decide +kernel) ⟨Nat.le_of_ble_eq_true rfl, Nat.le_of_ble_eq_true rfl⟩) rfl (by decide) rfl rfl rfl (Nat.le_of_ble_eq_true rfl) d_R_change_133 ⟨Nat.zero_le _, Nat.zero_le _⟩ (fun σ87 H locs e88 w => ?_)
              replace e88 := Eq.symm e88
              refine lv_aload_n hx hb d_R_change_136 rfl (lv_at hl 1 rfl) ?_
              refine lv_aload_n hx hb d_R_change_137 rfl (lv_at hl 1 rfl) ?_
              refine mr_get F w (kin in_R) 0 (by decide) rfl rfl 11 (by decide) (kws_in m_539) (fun _ h => h) rfl d_R_change_138 ?_
              refine nr_as (k := (σ 0 11).toNatClampNeg) (by subst e88; rw [qPut_0 _ _ _ _ _ (by decide) (by decide)]; exact hE2) ?_
              refine lv_bipush (v := nI 8) hx hb d_R_change_141 (by decide) ?_
              refine nr_iadd hx hb d_R_change_143 ?_
              refine mr_put F w (kin in_R) t_R t_R_ok n_R 0 (by decide) rfl rfl 11 (by decide) (kws_in m_539) (fun _ h => h) rfl rfl rfl (Nat.le_of_ble_eq_true rfl) rfl d_R_change_144 (fun H locs w => ?_)
              refine lv_aload_n hx hb d_R_change_147 rfl (lv_at hl 1 rfl) ?_
              refine mr_get F w (kin in_R) 0 (by decide) rfl rfl 11 (by decide) (kws_in m_539) (fun _ h => h) rfl d_R_change_148 ?_
              refine nr_as (k := ((σ 0 11).toNatClampNeg) + 8) rfl ?_
              refine lv_bipush (v := nI 8) hx hb d_R_change_151 (by decide) ?_
              refine lv_isub hx hb d_R_change_153 ?_
              exact mr_iret F w hr hlk (by subst e88; unfold qChange; rw [if_pos c1, if_neg c29, if_neg c63, if_neg c67, if_neg c75, if_pos c82]; exact ⟨rfl, rfl⟩) d_R_change_154
            · refine lv_iconst (v := -1) hx hb d_R_change_77 (by decide) ?_
              exact mr_iret F w hr hlk (by unfold qChange; rw [if_pos c1, if_neg c29, if_neg c63, if_neg c67, if_neg c75, if_neg c82]; exact ⟨rfl, rfl⟩) d_R_change_78
          · refine lv_iconst (v := nI 1) hx hb d_R_change_46 (by decide) ?_
            refine lv_goto (tgt := 51) hx hb d_R_change_47 (by decide) ?_
            refine lv_iconst (v := nI 0) hx hb d_R_change_51 (by decide) ?_
            refine mr_callVi (As := [.int (nI 0), .int (nI 1), .int (nI 0)]) F w hl.1 (c_R_refused σ (nI 0) (nI 1) (nI 0)) (cwV 3 hts g_R_change_52 rfl rfl rfl (by decide +kernel) ⟨Nat.le_of_ble_eq_true rfl, Nat.le_of_ble_eq_true rfl⟩) rfl (by decide) rfl rfl rfl (Nat.le_of_ble_eq_true rfl) d_R_change_52 ⟨Nat.zero_le _, Nat.zero_le _⟩ (fun r89 σ90 H locs e91 w => ?_)
            have e91_r := e91.1.symm
            have e91_s := e91.2.symm
            clear e91
            rw [show σ90 = mup σ 0 0 (nI 2) from (by subst e91_r e91_s; rfl)] at w
            refine nr_as (k := 1) (by subst e91_r e91_s; rfl) ?_
            clear e91_r e91_s
            refine lv_if_eq (tgt := 60) hx hb d_R_change_55 (by decide) (fun c92 => absurd c92 (by decide)) (fun _ => ?_)
            refine lv_iconst (v := nI 0) hx hb d_R_change_58 (by decide) ?_
            exact mr_iret F w hr hlk (by unfold qChange; rw [if_pos c1, if_neg c29, if_neg c63, if_neg c67, if_pos c75]; exact ⟨rfl, rfl⟩) d_R_change_59
      · refine lv_iconst (v := nI 1) hx hb d_R_change_24 (by decide) ?_
        refine lv_goto (tgt := 29) hx hb d_R_change_25 (by decide) ?_
        refine lv_iload_n hx hb d_R_change_29 rfl (lv_at hl 1 rfl) ?_
        refine nr_as (k := f.toNatClampNeg) (qInv_nat (by decide) (by decide) c29).1.2 ?_
        refine mr_callSi (As := [.int (nI f.toNatClampNeg)]) F w hl.1 (c_R_isFrame σ (nI f.toNatClampNeg)) (cwS 1 hts g_R_change_30 rfl rfl rfl (by decide +kernel) ⟨Nat.le_of_ble_eq_true rfl, Nat.le_of_ble_eq_true rfl⟩) rfl rfl (Nat.le_of_ble_eq_true rfl) d_R_change_30 ⟨Nat.zero_le _, Nat.zero_le _⟩ (fun r93 σ94 H locs e95 w => ?_)
        obtain ⟨rfl, hs9⟩ := e95
        rw [hs9] at w
        clear hs9
        refine lv_if_eq (tgt := 46) hx hb d_R_change_33 (by decide) (fun c96 => ?_) (fun c96 => ?_)
        · refine lv_iconst (v := nI 1) hx hb d_R_change_46 (by decide) ?_
          refine lv_goto (tgt := 51) hx hb d_R_change_47 (by decide) ?_
          refine lv_iconst (v := nI 0) hx hb d_R_change_51 (by decide) ?_
          refine mr_callVi (As := [.int (nI 1), .int (nI 1), .int (nI 0)]) F w hl.1 (c_R_refused σ (nI 1) (nI 1) (nI 0)) (cwV 3 hts g_R_change_52 rfl rfl rfl (by decide +kernel) ⟨Nat.le_of_ble_eq_true rfl, Nat.le_of_ble_eq_true rfl⟩) rfl (by decide) rfl rfl rfl (Nat.le_of_ble_eq_true rfl) d_R_change_52 ⟨Nat.zero_le _, Nat.zero_le _⟩ (fun r97 σ98 H locs e99 w => ?_)
          have e99_r := e99.1.symm
          have e99_s := e99.2.symm
          clear e99
          rw [show σ98 = mup σ 0 0 (nI 1) from (by subst e99_r e99_s; rfl)] at w
          refine nr_as (k := 1) (by subst e99_r e99_s; rfl) ?_
          clear e99_r e99_s
          refine lv_if_eq (tgt := 60) hx hb d_R_change_55 (by decide) (fun c100 => absurd c100 (by decide)) (fun _ => ?_)
          refine lv_iconst (v := nI 0) hx hb d_R_change_58 (by decide) ?_
          exact mr_iret F w hr hlk (by unfold qChange; rw [if_pos c1, if_neg c29, if_pos c63, if_pos c96]; exact ⟨rfl, rfl⟩) d_R_change_59
        · refine lv_iload_n hx hb d_R_change_36 rfl (lv_at hl 2 rfl) ?_
          refine lv_iconst (v := nI 1) hx hb d_R_change_37 (by decide) ?_
          refine lv_bipush (v := nI 63) hx hb d_R_change_38 (by decide) ?_
          refine mr_callSi (As := [.int i, .int (nI 1), .int (nI 63)]) F w hl.1 (c_R_in σ i (nI 1) (nI 63)) (cwS 3 hts g_R_change_40 rfl rfl rfl (by decide +kernel) ⟨Nat.le_of_ble_eq_true rfl, Nat.le_of_ble_eq_true rfl⟩) rfl rfl (Nat.le_of_ble_eq_true rfl) d_R_change_40 ⟨Nat.zero_le _, Nat.zero_le _⟩ (fun r101 σ102 H locs e103 w => ?_)
          obtain ⟨rfl, hs9⟩ := e103
          rw [hs9] at w
          clear hs9
          refine lv_if_ne (tgt := 50) hx hb d_R_change_43 (by decide) (fun c104 => ?_) (fun c104 => ?_)
          · have hb105 : i.toNatClampNeg < 64 := (qInv_nat (by decide) (by decide) c104).1.1
            have hb106 : 1 ≤ i.toNatClampNeg := (qInv_nat (by decide) (by decide) c104).2
            refine lv_iconst (v := nI 0) hx hb d_R_change_50 (by decide) ?_
            refine lv_iconst (v := nI 0) hx hb d_R_change_51 (by decide) ?_
            refine mr_callVi (As := [.int (nI 1), .int (nI 0), .int (nI 0)]) F w hl.1 (c_R_refused σ (nI 1) (nI 0) (nI 0)) (cwV 3 hts g_R_change_52 rfl rfl rfl (by decide +kernel) ⟨Nat.le_of_ble_eq_true rfl, Nat.le_of_ble_eq_true rfl⟩) rfl (by decide) rfl rfl rfl (Nat.le_of_ble_eq_true rfl) d_R_change_52 ⟨Nat.zero_le _, Nat.zero_le _⟩ (fun r107 σ108 H locs e109 w => ?_)
            have e109_r := e109.1.symm
            have e109_s := e109.2.symm
            clear e109
            rw [show σ108 = mup σ 0 0 (nI 1) from (by subst e109_r e109_s; rfl)] at w
            refine nr_as (k := 1) (by subst e109_r e109_s; rfl) ?_
            clear e109_r e109_s
            refine lv_if_eq (tgt := 60) hx hb d_R_change_55 (by decide) (fun c110 => absurd c110 (by decide)) (fun _ => ?_)
            refine lv_iconst (v := nI 0) hx hb d_R_change_58 (by decide) ?_
            exact mr_iret F w hr hlk (by unfold qChange; rw [if_pos c1, if_neg c29, if_pos c63, if_neg c96, if_neg c104]; exact ⟨rfl, rfl⟩) d_R_change_59
          · refine lv_iconst (v := nI 1) hx hb d_R_change_46 (by decide) ?_
            refine lv_goto (tgt := 51) hx hb d_R_change_47 (by decide) ?_
            refine lv_iconst (v := nI 0) hx hb d_R_change_51 (by decide) ?_
            refine mr_callVi (As := [.int (nI 1), .int (nI 1), .int (nI 0)]) F w hl.1 (c_R_refused σ (nI 1) (nI 1) (nI 0)) (cwV 3 hts g_R_change_52 rfl rfl rfl (by decide +kernel) ⟨Nat.le_of_ble_eq_true rfl, Nat.le_of_ble_eq_true rfl⟩) rfl (by decide) rfl rfl rfl (Nat.le_of_ble_eq_true rfl) d_R_change_52 ⟨Nat.zero_le _, Nat.zero_le _⟩ (fun r111 σ112 H locs e113 w => ?_)
            have e113_r := e113.1.symm
            have e113_s := e113.2.symm
            clear e113
            rw [show σ112 = mup σ 0 0 (nI 1) from (by subst e113_r e113_s; rfl)] at w
            refine nr_as (k := 1) (by subst e113_r e113_s; rfl) ?_
            clear e113_r e113_s
            refine lv_if_eq (tgt := 60) hx hb d_R_change_55 (by decide) (fun c114 => absurd c114 (by decide)) (fun _ => ?_)
            refine lv_iconst (v := nI 0) hx hb d_R_change_58 (by decide) ?_
            exact mr_iret F w hr hlk (by unfold qChange; rw [if_pos c1, if_neg c29, if_pos c63, if_neg c96, if_pos c104]; exact ⟨rfl, rfl⟩) d_R_change_59
end
