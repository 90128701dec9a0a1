/-! The reference: trim, start -/
section
variable {l : Launch} {D : va_G} {cI cF cZ cJ : ClassId} {ad : Nat → Nat} {σ : Mem}
set_option maxRecDepth 20000 in
theorem m_722 : Cond.methodLink "PagePoolModel" 140 (⟨"PagePoolModel", "again", "(I)Z"⟩ : MethodName) ∈ gt := gt_in 722 (by decide +kernel) (by decide +kernel)
set_option maxRecDepth 20000 in
theorem m_725 : Cond.code (⟨"PagePoolModel", "again", "(I)Z"⟩ : MethodName) prog_7_method_34_code 4 (some .boolean) ∈ gt := gt_in 725 (by decide +kernel) (by decide +kernel)
set_option maxRecDepth 20000 in
theorem m_724 : Cond.instanceMethod (⟨"PagePoolModel", "again", "(I)Z"⟩ : MethodName) ∈ gt := gt_in 724 (by decide +kernel) (by decide +kernel)
set_option maxRecDepth 20000 in
theorem ms_25 : Cond.selects "PagePoolModel" (⟨"PagePoolModel", "again", "(I)Z"⟩ : MethodName) (⟨"PagePoolModel", "again", "(I)Z"⟩ : MethodName) ∈ gt := gt_sel 25 (by decide +kernel) (by decide +kernel)
theorem d_R_trim_0 : decode b_R_trim 0 = .ok (.aload_n 0, 1) := by decide +kernel
theorem d_R_trim_1 : decode b_R_trim 1 = .ok (.aload_n 0, 1) := by decide +kernel
theorem d_R_trim_2 : decode b_R_trim 2 = .ok (.getfield 69, 3) := by decide +kernel
theorem d_R_trim_5 : decode b_R_trim 5 = .ok (.iconst 0, 1) := by decide +kernel
theorem d_R_trim_6 : decode b_R_trim 6 = .ok (.iconst 0, 1) := by decide +kernel
theorem d_R_trim_7 : decode b_R_trim 7 = .ok (.invokevirtual 82, 3) := by decide +kernel
theorem d_R_trim_10 : decode b_R_trim 10 = .ok (.ifCond .eq 5, 3) := by decide +kernel
theorem d_R_trim_13 : decode b_R_trim 13 = .ok (.iconst 0, 1) := by decide +kernel
theorem d_R_trim_14 : decode b_R_trim 14 = .ok (.ireturn, 1) := by decide +kernel
theorem d_R_trim_15 : decode b_R_trim 15 = .ok (.aload_n 0, 1) := by decide +kernel
theorem d_R_trim_16 : decode b_R_trim 16 = .ok (.iconst 0, 1) := by decide +kernel
theorem d_R_trim_17 : decode b_R_trim 17 = .ok (.invokevirtual 137, 3) := by decide +kernel
theorem d_R_trim_20 : decode b_R_trim 20 = .ok (.istore_n 1, 1) := by decide +kernel
theorem d_R_trim_21 : decode b_R_trim 21 = .ok (.aload_n 0, 1) := by decide +kernel
theorem d_R_trim_22 : decode b_R_trim 22 = .ok (.getfield 126, 3) := by decide +kernel
theorem d_R_trim_25 : decode b_R_trim 25 = .ok (.istore_n 2, 1) := by decide +kernel
theorem d_R_trim_26 : decode b_R_trim 26 = .ok (.iload_n 1, 1) := by decide +kernel
theorem d_R_trim_27 : decode b_R_trim 27 = .ok (.ifCond .lt 13, 3) := by decide +kernel
theorem d_R_trim_30 : decode b_R_trim 30 = .ok (.aload_n 0, 1) := by decide +kernel
theorem d_R_trim_31 : decode b_R_trim 31 = .ok (.getfield 48, 3) := by decide +kernel
theorem d_R_trim_34 : decode b_R_trim 34 = .ok (.iload_n 1, 1) := by decide +kernel
theorem d_R_trim_35 : decode b_R_trim 35 = .ok (.iaload, 1) := by decide +kernel
theorem d_R_trim_36 : decode b_R_trim 36 = .ok (.istore_n 2, 1) := by decide +kernel
theorem d_R_trim_37 : decode b_R_trim 37 = .ok (.goto 42, 3) := by decide +kernel
theorem d_R_trim_40 : decode b_R_trim 40 = .ok (.aload_n 0, 1) := by decide +kernel
theorem d_R_trim_41 : decode b_R_trim 41 = .ok (.getfield 126, 3) := by decide +kernel
theorem d_R_trim_44 : decode b_R_trim 44 = .ok (.istore_n 3, 1) := by decide +kernel
theorem d_R_trim_45 : decode b_R_trim 45 = .ok (.iload_n 3, 1) := by decide +kernel
theorem d_R_trim_46 : decode b_R_trim 46 = .ok (.aload_n 0, 1) := by decide +kernel
theorem d_R_trim_47 : decode b_R_trim 47 = .ok (.getfield 66, 3) := by decide +kernel
theorem d_R_trim_50 : decode b_R_trim 50 = .ok (.if_icmp .ge 29, 3) := by decide +kernel
theorem d_R_trim_53 : decode b_R_trim 53 = .ok (.aload_n 0, 1) := by decide +kernel
theorem d_R_trim_54 : decode b_R_trim 54 = .ok (.getfield 32, 3) := by decide +kernel
theorem d_R_trim_57 : decode b_R_trim 57 = .ok (.iload_n 3, 1) := by decide +kernel
theorem d_R_trim_58 : decode b_R_trim 58 = .ok (.invokestatic 130, 3) := by decide +kernel
theorem d_R_trim_61 : decode b_R_trim 61 = .ok (.baload, 1) := by decide +kernel
theorem d_R_trim_62 : decode b_R_trim 62 = .ok (.ifCond .eq 7, 3) := by decide +kernel
theorem d_R_trim_65 : decode b_R_trim 65 = .ok (.iload_n 2, 1) := by decide +kernel
theorem d_R_trim_66 : decode b_R_trim 66 = .ok (.goto 4, 3) := by decide +kernel
theorem d_R_trim_69 : decode b_R_trim 69 = .ok (.iload_n 3, 1) := by decide +kernel
theorem d_R_trim_70 : decode b_R_trim 70 = .ok (.istore_n 2, 1) := by decide +kernel
theorem d_R_trim_71 : decode b_R_trim 71 = .ok (.iload_n 3, 1) := by decide +kernel
theorem d_R_trim_72 : decode b_R_trim 72 = .ok (.bipush 8, 2) := by decide +kernel
theorem d_R_trim_74 : decode b_R_trim 74 = .ok (.iadd, 1) := by decide +kernel
theorem d_R_trim_75 : decode b_R_trim 75 = .ok (.istore_n 3, 1) := by decide +kernel
theorem d_R_trim_76 : decode b_R_trim 76 = .ok (.goto (-31), 3) := by decide +kernel
theorem d_R_trim_79 : decode b_R_trim 79 = .ok (.aload_n 0, 1) := by decide +kernel
theorem d_R_trim_80 : decode b_R_trim 80 = .ok (.getfield 63, 3) := by decide +kernel
theorem d_R_trim_83 : decode b_R_trim 83 = .ok (.aload_n 0, 1) := by decide +kernel
theorem d_R_trim_84 : decode b_R_trim 84 = .ok (.getfield 63, 3) := by decide +kernel
theorem d_R_trim_87 : decode b_R_trim 87 = .ok (.bipush 8, 2) := by decide +kernel
theorem d_R_trim_89 : decode b_R_trim 89 = .ok (.irem, 1) := by decide +kernel
theorem d_R_trim_90 : decode b_R_trim 90 = .ok (.isub, 1) := by decide +kernel
theorem d_R_trim_91 : decode b_R_trim 91 = .ok (.istore_n 3, 1) := by decide +kernel
theorem d_R_trim_92 : decode b_R_trim 92 = .ok (.iload_n 2, 1) := by decide +kernel
theorem d_R_trim_93 : decode b_R_trim 93 = .ok (.iload_n 3, 1) := by decide +kernel
theorem d_R_trim_94 : decode b_R_trim 94 = .ok (.if_icmp .ge 7, 3) := by decide +kernel
theorem d_R_trim_97 : decode b_R_trim 97 = .ok (.iload_n 2, 1) := by decide +kernel
theorem d_R_trim_98 : decode b_R_trim 98 = .ok (.goto 4, 3) := by decide +kernel
theorem d_R_trim_101 : decode b_R_trim 101 = .ok (.iload_n 3, 1) := by decide +kernel
theorem d_R_trim_102 : decode b_R_trim 102 = .ok (.istore_n 2, 1) := by decide +kernel
theorem d_R_trim_103 : decode b_R_trim 103 = .ok (.iload_n 2, 1) := by decide +kernel
theorem d_R_trim_104 : decode b_R_trim 104 = .ok (.aload_n 0, 1) := by decide +kernel
theorem d_R_trim_105 : decode b_R_trim 105 = .ok (.getfield 126, 3) := by decide +kernel
theorem d_R_trim_108 : decode b_R_trim 108 = .ok (.isub, 1) := by decide +kernel
theorem d_R_trim_109 : decode b_R_trim 109 = .ok (.istore 4, 2) := by decide +kernel
theorem d_R_trim_111 : decode b_R_trim 111 = .ok (.aload_n 0, 1) := by decide +kernel
theorem d_R_trim_112 : decode b_R_trim 112 = .ok (.iload_n 2, 1) := by decide +kernel
theorem d_R_trim_113 : decode b_R_trim 113 = .ok (.putfield 126, 3) := by decide +kernel
theorem d_R_trim_116 : decode b_R_trim 116 = .ok (.iload 4, 2) := by decide +kernel
theorem d_R_trim_118 : decode b_R_trim 118 = .ok (.ireturn, 1) := by decide +kernel
set_option maxRecDepth 20000 in
theorem g_R_trim_58 : GoodIn (kws (y_R_trim) b_R_trim 5 (some .int)) (wsS R_R 130 y_R_rowOf (kws (y_R_rowOf) b_R_rowOf 1 (some .int))) := kwS m_679 m_680 m_6 m_681
set_option maxRecDepth 20000 in
theorem g_R_trim_7 : GoodIn (kws (y_R_trim) b_R_trim 5 (some .int)) (wsV R_R 82 R_R y_R_refused (kws (y_R_refused) b_R_refused 4 (some .boolean))) := kwV m_604 m_606 ms_12 m_6 m_607
set_option maxRecDepth 20000 in
theorem g_R_trim_17 : GoodIn (kws (y_R_trim) b_R_trim 5 (some .int)) (wsV R_R 137 R_R y_R_kth (kws (y_R_kth) b_R_kth 6 (some .int))) := kwV m_702 m_704 ms_24 m_6 m_705
theorem d_R_start_0 : decode b_R_start 0 = .ok (.aload_n 0, 1) := by decide +kernel
theorem d_R_start_1 : decode b_R_start 1 = .ok (.aload_n 0, 1) := by decide +kernel
theorem d_R_start_2 : decode b_R_start 2 = .ok (.getfield 69, 3) := by decide +kernel
theorem d_R_start_5 : decode b_R_start 5 = .ok (.ifCond .ne 7, 3) := by decide +kernel
theorem d_R_start_8 : decode b_R_start 8 = .ok (.iconst 1, 1) := by decide +kernel
theorem d_R_start_9 : decode b_R_start 9 = .ok (.goto 4, 3) := by decide +kernel
theorem d_R_start_12 : decode b_R_start 12 = .ok (.iconst 0, 1) := by decide +kernel
theorem d_R_start_13 : decode b_R_start 13 = .ok (.iconst 0, 1) := by decide +kernel
theorem d_R_start_14 : decode b_R_start 14 = .ok (.iconst 0, 1) := by decide +kernel
theorem d_R_start_15 : decode b_R_start 15 = .ok (.invokevirtual 82, 3) := by decide +kernel
theorem d_R_start_18 : decode b_R_start 18 = .ok (.ifCond .eq 5, 3) := by decide +kernel
theorem d_R_start_21 : decode b_R_start 21 = .ok (.iconst 0, 1) := by decide +kernel
theorem d_R_start_22 : decode b_R_start 22 = .ok (.ireturn, 1) := by decide +kernel
theorem d_R_start_23 : decode b_R_start 23 = .ok (.aload_n 0, 1) := by decide +kernel
theorem d_R_start_24 : decode b_R_start 24 = .ok (.iconst 0, 1) := by decide +kernel
theorem d_R_start_25 : decode b_R_start 25 = .ok (.putfield 69, 3) := by decide +kernel
theorem d_R_start_28 : decode b_R_start 28 = .ok (.aload_n 0, 1) := by decide +kernel
theorem d_R_start_29 : decode b_R_start 29 = .ok (.iconst 0, 1) := by decide +kernel
theorem d_R_start_30 : decode b_R_start 30 = .ok (.putfield 73, 3) := by decide +kernel
theorem d_R_start_33 : decode b_R_start 33 = .ok (.aload_n 0, 1) := by decide +kernel
theorem d_R_start_34 : decode b_R_start 34 = .ok (.getfield 63, 3) := by decide +kernel
theorem d_R_start_37 : decode b_R_start 37 = .ok (.bipush 8, 2) := by decide +kernel
theorem d_R_start_39 : decode b_R_start 39 = .ok (.irem, 1) := by decide +kernel
theorem d_R_start_40 : decode b_R_start 40 = .ok (.istore_n 1, 1) := by decide +kernel
theorem d_R_start_41 : decode b_R_start 41 = .ok (.iload_n 1, 1) := by decide +kernel
theorem d_R_start_42 : decode b_R_start 42 = .ok (.ifCond .ne 10, 3) := by decide +kernel
theorem d_R_start_45 : decode b_R_start 45 = .ok (.aload_n 0, 1) := by decide +kernel
theorem d_R_start_46 : decode b_R_start 46 = .ok (.getfield 63, 3) := by decide +kernel
theorem d_R_start_49 : decode b_R_start 49 = .ok (.goto 12, 3) := by decide +kernel
theorem d_R_start_52 : decode b_R_start 52 = .ok (.aload_n 0, 1) := by decide +kernel
theorem d_R_start_53 : decode b_R_start 53 = .ok (.getfield 63, 3) := by decide +kernel
theorem d_R_start_56 : decode b_R_start 56 = .ok (.bipush 8, 2) := by decide +kernel
theorem d_R_start_58 : decode b_R_start 58 = .ok (.iadd, 1) := by decide +kernel
theorem d_R_start_59 : decode b_R_start 59 = .ok (.iload_n 1, 1) := by decide +kernel
theorem d_R_start_60 : decode b_R_start 60 = .ok (.isub, 1) := by decide +kernel
theorem d_R_start_61 : decode b_R_start 61 = .ok (.istore_n 2, 1) := by decide +kernel
theorem d_R_start_62 : decode b_R_start 62 = .ok (.iload_n 1, 1) := by decide +kernel
theorem d_R_start_63 : decode b_R_start 63 = .ok (.ifCond .le 16, 3) := by decide +kernel
theorem d_R_start_66 : decode b_R_start 66 = .ok (.aload_n 0, 1) := by decide +kernel
theorem d_R_start_67 : decode b_R_start 67 = .ok (.getfield 32, 3) := by decide +kernel
theorem d_R_start_70 : decode b_R_start 70 = .ok (.aload_n 0, 1) := by decide +kernel
theorem d_R_start_71 : decode b_R_start 71 = .ok (.getfield 63, 3) := by decide +kernel
theorem d_R_start_74 : decode b_R_start 74 = .ok (.invokestatic 130, 3) := by decide +kernel
theorem d_R_start_77 : decode b_R_start 77 = .ok (.iconst 1, 1) := by decide +kernel
theorem d_R_start_78 : decode b_R_start 78 = .ok (.bastore, 1) := by decide +kernel
theorem d_R_start_79 : decode b_R_start 79 = .ok (.aload_n 0, 1) := by decide +kernel
theorem d_R_start_80 : decode b_R_start 80 = .ok (.iload_n 2, 1) := by decide +kernel
theorem d_R_start_81 : decode b_R_start 81 = .ok (.invokevirtual 90, 3) := by decide +kernel
theorem d_R_start_84 : decode b_R_start 84 = .ok (.pop, 1) := by decide +kernel
theorem d_R_start_85 : decode b_R_start 85 = .ok (.aload_n 0, 1) := by decide +kernel
theorem d_R_start_86 : decode b_R_start 86 = .ok (.aload_n 0, 1) := by decide +kernel
theorem d_R_start_87 : decode b_R_start 87 = .ok (.getfield 63, 3) := by decide +kernel
theorem d_R_start_90 : decode b_R_start 90 = .ok (.putfield 66, 3) := by decide +kernel
theorem d_R_start_93 : decode b_R_start 93 = .ok (.aload_n 0, 1) := by decide +kernel
theorem d_R_start_94 : decode b_R_start 94 = .ok (.getfield 73, 3) := by decide +kernel
theorem d_R_start_97 : decode b_R_start 97 = .ok (.ifCond .ne 18, 3) := by decide +kernel
theorem d_R_start_100 : decode b_R_start 100 = .ok (.aload_n 0, 1) := by decide +kernel
theorem d_R_start_101 : decode b_R_start 101 = .ok (.getfield 20, 3) := by decide +kernel
theorem d_R_start_104 : decode b_R_start 104 = .ok (.ifCond .lt 11, 3) := by decide +kernel
theorem d_R_start_107 : decode b_R_start 107 = .ok (.aload_n 0, 1) := by decide +kernel
theorem d_R_start_108 : decode b_R_start 108 = .ok (.aload_n 0, 1) := by decide +kernel
theorem d_R_start_109 : decode b_R_start 109 = .ok (.getfield 20, 3) := by decide +kernel
theorem d_R_start_112 : decode b_R_start 112 = .ok (.invokevirtual 101, 3) := by decide +kernel
theorem d_R_start_115 : decode b_R_start 115 = .ok (.iconst 0, 1) := by decide +kernel
theorem d_R_start_116 : decode b_R_start 116 = .ok (.istore_n 3, 1) := by decide +kernel
theorem d_R_start_117 : decode b_R_start 117 = .ok (.aload_n 0, 1) := by decide +kernel
theorem d_R_start_118 : decode b_R_start 118 = .ok (.getfield 126, 3) := by decide +kernel
theorem d_R_start_121 : decode b_R_start 121 = .ok (.istore 4, 2) := by decide +kernel
theorem d_R_start_123 : decode b_R_start 123 = .ok (.iload 4, 2) := by decide +kernel
theorem d_R_start_125 : decode b_R_start 125 = .ok (.aload_n 0, 1) := by decide +kernel
theorem d_R_start_126 : decode b_R_start 126 = .ok (.getfield 66, 3) := by decide +kernel
theorem d_R_start_129 : decode b_R_start 129 = .ok (.if_icmp .ge 50, 3) := by decide +kernel
theorem d_R_start_132 : decode b_R_start 132 = .ok (.aload_n 0, 1) := by decide +kernel
theorem d_R_start_133 : decode b_R_start 133 = .ok (.getfield 73, 3) := by decide +kernel
theorem d_R_start_136 : decode b_R_start 136 = .ok (.ifCond .ne 43, 3) := by decide +kernel
theorem d_R_start_139 : decode b_R_start 139 = .ok (.aload_n 0, 1) := by decide +kernel
theorem d_R_start_140 : decode b_R_start 140 = .ok (.getfield 32, 3) := by decide +kernel
theorem d_R_start_143 : decode b_R_start 143 = .ok (.iload 4, 2) := by decide +kernel
theorem d_R_start_145 : decode b_R_start 145 = .ok (.invokestatic 130, 3) := by decide +kernel
theorem d_R_start_148 : decode b_R_start 148 = .ok (.baload, 1) := by decide +kernel
theorem d_R_start_149 : decode b_R_start 149 = .ok (.ifCond .ne 18, 3) := by decide +kernel
theorem d_R_start_152 : decode b_R_start 152 = .ok (.aload_n 0, 1) := by decide +kernel
theorem d_R_start_153 : decode b_R_start 153 = .ok (.iload 4, 2) := by decide +kernel
theorem d_R_start_155 : decode b_R_start 155 = .ok (.invokevirtual 140, 3) := by decide +kernel
theorem d_R_start_158 : decode b_R_start 158 = .ok (.ifCond .eq 9, 3) := by decide +kernel
theorem d_R_start_161 : decode b_R_start 161 = .ok (.iload_n 3, 1) := by decide +kernel
theorem d_R_start_162 : decode b_R_start 162 = .ok (.iconst 1, 1) := by decide +kernel
theorem d_R_start_163 : decode b_R_start 163 = .ok (.iadd, 1) := by decide +kernel
theorem d_R_start_164 : decode b_R_start 164 = .ok (.goto 4, 3) := by decide +kernel
theorem d_R_start_167 : decode b_R_start 167 = .ok (.iload_n 3, 1) := by decide +kernel
theorem d_R_start_168 : decode b_R_start 168 = .ok (.istore_n 3, 1) := by decide +kernel
theorem d_R_start_169 : decode b_R_start 169 = .ok (.iload 4, 2) := by decide +kernel
theorem d_R_start_171 : decode b_R_start 171 = .ok (.bipush 8, 2) := by decide +kernel
theorem d_R_start_173 : decode b_R_start 173 = .ok (.iadd, 1) := by decide +kernel
theorem d_R_start_174 : decode b_R_start 174 = .ok (.istore 4, 2) := by decide +kernel
theorem d_R_start_176 : decode b_R_start 176 = .ok (.goto (-53), 3) := by decide +kernel
theorem d_R_start_179 : decode b_R_start 179 = .ok (.aload_n 0, 1) := by decide +kernel
theorem d_R_start_180 : decode b_R_start 180 = .ok (.getfield 73, 3) := by decide +kernel
theorem d_R_start_183 : decode b_R_start 183 = .ok (.ifCond .eq 7, 3) := by decide +kernel
theorem d_R_start_186 : decode b_R_start 186 = .ok (.iconst (-1), 1) := by decide +kernel
theorem d_R_start_187 : decode b_R_start 187 = .ok (.goto 4, 3) := by decide +kernel
theorem d_R_start_190 : decode b_R_start 190 = .ok (.iload_n 3, 1) := by decide +kernel
theorem d_R_start_191 : decode b_R_start 191 = .ok (.ireturn, 1) := by decide +kernel
set_option maxRecDepth 20000 in
theorem g_R_start_145 : GoodIn (kws (y_R_start) b_R_start 5 (some .int)) (wsS R_R 130 y_R_rowOf (kws (y_R_rowOf) b_R_rowOf 1 (some .int))) := kwS m_679 m_680 m_6 m_681
set_option maxRecDepth 20000 in
theorem g_R_start_155 : GoodIn (kws (y_R_start) b_R_start 5 (some .int)) (wsV R_R 140 R_R y_R_again (kws (y_R_again) b_R_again 4 (some .boolean))) := kwV m_722 m_724 ms_25 m_6 m_725
set_option maxRecDepth 20000 in
theorem g_R_start_15 : GoodIn (kws (y_R_start) b_R_start 5 (some .int)) (wsV R_R 82 R_R y_R_refused (kws (y_R_refused) b_R_refused 4 (some .boolean))) := kwV m_604 m_606 ms_12 m_6 m_607
set_option maxRecDepth 20000 in
theorem g_R_start_81 : GoodIn (kws (y_R_start) b_R_start 5 (some .int)) (wsV R_R 90 R_R y_R_forceTo (kws (y_R_forceTo) b_R_forceTo 3 (some .int))) := kwV m_624 m_626 ms_14 m_6 m_627
set_option maxRecDepth 20000 in
theorem g_R_start_112 : GoodIn (kws (y_R_start) b_R_start 5 (some .int)) (wsV R_R 101 R_R y_R_writeOwn (kws (y_R_writeOwn) b_R_writeOwn 3 none)) := kwV m_659 m_661 ms_21 m_6 m_662
set_option maxRecDepth 20000 in
theorem g_R_start_74 : GoodIn (kws (y_R_start) b_R_start 5 (some .int)) (wsS R_R 130 y_R_rowOf (kws (y_R_rowOf) b_R_rowOf 1 (some .int))) := kwS m_679 m_680 m_6 m_681
theorem c_R_rowP (σ : Mem) (n : Nat) (hn : n < 2 ^ 31) : KIR l D cI cF cZ cJ ad y_R_rowOf b_R_rowOf 1 (some .int) 0 0 [.int (nI n)] σ (fun r σ' => r = nI (n / 8 % 8192) ∧ σ' = σ) := c_R_rowOf σ n hn
def qTr (τ : Mem) : Nat → Nat → Int32 → Int32
  | 0, _, x => x
  | n + 1, s, x => if τ 6 (s / 8 % 8192) = 0 then qTr τ n (s + 8) (nI s) else qTr τ n (s + 8) x
def qTrEnd (τ : Mem) (x : Int32) : Int32 × Mem :=
  if τ 0 10 - (τ 0 10 - τ 0 10 / nI 8 * nI 8) ≤ x then (τ 0 10 - (τ 0 10 - τ 0 10 / nI 8 * nI 8) - τ 0 9, mup τ 0 9 (τ 0 10 - (τ 0 10 - τ 0 10 / nI 8 * nI 8))) else (x - τ 0 9, mup τ 0 9 x)
def qTrim (σ : Mem) (a b : Nat) : Int32 × Mem :=
  if σ 0 18 = 0 then
    (if qKth (mup σ 0 0 (nI 0)) (nI 0) 8 0 (-1) = -1 then qTrEnd (mup σ 0 0 (nI 0)) (qTr (mup σ 0 0 (nI 0)) ((b + 7 - a) / 8) a (nI a))
      else qTrEnd (mup σ 0 0 (nI 0)) ((mup σ 0 0 (nI 0)) 11 (qKth (mup σ 0 0 (nI 0)) (nI 0) 8 0 (-1)).toNatClampNeg))
  else (nI 0, mup σ 0 0 (nI 1))
set_option maxHeartbeats 4000000 in
set_option maxRecDepth 100000 in
theorem c_R_trim (σ : Mem) (a b : Nat) (ha : σ 0 9 = nI a) (hb9 : σ 0 11 = nI b) (hab : a ≤ b) (hb30 : b < 2 ^ 30) : KIR l D cI cF cZ cJ ad y_R_trim b_R_trim 5 (some .int) 3 70 [.ref (ad 0)] σ (fun r σ' => r = (qTrim σ a b).1 ∧ σ' = (qTrim σ a b).2) := by
  refine KI.of (by decide) (Nat.le_of_ble_eq_true rfl) ?_
  intro p e s m args below meth c A ls F w hl hr hlk
  obtain ⟨hx, hb, hml, hown, hts⟩ := id F
  have hl : lv_has ls 5 [(0, .ref (ad 0))] := hl
  have loopT : ∀ (n : Nat) (s9 : Nat) (x : Int32) (hon : σ 0 18 = 0) (hs9 : s9 ≤ b + 8) (hn : (b + 7 - s9) / 8 = n) (hk : qTrEnd (mup σ 0 0 (nI 0)) (qTr (mup σ 0 0 (nI 0)) n s9 x) = qTrim σ a b) (H : Heap) (locs : List Loc) (ls : Array Slot), mW D clP (tyP cI cF cZ cJ) 12 (eR cI cZ ad) ad (mup σ 0 0 (nI 0)) s A s.heap H locs → lv_has ls 5 [(3, .int (nI s9)), (2, .int x), (0, .ref (ad 0))] → W p l e { frames := 3, cells := 0, slots := 0, locals := 70 } s m args below meth c H locs 0 0 (MQ below (va_Qi (fun r σ' => r = (qTrim σ a b).1 ∧ σ' = (qTrim σ a b).2) (KB D clP (tyP cI cF cZ cJ) 12 (eR cI cZ ad) ad) A) args s 0 0 A) (F0 m 45 ls []) := by
    intro n
    induction n with
    | zero =>
      intro s9 x hon hs9 hn hk H locs ls w hl
      refine lv_iload_n hx hb d_R_trim_45 rfl (lv_at hl 0 rfl) ?_
      refine lv_aload_n hx hb d_R_trim_46 rfl (lv_at hl 2 rfl) ?_
      refine mr_get F w (kin in_R) 0 (by decide) rfl rfl 11 (by decide) (kws_in m_539) (fun _ h => h) rfl d_R_trim_47 ?_
      rw [show (mup σ 0 0 (nI 0)) 0 11 = nI b from hb9]
      refine nr_icmp_ge (tgt := 79) hx hb d_R_trim_50 (by decide) (by omega) (by omega) (fun c1 => ?_) (fun c1 => absurd (by omega) c1)
      refine lv_aload_n hx hb d_R_trim_79 rfl (lv_at hl 2 rfl) ?_
      refine mr_get F w (kin in_R) 0 (by decide) rfl rfl 10 (by decide) (kws_in m_538) (fun _ h => h) rfl d_R_trim_80 ?_
      refine lv_aload_n hx hb d_R_trim_83 rfl (lv_at hl 2 rfl) ?_
      refine mr_get F w (kin in_R) 0 (by decide) rfl rfl 10 (by decide) (kws_in m_538) (fun _ h => h) rfl d_R_trim_84 ?_
      refine lv_bipush (v := nI 8) hx hb d_R_trim_87 (by decide) ?_
      refine lv_irem hx hb d_R_trim_89 (by decide) ?_
      refine lv_isub hx hb d_R_trim_90 ?_
      refine lv_istore_n (lv' := [(3, .int (((mup σ 0 0 (nI 0)) 0 10) - (((mup σ 0 0 (nI 0)) 0 10) - ((mup σ 0 0 (nI 0)) 0 10) / (nI 8) * (nI 8)))), (2, .int x), (0, .ref (ad 0))]) hx hb d_R_trim_91 rfl hl (by decide) rfl (fun ls hl => ?_)
      refine lv_iload_n hx hb d_R_trim_92 rfl (lv_at hl 1 rfl) ?_
      refine lv_iload_n hx hb d_R_trim_93 rfl (lv_at hl 0 rfl) ?_
      refine lv_icmp_ge (tgt := 101) hx hb d_R_trim_94 (by decide) (fun c2 => ?_) (fun c2 => ?_)
      · refine lv_iload_n hx hb d_R_trim_101 rfl (lv_at hl 0 rfl) ?_
        refine lv_istore_n (lv' := [(2, .int (((mup σ 0 0 (nI 0)) 0 10) - (((mup σ 0 0 (nI 0)) 0 10) - ((mup σ 0 0 (nI 0)) 0 10) / (nI 8) * (nI 8)))), (3, .int (((mup σ 0 0 (nI 0)) 0 10) - (((mup σ 0 0 (nI 0)) 0 10) - ((mup σ 0 0 (nI 0)) 0 10) / (nI 8) * (nI 8)))), (0, .ref (ad 0))]) hx hb d_R_trim_102 rfl hl (by decide) rfl (fun ls hl => ?_)
        refine lv_iload_n hx hb d_R_trim_103 rfl (lv_at hl 0 rfl) ?_
        refine lv_aload_n hx hb d_R_trim_104 rfl (lv_at hl 2 rfl) ?_
        refine mr_get F w (kin in_R) 0 (by decide) rfl rfl 9 (by decide) (kws_in m_537) (fun _ h => h) rfl d_R_trim_105 ?_
        refine lv_isub hx hb d_R_trim_108 ?_
        refine lv_istore (lv' := [(4, .int ((((mup σ 0 0 (nI 0)) 0 10) - (((mup σ 0 0 (nI 0)) 0 10) - ((mup σ 0 0 (nI 0)) 0 10) / (nI 8) * (nI 8))) - ((mup σ 0 0 (nI 0)) 0 9))), (2, .int (((mup σ 0 0 (nI 0)) 0 10) - (((mup σ 0 0 (nI 0)) 0 10) - ((mup σ 0 0 (nI 0)) 0 10) / (nI 8) * (nI 8)))), (3, .int (((mup σ 0 0 (nI 0)) 0 10) - (((mup σ 0 0 (nI 0)) 0 10) - ((mup σ 0 0 (nI 0)) 0 10) / (nI 8) * (nI 8)))), (0, .ref (ad 0))]) hx hb d_R_trim_109 hl (by decide) rfl (fun ls hl => ?_)
        refine lv_aload_n hx hb d_R_trim_111 rfl (lv_at hl 3 rfl) ?_
        refine lv_iload_n hx hb d_R_trim_112 rfl (lv_at hl 1 rfl) ?_
        refine mr_put F w (kin in_R) t_R t_R_ok n_R 0 (by decide) rfl rfl 9 (by decide) (kws_in m_537) (fun _ h => h) rfl rfl rfl (Nat.le_of_ble_eq_true rfl) rfl d_R_trim_113 (fun H locs w => ?_)
        refine lv_iload hx hb d_R_trim_116 (lv_at hl 0 rfl) ?_
        exact mr_iret F w hr hlk (by rw [← hk]; show _ = (qTrEnd _ x).1 ∧ _ = (qTrEnd _ x).2; unfold qTrEnd; rw [if_pos c2]; exact ⟨rfl, rfl⟩) d_R_trim_118
      · refine lv_iload_n hx hb d_R_trim_97 rfl (lv_at hl 1 rfl) ?_
        refine lv_goto (tgt := 102) hx hb d_R_trim_98 (by decide) ?_
        refine lv_istore_n (lv' := [(2, .int x), (3, .int (((mup σ 0 0 (nI 0)) 0 10) - (((mup σ 0 0 (nI 0)) 0 10) - ((mup σ 0 0 (nI 0)) 0 10) / (nI 8) * (nI 8)))), (0, .ref (ad 0))]) hx hb d_R_trim_102 rfl hl (by decide) rfl (fun ls hl => ?_)
        refine lv_iload_n hx hb d_R_trim_103 rfl (lv_at hl 0 rfl) ?_
        refine lv_aload_n hx hb d_R_trim_104 rfl (lv_at hl 2 rfl) ?_
        refine mr_get F w (kin in_R) 0 (by decide) rfl rfl 9 (by decide) (kws_in m_537) (fun _ h => h) rfl d_R_trim_105 ?_
        refine lv_isub hx hb d_R_trim_108 ?_
        refine lv_istore (lv' := [(4, .int (x - ((mup σ 0 0 (nI 0)) 0 9))), (2, .int x), (3, .int (((mup σ 0 0 (nI 0)) 0 10) - (((mup σ 0 0 (nI 0)) 0 10) - ((mup σ 0 0 (nI 0)) 0 10) / (nI 8) * (nI 8)))), (0, .ref (ad 0))]) hx hb d_R_trim_109 hl (by decide) rfl (fun ls hl => ?_)
        refine lv_aload_n hx hb d_R_trim_111 rfl (lv_at hl 3 rfl) ?_
        refine lv_iload_n hx hb d_R_trim_112 rfl (lv_at hl 1 rfl) ?_
        refine mr_put F w (kin in_R) t_R t_R_ok n_R 0 (by decide) rfl rfl 9 (by decide) (kws_in m_537) (fun _ h => h) rfl rfl rfl (Nat.le_of_ble_eq_true rfl) rfl d_R_trim_113 (fun H locs w => ?_)
        refine lv_iload hx hb d_R_trim_116 (lv_at hl 0 rfl) ?_
        exact mr_iret F w hr hlk (by rw [← hk]; show _ = (qTrEnd _ x).1 ∧ _ = (qTrEnd _ x).2; unfold qTrEnd; rw [if_neg c2]; exact ⟨rfl, rfl⟩) d_R_trim_118
    | succ n ih =>
      intro s9 x hon hs9 hn hk H locs ls w hl
      refine lv_iload_n hx hb d_R_trim_45 rfl (lv_at hl 0 rfl) ?_
      refine lv_aload_n hx hb d_R_trim_46 rfl (lv_at hl 2 rfl) ?_
      refine mr_get F w (kin in_R) 0 (by decide) rfl rfl 11 (by decide) (kws_in m_539) (fun _ h => h) rfl d_R_trim_47 ?_
      rw [show (mup σ 0 0 (nI 0)) 0 11 = nI b from hb9]
      refine nr_icmp_ge (tgt := 79) hx hb d_R_trim_50 (by decide) (by omega) (by omega) (fun c3 => absurd c3 (by omega)) (fun c3 => ?_)
      refine lv_aload_n hx hb d_R_trim_53 rfl (lv_at hl 2 rfl) ?_
      refine mr_get F w (kin in_R) 0 (by decide) rfl rfl 8 (by decide) (kws_in m_536) (fun _ h => h) rfl d_R_trim_54 ?_
      refine lv_iload_n hx hb d_R_trim_57 rfl (lv_at hl 0 rfl) ?_
      refine mr_callSi (As := [.int (nI s9)]) F w hl.1 (c_R_rowP (mup σ 0 0 (nI 0)) s9 (by omega)) (cwS 1 hts g_R_trim_58 rfl rfl rfl (by decide +kernel) ⟨Nat.le_of_ble_eq_true rfl, Nat.le_of_ble_eq_true rfl⟩) rfl rfl (Nat.le_of_ble_eq_true rfl) d_R_trim_58 ⟨Nat.zero_le _, Nat.zero_le _⟩ (fun r4 σ5 H locs e6 w => ?_)
      obtain ⟨rfl, hs9⟩ := e6
      rw [hs9] at w
      clear hs9
      refine mr_baN F w 6 2 (by decide) rfl rfl (s9 / 8 % 8192) (by omega) (by decide) rfl d_R_trim_61 ?_
      refine lv_if_eq (tgt := 69) hx hb d_R_trim_62 (by decide) (fun c7 => ?_) (fun c7 => ?_)
      · refine lv_iload_n hx hb d_R_trim_69 rfl (lv_at hl 0 rfl) ?_
        refine lv_istore_n (lv' := [(2, .int (nI s9)), (3, .int (nI s9)), (0, .ref (ad 0))]) hx hb d_R_trim_70 rfl hl (by decide) rfl (fun ls hl => ?_)
        refine lv_iload_n hx hb d_R_trim_71 rfl (lv_at hl 1 rfl) ?_
        refine lv_bipush (v := nI 8) hx hb d_R_trim_72 (by decide) ?_
        refine nr_iadd hx hb d_R_trim_74 ?_
        refine lv_istore_n (lv' := [(3, .int (nI (s9 + 8))), (2, .int (nI s9)), (0, .ref (ad 0))]) hx hb d_R_trim_75 rfl hl (by decide) rfl (fun ls hl => ?_)
        refine lv_goto (tgt := 45) hx hb d_R_trim_76 (by decide) ?_
        exact ih (s9 + 8) (nI s9) hon (by omega) (by omega) (by rw [← hk]; simp only [qTr, if_pos c7]) _ _ ls w (lv_sub hl [0, 1, 2] rfl)
      · refine lv_iload_n hx hb d_R_trim_65 rfl (lv_at hl 1 rfl) ?_
        refine lv_goto (tgt := 70) hx hb d_R_trim_66 (by decide) ?_
        refine lv_istore_n (lv' := [(2, .int x), (3, .int (nI s9)), (0, .ref (ad 0))]) hx hb d_R_trim_70 rfl hl (by decide) rfl (fun ls hl => ?_)
        refine lv_iload_n hx hb d_R_trim_71 rfl (lv_at hl 1 rfl) ?_
        refine lv_bipush (v := nI 8) hx hb d_R_trim_72 (by decide) ?_
        refine nr_iadd hx hb d_R_trim_74 ?_
        refine lv_istore_n (lv' := [(3, .int (nI (s9 + 8))), (2, .int x), (0, .ref (ad 0))]) hx hb d_R_trim_75 rfl hl (by decide) rfl (fun ls hl => ?_)
        refine lv_goto (tgt := 45) hx hb d_R_trim_76 (by decide) ?_
        exact ih (s9 + 8) x hon (by omega) (by omega) (by rw [← hk]; simp only [qTr, if_neg c7]) _ _ ls w (lv_sub hl [0, 1, 2] rfl)
  refine lv_aload_n hx hb d_R_trim_0 rfl (lv_at hl 0 rfl) ?_
  refine lv_aload_n hx hb d_R_trim_1 rfl (lv_at hl 0 rfl) ?_
  refine mr_get F w (kin in_R) 0 (by decide) rfl rfl 18 (by decide) (kws_in m_546) (fun _ h => h) rfl d_R_trim_2 ?_
  refine lv_iconst (v := nI 0) hx hb d_R_trim_5 (by decide) ?_
  refine lv_iconst (v := nI 0) hx hb d_R_trim_6 (by decide) ?_
  refine mr_callVi (As := [.int (σ 0 18), .int (nI 0), .int (nI 0)]) F w hl.1 (c_R_refused σ (σ 0 18) (nI 0) (nI 0)) (cwV 3 hts g_R_trim_7 rfl rfl rfl (by decide +kernel) ⟨Nat.le_of_ble_eq_true rfl, Nat.le_of_ble_eq_true rfl⟩) rfl (by decide) rfl rfl rfl (Nat.le_of_ble_eq_true rfl) d_R_trim_7 ⟨Nat.zero_le _, Nat.zero_le _⟩ (fun r8 σ9 H locs e10 w => ?_)
  have e10_r := e10.1.symm
  have e10_s := e10.2.symm
  clear e10
  rcases Classical.em (σ 0 18 = 0) with c11 | c11
  · rw [show σ9 = mup σ 0 0 (nI 0) from (by subst e10_r e10_s; unfold qRef; rw [if_pos c11]; try rfl)] at w
    refine nr_as (k := 0) (by subst e10_r e10_s; unfold qRef; rw [if_pos c11]; try rfl) ?_
    clear e10_r e10_s
    refine lv_if_eq (tgt := 15) hx hb d_R_trim_10 (by decide) (fun _ => ?_) (fun c12 => absurd c12 (by decide))
    refine lv_aload_n hx hb d_R_trim_15 rfl (lv_at hl 0 rfl) ?_
    refine lv_iconst (v := nI 0) hx hb d_R_trim_16 (by decide) ?_
    refine mr_callVi (As := [.int (nI 0)]) F w hl.1 (c_R_kth (mup σ 0 0 (nI 0)) (nI 0)) (cwV 1 hts g_R_trim_17 rfl rfl rfl (by decide +kernel) ⟨Nat.le_of_ble_eq_true rfl, Nat.le_of_ble_eq_true rfl⟩) rfl (by decide) rfl rfl rfl (Nat.le_of_ble_eq_true rfl) d_R_trim_17 ⟨Nat.zero_le _, Nat.zero_le _⟩ (fun r13 σ14 H locs e15 w => ?_)
    have e15_r := e15.1.symm
    have hs9 := e15.2
    rw [hs9] at w
    clear hs9 e15
    rcases Classical.em (r13 = -1) with c16 | c16
    · rw [c16]
      refine lv_istore_n (lv' := [(1, .int ((-1))), (0, .ref (ad 0))]) hx hb d_R_trim_20 rfl hl (by decide) rfl (fun ls hl => ?_)
      refine lv_aload_n hx hb d_R_trim_21 rfl (lv_at hl 1 rfl) ?_
      refine mr_get F w (kin in_R) 0 (by decide) rfl rfl 9 (by decide) (kws_in m_537) (fun _ h => h) rfl d_R_trim_22 ?_
      rw [show (mup σ 0 0 (nI 0)) 0 9 = nI a from ha]
      refine lv_istore_n (lv' := [(2, .int (nI a)), (1, .int ((-1))), (0, .ref (ad 0))]) hx hb d_R_trim_25 rfl hl (by decide) rfl (fun ls hl => ?_)
      refine lv_iload_n hx hb d_R_trim_26 rfl (lv_at hl 1 rfl) ?_
      refine lv_if_lt (tgt := 40) hx hb d_R_trim_27 (by decide) (fun _ => ?_) (fun c18 => absurd c18 (by decide))
      refine lv_aload_n hx hb d_R_trim_40 rfl (lv_at hl 2 rfl) ?_
      refine mr_get F w (kin in_R) 0 (by decide) rfl rfl 9 (by decide) (kws_in m_537) (fun _ h => h) rfl d_R_trim_41 ?_
      rw [show (mup σ 0 0 (nI 0)) 0 9 = nI a from ha]
      refine lv_istore_n (lv' := [(3, .int (nI a)), (2, .int (nI a)), (1, .int ((-1))), (0, .ref (ad 0))]) hx hb d_R_trim_44 rfl hl (by decide) rfl (fun ls hl => ?_)
      exact loopT _ a _ c11 (by omega) rfl (by subst e15_r; unfold qTrim; rw [if_pos c11, if_pos c16]) _ _ ls w (lv_sub hl [0, 1, 3] rfl)
    · have hb17 : r13.toNatClampNeg < 8 := (fr8_in (by rw [← e15_r]; exact (qKth_in (mup σ 0 0 (nI 0)) (nI 0) 8 0 (-1) (by decide) fr8_m1)) c16).1
      rw [(fr8_in (R := r13) (by rw [← e15_r]; exact (qKth_in (mup σ 0 0 (nI 0)) (nI 0) 8 0 (-1) (by decide) fr8_m1)) c16).2]
      refine lv_istore_n (lv' := [(1, .int (nI r13.toNatClampNeg)), (0, .ref (ad 0))]) hx hb d_R_trim_20 rfl hl (by decide) rfl (fun ls hl => ?_)
      refine lv_aload_n hx hb d_R_trim_21 rfl (lv_at hl 1 rfl) ?_
      refine mr_get F w (kin in_R) 0 (by decide) rfl rfl 9 (by decide) (kws_in m_537) (fun _ h => h) rfl d_R_trim_22 ?_
      rw [show (mup σ 0 0 (nI 0)) 0 9 = nI a from ha]
      refine lv_istore_n (lv' := [(2, .int (nI a)), (1, .int (nI r13.toNatClampNeg)), (0, .ref (ad 0))]) hx hb d_R_trim_25 rfl hl (by decide) rfl (fun ls hl => ?_)
      refine lv_iload_n hx hb d_R_trim_26 rfl (lv_at hl 1 rfl) ?_
      refine lv_if_lt (tgt := 40) hx hb d_R_trim_27 (by decide) (fun c19 => absurd c19 (nI_pos (by omega))) (fun _ => ?_)
      refine lv_aload_n hx hb d_R_trim_30 rfl (lv_at hl 2 rfl) ?_
      refine mr_get F w (kin in_R) 0 (by decide) rfl rfl 16 (by decide) (kws_in m_544) (fun _ h => h) rfl d_R_trim_31 ?_
      refine lv_iload_n hx hb d_R_trim_34 rfl (lv_at hl 1 rfl) ?_
      refine mr_iaN F w 11 0 (by decide) rfl rfl r13.toNatClampNeg (by omega) (by decide) rfl d_R_trim_35 ?_
      refine lv_istore_n (lv' := [(2, .int ((mup σ 0 0 (nI 0)) 11 r13.toNatClampNeg)), (1, .int (nI r13.toNatClampNeg)), (0, .ref (ad 0))]) hx hb d_R_trim_36 rfl hl (by decide) rfl (fun ls hl => ?_)
      refine lv_goto (tgt := 79) hx hb d_R_trim_37 (by decide) ?_
      refine lv_aload_n hx hb d_R_trim_79 rfl (lv_at hl 2 rfl) ?_
      refine mr_get F w (kin in_R) 0 (by decide) rfl rfl 10 (by decide) (kws_in m_538) (fun _ h => h) rfl d_R_trim_80 ?_
      refine lv_aload_n hx hb d_R_trim_83 rfl (lv_at hl 2 rfl) ?_
      refine mr_get F w (kin in_R) 0 (by decide) rfl rfl 10 (by decide) (kws_in m_538) (fun _ h => h) rfl d_R_trim_84 ?_
      refine lv_bipush (v := nI 8) hx hb d_R_trim_87 (by decide) ?_
      refine lv_irem hx hb d_R_trim_89 (by decide) ?_
      refine lv_isub hx hb d_R_trim_90 ?_
      refine lv_istore_n (lv' := [(3, .int (((mup σ 0 0 (nI 0)) 0 10) - (((mup σ 0 0 (nI 0)) 0 10) - ((mup σ 0 0 (nI 0)) 0 10) / (nI 8) * (nI 8)))), (2, .int ((mup σ 0 0 (nI 0)) 11 r13.toNatClampNeg)), (1, .int (nI r13.toNatClampNeg)), (0, .ref (ad 0))]) hx hb d_R_trim_91 rfl hl (by decide) rfl (fun ls hl => ?_)
      refine lv_iload_n hx hb d_R_trim_92 rfl (lv_at hl 1 rfl) ?_
      refine lv_iload_n hx hb d_R_trim_93 rfl (lv_at hl 0 rfl) ?_
      refine lv_icmp_ge (tgt := 101) hx hb d_R_trim_94 (by decide) (fun c20 => ?_) (fun c20 => ?_)
      · refine lv_iload_n hx hb d_R_trim_101 rfl (lv_at hl 0 rfl) ?_
        refine lv_istore_n (lv' := [(2, .int (((mup σ 0 0 (nI 0)) 0 10) - (((mup σ 0 0 (nI 0)) 0 10) - ((mup σ 0 0 (nI 0)) 0 10) / (nI 8) * (nI 8)))), (3, .int (((mup σ 0 0 (nI 0)) 0 10) - (((mup σ 0 0 (nI 0)) 0 10) - ((mup σ 0 0 (nI 0)) 0 10) / (nI 8) * (nI 8)))), (1, .int (nI r13.toNatClampNeg)), (0, .ref (ad 0))]) hx hb d_R_trim_102 rfl hl (by decide) rfl (fun ls hl => ?_)
        refine lv_iload_n hx hb d_R_trim_103 rfl (lv_at hl 0 rfl) ?_
        refine lv_aload_n hx hb d_R_trim_104 rfl (lv_at hl 3 rfl) ?_
        refine mr_get F w (kin in_R) 0 (by decide) rfl rfl 9 (by decide) (kws_in m_537) (fun _ h => h) rfl d_R_trim_105 ?_
        refine lv_isub hx hb d_R_trim_108 ?_
        refine lv_istore (lv' := [(4, .int ((((mup σ 0 0 (nI 0)) 0 10) - (((mup σ 0 0 (nI 0)) 0 10) - ((mup σ 0 0 (nI 0)) 0 10) / (nI 8) * (nI 8))) - ((mup σ 0 0 (nI 0)) 0 9))), (2, .int (((mup σ 0 0 (nI 0)) 0 10) - (((mup σ 0 0 (nI 0)) 0 10) - ((mup σ 0 0 (nI 0)) 0 10) / (nI 8) * (nI 8)))), (3, .int (((mup σ 0 0 (nI 0)) 0 10) - (((mup σ 0 0 (nI 0)) 0 10) - ((mup σ 0 0 (nI 0)) 0 10) / (nI 8) * (nI 8)))), (1, .int (nI r13.toNatClampNeg)), (0, .ref (ad 0))]) hx hb d_R_trim_109 hl (by decide) rfl (fun ls hl => ?_)
        refine lv_aload_n hx hb d_R_trim_111 rfl (lv_at hl 4 rfl) ?_
        refine lv_iload_n hx hb d_R_trim_112 rfl (lv_at hl 1 rfl) ?_
        refine mr_put F w (kin in_R) t_R t_R_ok n_R 0 (by decide) rfl rfl 9 (by decide) (kws_in m_537) (fun _ h => h) rfl rfl rfl (Nat.le_of_ble_eq_true rfl) rfl d_R_trim_113 (fun H locs w => ?_)
        refine lv_iload hx hb d_R_trim_116 (lv_at hl 0 rfl) ?_
        exact mr_iret F w hr hlk (by subst e15_r; unfold qTrim; rw [if_pos c11, if_neg c16]; unfold qTrEnd; rw [if_pos c20]; exact ⟨rfl, rfl⟩) d_R_trim_118
      · refine lv_iload_n hx hb d_R_trim_97 rfl (lv_at hl 1 rfl) ?_
        refine lv_goto (tgt := 102) hx hb d_R_trim_98 (by decide) ?_
        refine lv_istore_n (lv' := [(2, .int ((mup σ 0 0 (nI 0)) 11 r13.toNatClampNeg)), (3, .int (((mup σ 0 0 (nI 0)) 0 10) - (((mup σ 0 0 (nI 0)) 0 10) - ((mup σ 0 0 (nI 0)) 0 10) / (nI 8) * (nI 8)))), (1, .int (nI r13.toNatClampNeg)), (0, .ref (ad 0))]) hx hb d_R_trim_102 rfl hl (by decide) rfl (fun ls hl => ?_)
        refine lv_iload_n hx hb d_R_trim_103 rfl (lv_at hl 0 rfl) ?_
        refine lv_aload_n hx hb d_R_trim_104 rfl (lv_at hl 3 rfl) ?_
        refine mr_get F w (kin in_R) 0 (by decide) rfl rfl 9 (by decide) (kws_in m_537) (fun _ h => h) rfl d_R_trim_105 ?_
        refine lv_isub hx hb d_R_trim_108 ?_
        refine lv_istore (lv' := [(4, .int (((mup σ 0 0 (nI 0)) 11 r13.toNatClampNeg) - ((mup σ 0 0 (nI 0)) 0 9))), (2, .int ((mup σ 0 0 (nI 0)) 11 r13.toNatClampNeg)), (3, .int (((mup σ 0 0 (nI 0)) 0 10) - (((mup σ 0 0 (nI 0)) 0 10) - ((mup σ 0 0 (nI 0)) 0 10) / (nI 8) * (nI 8)))), (1, .int (nI r13.toNatClampNeg)), (0, .ref (ad 0))]) hx hb d_R_trim_109 hl (by decide) rfl (fun ls hl => ?_)
        refine lv_aload_n hx hb d_R_trim_111 rfl (lv_at hl 4 rfl) ?_
        refine lv_iload_n hx hb d_R_trim_112 rfl (lv_at hl 1 rfl) ?_
        refine mr_put F w (kin in_R) t_R t_R_ok n_R 0 (by decide) rfl rfl 9 (by decide) (kws_in m_537) (fun _ h => h) rfl rfl rfl (Nat.le_of_ble_eq_true rfl) rfl d_R_trim_113 (fun H locs w => ?_)
        refine lv_iload hx hb d_R_trim_116 (lv_at hl 0 rfl) ?_
        exact mr_iret F w hr hlk (by subst e15_r; unfold qTrim; rw [if_pos c11, if_neg c16]; unfold qTrEnd; rw [if_neg c20]; exact ⟨rfl, rfl⟩) d_R_trim_118
  · rw [show σ9 = mup σ 0 0 (nI 1) from (by subst e10_r e10_s; unfold qRef; rw [if_neg c11]; try rfl)] at w
    refine nr_as (k := 1) (by subst e10_r e10_s; unfold qRef; rw [if_neg c11]; try rfl) ?_
    clear e10_r e10_s
    refine lv_if_eq (tgt := 15) hx hb d_R_trim_10 (by decide) (fun c21 => absurd c21 (by decide)) (fun _ => ?_)
    refine lv_iconst (v := nI 0) hx hb d_R_trim_13 (by decide) ?_
    exact mr_iret F w hr hlk (by unfold qTrim; rw [if_neg c11]; exact ⟨rfl, rfl⟩) d_R_trim_14
theorem qFail_s (σ : Mem) {k : Nat} (h1 : k ≠ 17) (h2 : k ≠ 11) (h3 : k ≠ 18) (h4 : k ≠ 21) (h5 : k ≠ 19) : qFail σ 0 k = σ 0 k := by
  unfold qFail qForget
  rw [mup_f _ _ _ _ h2, mup_f _ _ _ _ h1, qForgets_n', mup_f _ _ _ _ h5, mup_f _ _ _ _ h4, mup_f _ _ _ _ h3]
theorem qCW_s (σ : Mem) {k : Nat} (h1 : k ≠ 17) (h2 : k ≠ 11) (h3 : k ≠ 18) (h4 : k ≠ 21) (h5 : k ≠ 19) (h6 : k ≠ 20) : (qCW σ).2 0 k = σ 0 k := by
  unfold qCW
  repeat' split
  all_goals first | exact qFail_s σ h1 h2 h3 h4 h5 | rfl | (dsimp only; rw [mup_f _ _ _ _ h6, mup_f _ _ _ _ h5])
theorem qFo_s : ∀ (n : Nat) (y : Int32) (σ : Mem) {k : Nat}, k ≠ 17 → k ≠ 11 → k ≠ 18 → k ≠ 21 → k ≠ 19 → k ≠ 20 → k ≠ 10 → (qFo n y σ).2 0 k = σ 0 k
  | 0, _, _, _, _, _, _, _, _, _, _ => rfl
  | n + 1, y, σ, k, h1, h2, h3, h4, h5, h6, h7 => by
    unfold qFo
    split
    · exact qCW_s σ h1 h2 h3 h4 h5 h6
    · rw [qFo_s n _ _ h1 h2 h3 h4 h5 h6 h7, mup_f _ _ _ _ h7, qCW_s σ h1 h2 h3 h4 h5 h6]
theorem qFT_s (σ : Mem) (x : Int32) {k : Nat} (h1 : k ≠ 17) (h2 : k ≠ 11) (h3 : k ≠ 18) (h4 : k ≠ 21) (h5 : k ≠ 19) (h6 : k ≠ 20) (h7 : k ≠ 10) : (qFT σ x).2 0 k = σ 0 k := qFo_s _ _ σ h1 h2 h3 h4 h5 h6 h7
theorem qWO_9 (σ : Mem) (pg : Nat) : (qWO σ pg) 0 9 = σ 0 9 := by
  have hC : ∀ t : Mem, (qCW t).2 0 9 = t 0 9 := fun t => qCW_s t (by decide) (by decide) (by decide) (by decide) (by decide) (by decide)
  have hT : ∀ (n k : Nat) (t : Mem), qTO pg n k t 0 9 = t 0 9 := fun n k t => by rw [qTO_n pg n k t (by decide)]
  have hM : ∀ (t : Mem) (v : Int32), (mup t 0 4 v) 0 9 = t 0 9 := fun t v => mup_f _ _ _ _ (by decide)
  unfold qWO
  split
  · simp only [hC, hT, hM]
  · split
    · simp only [hC, hT, hM]
    · simp only [hC, hT, hM]
def aOK (τ : Mem) (x : Nat) : Prop := nat0 8 (τ 0 17) ∧ rOK τ ∧ nat0 256 (τ 3 (x / 8 % 8192)) ∧ nat0 64 (τ 4 (x / 8 % 8192))
def qLoop : Nat → Nat → Int32 → Mem → Int32 × Mem
  | 0, _, k, τ => (k, τ)
  | n + 1, x, k, τ => if τ 0 11 ≤ nI x then (if τ 0 21 = 0 then (k, τ) else (-1, τ)) else if τ 0 21 = 0 then
      (if τ 6 (x / 8 % 8192) = 0 then (if (qAgain τ x).1 = 0 then qLoop n (x + 8) k (qAgain τ x).2 else qLoop n (x + 8) (k + nI 1) (qAgain τ x).2) else qLoop n (x + 8) k τ)
      else (if τ 0 21 = 0 then (k, τ) else (-1, τ))
def qLoopOK : Nat → Nat → Mem → Prop
  | 0, _, _ => False
  | n + 1, x, τ => ¬ τ 0 11 ≤ nI x → τ 0 21 = 0 → x < 2 ^ 30 ∧ (¬ τ 6 (x / 8 % 8192) = 0 → qLoopOK n (x + 8) τ) ∧ (τ 6 (x / 8 % 8192) = 0 → aOK τ x ∧ qLoopOK n (x + 8) (qAgain τ x).2)
def qOn (σ : Mem) : Mem := mup (mup (mup σ 0 0 (nI 0)) 0 18 (nI 0)) 0 21 (nI 0)
/-- the log is filled up -/
def qFilled (σ : Mem) (d : Nat) : Mem :=
  if nI (d % 8) = 0 then (if nI (d % 8) ≤ 0 then (qFT (qOn σ) (nI d)).2 else (qFT (mup (qOn σ) 6 (d / 8 % 8192) (nI 1)) (nI d)).2)
  else (if nI (d % 8) ≤ 0 then (qFT (qOn σ) (nI (d + 8) - nI (d % 8))).2 else (qFT (mup (qOn σ) 6 (d / 8 % 8192) (nI 1)) (nI (d + 8) - nI (d % 8))).2)
/-- the torn page is mended -/
def qMended (τ : Mem) : Mem :=
  if (mup τ 0 11 (τ 0 10)) 0 21 = 0 then (if (mup τ 0 11 (τ 0 10)) 0 4 < 0 then mup τ 0 11 (τ 0 10) else qWO (mup τ 0 11 (τ 0 10)) ((mup τ 0 11 (τ 0 10)) 0 4).toNatClampNeg) else mup τ 0 11 (τ 0 10)
def qStart (σ : Mem) (a d n : Nat) : Int32 × Mem :=
  if σ 0 18 = 0 then (nI 0, mup σ 0 0 (nI 1)) else qLoop n a (nI 0) (qMended (qFilled σ d))
theorem qFilled_s (σ : Mem) (d : Nat) {k : Nat} (h0 : k ≠ 0) (h1 : k ≠ 17) (h2 : k ≠ 11) (h3 : k ≠ 18) (h4 : k ≠ 21) (h5 : k ≠ 19) (h6 : k ≠ 20) (h7 : k ≠ 10) : qFilled σ d 0 k = σ 0 k := by
  have hq : qOn σ 0 k = σ 0 k := by unfold qOn; rw [mup_f _ _ _ _ h4, mup_f _ _ _ _ h3, mup_f _ _ _ _ h0]
  have hm : (mup (qOn σ) 6 (d / 8 % 8192) (nI 1)) 0 k = σ 0 k := by rw [mup_n _ _ _ (by decide), hq]
  unfold qFilled
  split <;> split <;> rw [qFT_s _ _ h1 h2 h3 h4 h5 h6 h7] <;> assumption
theorem qMended_9 (τ : Mem) : qMended τ 0 9 = τ 0 9 := by
  have h : (mup τ 0 11 (τ 0 10)) 0 9 = τ 0 9 := mup_f _ _ _ _ (by decide)
  unfold qMended
  split
  · split
    · exact h
    · rw [qWO_9, h]
  · exact h
set_option maxHeartbeats 4000000 in
set_option maxRecDepth 100000 in
theorem c_R_start (σ : Mem) (a d N : Nat) (ha : σ 0 9 = nI a) (hd : σ 0 10 = nI d) (hd30 : d < 2 ^ 30) (htt : ∀ τ : Mem, τ 0 4 = σ 0 4 → ¬ τ 0 4 < 0 → nat0 256 (τ 0 4)) (hL : ¬ σ 0 18 = 0 → qLoopOK N a (qMended (qFilled σ d))) : KIR l D cI cF cZ cJ ad y_R_start b_R_start 5 (some .int) 8 215 [.ref (ad 0)] σ (fun r σ' => r = (qStart σ a d N).1 ∧ σ' = (qStart σ a d N).2) := by
  refine KI.of (by decide) (Nat.le_of_ble_eq_true rfl) ?_
  intro p e s m args below meth c A ls F w hl hr hlk
  obtain ⟨hx, hb, hml, hown, hts⟩ := id F
  have hl : lv_has ls 5 [(0, .ref (ad 0))] := hl
  have loopA : ∀ (n : Nat) (x9 : Nat) (k : Int32) (τ : Mem) (hok : qLoopOK n x9 τ) (hk : qLoop n x9 k τ = qStart σ a d N) (H : Heap) (locs : List Loc) (ls : Array Slot), mW D clP (tyP cI cF cZ cJ) 12 (eR cI cZ ad) ad τ s A s.heap H locs → lv_has ls 5 [(4, .int (nI x9)), (3, .int k), (0, .ref (ad 0))] → W p l e { frames := 8, cells := 0, slots := 0, locals := 215 } s m args below meth c H locs 0 0 (MQ below (va_Qi (fun r σ' => r = (qStart σ a d N).1 ∧ σ' = (qStart σ a d N).2) (KB D clP (tyP cI cF cZ cJ) 12 (eR cI cZ ad) ad) A) args s 0 0 A) (F0 m 123 ls []) := by
    intro n
    induction n with
    | zero =>
      intro x9 k τ hok hk H locs ls w hl
      exact hok.elim
    | succ n ih =>
      intro x9 k τ hok hk H locs ls w hl
      refine lv_iload hx hb d_R_start_123 (lv_at hl 0 rfl) ?_
      refine lv_aload_n hx hb d_R_start_125 rfl (lv_at hl 2 rfl) ?_
      refine mr_get F w (kin in_R) 0 (by decide) rfl rfl 11 (by decide) (kws_in m_539) (fun _ h => h) rfl d_R_start_126 ?_
      refine lv_icmp_ge (tgt := 179) hx hb d_R_start_129 (by decide) (fun c1 => ?_) (fun c1 => ?_)
      · refine lv_aload_n hx hb d_R_start_179 rfl (lv_at hl 2 rfl) ?_
        refine mr_get F w (kin in_R) 0 (by decide) rfl rfl 21 (by decide) (kws_in m_549) (fun _ h => h) rfl d_R_start_180 ?_
        refine lv_if_eq (tgt := 190) hx hb d_R_start_183 (by decide) (fun c2 => ?_) (fun c2 => ?_)
        · refine lv_iload_n hx hb d_R_start_190 rfl (lv_at hl 1 rfl) ?_
          exact mr_iret F w hr hlk (by first | contradiction | (rw [← hk]; unfold qLoop; rw [if_pos c1, if_pos c2]; exact ⟨rfl, rfl⟩)) d_R_start_191
        · refine lv_iconst (v := -1) hx hb d_R_start_186 (by decide) ?_
          refine lv_goto (tgt := 191) hx hb d_R_start_187 (by decide) ?_
          exact mr_iret F w hr hlk (by first | contradiction | (rw [← hk]; unfold qLoop; rw [if_pos c1, if_neg c2]; exact ⟨rfl, rfl⟩)) d_R_start_191
      · refine lv_aload_n hx hb d_R_start_132 rfl (lv_at hl 2 rfl) ?_
        refine mr_get F w (kin in_R) 0 (by decide) rfl rfl 21 (by decide) (kws_in m_549) (fun _ h => h) rfl d_R_start_133 ?_
        refine lv_if_ne (tgt := 179) hx hb d_R_start_136 (by decide) (fun c3 => ?_) (fun c3 => ?_)
        · refine lv_aload_n hx hb d_R_start_179 rfl (lv_at hl 2 rfl) ?_
          refine mr_get F w (kin in_R) 0 (by decide) rfl rfl 21 (by decide) (kws_in m_549) (fun _ h => h) rfl d_R_start_180 ?_
          refine lv_if_eq (tgt := 190) hx hb d_R_start_183 (by decide) (fun c4 => ?_) (fun c4 => ?_)
          · refine lv_iload_n hx hb d_R_start_190 rfl (lv_at hl 1 rfl) ?_
            exact mr_iret F w hr hlk (by first | contradiction | (rw [← hk]; unfold qLoop; rw [if_neg c1, if_neg c3, if_pos c4]; exact ⟨rfl, rfl⟩)) d_R_start_191
          · refine lv_iconst (v := -1) hx hb d_R_start_186 (by decide) ?_
            refine lv_goto (tgt := 191) hx hb d_R_start_187 (by decide) ?_
            exact mr_iret F w hr hlk (by first | contradiction | (rw [← hk]; unfold qLoop; rw [if_neg c1, if_neg c3, if_neg c4]; exact ⟨rfl, rfl⟩)) d_R_start_191
        · refine lv_aload_n hx hb d_R_start_139 rfl (lv_at hl 2 rfl) ?_
          refine mr_get F w (kin in_R) 0 (by decide) rfl rfl 8 (by decide) (kws_in m_536) (fun _ h => h) rfl d_R_start_140 ?_
          refine lv_iload hx hb d_R_start_143 (lv_at hl 0 rfl) ?_
          refine mr_callSi (As := [.int (nI x9)]) F w hl.1 (c_R_rowP τ x9 (by have := (hok c1 c3).1; omega)) (cwS 1 hts g_R_start_145 rfl rfl rfl (by decide +kernel) ⟨Nat.le_of_ble_eq_true rfl, Nat.le_of_ble_eq_true rfl⟩) rfl rfl (Nat.le_of_ble_eq_true rfl) d_R_start_145 ⟨Nat.zero_le _, Nat.zero_le _⟩ (fun r5 σ6 H locs e7 w => ?_)
          obtain ⟨rfl, hs9⟩ := e7
          rw [hs9] at w
          clear hs9
          refine mr_baN F w 6 2 (by decide) rfl rfl (x9 / 8 % 8192) (by omega) (by decide) rfl d_R_start_148 ?_
          refine lv_if_ne (tgt := 167) hx hb d_R_start_149 (by decide) (fun c8 => ?_) (fun c8 => ?_)
          · refine lv_iload_n hx hb d_R_start_167 rfl (lv_at hl 1 rfl) ?_
            refine lv_istore_n (lv' := [(3, .int k), (4, .int (nI x9)), (0, .ref (ad 0))]) hx hb d_R_start_168 rfl hl (by decide) rfl (fun ls hl => ?_)
            refine lv_iload hx hb d_R_start_169 (lv_at hl 1 rfl) ?_
            refine lv_bipush (v := nI 8) hx hb d_R_start_171 (by decide) ?_
            refine nr_iadd hx hb d_R_start_173 ?_
            refine lv_istore (lv' := [(4, .int (nI (x9 + 8))), (3, .int k), (0, .ref (ad 0))]) hx hb d_R_start_174 hl (by decide) rfl (fun ls hl => ?_)
            refine lv_goto (tgt := 123) hx hb d_R_start_176 (by decide) ?_
            exact ih (x9 + 8) k _ (by exact ((hok c1 c3).2.1 c8)) (by rw [← hk]; simp only [qLoop, if_neg c1, if_pos c3, if_neg c8]) _ _ ls w (lv_sub hl [0, 1, 2] rfl)
          · refine lv_aload_n hx hb d_R_start_152 rfl (lv_at hl 2 rfl) ?_
            refine lv_iload hx hb d_R_start_153 (lv_at hl 0 rfl) ?_
            refine mr_callVi (As := [.int (nI x9)]) F w hl.1 (c_R_again τ x9 (hok c1 c3).1 ((hok c1 c3).2.2 c8).1.1 ((hok c1 c3).2.2 c8).1.2.1 ((hok c1 c3).2.2 c8).1.2.2.1 ((hok c1 c3).2.2 c8).1.2.2.2) (cwV 1 hts g_R_start_155 rfl rfl rfl (by decide +kernel) ⟨Nat.le_of_ble_eq_true rfl, Nat.le_of_ble_eq_true rfl⟩) rfl (by decide) rfl rfl rfl (Nat.le_of_ble_eq_true rfl) d_R_start_155 ⟨Nat.zero_le _, Nat.zero_le _⟩ (fun r9 σ10 H locs e11 w => ?_)
            have e11_r := e11.1.symm
            have e11_s := e11.2.symm
            clear e11
            refine lv_if_eq (tgt := 167) hx hb d_R_start_158 (by decide) (fun c12 => ?_) (fun c12 => ?_)
            · refine lv_iload_n hx hb d_R_start_167 rfl (lv_at hl 1 rfl) ?_
              refine lv_istore_n (lv' := [(3, .int k), (4, .int (nI x9)), (0, .ref (ad 0))]) hx hb d_R_start_168 rfl hl (by decide) rfl (fun ls hl => ?_)
              refine lv_iload hx hb d_R_start_169 (lv_at hl 1 rfl) ?_
              refine lv_bipush (v := nI 8) hx hb d_R_start_171 (by decide) ?_
              refine nr_iadd hx hb d_R_start_173 ?_
              refine lv_istore (lv' := [(4, .int (nI (x9 + 8))), (3, .int k), (0, .ref (ad 0))]) hx hb d_R_start_174 hl (by decide) rfl (fun ls hl => ?_)
              refine lv_goto (tgt := 123) hx hb d_R_start_176 (by decide) ?_
              exact ih (x9 + 8) k _ (by subst e11_r e11_s; exact ((hok c1 c3).2.2 c8).2) (by subst e11_r e11_s; rw [← hk]; simp only [qLoop, if_neg c1, if_pos c3, if_pos c8, if_pos c12]) _ _ ls w (lv_sub hl [0, 1, 2] rfl)
            · refine lv_iload_n hx hb d_R_start_161 rfl (lv_at hl 1 rfl) ?_
              refine lv_iconst (v := nI 1) hx hb d_R_start_162 (by decide) ?_
              refine lv_iadd hx hb d_R_start_163 ?_
              refine lv_goto (tgt := 168) hx hb d_R_start_164 (by decide) ?_
              refine lv_istore_n (lv' := [(3, .int (k + (nI 1))), (4, .int (nI x9)), (0, .ref (ad 0))]) hx hb d_R_start_168 rfl hl (by decide) rfl (fun ls hl => ?_)
              refine lv_iload hx hb d_R_start_169 (lv_at hl 1 rfl) ?_
              refine lv_bipush (v := nI 8) hx hb d_R_start_171 (by decide) ?_
              refine nr_iadd hx hb d_R_start_173 ?_
              refine lv_istore (lv' := [(4, .int (nI (x9 + 8))), (3, .int (k + (nI 1))), (0, .ref (ad 0))]) hx hb d_R_start_174 hl (by decide) rfl (fun ls hl => ?_)
              refine lv_goto (tgt := 123) hx hb d_R_start_176 (by decide) ?_
              exact ih (x9 + 8) (k + (nI 1)) _ (by subst e11_r e11_s; exact ((hok c1 c3).2.2 c8).2) (by subst e11_r e11_s; rw [← hk]; simp only [qLoop, if_neg c1, if_pos c3, if_pos c8, if_neg c12]) _ _ ls w (lv_sub hl [0, 1, 2] rfl)
  refine lv_aload_n hx hb d_R_start_0 rfl (lv_at hl 0 rfl) ?_
  refine lv_aload_n hx hb d_R_start_1 rfl (lv_at hl 0 rfl) ?_
  refine mr_get F w (kin in_R) 0 (by decide) rfl rfl 18 (by decide) (kws_in m_546) (fun _ h => h) rfl d_R_start_2 ?_
  refine lv_if_ne (tgt := 12) hx hb d_R_start_5 (by decide) (fun c13 => ?_) (fun c13 => ?_)
  · refine lv_iconst (v := nI 0) hx hb d_R_start_12 (by decide) ?_
    refine lv_iconst (v := nI 0) hx hb d_R_start_13 (by decide) ?_
    refine lv_iconst (v := nI 0) hx hb d_R_start_14 (by decide) ?_
    refine mr_callVi (As := [.int (nI 0), .int (nI 0), .int (nI 0)]) F w hl.1 (c_R_refused σ (nI 0) (nI 0) (nI 0)) (cwV 3 hts g_R_start_15 rfl rfl rfl (by decide +kernel) ⟨Nat.le_of_ble_eq_true rfl, Nat.le_of_ble_eq_true rfl⟩) rfl (by decide) rfl rfl rfl (Nat.le_of_ble_eq_true rfl) d_R_start_15 ⟨Nat.zero_le _, Nat.zero_le _⟩ (fun r14 σ15 H locs e16 w => ?_)
    have e16_r := e16.1.symm
    have e16_s := e16.2.symm
    clear e16
    rw [show σ15 = mup σ 0 0 (nI 0) from (by subst e16_r e16_s; rfl)] at w
    refine nr_as (k := 0) (by subst e16_r e16_s; rfl) ?_
    clear e16_r e16_s
    refine lv_if_eq (tgt := 23) hx hb d_R_start_18 (by decide) (fun _ => ?_) (fun c17 => absurd c17 (by decide))
    refine lv_aload_n hx hb d_R_start_23 rfl (lv_at hl 0 rfl) ?_
    refine lv_iconst (v := nI 0) hx hb d_R_start_24 (by decide) ?_
    refine mr_put F w (kin in_R) t_R t_R_ok n_R 0 (by decide) rfl rfl 18 (by decide) (kws_in m_546) (fun _ h => h) rfl rfl rfl (Nat.le_of_ble_eq_true rfl) rfl d_R_start_25 (fun H locs w => ?_)
    refine lv_aload_n hx hb d_R_start_28 rfl (lv_at hl 0 rfl) ?_
    refine lv_iconst (v := nI 0) hx hb d_R_start_29 (by decide) ?_
    refine mr_put F w (kin in_R) t_R t_R_ok n_R 0 (by decide) rfl rfl 21 (by decide) (kws_in m_549) (fun _ h => h) rfl rfl rfl (Nat.le_of_ble_eq_true rfl) rfl d_R_start_30 (fun H locs w => ?_)
    refine lv_aload_n hx hb d_R_start_33 rfl (lv_at hl 0 rfl) ?_
    refine mr_get F w (kin in_R) 0 (by decide) rfl rfl 10 (by decide) (kws_in m_538) (fun _ h => h) rfl d_R_start_34 ?_
    rw [show (mup (mup (mup σ 0 0 (nI 0)) 0 18 (nI 0)) 0 21 (nI 0)) 0 10 = nI d from hd]
    refine lv_bipush (v := nI 8) hx hb d_R_start_37 (by decide) ?_
    refine nr_irem hx hb d_R_start_39 (by omega) (by omega) (by omega) ?_
    refine lv_istore_n (lv' := [(1, .int (nI (d % 8))), (0, .ref (ad 0))]) hx hb d_R_start_40 rfl hl (by decide) rfl (fun ls hl => ?_)
    refine lv_iload_n hx hb d_R_start_41 rfl (lv_at hl 0 rfl) ?_
    refine lv_if_ne (tgt := 52) hx hb d_R_start_42 (by decide) (fun c18 => ?_) (fun c18 => ?_)
    · refine lv_aload_n hx hb d_R_start_52 rfl (lv_at hl 1 rfl) ?_
      refine mr_get F w (kin in_R) 0 (by decide) rfl rfl 10 (by decide) (kws_in m_538) (fun _ h => h) rfl d_R_start_53 ?_
      rw [show (mup (mup (mup σ 0 0 (nI 0)) 0 18 (nI 0)) 0 21 (nI 0)) 0 10 = nI d from hd]
      refine lv_bipush (v := nI 8) hx hb d_R_start_56 (by decide) ?_
      refine nr_iadd hx hb d_R_start_58 ?_
      refine lv_iload_n hx hb d_R_start_59 rfl (lv_at hl 0 rfl) ?_
      refine lv_isub hx hb d_R_start_60 ?_
      refine lv_istore_n (lv' := [(2, .int ((nI (d + 8)) - (nI (d % 8)))), (1, .int (nI (d % 8))), (0, .ref (ad 0))]) hx hb d_R_start_61 rfl hl (by decide) rfl (fun ls hl => ?_)
      refine lv_iload_n hx hb d_R_start_62 rfl (lv_at hl 1 rfl) ?_
      refine lv_if_le (tgt := 79) hx hb d_R_start_63 (by decide) (fun c19 => ?_) (fun c19 => ?_)
      · refine lv_aload_n hx hb d_R_start_79 rfl (lv_at hl 2 rfl) ?_
        refine lv_iload_n hx hb d_R_start_80 rfl (lv_at hl 0 rfl) ?_
        refine mr_callVi (As := [.int ((nI (d + 8)) - (nI (d % 8)))]) F w hl.1 (c_R_forceTo (mup (mup (mup σ 0 0 (nI 0)) 0 18 (nI 0)) 0 21 (nI 0)) ((nI (d + 8)) - (nI (d % 8)))) (cwV 1 hts g_R_start_81 rfl rfl rfl (by decide +kernel) ⟨Nat.le_of_ble_eq_true rfl, Nat.le_of_ble_eq_true rfl⟩) rfl (by decide) rfl rfl rfl (Nat.le_of_ble_eq_true rfl) d_R_start_81 ⟨Nat.zero_le _, Nat.zero_le _⟩ (fun r20 σ21 H locs e22 w => ?_)
        have e22_r := e22.1.symm
        have e22_s := e22.2.symm
        clear e22
        refine lv_pop hx hb d_R_start_84 rfl ?_
        refine lv_aload_n hx hb d_R_start_85 rfl (lv_at hl 2 rfl) ?_
        refine lv_aload_n hx hb d_R_start_86 rfl (lv_at hl 2 rfl) ?_
        refine mr_get F w (kin in_R) 0 (by decide) rfl rfl 10 (by decide) (kws_in m_538) (fun _ h => h) rfl d_R_start_87 ?_
        refine mr_put F w (kin in_R) t_R t_R_ok n_R 0 (by decide) rfl rfl 11 (by decide) (kws_in m_539) (fun _ h => h) rfl rfl rfl (Nat.le_of_ble_eq_true rfl) rfl d_R_start_90 (fun H locs w => ?_)
        refine lv_aload_n hx hb d_R_start_93 rfl (lv_at hl 2 rfl) ?_
        refine mr_get F w (kin in_R) 0 (by decide) rfl rfl 21 (by decide) (kws_in m_549) (fun _ h => h) rfl d_R_start_94 ?_
        refine lv_if_ne (tgt := 115) hx hb d_R_start_97 (by decide) (fun c23 => ?_) (fun c23 => ?_)
        · refine lv_iconst (v := nI 0) hx hb d_R_start_115 (by decide) ?_
          refine lv_istore_n (lv' := [(3, .int (nI 0)), (2, .int ((nI (d + 8)) - (nI (d % 8)))), (1, .int (nI (d % 8))), (0, .ref (ad 0))]) hx hb d_R_start_116 rfl hl (by decide) rfl (fun ls hl => ?_)
          refine lv_aload_n hx hb d_R_start_117 rfl (lv_at hl 3 rfl) ?_
          refine mr_get F w (kin in_R) 0 (by decide) rfl rfl 9 (by decide) (kws_in m_537) (fun _ h => h) rfl d_R_start_118 ?_
          rw [show (mup σ21 0 11 (σ21 0 10)) 0 9 = nI a from (by subst e22_r e22_s; first | (rw [mup_f _ _ _ _ (by decide), qFT_s _ _ (by decide) (by decide) (by decide) (by decide) (by decide) (by decide) (by decide)]; exact ha) | (rw [qWO_9, mup_f _ _ _ _ (by decide), qFT_s _ _ (by decide) (by decide) (by decide) (by decide) (by decide) (by decide) (by decide)]; exact ha))]
          refine lv_istore (lv' := [(4, .int (nI a)), (3, .int (nI 0)), (2, .int ((nI (d + 8)) - (nI (d % 8)))), (1, .int (nI (d % 8))), (0, .ref (ad 0))]) hx hb d_R_start_121 hl (by decide) rfl (fun ls hl => ?_)
          exact loopA N a _ _ (by subst e22_r e22_s; have h9 := hL c13; unfold qMended qFilled qOn at h9; rw [if_neg c18, if_pos c19, if_neg c23] at h9; exact h9) (by subst e22_r e22_s; unfold qStart qMended qFilled qOn; rw [if_neg c13, if_neg c18, if_pos c19, if_neg c23]) _ _ ls w (lv_sub hl [0, 1, 4] rfl)
        · refine lv_aload_n hx hb d_R_start_100 rfl (lv_at hl 2 rfl) ?_
          refine mr_get F w (kin in_R) 0 (by decide) rfl rfl 4 (by decide) (kws_in m_532) (fun _ h => h) rfl d_R_start_101 ?_
          refine lv_if_lt (tgt := 115) hx hb d_R_start_104 (by decide) (fun c24 => ?_) (fun c24 => ?_)
          · refine lv_iconst (v := nI 0) hx hb d_R_start_115 (by decide) ?_
            refine lv_istore_n (lv' := [(3, .int (nI 0)), (2, .int ((nI (d + 8)) - (nI (d % 8)))), (1, .int (nI (d % 8))), (0, .ref (ad 0))]) hx hb d_R_start_116 rfl hl (by decide) rfl (fun ls hl => ?_)
            refine lv_aload_n hx hb d_R_start_117 rfl (lv_at hl 3 rfl) ?_
            refine mr_get F w (kin in_R) 0 (by decide) rfl rfl 9 (by decide) (kws_in m_537) (fun _ h => h) rfl d_R_start_118 ?_
            rw [show (mup σ21 0 11 (σ21 0 10)) 0 9 = nI a from (by subst e22_r e22_s; first | (rw [mup_f _ _ _ _ (by decide), qFT_s _ _ (by decide) (by decide) (by decide) (by decide) (by decide) (by decide) (by decide)]; exact ha) | (rw [qWO_9, mup_f _ _ _ _ (by decide), qFT_s _ _ (by decide) (by decide) (by decide) (by decide) (by decide) (by decide) (by decide)]; exact ha))]
            refine lv_istore (lv' := [(4, .int (nI a)), (3, .int (nI 0)), (2, .int ((nI (d + 8)) - (nI (d % 8)))), (1, .int (nI (d % 8))), (0, .ref (ad 0))]) hx hb d_R_start_121 hl (by decide) rfl (fun ls hl => ?_)
            exact loopA N a _ _ (by subst e22_r e22_s; have h9 := hL c13; unfold qMended qFilled qOn at h9; rw [if_neg c18, if_pos c19, if_pos c23, if_pos c24] at h9; exact h9) (by subst e22_r e22_s; unfold qStart qMended qFilled qOn; rw [if_neg c13, if_neg c18, if_pos c19, if_pos c23, if_pos c24]) _ _ ls w (lv_sub hl [0, 1, 4] rfl)
          · refine lv_aload_n hx hb d_R_start_107 rfl (lv_at hl 2 rfl) ?_
            refine lv_aload_n hx hb d_R_start_108 rfl (lv_at hl 2 rfl) ?_
            refine mr_get F w (kin in_R) 0 (by decide) rfl rfl 4 (by decide) (kws_in m_532) (fun _ h => h) rfl d_R_start_109 ?_
            rw [show (mup σ21 0 11 (σ21 0 10)) 0 4 = nI (((mup σ21 0 11 (σ21 0 10)) 0 4).toNatClampNeg) from (htt _ (by subst e22_r e22_s; rw [mup_f _ _ _ _ (by decide), qFT_s _ _ (by decide) (by decide) (by decide) (by decide) (by decide) (by decide) (by decide)]; rfl) c24).2]
            refine mr_callVv (As := [.int (nI (((mup σ21 0 11 (σ21 0 10)) 0 4).toNatClampNeg))]) F w hl.1 (c_R_writeOwn (mup σ21 0 11 (σ21 0 10)) (((mup σ21 0 11 (σ21 0 10)) 0 4).toNatClampNeg) (htt _ (by subst e22_r e22_s; rw [mup_f _ _ _ _ (by decide), qFT_s _ _ (by decide) (by decide) (by decide) (by decide) (by decide) (by decide) (by decide)]; rfl) c24).1) (cwV 1 hts g_R_start_112 rfl rfl rfl (by decide +kernel) ⟨Nat.le_of_ble_eq_true rfl, Nat.le_of_ble_eq_true rfl⟩) rfl (by decide) rfl rfl rfl (Nat.le_of_ble_eq_true rfl) d_R_start_112 ⟨Nat.zero_le _, Nat.zero_le _⟩ (fun σ26 H locs e27 w => ?_)
            replace e27 := Eq.symm e27
            refine lv_iconst (v := nI 0) hx hb d_R_start_115 (by decide) ?_
            refine lv_istore_n (lv' := [(3, .int (nI 0)), (2, .int ((nI (d + 8)) - (nI (d % 8)))), (1, .int (nI (d % 8))), (0, .ref (ad 0))]) hx hb d_R_start_116 rfl hl (by decide) rfl (fun ls hl => ?_)
            refine lv_aload_n hx hb d_R_start_117 rfl (lv_at hl 3 rfl) ?_
            refine mr_get F w (kin in_R) 0 (by decide) rfl rfl 9 (by decide) (kws_in m_537) (fun _ h => h) rfl d_R_start_118 ?_
            rw [show σ26 0 9 = nI a from (by subst e22_r e22_s e27; first | (rw [mup_f _ _ _ _ (by decide), qFT_s _ _ (by decide) (by decide) (by decide) (by decide) (by decide) (by decide) (by decide)]; exact ha) | (rw [qWO_9, mup_f _ _ _ _ (by decide), qFT_s _ _ (by decide) (by decide) (by decide) (by decide) (by decide) (by decide) (by decide)]; exact ha))]
            refine lv_istore (lv' := [(4, .int (nI a)), (3, .int (nI 0)), (2, .int ((nI (d + 8)) - (nI (d % 8)))), (1, .int (nI (d % 8))), (0, .ref (ad 0))]) hx hb d_R_start_121 hl (by decide) rfl (fun ls hl => ?_)
            exact loopA N a _ _ (by subst e22_r e22_s e27; have h9 := hL c13; unfold qMended qFilled qOn at h9; rw [if_neg c18, if_pos c19, if_pos c23, if_neg c24] at h9; exact h9) (by subst e22_r e22_s e27; unfold qStart qMended qFilled qOn; rw [if_neg c13, if_neg c18, if_pos c19, if_pos c23, if_neg c24]) _ _ ls w (lv_sub hl [0, 1, 4] rfl)
      · refine lv_aload_n hx hb d_R_start_66 rfl (lv_at hl 2 rfl) ?_
        refine mr_get F w (kin in_R) 0 (by decide) rfl rfl 8 (by decide) (kws_in m_536) (fun _ h => h) rfl d_R_start_67 ?_
        refine lv_aload_n hx hb d_R_start_70 rfl (lv_at hl 2 rfl) ?_
        refine mr_get F w (kin in_R) 0 (by decide) rfl rfl 10 (by decide) (kws_in m_538) (fun _ h => h) rfl d_R_start_71 ?_
        rw [show (mup (mup (mup σ 0 0 (nI 0)) 0 18 (nI 0)) 0 21 (nI 0)) 0 10 = nI d from hd]
        refine mr_callSi (As := [.int (nI d)]) F w hl.1 (c_R_rowP (mup (mup (mup σ 0 0 (nI 0)) 0 18 (nI 0)) 0 21 (nI 0)) d (by omega)) (cwS 1 hts g_R_start_74 rfl rfl rfl (by decide +kernel) ⟨Nat.le_of_ble_eq_true rfl, Nat.le_of_ble_eq_true rfl⟩) rfl rfl (Nat.le_of_ble_eq_true rfl) d_R_start_74 ⟨Nat.zero_le _, Nat.zero_le _⟩ (fun r28 σ29 H locs e30 w => ?_)
        obtain ⟨rfl, hs9⟩ := e30
        rw [hs9] at w
        clear hs9
        refine lv_iconst (v := nI 1) hx hb d_R_start_77 (by decide) ?_
        refine mr_bsN F w 6 2 (by decide) (fun _ => rfl) rfl (d / 8 % 8192) (by omega) (by decide) rfl (Or.inr rfl) d_R_start_78 (fun H locs w => ?_)
        refine lv_aload_n hx hb d_R_start_79 rfl (lv_at hl 2 rfl) ?_
        refine lv_iload_n hx hb d_R_start_80 rfl (lv_at hl 0 rfl) ?_
        refine mr_callVi (As := [.int ((nI (d + 8)) - (nI (d % 8)))]) F w hl.1 (c_R_forceTo (mup (mup (mup (mup σ 0 0 (nI 0)) 0 18 (nI 0)) 0 21 (nI 0)) 6 (d / 8 % 8192) (nI 1)) ((nI (d + 8)) - (nI (d % 8)))) (cwV 1 hts g_R_start_81 rfl rfl rfl (by decide +kernel) ⟨Nat.le_of_ble_eq_true rfl, Nat.le_of_ble_eq_true rfl⟩) rfl (by decide) rfl rfl rfl (Nat.le_of_ble_eq_true rfl) d_R_start_81 ⟨Nat.zero_le _, Nat.zero_le _⟩ (fun r31 σ32 H locs e33 w => ?_)
        have e33_r := e33.1.symm
        have e33_s := e33.2.symm
        clear e33
        refine lv_pop hx hb d_R_start_84 rfl ?_
        refine lv_aload_n hx hb d_R_start_85 rfl (lv_at hl 2 rfl) ?_
        refine lv_aload_n hx hb d_R_start_86 rfl (lv_at hl 2 rfl) ?_
        refine mr_get F w (kin in_R) 0 (by decide) rfl rfl 10 (by decide) (kws_in m_538) (fun _ h => h) rfl d_R_start_87 ?_
        refine mr_put F w (kin in_R) t_R t_R_ok n_R 0 (by decide) rfl rfl 11 (by decide) (kws_in m_539) (fun _ h => h) rfl rfl rfl (Nat.le_of_ble_eq_true rfl) rfl d_R_start_90 (fun H locs w => ?_)
        refine lv_aload_n hx hb d_R_start_93 rfl (lv_at hl 2 rfl) ?_
        refine mr_get F w (kin in_R) 0 (by decide) rfl rfl 21 (by decide) (kws_in m_549) (fun _ h => h) rfl d_R_start_94 ?_
        refine lv_if_ne (tgt := 115) hx hb d_R_start_97 (by decide) (fun c34 => ?_) (fun c34 => ?_)
        · refine lv_iconst (v := nI 0) hx hb d_R_start_115 (by decide) ?_
          refine lv_istore_n (lv' := [(3, .int (nI 0)), (2, .int ((nI (d + 8)) - (nI (d % 8)))), (1, .int (nI (d % 8))), (0, .ref (ad 0))]) hx hb d_R_start_116 rfl hl (by decide) rfl (fun ls hl => ?_)
          refine lv_aload_n hx hb d_R_start_117 rfl (lv_at hl 3 rfl) ?_
          refine mr_get F w (kin in_R) 0 (by decide) rfl rfl 9 (by decide) (kws_in m_537) (fun _ h => h) rfl d_R_start_118 ?_
          rw [show (mup σ32 0 11 (σ32 0 10)) 0 9 = nI a from (by subst e33_r e33_s; first | (rw [mup_f _ _ _ _ (by decide), qFT_s _ _ (by decide) (by decide) (by decide) (by decide) (by decide) (by decide) (by decide)]; exact ha) | (rw [qWO_9, mup_f _ _ _ _ (by decide), qFT_s _ _ (by decide) (by decide) (by decide) (by decide) (by decide) (by decide) (by decide)]; exact ha))]
          refine lv_istore (lv' := [(4, .int (nI a)), (3, .int (nI 0)), (2, .int ((nI (d + 8)) - (nI (d % 8)))), (1, .int (nI (d % 8))), (0, .ref (ad 0))]) hx hb d_R_start_121 hl (by decide) rfl (fun ls hl => ?_)
          exact loopA N a _ _ (by subst e33_r e33_s; have h9 := hL c13; unfold qMended qFilled qOn at h9; rw [if_neg c18, if_neg c19, if_neg c34] at h9; exact h9) (by subst e33_r e33_s; unfold qStart qMended qFilled qOn; rw [if_neg c13, if_neg c18, if_neg c19, if_neg c34]) _ _ ls w (lv_sub hl [0, 1, 4] rfl)
        · refine lv_aload_n hx hb d_R_start_100 rfl (lv_at hl 2 rfl) ?_
          refine mr_get F w (kin in_R) 0 (by decide) rfl rfl 4 (by decide) (kws_in m_532) (fun _ h => h) rfl d_R_start_101 ?_
          refine lv_if_lt (tgt := 115) hx hb d_R_start_104 (by decide) (fun c35 => ?_) (fun c35 => ?_)
          · refine lv_iconst (v := nI 0) hx hb d_R_start_115 (by decide) ?_
            refine lv_istore_n (lv' := [(3, .int (nI 0)), (2, .int ((nI (d + 8)) - (nI (d % 8)))), (1, .int (nI (d % 8))), (0, .ref (ad 0))]) hx hb d_R_start_116 rfl hl (by decide) rfl (fun ls hl => ?_)
            refine lv_aload_n hx hb d_R_start_117 rfl (lv_at hl 3 rfl) ?_
            refine mr_get F w (kin in_R) 0 (by decide) rfl rfl 9 (by decide) (kws_in m_537) (fun _ h => h) rfl d_R_start_118 ?_
            rw [show (mup σ32 0 11 (σ32 0 10)) 0 9 = nI a from (by subst e33_r e33_s; first | (rw [mup_f _ _ _ _ (by decide), qFT_s _ _ (by decide) (by decide) (by decide) (by decide) (by decide) (by decide) (by decide)]; exact ha) | (rw [qWO_9, mup_f _ _ _ _ (by decide), qFT_s _ _ (by decide) (by decide) (by decide) (by decide) (by decide) (by decide) (by decide)]; exact ha))]
            refine lv_istore (lv' := [(4, .int (nI a)), (3, .int (nI 0)), (2, .int ((nI (d + 8)) - (nI (d % 8)))), (1, .int (nI (d % 8))), (0, .ref (ad 0))]) hx hb d_R_start_121 hl (by decide) rfl (fun ls hl => ?_)
            exact loopA N a _ _ (by subst e33_r e33_s; have h9 := hL c13; unfold qMended qFilled qOn at h9; rw [if_neg c18, if_neg c19, if_pos c34, if_pos c35] at h9; exact h9) (by subst e33_r e33_s; unfold qStart qMended qFilled qOn; rw [if_neg c13, if_neg c18, if_neg c19, if_pos c34, if_pos c35]) _ _ ls w (lv_sub hl [0, 1, 4] rfl)
          · refine lv_aload_n hx hb d_R_start_107 rfl (lv_at hl 2 rfl) ?_
            refine lv_aload_n hx hb d_R_start_108 rfl (lv_at hl 2 rfl) ?_
            refine mr_get F w (kin in_R) 0 (by decide) rfl rfl 4 (by decide) (kws_in m_532) (fun _ h => h) rfl d_R_start_109 ?_
            rw [show (mup σ32 0 11 (σ32 0 10)) 0 4 = nI (((mup σ32 0 11 (σ32 0 10)) 0 4).toNatClampNeg) from (htt _ (by subst e33_r e33_s; rw [mup_f _ _ _ _ (by decide), qFT_s _ _ (by decide) (by decide) (by decide) (by decide) (by decide) (by decide) (by decide)]; rfl) c35).2]
            refine mr_callVv (As := [.int (nI (((mup σ32 0 11 (σ32 0 10)) 0 4).toNatClampNeg))]) F w hl.1 (c_R_writeOwn (mup σ32 0 11 (σ32 0 10)) (((mup σ32 0 11 (σ32 0 10)) 0 4).toNatClampNeg) (htt _ (by subst e33_r e33_s; rw [mup_f _ _ _ _ (by decide), qFT_s _ _ (by decide) (by decide) (by decide) (by decide) (by decide) (by decide) (by decide)]; rfl) c35).1) (cwV 1 hts g_R_start_112 rfl rfl rfl (by decide +kernel) ⟨Nat.le_of_ble_eq_true rfl, Nat.le_of_ble_eq_true rfl⟩) rfl (by decide) rfl rfl rfl (Nat.le_of_ble_eq_true rfl) d_R_start_112 ⟨Nat.zero_le _, Nat.zero_le _⟩ (fun σ37 H locs e38 w => ?_)
            replace e38 := Eq.symm e38
            refine lv_iconst (v := nI 0) hx hb d_R_start_115 (by decide) ?_
            refine lv_istore_n (lv' := [(3, .int (nI 0)), (2, .int ((nI (d + 8)) - (nI (d % 8)))), (1, .int (nI (d % 8))), (0, .ref (ad 0))]) hx hb d_R_start_116 rfl hl (by decide) rfl (fun ls hl => ?_)
            refine lv_aload_n hx hb d_R_start_117 rfl (lv_at hl 3 rfl) ?_
            refine mr_get F w (kin in_R) 0 (by decide) rfl rfl 9 (by decide) (kws_in m_537) (fun _ h => h) rfl d_R_start_118 ?_
            rw [show σ37 0 9 = nI a from (by subst e33_r e33_s e38; first | (rw [mup_f _ _ _ _ (by decide), qFT_s _ _ (by decide) (by decide) (by decide) (by decide) (by decide) (by decide) (by decide)]; exact ha) | (rw [qWO_9, mup_f _ _ _ _ (by decide), qFT_s _ _ (by decide) (by decide) (by decide) (by decide) (by decide) (by decide) (by decide)]; exact ha))]
            refine lv_istore (lv' := [(4, .int (nI a)), (3, .int (nI 0)), (2, .int ((nI (d + 8)) - (nI (d % 8)))), (1, .int (nI (d % 8))), (0, .ref (ad 0))]) hx hb d_R_start_121 hl (by decide) rfl (fun ls hl => ?_)
            exact loopA N a _ _ (by subst e33_r e33_s e38; have h9 := hL c13; unfold qMended qFilled qOn at h9; rw [if_neg c18, if_neg c19, if_pos c34, if_neg c35] at h9; exact h9) (by subst e33_r e33_s e38; unfold qStart qMended qFilled qOn; rw [if_neg c13, if_neg c18, if_neg c19, if_pos c34, if_neg c35]) _ _ ls w (lv_sub hl [0, 1, 4] rfl)
    · refine lv_aload_n hx hb d_R_start_45 rfl (lv_at hl 1 rfl) ?_
      refine mr_get F w (kin in_R) 0 (by decide) rfl rfl 10 (by decide) (kws_in m_538) (fun _ h => h) rfl d_R_start_46 ?_
      rw [show (mup (mup (mup σ 0 0 (nI 0)) 0 18 (nI 0)) 0 21 (nI 0)) 0 10 = nI d from hd]
      refine lv_goto (tgt := 61) hx hb d_R_start_49 (by decide) ?_
      refine lv_istore_n (lv' := [(2, .int (nI d)), (1, .int (nI (d % 8))), (0, .ref (ad 0))]) hx hb d_R_start_61 rfl hl (by decide) rfl (fun ls hl => ?_)
      refine lv_iload_n hx hb d_R_start_62 rfl (lv_at hl 1 rfl) ?_
      refine lv_if_le (tgt := 79) hx hb d_R_start_63 (by decide) (fun c39 => ?_) (fun c39 => ?_)
      · refine lv_aload_n hx hb d_R_start_79 rfl (lv_at hl 2 rfl) ?_
        refine lv_iload_n hx hb d_R_start_80 rfl (lv_at hl 0 rfl) ?_
        refine mr_callVi (As := [.int (nI d)]) F w hl.1 (c_R_forceTo (mup (mup (mup σ 0 0 (nI 0)) 0 18 (nI 0)) 0 21 (nI 0)) (nI d)) (cwV 1 hts g_R_start_81 rfl rfl rfl (by decide +kernel) ⟨Nat.le_of_ble_eq_true rfl, Nat.le_of_ble_eq_true rfl⟩) rfl (by decide) rfl rfl rfl (Nat.le_of_ble_eq_true rfl) d_R_start_81 ⟨Nat.zero_le _, Nat.zero_le _⟩ (fun r40 σ41 H locs e42 w => ?_)
        have e42_r := e42.1.symm
        have e42_s := e42.2.symm
        clear e42
        refine lv_pop hx hb d_R_start_84 rfl ?_
        refine lv_aload_n hx hb d_R_start_85 rfl (lv_at hl 2 rfl) ?_
        refine lv_aload_n hx hb d_R_start_86 rfl (lv_at hl 2 rfl) ?_
        refine mr_get F w (kin in_R) 0 (by decide) rfl rfl 10 (by decide) (kws_in m_538) (fun _ h => h) rfl d_R_start_87 ?_
        refine mr_put F w (kin in_R) t_R t_R_ok n_R 0 (by decide) rfl rfl 11 (by decide) (kws_in m_539) (fun _ h => h) rfl rfl rfl (Nat.le_of_ble_eq_true rfl) rfl d_R_start_90 (fun H locs w => ?_)
        refine lv_aload_n hx hb d_R_start_93 rfl (lv_at hl 2 rfl) ?_
        refine mr_get F w (kin in_R) 0 (by decide) rfl rfl 21 (by decide) (kws_in m_549) (fun _ h => h) rfl d_R_start_94 ?_
        refine lv_if_ne (tgt := 115) hx hb d_R_start_97 (by decide) (fun c43 => ?_) (fun c43 => ?_)
        · refine lv_iconst (v := nI 0) hx hb d_R_start_115 (by decide) ?_
          refine lv_istore_n (lv' := [(3, .int (nI 0)), (2, .int (nI d)), (1, .int (nI (d % 8))), (0, .ref (ad 0))]) hx hb d_R_start_116 rfl hl (by decide) rfl (fun ls hl => ?_)
          refine lv_aload_n hx hb d_R_start_117 rfl (lv_at hl 3 rfl) ?_
          refine mr_get F w (kin in_R) 0 (by decide) rfl rfl 9 (by decide) (kws_in m_537) (fun _ h => h) rfl d_R_start_118 ?_
          rw [show (mup σ41 0 11 (σ41 0 10)) 0 9 = nI a from (by subst e42_r e42_s; first | (rw [mup_f _ _ _ _ (by decide), qFT_s _ _ (by decide) (by decide) (by decide) (by decide) (by decide) (by decide) (by decide)]; exact ha) | (rw [qWO_9, mup_f _ _ _ _ (by decide), qFT_s _ _ (by decide) (by decide) (by decide) (by decide) (by decide) (by decide) (by decide)]; exact ha))]
          refine lv_istore (lv' := [(4, .int (nI a)), (3, .int (nI 0)), (2, .int (nI d)), (1, .int (nI (d % 8))), (0, .ref (ad 0))]) hx hb d_R_start_121 hl (by decide) rfl (fun ls hl => ?_)
          exact loopA N a _ _ (by subst e42_r e42_s; have h9 := hL c13; unfold qMended qFilled qOn at h9; rw [if_pos c18, if_pos c39, if_neg c43] at h9; exact h9) (by subst e42_r e42_s; unfold qStart qMended qFilled qOn; rw [if_neg c13, if_pos c18, if_pos c39, if_neg c43]) _ _ ls w (lv_sub hl [0, 1, 4] rfl)
        · refine lv_aload_n hx hb d_R_start_100 rfl (lv_at hl 2 rfl) ?_
          refine mr_get F w (kin in_R) 0 (by decide) rfl rfl 4 (by decide) (kws_in m_532) (fun _ h => h) rfl d_R_start_101 ?_
          refine lv_if_lt (tgt := 115) hx hb d_R_start_104 (by decide) (fun c44 => ?_) (fun c44 => ?_)
          · refine lv_iconst (v := nI 0) hx hb d_R_start_115 (by decide) ?_
            refine lv_istore_n (lv' := [(3, .int (nI 0)), (2, .int (nI d)), (1, .int (nI (d % 8))), (0, .ref (ad 0))]) hx hb d_R_start_116 rfl hl (by decide) rfl (fun ls hl => ?_)
            refine lv_aload_n hx hb d_R_start_117 rfl (lv_at hl 3 rfl) ?_
            refine mr_get F w (kin in_R) 0 (by decide) rfl rfl 9 (by decide) (kws_in m_537) (fun _ h => h) rfl d_R_start_118 ?_
            rw [show (mup σ41 0 11 (σ41 0 10)) 0 9 = nI a from (by subst e42_r e42_s; first | (rw [mup_f _ _ _ _ (by decide), qFT_s _ _ (by decide) (by decide) (by decide) (by decide) (by decide) (by decide) (by decide)]; exact ha) | (rw [qWO_9, mup_f _ _ _ _ (by decide), qFT_s _ _ (by decide) (by decide) (by decide) (by decide) (by decide) (by decide) (by decide)]; exact ha))]
            refine lv_istore (lv' := [(4, .int (nI a)), (3, .int (nI 0)), (2, .int (nI d)), (1, .int (nI (d % 8))), (0, .ref (ad 0))]) hx hb d_R_start_121 hl (by decide) rfl (fun ls hl => ?_)
            exact loopA N a _ _ (by subst e42_r e42_s; have h9 := hL c13; unfold qMended qFilled qOn at h9; rw [if_pos c18, if_pos c39, if_pos c43, if_pos c44] at h9; exact h9) (by subst e42_r e42_s; unfold qStart qMended qFilled qOn; rw [if_neg c13, if_pos c18, if_pos c39, if_pos c43, if_pos c44]) _ _ ls w (lv_sub hl [0, 1, 4] rfl)
          · refine lv_aload_n hx hb d_R_start_107 rfl (lv_at hl 2 rfl) ?_
            refine lv_aload_n hx hb d_R_start_108 rfl (lv_at hl 2 rfl) ?_
            refine mr_get F w (kin in_R) 0 (by decide) rfl rfl 4 (by decide) (kws_in m_532) (fun _ h => h) rfl d_R_start_109 ?_
            rw [show (mup σ41 0 11 (σ41 0 10)) 0 4 = nI (((mup σ41 0 11 (σ41 0 10)) 0 4).toNatClampNeg) from (htt _ (by subst e42_r e42_s; rw [mup_f _ _ _ _ (by decide), qFT_s _ _ (by decide) (by decide) (by decide) (by decide) (by decide) (by decide) (by decide)]; rfl) c44).2]
            refine mr_callVv (As := [.int (nI (((mup σ41 0 11 (σ41 0 10)) 0 4).toNatClampNeg))]) F w hl.1 (c_R_writeOwn (mup σ41 0 11 (σ41 0 10)) (((mup σ41 0 11 (σ41 0 10)) 0 4).toNatClampNeg) (htt _ (by subst e42_r e42_s; rw [mup_f _ _ _ _ (by decide), qFT_s _ _ (by decide) (by decide) (by decide) (by decide) (by decide) (by decide) (by decide)]; rfl) c44).1) (cwV 1 hts g_R_start_112 rfl rfl rfl (by decide +kernel) ⟨Nat.le_of_ble_eq_true rfl, Nat.le_of_ble_eq_true rfl⟩) rfl (by decide) rfl rfl rfl (Nat.le_of_ble_eq_true rfl) d_R_start_112 ⟨Nat.zero_le _, Nat.zero_le _⟩ (fun σ46 H locs e47 w => ?_)
            replace e47 := Eq.symm e47
            refine lv_iconst (v := nI 0) hx hb d_R_start_115 (by decide) ?_
            refine lv_istore_n (lv' := [(3, .int (nI 0)), (2, .int (nI d)), (1, .int (nI (d % 8))), (0, .ref (ad 0))]) hx hb d_R_start_116 rfl hl (by decide) rfl (fun ls hl => ?_)
            refine lv_aload_n hx hb d_R_start_117 rfl (lv_at hl 3 rfl) ?_
            refine mr_get F w (kin in_R) 0 (by decide) rfl rfl 9 (by decide) (kws_in m_537) (fun _ h => h) rfl d_R_start_118 ?_
            rw [show σ46 0 9 = nI a from (by subst e42_r e42_s e47; first | (rw [mup_f _ _ _ _ (by decide), qFT_s _ _ (by decide) (by decide) (by decide) (by decide) (by decide) (by decide) (by decide)]; exact ha) | (rw [qWO_9, mup_f _ _ _ _ (by decide), qFT_s _ _ (by decide) (by decide) (by decide) (by decide) (by decide) (by decide) (by decide)]; exact ha))]
            refine lv_istore (lv' := [(4, .int (nI a)), (3, .int (nI 0)), (2, .int (nI d)), (1, .int (nI (d % 8))), (0, .ref (ad 0))]) hx hb d_R_start_121 hl (by decide) rfl (fun ls hl => ?_)
            exact loopA N a _ _ (by subst e42_r e42_s e47; have h9 := hL c13; unfold qMended qFilled qOn at h9; rw [if_pos c18, if_pos c39, if_pos c43, if_neg c44] at h9; exact h9) (by subst e42_r e42_s e47; unfold qStart qMended qFilled qOn; rw [if_neg c13, if_pos c18, if_pos c39, if_pos c43, if_neg c44]) _ _ ls w (lv_sub hl [0, 1, 4] rfl)
      · refine lv_aload_n hx hb d_R_start_66 rfl (lv_at hl 2 rfl) ?_
        refine mr_get F w (kin in_R) 0 (by decide) rfl rfl 8 (by decide) (kws_in m_536) (fun _ h => h) rfl d_R_start_67 ?_
        refine lv_aload_n hx hb d_R_start_70 rfl (lv_at hl 2 rfl) ?_
        refine mr_get F w (kin in_R) 0 (by decide) rfl rfl 10 (by decide) (kws_in m_538) (fun _ h => h) rfl d_R_start_71 ?_
        rw [show (mup (mup (mup σ 0 0 (nI 0)) 0 18 (nI 0)) 0 21 (nI 0)) 0 10 = nI d from hd]
        refine mr_callSi (As := [.int (nI d)]) F w hl.1 (c_R_rowP (mup (mup (mup σ 0 0 (nI 0)) 0 18 (nI 0)) 0 21 (nI 0)) d (by omega)) (cwS 1 hts g_R_start_74 rfl rfl rfl (by decide +kernel) ⟨Nat.le_of_ble_eq_true rfl, Nat.le_of_ble_eq_true rfl⟩) rfl rfl (Nat.le_of_ble_eq_true rfl) d_R_start_74 ⟨Nat.zero_le _, Nat.zero_le _⟩ (fun r48 σ49 H locs e50 w => ?_)
        obtain ⟨rfl, hs9⟩ := e50
        rw [hs9] at w
        clear hs9
        refine lv_iconst (v := nI 1) hx hb d_R_start_77 (by decide) ?_
        refine mr_bsN F w 6 2 (by decide) (fun _ => rfl) rfl (d / 8 % 8192) (by omega) (by decide) rfl (Or.inr rfl) d_R_start_78 (fun H locs w => ?_)
        refine lv_aload_n hx hb d_R_start_79 rfl (lv_at hl 2 rfl) ?_
        refine lv_iload_n hx hb d_R_start_80 rfl (lv_at hl 0 rfl) ?_
        refine mr_callVi (As := [.int (nI d)]) F w hl.1 (c_R_forceTo (mup (mup (mup (mup σ 0 0 (nI 0)) 0 18 (nI 0)) 0 21 (nI 0)) 6 (d / 8 % 8192) (nI 1)) (nI d)) (cwV 1 hts g_R_start_81 rfl rfl rfl (by decide +kernel) ⟨Nat.le_of_ble_eq_true rfl, Nat.le_of_ble_eq_true rfl⟩) rfl (by decide) rfl rfl rfl (Nat.le_of_ble_eq_true rfl) d_R_start_81 ⟨Nat.zero_le _, Nat.zero_le _⟩ (fun r51 σ52 H locs e53 w => ?_)
        have e53_r := e53.1.symm
        have e53_s := e53.2.symm
        clear e53
        refine lv_pop hx hb d_R_start_84 rfl ?_
        refine lv_aload_n hx hb d_R_start_85 rfl (lv_at hl 2 rfl) ?_
        refine lv_aload_n hx hb d_R_start_86 rfl (lv_at hl 2 rfl) ?_
        refine mr_get F w (kin in_R) 0 (by decide) rfl rfl 10 (by decide) (kws_in m_538) (fun _ h => h) rfl d_R_start_87 ?_
        refine mr_put F w (kin in_R) t_R t_R_ok n_R 0 (by decide) rfl rfl 11 (by decide) (kws_in m_539) (fun _ h => h) rfl rfl rfl (Nat.le_of_ble_eq_true rfl) rfl d_R_start_90 (fun H locs w => ?_)
        refine lv_aload_n hx hb d_R_start_93 rfl (lv_at hl 2 rfl) ?_
        refine mr_get F w (kin in_R) 0 (by decide) rfl rfl 21 (by decide) (kws_in m_549) (fun _ h => h) rfl d_R_start_94 ?_
        refine lv_if_ne (tgt := 115) hx hb d_R_start_97 (by decide) (fun c54 => ?_) (fun c54 => ?_)
        · refine lv_iconst (v := nI 0) hx hb d_R_start_115 (by decide) ?_
          refine lv_istore_n (lv' := [(3, .int (nI 0)), (2, .int (nI d)), (1, .int (nI (d % 8))), (0, .ref (ad 0))]) hx hb d_R_start_116 rfl hl (by decide) rfl (fun ls hl => ?_)
          refine lv_aload_n hx hb d_R_start_117 rfl (lv_at hl 3 rfl) ?_
          refine mr_get F w (kin in_R) 0 (by decide) rfl rfl 9 (by decide) (kws_in m_537) (fun _ h => h) rfl d_R_start_118 ?_
          rw [show (mup σ52 0 11 (σ52 0 10)) 0 9 = nI a from (by subst e53_r e53_s; first | (rw [mup_f _ _ _ _ (by decide), qFT_s _ _ (by decide) (by decide) (by decide) (by decide) (by decide) (by decide) (by decide)]; exact ha) | (rw [qWO_9, mup_f _ _ _ _ (by decide), qFT_s _ _ (by decide) (by decide) (by decide) (by decide) (by decide) (by decide) (by decide)]; exact ha))]
          refine lv_istore (lv' := [(4, .int (nI a)), (3, .int (nI 0)), (2, .int (nI d)), (1, .int (nI (d % 8))), (0, .ref (ad 0))]) hx hb d_R_start_121 hl (by decide) rfl (fun ls hl => ?_)
          exact loopA N a _ _ (by subst e53_r e53_s; have h9 := hL c13; unfold qMended qFilled qOn at h9; rw [if_pos c18, if_neg c39, if_neg c54] at h9; exact h9) (by subst e53_r e53_s; unfold qStart qMended qFilled qOn; rw [if_neg c13, if_pos c18, if_neg c39, if_neg c54]) _ _ ls w (lv_sub hl [0, 1, 4] rfl)
        · refine lv_aload_n hx hb d_R_start_100 rfl (lv_at hl 2 rfl) ?_
          refine mr_get F w (kin in_R) 0 (by decide) rfl rfl 4 (by decide) (kws_in m_532) (fun _ h => h) rfl d_R_start_101 ?_
          refine lv_if_lt (tgt := 115) hx hb d_R_start_104 (by decide) (fun c55 => ?_) (fun c55 => ?_)
          · refine lv_iconst (v := nI 0) hx hb d_R_start_115 (by decide) ?_
            refine lv_istore_n (lv' := [(3, .int (nI 0)), (2, .int (nI d)), (1, .int (nI (d % 8))), (0, .ref (ad 0))]) hx hb d_R_start_116 rfl hl (by decide) rfl (fun ls hl => ?_)
            refine lv_aload_n hx hb d_R_start_117 rfl (lv_at hl 3 rfl) ?_
            refine mr_get F w (kin in_R) 0 (by decide) rfl rfl 9 (by decide) (kws_in m_537) (fun _ h => h) rfl d_R_start_118 ?_
            rw [show (mup σ52 0 11 (σ52 0 10)) 0 9 = nI a from (by subst e53_r e53_s; first | (rw [mup_f _ _ _ _ (by decide), qFT_s _ _ (by decide) (by decide) (by decide) (by decide) (by decide) (by decide) (by decide)]; exact ha) | (rw [qWO_9, mup_f _ _ _ _ (by decide), qFT_s _ _ (by decide) (by decide) (by decide) (by decide) (by decide) (by decide) (by decide)]; exact ha))]
            refine lv_istore (lv' := [(4, .int (nI a)), (3, .int (nI 0)), (2, .int (nI d)), (1, .int (nI (d % 8))), (0, .ref (ad 0))]) hx hb d_R_start_121 hl (by decide) rfl (fun ls hl => ?_)
            exact loopA N a _ _ (by subst e53_r e53_s; have h9 := hL c13; unfold qMended qFilled qOn at h9; rw [if_pos c18, if_neg c39, if_pos c54, if_pos c55] at h9; exact h9) (by subst e53_r e53_s; unfold qStart qMended qFilled qOn; rw [if_neg c13, if_pos c18, if_neg c39, if_pos c54, if_pos c55]) _ _ ls w (lv_sub hl [0, 1, 4] rfl)
          · refine lv_aload_n hx hb d_R_start_107 rfl (lv_at hl 2 rfl) ?_
            refine lv_aload_n hx hb d_R_start_108 rfl (lv_at hl 2 rfl) ?_
            refine mr_get F w (kin in_R) 0 (by decide) rfl rfl 4 (by decide) (kws_in m_532) (fun _ h => h) rfl d_R_start_109 ?_
            rw [show (mup σ52 0 11 (σ52 0 10)) 0 4 = nI (((mup σ52 0 11 (σ52 0 10)) 0 4).toNatClampNeg) from (htt _ (by subst e53_r e53_s; rw [mup_f _ _ _ _ (by decide), qFT_s _ _ (by decide) (by decide) (by decide) (by decide) (by decide) (by decide) (by decide)]; rfl) c55).2]
            refine mr_callVv (As := [.int (nI (((mup σ52 0 11 (σ52 0 10)) 0 4).toNatClampNeg))]) F w hl.1 (c_R_writeOwn (mup σ52 0 11 (σ52 0 10)) (((mup σ52 0 11 (σ52 0 10)) 0 4).toNatClampNeg) (htt _ (by subst e53_r e53_s; rw [mup_f _ _ _ _ (by decide), qFT_s _ _ (by decide) (by decide) (by decide) (by decide) (by decide) (by decide) (by decide)]; rfl) c55).1) (cwV 1 hts g_R_start_112 rfl rfl rfl (by decide +kernel) ⟨Nat.le_of_ble_eq_true rfl, Nat.le_of_ble_eq_true rfl⟩) rfl (by decide) rfl rfl rfl (Nat.le_of_ble_eq_true rfl) d_R_start_112 ⟨Nat.zero_le _, Nat.zero_le _⟩ (fun σ57 H locs e58 w => ?_)
            replace e58 := Eq.symm e58
            refine lv_iconst (v := nI 0) hx hb d_R_start_115 (by decide) ?_
            refine lv_istore_n (lv' := [(3, .int (nI 0)), (2, .int (nI d)), (1, .int (nI (d % 8))), (0, .ref (ad 0))]) hx hb d_R_start_116 rfl hl (by decide) rfl (fun ls hl => ?_)
            refine lv_aload_n hx hb d_R_start_117 rfl (lv_at hl 3 rfl) ?_
            refine mr_get F w (kin in_R) 0 (by decide) rfl rfl 9 (by decide) (kws_in m_537) (fun _ h => h) rfl d_R_start_118 ?_
            rw [show σ57 0 9 = nI a from (by subst e53_r e53_s e58; first | (rw [mup_f _ _ _ _ (by decide), qFT_s _ _ (by decide) (by decide) (by decide) (by decide) (by decide) (by decide) (by decide)]; exact ha) | (rw [qWO_9, mup_f _ _ _ _ (by decide), qFT_s _ _ (by decide) (by decide) (by decide) (by decide) (by decide) (by decide) (by decide)]; exact ha))]
            refine lv_istore (lv' := [(4, .int (nI a)), (3, .int (nI 0)), (2, .int (nI d)), (1, .int (nI (d % 8))), (0, .ref (ad 0))]) hx hb d_R_start_121 hl (by decide) rfl (fun ls hl => ?_)
            exact loopA N a _ _ (by subst e53_r e53_s e58; have h9 := hL c13; unfold qMended qFilled qOn at h9; rw [if_pos c18, if_neg c39, if_pos c54, if_neg c55] at h9; exact h9) (by subst e53_r e53_s e58; unfold qStart qMended qFilled qOn; rw [if_neg c13, if_pos c18, if_neg c39, if_pos c54, if_neg c55]) _ _ ls w (lv_sub hl [0, 1, 4] rfl)
  · refine lv_iconst (v := nI 1) hx hb d_R_start_8 (by decide) ?_
    refine lv_goto (tgt := 13) hx hb d_R_start_9 (by decide) ?_
    refine lv_iconst (v := nI 0) hx hb d_R_start_13 (by decide) ?_
    refine lv_iconst (v := nI 0) hx hb d_R_start_14 (by decide) ?_
    refine mr_callVi (As := [.int (nI 1), .int (nI 0), .int (nI 0)]) F w hl.1 (c_R_refused σ (nI 1) (nI 0) (nI 0)) (cwV 3 hts g_R_start_15 rfl rfl rfl (by decide +kernel) ⟨Nat.le_of_ble_eq_true rfl, Nat.le_of_ble_eq_true rfl⟩) rfl (by decide) rfl rfl rfl (Nat.le_of_ble_eq_true rfl) d_R_start_15 ⟨Nat.zero_le _, Nat.zero_le _⟩ (fun r59 σ60 H locs e61 w => ?_)
    have e61_r := e61.1.symm
    have e61_s := e61.2.symm
    clear e61
    rw [show σ60 = mup σ 0 0 (nI 1) from (by subst e61_r e61_s; rfl)] at w
    refine nr_as (k := 1) (by subst e61_r e61_s; rfl) ?_
    clear e61_r e61_s
    refine lv_if_eq (tgt := 23) hx hb d_R_start_18 (by decide) (fun c62 => absurd c62 (by decide)) (fun _ => ?_)
    refine lv_iconst (v := nI 0) hx hb d_R_start_21 (by decide) ?_
    exact mr_iret F w hr hlk (by unfold qStart; rw [if_pos c13]; exact ⟨rfl, rfl⟩) d_R_start_22
end
