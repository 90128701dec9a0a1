/-! The reference: find, fixPage, fix, again -/
section
variable {l : Launch} {D : va_G} {cI cF cZ cJ : ClassId} {ad : Nat → Nat} {σ : Mem}
set_option maxRecDepth 20000 in
theorem m_647 : Cond.methodLink "PagePoolModel" 111 (⟨"PagePoolModel", "find", "()I"⟩ : MethodName) ∈ gt := gt_in 647 (by decide +kernel) (by decide +kernel)
set_option maxRecDepth 20000 in
theorem m_650 : Cond.code (⟨"PagePoolModel", "find", "()I"⟩ : MethodName) prog_7_method_19_code 4 (some .int) ∈ gt := gt_in 650 (by decide +kernel) (by decide +kernel)
set_option maxRecDepth 20000 in
theorem m_649 : Cond.instanceMethod (⟨"PagePoolModel", "find", "()I"⟩ : MethodName) ∈ gt := gt_in 649 (by decide +kernel) (by decide +kernel)
set_option maxRecDepth 20000 in
theorem ms_18 : Cond.selects "PagePoolModel" (⟨"PagePoolModel", "find", "()I"⟩ : MethodName) (⟨"PagePoolModel", "find", "()I"⟩ : MethodName) ∈ gt := gt_sel 18 (by decide +kernel) (by decide +kernel)
theorem d_R_find_0 : decode b_R_find 0 = .ok (.aload_n 0, 1) := by decide +kernel
theorem d_R_find_1 : decode b_R_find 1 = .ok (.iconst (-1), 1) := by decide +kernel
theorem d_R_find_2 : decode b_R_find 2 = .ok (.invokevirtual 105, 3) := by decide +kernel
theorem d_R_find_5 : decode b_R_find 5 = .ok (.istore_n 1, 1) := by decide +kernel
theorem d_R_find_6 : decode b_R_find 6 = .ok (.bipush 7, 2) := by decide +kernel
theorem d_R_find_8 : decode b_R_find 8 = .ok (.istore_n 2, 1) := by decide +kernel
theorem d_R_find_9 : decode b_R_find 9 = .ok (.iload_n 2, 1) := by decide +kernel
theorem d_R_find_10 : decode b_R_find 10 = .ok (.ifCond .lt 25, 3) := by decide +kernel
theorem d_R_find_13 : decode b_R_find 13 = .ok (.aload_n 0, 1) := by decide +kernel
theorem d_R_find_14 : decode b_R_find 14 = .ok (.getfield 39, 3) := by decide +kernel
theorem d_R_find_17 : decode b_R_find 17 = .ok (.iload_n 2, 1) := by decide +kernel
theorem d_R_find_18 : decode b_R_find 18 = .ok (.iaload, 1) := by decide +kernel
theorem d_R_find_19 : decode b_R_find 19 = .ok (.iconst (-1), 1) := by decide +kernel
theorem d_R_find_20 : decode b_R_find 20 = .ok (.if_icmp .ne 7, 3) := by decide +kernel
theorem d_R_find_23 : decode b_R_find 23 = .ok (.iload_n 2, 1) := by decide +kernel
theorem d_R_find_24 : decode b_R_find 24 = .ok (.goto 4, 3) := by decide +kernel
theorem d_R_find_27 : decode b_R_find 27 = .ok (.iload_n 1, 1) := by decide +kernel
theorem d_R_find_28 : decode b_R_find 28 = .ok (.istore_n 1, 1) := by decide +kernel
theorem d_R_find_29 : decode b_R_find 29 = .ok (.iinc 2 (-1), 3) := by decide +kernel
theorem d_R_find_32 : decode b_R_find 32 = .ok (.goto (-23), 3) := by decide +kernel
theorem d_R_find_35 : decode b_R_find 35 = .ok (.iload_n 1, 1) := by decide +kernel
theorem d_R_find_36 : decode b_R_find 36 = .ok (.ifCond .lt 5, 3) := by decide +kernel
theorem d_R_find_39 : decode b_R_find 39 = .ok (.iload_n 1, 1) := by decide +kernel
theorem d_R_find_40 : decode b_R_find 40 = .ok (.ireturn, 1) := by decide +kernel
theorem d_R_find_41 : decode b_R_find 41 = .ok (.iconst 0, 1) := by decide +kernel
theorem d_R_find_42 : decode b_R_find 42 = .ok (.istore_n 2, 1) := by decide +kernel
theorem d_R_find_43 : decode b_R_find 43 = .ok (.iconst 0, 1) := by decide +kernel
theorem d_R_find_44 : decode b_R_find 44 = .ok (.istore_n 3, 1) := by decide +kernel
theorem d_R_find_45 : decode b_R_find 45 = .ok (.iload_n 3, 1) := by decide +kernel
theorem d_R_find_46 : decode b_R_find 46 = .ok (.bipush 8, 2) := by decide +kernel
theorem d_R_find_48 : decode b_R_find 48 = .ok (.if_icmp .ge 28, 3) := by decide +kernel
theorem d_R_find_51 : decode b_R_find 51 = .ok (.iload_n 2, 1) := by decide +kernel
theorem d_R_find_52 : decode b_R_find 52 = .ok (.ifCond .ne 12, 3) := by decide +kernel
theorem d_R_find_55 : decode b_R_find 55 = .ok (.aload_n 0, 1) := by decide +kernel
theorem d_R_find_56 : decode b_R_find 56 = .ok (.getfield 42, 3) := by decide +kernel
theorem d_R_find_59 : decode b_R_find 59 = .ok (.iload_n 3, 1) := by decide +kernel
theorem d_R_find_60 : decode b_R_find 60 = .ok (.iaload, 1) := by decide +kernel
theorem d_R_find_61 : decode b_R_find 61 = .ok (.ifCond .ne 7, 3) := by decide +kernel
theorem d_R_find_64 : decode b_R_find 64 = .ok (.iconst 1, 1) := by decide +kernel
theorem d_R_find_65 : decode b_R_find 65 = .ok (.goto 4, 3) := by decide +kernel
theorem d_R_find_68 : decode b_R_find 68 = .ok (.iconst 0, 1) := by decide +kernel
theorem d_R_find_69 : decode b_R_find 69 = .ok (.istore_n 2, 1) := by decide +kernel
theorem d_R_find_70 : decode b_R_find 70 = .ok (.iinc 3 1, 3) := by decide +kernel
theorem d_R_find_73 : decode b_R_find 73 = .ok (.goto (-28), 3) := by decide +kernel
theorem d_R_find_76 : decode b_R_find 76 = .ok (.iload_n 2, 1) := by decide +kernel
theorem d_R_find_77 : decode b_R_find 77 = .ok (.ifCond .ne 5, 3) := by decide +kernel
theorem d_R_find_80 : decode b_R_find 80 = .ok (.iconst (-1), 1) := by decide +kernel
theorem d_R_find_81 : decode b_R_find 81 = .ok (.ireturn, 1) := by decide +kernel
theorem d_R_find_82 : decode b_R_find 82 = .ok (.aload_n 0, 1) := by decide +kernel
theorem d_R_find_83 : decode b_R_find 83 = .ok (.getfield 42, 3) := by decide +kernel
theorem d_R_find_86 : decode b_R_find 86 = .ok (.aload_n 0, 1) := by decide +kernel
theorem d_R_find_87 : decode b_R_find 87 = .ok (.getfield 60, 3) := by decide +kernel
theorem d_R_find_90 : decode b_R_find 90 = .ok (.iaload, 1) := by decide +kernel
theorem d_R_find_91 : decode b_R_find 91 = .ok (.ifCond .gt 15, 3) := by decide +kernel
theorem d_R_find_94 : decode b_R_find 94 = .ok (.aload_n 0, 1) := by decide +kernel
theorem d_R_find_95 : decode b_R_find 95 = .ok (.getfield 45, 3) := by decide +kernel
theorem d_R_find_98 : decode b_R_find 98 = .ok (.aload_n 0, 1) := by decide +kernel
theorem d_R_find_99 : decode b_R_find 99 = .ok (.getfield 60, 3) := by decide +kernel
theorem d_R_find_102 : decode b_R_find 102 = .ok (.baload, 1) := by decide +kernel
theorem d_R_find_103 : decode b_R_find 103 = .ok (.ifCond .eq 57, 3) := by decide +kernel
theorem d_R_find_106 : decode b_R_find 106 = .ok (.aload_n 0, 1) := by decide +kernel
theorem d_R_find_107 : decode b_R_find 107 = .ok (.getfield 45, 3) := by decide +kernel
theorem d_R_find_110 : decode b_R_find 110 = .ok (.aload_n 0, 1) := by decide +kernel
theorem d_R_find_111 : decode b_R_find 111 = .ok (.getfield 60, 3) := by decide +kernel
theorem d_R_find_114 : decode b_R_find 114 = .ok (.aload_n 0, 1) := by decide +kernel
theorem d_R_find_115 : decode b_R_find 115 = .ok (.getfield 45, 3) := by decide +kernel
theorem d_R_find_118 : decode b_R_find 118 = .ok (.aload_n 0, 1) := by decide +kernel
theorem d_R_find_119 : decode b_R_find 119 = .ok (.getfield 60, 3) := by decide +kernel
theorem d_R_find_122 : decode b_R_find 122 = .ok (.baload, 1) := by decide +kernel
theorem d_R_find_123 : decode b_R_find 123 = .ok (.ifCond .eq 19, 3) := by decide +kernel
theorem d_R_find_126 : decode b_R_find 126 = .ok (.aload_n 0, 1) := by decide +kernel
theorem d_R_find_127 : decode b_R_find 127 = .ok (.getfield 42, 3) := by decide +kernel
theorem d_R_find_130 : decode b_R_find 130 = .ok (.aload_n 0, 1) := by decide +kernel
theorem d_R_find_131 : decode b_R_find 131 = .ok (.getfield 60, 3) := by decide +kernel
theorem d_R_find_134 : decode b_R_find 134 = .ok (.iaload, 1) := by decide +kernel
theorem d_R_find_135 : decode b_R_find 135 = .ok (.ifCond .le 7, 3) := by decide +kernel
theorem d_R_find_138 : decode b_R_find 138 = .ok (.iconst 1, 1) := by decide +kernel
theorem d_R_find_139 : decode b_R_find 139 = .ok (.goto 4, 3) := by decide +kernel
theorem d_R_find_142 : decode b_R_find 142 = .ok (.iconst 0, 1) := by decide +kernel
theorem d_R_find_143 : decode b_R_find 143 = .ok (.bastore, 1) := by decide +kernel
theorem d_R_find_144 : decode b_R_find 144 = .ok (.aload_n 0, 1) := by decide +kernel
theorem d_R_find_145 : decode b_R_find 145 = .ok (.aload_n 0, 1) := by decide +kernel
theorem d_R_find_146 : decode b_R_find 146 = .ok (.getfield 60, 3) := by decide +kernel
theorem d_R_find_149 : decode b_R_find 149 = .ok (.iconst 1, 1) := by decide +kernel
theorem d_R_find_150 : decode b_R_find 150 = .ok (.iadd, 1) := by decide +kernel
theorem d_R_find_151 : decode b_R_find 151 = .ok (.bipush 8, 2) := by decide +kernel
theorem d_R_find_153 : decode b_R_find 153 = .ok (.irem, 1) := by decide +kernel
theorem d_R_find_154 : decode b_R_find 154 = .ok (.putfield 60, 3) := by decide +kernel
theorem d_R_find_157 : decode b_R_find 157 = .ok (.goto (-75), 3) := by decide +kernel
theorem d_R_find_160 : decode b_R_find 160 = .ok (.aload_n 0, 1) := by decide +kernel
theorem d_R_find_161 : decode b_R_find 161 = .ok (.getfield 60, 3) := by decide +kernel
theorem d_R_find_164 : decode b_R_find 164 = .ok (.istore_n 3, 1) := by decide +kernel
theorem d_R_find_165 : decode b_R_find 165 = .ok (.aload_n 0, 1) := by decide +kernel
theorem d_R_find_166 : decode b_R_find 166 = .ok (.aload_n 0, 1) := by decide +kernel
theorem d_R_find_167 : decode b_R_find 167 = .ok (.getfield 60, 3) := by decide +kernel
theorem d_R_find_170 : decode b_R_find 170 = .ok (.iconst 1, 1) := by decide +kernel
theorem d_R_find_171 : decode b_R_find 171 = .ok (.iadd, 1) := by decide +kernel
theorem d_R_find_172 : decode b_R_find 172 = .ok (.bipush 8, 2) := by decide +kernel
theorem d_R_find_174 : decode b_R_find 174 = .ok (.irem, 1) := by decide +kernel
theorem d_R_find_175 : decode b_R_find 175 = .ok (.putfield 60, 3) := by decide +kernel
theorem d_R_find_178 : decode b_R_find 178 = .ok (.aload_n 0, 1) := by decide +kernel
theorem d_R_find_179 : decode b_R_find 179 = .ok (.getfield 48, 3) := by decide +kernel
theorem d_R_find_182 : decode b_R_find 182 = .ok (.iload_n 3, 1) := by decide +kernel
theorem d_R_find_183 : decode b_R_find 183 = .ok (.iaload, 1) := by decide +kernel
theorem d_R_find_184 : decode b_R_find 184 = .ok (.ifCond .lt 8, 3) := by decide +kernel
theorem d_R_find_187 : decode b_R_find 187 = .ok (.aload_n 0, 1) := by decide +kernel
theorem d_R_find_188 : decode b_R_find 188 = .ok (.iload_n 3, 1) := by decide +kernel
theorem d_R_find_189 : decode b_R_find 189 = .ok (.invokevirtual 108, 3) := by decide +kernel
theorem d_R_find_192 : decode b_R_find 192 = .ok (.aload_n 0, 1) := by decide +kernel
theorem d_R_find_193 : decode b_R_find 193 = .ok (.getfield 73, 3) := by decide +kernel
theorem d_R_find_196 : decode b_R_find 196 = .ok (.ifCond .eq 7, 3) := by decide +kernel
theorem d_R_find_199 : decode b_R_find 199 = .ok (.iconst (-1), 1) := by decide +kernel
theorem d_R_find_200 : decode b_R_find 200 = .ok (.goto 4, 3) := by decide +kernel
theorem d_R_find_203 : decode b_R_find 203 = .ok (.iload_n 3, 1) := by decide +kernel
theorem d_R_find_204 : decode b_R_find 204 = .ok (.ireturn, 1) := by decide +kernel
set_option maxRecDepth 20000 in
theorem g_R_find_189 : GoodIn (kws (y_R_find) b_R_find 4 (some .int)) (wsV R_R 108 R_R y_R_write (kws (y_R_write) b_R_write 3 none)) := kwV m_651 m_653 ms_19 m_6 m_654
set_option maxRecDepth 20000 in
theorem g_R_find_2 : GoodIn (kws (y_R_find) b_R_find 4 (some .int)) (wsV R_R 105 R_R y_R_frameWith (kws (y_R_frameWith) b_R_frameWith 4 (some .int))) := kwV m_643 m_645 ms_17 m_6 m_646
theorem d_R_fixPage_0 : decode b_R_fixPage 0 = .ok (.aload_n 0, 1) := by decide +kernel
theorem d_R_fixPage_1 : decode b_R_fixPage 1 = .ok (.iload_n 1, 1) := by decide +kernel
theorem d_R_fixPage_2 : decode b_R_fixPage 2 = .ok (.invokevirtual 105, 3) := by decide +kernel
theorem d_R_fixPage_5 : decode b_R_fixPage 5 = .ok (.istore_n 2, 1) := by decide +kernel
theorem d_R_fixPage_6 : decode b_R_fixPage 6 = .ok (.iload_n 2, 1) := by decide +kernel
theorem d_R_fixPage_7 : decode b_R_fixPage 7 = .ok (.ifCond .ge 64, 3) := by decide +kernel
theorem d_R_fixPage_10 : decode b_R_fixPage 10 = .ok (.aload_n 0, 1) := by decide +kernel
theorem d_R_fixPage_11 : decode b_R_fixPage 11 = .ok (.invokevirtual 111, 3) := by decide +kernel
theorem d_R_fixPage_14 : decode b_R_fixPage 14 = .ok (.istore_n 2, 1) := by decide +kernel
theorem d_R_fixPage_15 : decode b_R_fixPage 15 = .ok (.iload_n 2, 1) := by decide +kernel
theorem d_R_fixPage_16 : decode b_R_fixPage 16 = .ok (.ifCond .ge 5, 3) := by decide +kernel
theorem d_R_fixPage_19 : decode b_R_fixPage 19 = .ok (.iconst (-1), 1) := by decide +kernel
theorem d_R_fixPage_20 : decode b_R_fixPage 20 = .ok (.ireturn, 1) := by decide +kernel
theorem d_R_fixPage_21 : decode b_R_fixPage 21 = .ok (.aload_n 0, 1) := by decide +kernel
theorem d_R_fixPage_22 : decode b_R_fixPage 22 = .ok (.getfield 39, 3) := by decide +kernel
theorem d_R_fixPage_25 : decode b_R_fixPage 25 = .ok (.iload_n 2, 1) := by decide +kernel
theorem d_R_fixPage_26 : decode b_R_fixPage 26 = .ok (.iload_n 1, 1) := by decide +kernel
theorem d_R_fixPage_27 : decode b_R_fixPage 27 = .ok (.iastore, 1) := by decide +kernel
theorem d_R_fixPage_28 : decode b_R_fixPage 28 = .ok (.aload_n 0, 1) := by decide +kernel
theorem d_R_fixPage_29 : decode b_R_fixPage 29 = .ok (.getfield 48, 3) := by decide +kernel
theorem d_R_fixPage_32 : decode b_R_fixPage 32 = .ok (.iload_n 2, 1) := by decide +kernel
theorem d_R_fixPage_33 : decode b_R_fixPage 33 = .ok (.iconst (-1), 1) := by decide +kernel
theorem d_R_fixPage_34 : decode b_R_fixPage 34 = .ok (.iastore, 1) := by decide +kernel
theorem d_R_fixPage_35 : decode b_R_fixPage 35 = .ok (.iconst 0, 1) := by decide +kernel
theorem d_R_fixPage_36 : decode b_R_fixPage 36 = .ok (.istore_n 3, 1) := by decide +kernel
theorem d_R_fixPage_37 : decode b_R_fixPage 37 = .ok (.iload_n 3, 1) := by decide +kernel
theorem d_R_fixPage_38 : decode b_R_fixPage 38 = .ok (.bipush 64, 2) := by decide +kernel
theorem d_R_fixPage_40 : decode b_R_fixPage 40 = .ok (.if_icmp .ge 31, 3) := by decide +kernel
theorem d_R_fixPage_43 : decode b_R_fixPage 43 = .ok (.aload_n 0, 1) := by decide +kernel
theorem d_R_fixPage_44 : decode b_R_fixPage 44 = .ok (.getfield 36, 3) := by decide +kernel
theorem d_R_fixPage_47 : decode b_R_fixPage 47 = .ok (.bipush 64, 2) := by decide +kernel
theorem d_R_fixPage_49 : decode b_R_fixPage 49 = .ok (.iload_n 2, 1) := by decide +kernel
theorem d_R_fixPage_50 : decode b_R_fixPage 50 = .ok (.imul, 1) := by decide +kernel
theorem d_R_fixPage_51 : decode b_R_fixPage 51 = .ok (.iload_n 3, 1) := by decide +kernel
theorem d_R_fixPage_52 : decode b_R_fixPage 52 = .ok (.iadd, 1) := by decide +kernel
theorem d_R_fixPage_53 : decode b_R_fixPage 53 = .ok (.aload_n 0, 1) := by decide +kernel
theorem d_R_fixPage_54 : decode b_R_fixPage 54 = .ok (.getfield 7, 3) := by decide +kernel
theorem d_R_fixPage_57 : decode b_R_fixPage 57 = .ok (.bipush 64, 2) := by decide +kernel
theorem d_R_fixPage_59 : decode b_R_fixPage 59 = .ok (.iload_n 1, 1) := by decide +kernel
theorem d_R_fixPage_60 : decode b_R_fixPage 60 = .ok (.imul, 1) := by decide +kernel
theorem d_R_fixPage_61 : decode b_R_fixPage 61 = .ok (.iload_n 3, 1) := by decide +kernel
theorem d_R_fixPage_62 : decode b_R_fixPage 62 = .ok (.iadd, 1) := by decide +kernel
theorem d_R_fixPage_63 : decode b_R_fixPage 63 = .ok (.iaload, 1) := by decide +kernel
theorem d_R_fixPage_64 : decode b_R_fixPage 64 = .ok (.iastore, 1) := by decide +kernel
theorem d_R_fixPage_65 : decode b_R_fixPage 65 = .ok (.iinc 3 1, 3) := by decide +kernel
theorem d_R_fixPage_68 : decode b_R_fixPage 68 = .ok (.goto (-31), 3) := by decide +kernel
theorem d_R_fixPage_71 : decode b_R_fixPage 71 = .ok (.aload_n 0, 1) := by decide +kernel
theorem d_R_fixPage_72 : decode b_R_fixPage 72 = .ok (.getfield 42, 3) := by decide +kernel
theorem d_R_fixPage_75 : decode b_R_fixPage 75 = .ok (.iload_n 2, 1) := by decide +kernel
theorem d_R_fixPage_76 : decode b_R_fixPage 76 = .ok (.dup2, 1) := by decide +kernel
theorem d_R_fixPage_77 : decode b_R_fixPage 77 = .ok (.iaload, 1) := by decide +kernel
theorem d_R_fixPage_78 : decode b_R_fixPage 78 = .ok (.iconst 1, 1) := by decide +kernel
theorem d_R_fixPage_79 : decode b_R_fixPage 79 = .ok (.iadd, 1) := by decide +kernel
theorem d_R_fixPage_80 : decode b_R_fixPage 80 = .ok (.iastore, 1) := by decide +kernel
theorem d_R_fixPage_81 : decode b_R_fixPage 81 = .ok (.aload_n 0, 1) := by decide +kernel
theorem d_R_fixPage_82 : decode b_R_fixPage 82 = .ok (.getfield 45, 3) := by decide +kernel
theorem d_R_fixPage_85 : decode b_R_fixPage 85 = .ok (.iload_n 2, 1) := by decide +kernel
theorem d_R_fixPage_86 : decode b_R_fixPage 86 = .ok (.iconst 1, 1) := by decide +kernel
theorem d_R_fixPage_87 : decode b_R_fixPage 87 = .ok (.bastore, 1) := by decide +kernel
theorem d_R_fixPage_88 : decode b_R_fixPage 88 = .ok (.iload_n 2, 1) := by decide +kernel
theorem d_R_fixPage_89 : decode b_R_fixPage 89 = .ok (.ireturn, 1) := by decide +kernel
set_option maxRecDepth 20000 in
theorem g_R_fixPage_2 : GoodIn (kws (y_R_fixPage) b_R_fixPage 4 (some .int)) (wsV R_R 105 R_R y_R_frameWith (kws (y_R_frameWith) b_R_frameWith 4 (some .int))) := kwV m_643 m_645 ms_17 m_6 m_646
set_option maxRecDepth 20000 in
theorem g_R_fixPage_11 : GoodIn (kws (y_R_fixPage) b_R_fixPage 4 (some .int)) (wsV R_R 111 R_R y_R_find (kws (y_R_find) b_R_find 4 (some .int))) := kwV m_647 m_649 ms_18 m_6 m_650
def qFree (σ : Mem) : Nat → Int32 → Int32
  | 0, x => x
  | n + 1, x => if σ 8 n = -1 then qFree σ n (nI n) else qFree σ n x
def qFreeA (σ : Mem) : Int32 := qFree σ 8 (qFw σ (-1) 8 0 (-1))
def qSome (σ : Mem) : Nat → Nat → Int32 → Int32
  | 0, _, b => b
  | n + 1, f, b => if b = 0 then (if σ 9 f = 0 then qSome σ n (f + 1) (nI 1) else qSome σ n (f + 1) (nI 0)) else qSome σ n (f + 1) (nI 1)
def qStep (h : Nat) (τ : Mem) : Mem := mup (mup τ 10 h (if τ 10 h = 0 then nI 0 else if τ 9 h ≤ 0 then nI 0 else nI 1)) 0 17 (nI ((h + 1) % 8))
def qWh : Nat → Nat → Mem → Nat × Mem
  | 0, h, τ => (h, τ)
  | n + 1, h, τ => if 0 < τ 9 h then qWh n ((h + 1) % 8) (qStep h τ) else if τ 10 h = 0 then (h, τ) else qWh n ((h + 1) % 8) (qStep h τ)
/-- the hand comes to a stop -/
def qStops : Nat → Nat → Mem → Prop
  | 0, _, _ => False
  | n + 1, h, τ => if 0 < τ 9 h then qStops n ((h + 1) % 8) (qStep h τ) else if τ 10 h = 0 then True else qStops n ((h + 1) % 8) (qStep h τ)
def qFin (x : Nat × Mem) : Int32 × Mem :=
  if (mup x.2 0 17 (nI ((x.1 + 1) % 8))) 11 x.1 < 0 then (if (mup x.2 0 17 (nI ((x.1 + 1) % 8))) 0 21 = 0 then (nI x.1, mup x.2 0 17 (nI ((x.1 + 1) % 8))) else (-1, mup x.2 0 17 (nI ((x.1 + 1) % 8))))
  else (if (qWr (mup x.2 0 17 (nI ((x.1 + 1) % 8))) x.1) 0 21 = 0 then (nI x.1, qWr (mup x.2 0 17 (nI ((x.1 + 1) % 8))) x.1) else (-1, qWr (mup x.2 0 17 (nI ((x.1 + 1) % 8))) x.1))
def qFind (σ : Mem) : Int32 × Mem :=
  if qFreeA σ < 0 then (if qSome σ 8 0 (nI 0) = 0 then (-1, σ) else qFin (qWh 17 (σ 0 17).toNatClampNeg σ)) else (qFreeA σ, σ)
set_option maxHeartbeats 4000000 in
set_option maxRecDepth 100000 in
theorem c_R_find (σ : Mem) (hh0 : nat0 8 (σ 0 17)) (hok0 : rOK σ) (hst0 : ¬ qSome σ 8 0 (nI 0) = 0 → qStops 17 (σ 0 17).toNatClampNeg σ) : KIR l D cI cF cZ cJ ad y_R_find b_R_find 4 (some .int) 5 135 [.ref (ad 0)] σ (fun r σ' => r = (qFind σ).1 ∧ σ' = (qFind σ).2) := by
  refine KI.of (by decide) (Nat.le_of_ble_eq_true rfl) ?_
  intro p e s m args below meth c A ls F w hl hr hlk
  obtain ⟨hx, hb, hml, hown, hts⟩ := id F
  have hl : lv_has ls 4 [(0, .ref (ad 0))] := hl
  have loopW : ∀ (n : Nat) (h : Nat) (τ : Mem) (hF : qFreeA σ < 0) (hS9 : ¬ qSome σ 8 0 (nI 0) = 0) (hh : h < 8) (eh : τ 0 17 = nI h) (hst : qStops n h τ) (hok : rOK τ) (hk : qFin (qWh n h τ) = qFind σ) (H : Heap) (locs : List Loc) (ls : Array Slot), mW D clP (tyP cI cF cZ cJ) 12 (eR cI cZ ad) ad τ s A s.heap H locs → lv_has ls 4 [(0, .ref (ad 0))] → W p l e { frames := 5, cells := 0, slots := 0, locals := 135 } s m args below meth c H locs 0 0 (MQ below (va_Qi (fun r σ' => r = (qFind σ).1 ∧ σ' = (qFind σ).2) (KB D clP (tyP cI cF cZ cJ) 12 (eR cI cZ ad) ad) A) args s 0 0 A) (F0 m 82 ls []) := by
    intro n
    induction n with
    | zero =>
      intro h τ hF hS9 hh eh hst hok hk H locs ls w hl
      exact hst.elim
    | succ n ih =>
      intro h τ hF hS9 hh eh hst hok hk H locs ls w hl
      refine lv_aload_n hx hb d_R_find_82 rfl (lv_at hl 0 rfl) ?_
      refine mr_get F w (kin in_R) 0 (by decide) rfl rfl 14 (by decide) (kws_in m_542) (fun _ h => h) rfl d_R_find_83 ?_
      refine lv_aload_n hx hb d_R_find_86 rfl (lv_at hl 0 rfl) ?_
      refine mr_get F w (kin in_R) 0 (by decide) rfl rfl 17 (by decide) (kws_in m_545) (fun _ h => h) rfl d_R_find_87 ?_
      refine nr_as (k := h) (eh) ?_
      refine mr_iaN F w 9 0 (by decide) rfl rfl h (by omega) (by decide) rfl d_R_find_90 ?_
      refine lv_if_gt (tgt := 106) hx hb d_R_find_91 (by decide) (fun c1 => ?_) (fun c1 => ?_)
      · refine lv_aload_n hx hb d_R_find_106 rfl (lv_at hl 0 rfl) ?_
        refine mr_get F w (kin in_R) 0 (by decide) rfl rfl 15 (by decide) (kws_in m_543) (fun _ h => h) rfl d_R_find_107 ?_
        refine lv_aload_n hx hb d_R_find_110 rfl (lv_at hl 0 rfl) ?_
        refine mr_get F w (kin in_R) 0 (by decide) rfl rfl 17 (by decide) (kws_in m_545) (fun _ h => h) rfl d_R_find_111 ?_
        refine nr_as (k := h) (eh) ?_
        refine lv_aload_n hx hb d_R_find_114 rfl (lv_at hl 0 rfl) ?_
        refine mr_get F w (kin in_R) 0 (by decide) rfl rfl 15 (by decide) (kws_in m_543) (fun _ h => h) rfl d_R_find_115 ?_
        refine lv_aload_n hx hb d_R_find_118 rfl (lv_at hl 0 rfl) ?_
        refine mr_get F w (kin in_R) 0 (by decide) rfl rfl 17 (by decide) (kws_in m_545) (fun _ h => h) rfl d_R_find_119 ?_
        refine nr_as (k := h) (eh) ?_
        refine mr_baN F w 10 2 (by decide) rfl rfl h (by omega) (by decide) rfl d_R_find_122 ?_
        refine lv_if_eq (tgt := 142) hx hb d_R_find_123 (by decide) (fun c2 => ?_) (fun c2 => ?_)
        · refine lv_iconst (v := nI 0) hx hb d_R_find_142 (by decide) ?_
          refine mr_bsN F w 10 2 (by decide) (fun _ => rfl) rfl h (by omega) (by decide) rfl (Or.inl rfl) d_R_find_143 (fun H locs w => ?_)
          refine lv_aload_n hx hb d_R_find_144 rfl (lv_at hl 0 rfl) ?_
          refine lv_aload_n hx hb d_R_find_145 rfl (lv_at hl 0 rfl) ?_
          refine mr_get F w (kin in_R) 0 (by decide) rfl rfl 17 (by decide) (kws_in m_545) (fun _ h => h) rfl d_R_find_146 ?_
          refine nr_as (k := h) (eh) ?_
          refine lv_iconst (v := nI 1) hx hb d_R_find_149 (by decide) ?_
          refine nr_iadd hx hb d_R_find_150 ?_
          refine lv_bipush (v := nI 8) hx hb d_R_find_151 (by decide) ?_
          refine nr_irem hx hb d_R_find_153 (by omega) (by omega) (by omega) ?_
          refine mr_put F w (kin in_R) t_R t_R_ok n_R 0 (by decide) rfl rfl 17 (by decide) (kws_in m_545) (fun _ h => h) rfl rfl rfl (Nat.le_of_ble_eq_true rfl) rfl d_R_find_154 (fun H locs w => ?_)
          refine lv_goto (tgt := 82) hx hb d_R_find_157 (by decide) ?_
          exact ih ((h + 1) % 8) (mup (mup τ 10 h (nI 0)) 0 17 (nI ((h + 1) % 8))) hF hS9 (Nat.mod_lt _ (by decide)) rfl (by first | contradiction | (have h9 := hst; simp only [qStops, qStep, if_pos c1, if_pos c2] at h9; exact h9)) (fun g9 hg9 hc9 => hok g9 hg9 hc9) (by first | contradiction | (rw [← hk]; simp only [qWh, qStep, if_pos c1, if_pos c2])) _ _ ls w (lv_sub hl [0] rfl)
        · refine lv_aload_n hx hb d_R_find_126 rfl (lv_at hl 0 rfl) ?_
          refine mr_get F w (kin in_R) 0 (by decide) rfl rfl 14 (by decide) (kws_in m_542) (fun _ h => h) rfl d_R_find_127 ?_
          refine lv_aload_n hx hb d_R_find_130 rfl (lv_at hl 0 rfl) ?_
          refine mr_get F w (kin in_R) 0 (by decide) rfl rfl 17 (by decide) (kws_in m_545) (fun _ h => h) rfl d_R_find_131 ?_
          refine nr_as (k := h) (eh) ?_
          refine mr_iaN F w 9 0 (by decide) rfl rfl h (by omega) (by decide) rfl d_R_find_134 ?_
          refine lv_if_le (tgt := 142) hx hb d_R_find_135 (by decide) (fun c3 => ?_) (fun c3 => ?_)
          · refine lv_iconst (v := nI 0) hx hb d_R_find_142 (by decide) ?_
            refine mr_bsN F w 10 2 (by decide) (fun _ => rfl) rfl h (by omega) (by decide) rfl (Or.inl rfl) d_R_find_143 (fun H locs w => ?_)
            refine lv_aload_n hx hb d_R_find_144 rfl (lv_at hl 0 rfl) ?_
            refine lv_aload_n hx hb d_R_find_145 rfl (lv_at hl 0 rfl) ?_
            refine mr_get F w (kin in_R) 0 (by decide) rfl rfl 17 (by decide) (kws_in m_545) (fun _ h => h) rfl d_R_find_146 ?_
            refine nr_as (k := h) (eh) ?_
            refine lv_iconst (v := nI 1) hx hb d_R_find_149 (by decide) ?_
            refine nr_iadd hx hb d_R_find_150 ?_
            refine lv_bipush (v := nI 8) hx hb d_R_find_151 (by decide) ?_
            refine nr_irem hx hb d_R_find_153 (by omega) (by omega) (by omega) ?_
            refine mr_put F w (kin in_R) t_R t_R_ok n_R 0 (by decide) rfl rfl 17 (by decide) (kws_in m_545) (fun _ h => h) rfl rfl rfl (Nat.le_of_ble_eq_true rfl) rfl d_R_find_154 (fun H locs w => ?_)
            refine lv_goto (tgt := 82) hx hb d_R_find_157 (by decide) ?_
            exact ih ((h + 1) % 8) (mup (mup τ 10 h (nI 0)) 0 17 (nI ((h + 1) % 8))) hF hS9 (Nat.mod_lt _ (by decide)) rfl (by first | contradiction | (have h9 := hst; simp only [qStops, qStep, if_pos c1, if_neg c2, if_pos c3] at h9; exact h9)) (fun g9 hg9 hc9 => hok g9 hg9 hc9) (by first | contradiction | (rw [← hk]; simp only [qWh, qStep, if_pos c1, if_neg c2, if_pos c3])) _ _ ls w (lv_sub hl [0] rfl)
          · refine lv_iconst (v := nI 1) hx hb d_R_find_138 (by decide) ?_
            refine lv_goto (tgt := 143) hx hb d_R_find_139 (by decide) ?_
            refine mr_bsN F w 10 2 (by decide) (fun _ => rfl) rfl h (by omega) (by decide) rfl (Or.inr rfl) d_R_find_143 (fun H locs w => ?_)
            refine lv_aload_n hx hb d_R_find_144 rfl (lv_at hl 0 rfl) ?_
            refine lv_aload_n hx hb d_R_find_145 rfl (lv_at hl 0 rfl) ?_
            refine mr_get F w (kin in_R) 0 (by decide) rfl rfl 17 (by decide) (kws_in m_545) (fun _ h => h) rfl d_R_find_146 ?_
            refine nr_as (k := h) (eh) ?_
            refine lv_iconst (v := nI 1) hx hb d_R_find_149 (by decide) ?_
            refine nr_iadd hx hb d_R_find_150 ?_
            refine lv_bipush (v := nI 8) hx hb d_R_find_151 (by decide) ?_
            refine nr_irem hx hb d_R_find_153 (by omega) (by omega) (by omega) ?_
            refine mr_put F w (kin in_R) t_R t_R_ok n_R 0 (by decide) rfl rfl 17 (by decide) (kws_in m_545) (fun _ h => h) rfl rfl rfl (Nat.le_of_ble_eq_true rfl) rfl d_R_find_154 (fun H locs w => ?_)
            refine lv_goto (tgt := 82) hx hb d_R_find_157 (by decide) ?_
            exact ih ((h + 1) % 8) (mup (mup τ 10 h (nI 1)) 0 17 (nI ((h + 1) % 8))) hF hS9 (Nat.mod_lt _ (by decide)) rfl (by first | contradiction | (have h9 := hst; simp only [qStops, qStep, if_pos c1, if_neg c2, if_neg c3] at h9; exact h9)) (fun g9 hg9 hc9 => hok g9 hg9 hc9) (by first | contradiction | (rw [← hk]; simp only [qWh, qStep, if_pos c1, if_neg c2, if_neg c3])) _ _ ls w (lv_sub hl [0] rfl)
      · refine lv_aload_n hx hb d_R_find_94 rfl (lv_at hl 0 rfl) ?_
        refine mr_get F w (kin in_R) 0 (by decide) rfl rfl 15 (by decide) (kws_in m_543) (fun _ h => h) rfl d_R_find_95 ?_
        refine lv_aload_n hx hb d_R_find_98 rfl (lv_at hl 0 rfl) ?_
        refine mr_get F w (kin in_R) 0 (by decide) rfl rfl 17 (by decide) (kws_in m_545) (fun _ h => h) rfl d_R_find_99 ?_
        refine nr_as (k := h) (eh) ?_
        refine mr_baN F w 10 2 (by decide) rfl rfl h (by omega) (by decide) rfl d_R_find_102 ?_
        refine lv_if_eq (tgt := 160) hx hb d_R_find_103 (by decide) (fun c4 => ?_) (fun c4 => ?_)
        · refine lv_aload_n hx hb d_R_find_160 rfl (lv_at hl 0 rfl) ?_
          refine mr_get F w (kin in_R) 0 (by decide) rfl rfl 17 (by decide) (kws_in m_545) (fun _ h => h) rfl d_R_find_161 ?_
          refine nr_as (k := h) (eh) ?_
          refine lv_istore_n (lv' := [(3, .int (nI h)), (0, .ref (ad 0))]) hx hb d_R_find_164 rfl hl (by decide) rfl (fun ls hl => ?_)
          refine lv_aload_n hx hb d_R_find_165 rfl (lv_at hl 1 rfl) ?_
          refine lv_aload_n hx hb d_R_find_166 rfl (lv_at hl 1 rfl) ?_
          refine mr_get F w (kin in_R) 0 (by decide) rfl rfl 17 (by decide) (kws_in m_545) (fun _ h => h) rfl d_R_find_167 ?_
          refine nr_as (k := h) (eh) ?_
          refine lv_iconst (v := nI 1) hx hb d_R_find_170 (by decide) ?_
          refine nr_iadd hx hb d_R_find_171 ?_
          refine lv_bipush (v := nI 8) hx hb d_R_find_172 (by decide) ?_
          refine nr_irem hx hb d_R_find_174 (by omega) (by omega) (by omega) ?_
          refine mr_put F w (kin in_R) t_R t_R_ok n_R 0 (by decide) rfl rfl 17 (by decide) (kws_in m_545) (fun _ h => h) rfl rfl rfl (Nat.le_of_ble_eq_true rfl) rfl d_R_find_175 (fun H locs w => ?_)
          refine lv_aload_n hx hb d_R_find_178 rfl (lv_at hl 1 rfl) ?_
          refine mr_get F w (kin in_R) 0 (by decide) rfl rfl 16 (by decide) (kws_in m_544) (fun _ h => h) rfl d_R_find_179 ?_
          refine lv_iload_n hx hb d_R_find_182 rfl (lv_at hl 0 rfl) ?_
          refine mr_iaN F w 11 0 (by decide) rfl rfl h (by omega) (by decide) rfl d_R_find_183 ?_
          refine lv_if_lt (tgt := 192) hx hb d_R_find_184 (by decide) (fun c5 => ?_) (fun c5 => ?_)
          · refine lv_aload_n hx hb d_R_find_192 rfl (lv_at hl 1 rfl) ?_
            refine mr_get F w (kin in_R) 0 (by decide) rfl rfl 21 (by decide) (kws_in m_549) (fun _ h => h) rfl d_R_find_193 ?_
            refine lv_if_eq (tgt := 203) hx hb d_R_find_196 (by decide) (fun c6 => ?_) (fun c6 => ?_)
            · refine lv_iload_n hx hb d_R_find_203 rfl (lv_at hl 0 rfl) ?_
              exact mr_iret F w hr hlk (⟨by rw [← hk]; first | (simp only [qWh, qFin, if_neg c1, if_pos c4, if_pos c5, if_pos c6]; done) | (simp only [qWh, qFin, if_neg c1, if_pos c4, if_pos c5, if_pos c6]; rfl), by rw [← hk]; first | (simp only [qWh, qFin, if_neg c1, if_pos c4, if_pos c5, if_pos c6]; done) | (simp only [qWh, qFin, if_neg c1, if_pos c4, if_pos c5, if_pos c6]; rfl)⟩) d_R_find_204
            · refine lv_iconst (v := -1) hx hb d_R_find_199 (by decide) ?_
              refine lv_goto (tgt := 204) hx hb d_R_find_200 (by decide) ?_
              exact mr_iret F w hr hlk (⟨by rw [← hk]; first | (simp only [qWh, qFin, if_neg c1, if_pos c4, if_pos c5, if_neg c6]; done) | (simp only [qWh, qFin, if_neg c1, if_pos c4, if_pos c5, if_neg c6]; rfl), by rw [← hk]; first | (simp only [qWh, qFin, if_neg c1, if_pos c4, if_pos c5, if_neg c6]; done) | (simp only [qWh, qFin, if_neg c1, if_pos c4, if_pos c5, if_neg c6]; rfl)⟩) d_R_find_204
          · refine lv_aload_n hx hb d_R_find_187 rfl (lv_at hl 1 rfl) ?_
            refine lv_iload_n hx hb d_R_find_188 rfl (lv_at hl 0 rfl) ?_
            refine mr_callVv (As := [.int (nI h)]) F w hl.1 (c_R_write (mup τ 0 17 (nI ((h + 1) % 8))) h hh (hok h hh c5)) (cwV 1 hts g_R_find_189 rfl rfl rfl (by decide +kernel) ⟨Nat.le_of_ble_eq_true rfl, Nat.le_of_ble_eq_true rfl⟩) rfl (by decide) rfl rfl rfl (Nat.le_of_ble_eq_true rfl) d_R_find_189 ⟨Nat.zero_le _, Nat.zero_le _⟩ (fun σ8 H locs e9 w => ?_)
            replace e9 := Eq.symm e9
            refine lv_aload_n hx hb d_R_find_192 rfl (lv_at hl 1 rfl) ?_
            refine mr_get F w (kin in_R) 0 (by decide) rfl rfl 21 (by decide) (kws_in m_549) (fun _ h => h) rfl d_R_find_193 ?_
            refine lv_if_eq (tgt := 203) hx hb d_R_find_196 (by decide) (fun c10 => ?_) (fun c10 => ?_)
            · refine lv_iload_n hx hb d_R_find_203 rfl (lv_at hl 0 rfl) ?_
              exact mr_iret F w hr hlk (⟨by subst e9; rw [← hk]; first | (simp only [qWh, qFin, if_neg c1, if_pos c4, if_neg c5, if_pos c10]; done) | (simp only [qWh, qFin, if_neg c1, if_pos c4, if_neg c5, if_pos c10]; rfl), by subst e9; rw [← hk]; first | (simp only [qWh, qFin, if_neg c1, if_pos c4, if_neg c5, if_pos c10]; done) | (simp only [qWh, qFin, if_neg c1, if_pos c4, if_neg c5, if_pos c10]; rfl)⟩) d_R_find_204
            · refine lv_iconst (v := -1) hx hb d_R_find_199 (by decide) ?_
              refine lv_goto (tgt := 204) hx hb d_R_find_200 (by decide) ?_
              exact mr_iret F w hr hlk (⟨by subst e9; rw [← hk]; first | (simp only [qWh, qFin, if_neg c1, if_pos c4, if_neg c5, if_neg c10]; done) | (simp only [qWh, qFin, if_neg c1, if_pos c4, if_neg c5, if_neg c10]; rfl), by subst e9; rw [← hk]; first | (simp only [qWh, qFin, if_neg c1, if_pos c4, if_neg c5, if_neg c10]; done) | (simp only [qWh, qFin, if_neg c1, if_pos c4, if_neg c5, if_neg c10]; rfl)⟩) d_R_find_204
        · refine lv_aload_n hx hb d_R_find_106 rfl (lv_at hl 0 rfl) ?_
          refine mr_get F w (kin in_R) 0 (by decide) rfl rfl 15 (by decide) (kws_in m_543) (fun _ h => h) rfl d_R_find_107 ?_
          refine lv_aload_n hx hb d_R_find_110 rfl (lv_at hl 0 rfl) ?_
          refine mr_get F w (kin in_R) 0 (by decide) rfl rfl 17 (by decide) (kws_in m_545) (fun _ h => h) rfl d_R_find_111 ?_
          refine nr_as (k := h) (eh) ?_
          refine lv_aload_n hx hb d_R_find_114 rfl (lv_at hl 0 rfl) ?_
          refine mr_get F w (kin in_R) 0 (by decide) rfl rfl 15 (by decide) (kws_in m_543) (fun _ h => h) rfl d_R_find_115 ?_
          refine lv_aload_n hx hb d_R_find_118 rfl (lv_at hl 0 rfl) ?_
          refine mr_get F w (kin in_R) 0 (by decide) rfl rfl 17 (by decide) (kws_in m_545) (fun _ h => h) rfl d_R_find_119 ?_
          refine nr_as (k := h) (eh) ?_
          refine mr_baN F w 10 2 (by decide) rfl rfl h (by omega) (by decide) rfl d_R_find_122 ?_
          refine lv_if_eq (tgt := 142) hx hb d_R_find_123 (by decide) (fun c11 => ?_) (fun c11 => ?_)
          · refine lv_iconst (v := nI 0) hx hb d_R_find_142 (by decide) ?_
            refine mr_bsN F w 10 2 (by decide) (fun _ => rfl) rfl h (by omega) (by decide) rfl (Or.inl rfl) d_R_find_143 (fun H locs w => ?_)
            refine lv_aload_n hx hb d_R_find_144 rfl (lv_at hl 0 rfl) ?_
            refine lv_aload_n hx hb d_R_find_145 rfl (lv_at hl 0 rfl) ?_
            refine mr_get F w (kin in_R) 0 (by decide) rfl rfl 17 (by decide) (kws_in m_545) (fun _ h => h) rfl d_R_find_146 ?_
            refine nr_as (k := h) (eh) ?_
            refine lv_iconst (v := nI 1) hx hb d_R_find_149 (by decide) ?_
            refine nr_iadd hx hb d_R_find_150 ?_
            refine lv_bipush (v := nI 8) hx hb d_R_find_151 (by decide) ?_
            refine nr_irem hx hb d_R_find_153 (by omega) (by omega) (by omega) ?_
            refine mr_put F w (kin in_R) t_R t_R_ok n_R 0 (by decide) rfl rfl 17 (by decide) (kws_in m_545) (fun _ h => h) rfl rfl rfl (Nat.le_of_ble_eq_true rfl) rfl d_R_find_154 (fun H locs w => ?_)
            refine lv_goto (tgt := 82) hx hb d_R_find_157 (by decide) ?_
            exact ih ((h + 1) % 8) (mup (mup τ 10 h (nI 0)) 0 17 (nI ((h + 1) % 8))) hF hS9 (Nat.mod_lt _ (by decide)) rfl (by first | contradiction | (have h9 := hst; simp only [qStops, qStep, if_neg c1, if_neg c4, if_pos c11] at h9; exact h9)) (fun g9 hg9 hc9 => hok g9 hg9 hc9) (by first | contradiction | (rw [← hk]; simp only [qWh, qStep, if_neg c1, if_neg c4, if_pos c11])) _ _ ls w (lv_sub hl [0] rfl)
          · refine lv_aload_n hx hb d_R_find_126 rfl (lv_at hl 0 rfl) ?_
            refine mr_get F w (kin in_R) 0 (by decide) rfl rfl 14 (by decide) (kws_in m_542) (fun _ h => h) rfl d_R_find_127 ?_
            refine lv_aload_n hx hb d_R_find_130 rfl (lv_at hl 0 rfl) ?_
            refine mr_get F w (kin in_R) 0 (by decide) rfl rfl 17 (by decide) (kws_in m_545) (fun _ h => h) rfl d_R_find_131 ?_
            refine nr_as (k := h) (eh) ?_
            refine mr_iaN F w 9 0 (by decide) rfl rfl h (by omega) (by decide) rfl d_R_find_134 ?_
            refine lv_if_le (tgt := 142) hx hb d_R_find_135 (by decide) (fun c12 => ?_) (fun c12 => ?_)
            · refine lv_iconst (v := nI 0) hx hb d_R_find_142 (by decide) ?_
              refine mr_bsN F w 10 2 (by decide) (fun _ => rfl) rfl h (by omega) (by decide) rfl (Or.inl rfl) d_R_find_143 (fun H locs w => ?_)
              refine lv_aload_n hx hb d_R_find_144 rfl (lv_at hl 0 rfl) ?_
              refine lv_aload_n hx hb d_R_find_145 rfl (lv_at hl 0 rfl) ?_
              refine mr_get F w (kin in_R) 0 (by decide) rfl rfl 17 (by decide) (kws_in m_545) (fun _ h => h) rfl d_R_find_146 ?_
              refine nr_as (k := h) (eh) ?_
              refine lv_iconst (v := nI 1) hx hb d_R_find_149 (by decide) ?_
              refine nr_iadd hx hb d_R_find_150 ?_
              refine lv_bipush (v := nI 8) hx hb d_R_find_151 (by decide) ?_
              refine nr_irem hx hb d_R_find_153 (by omega) (by omega) (by omega) ?_
              refine mr_put F w (kin in_R) t_R t_R_ok n_R 0 (by decide) rfl rfl 17 (by decide) (kws_in m_545) (fun _ h => h) rfl rfl rfl (Nat.le_of_ble_eq_true rfl) rfl d_R_find_154 (fun H locs w => ?_)
              refine lv_goto (tgt := 82) hx hb d_R_find_157 (by decide) ?_
              exact ih ((h + 1) % 8) (mup (mup τ 10 h (nI 0)) 0 17 (nI ((h + 1) % 8))) hF hS9 (Nat.mod_lt _ (by decide)) rfl (by first | contradiction | (have h9 := hst; simp only [qStops, qStep, if_neg c1, if_neg c4, if_neg c11, if_pos c12] at h9; exact h9)) (fun g9 hg9 hc9 => hok g9 hg9 hc9) (by first | contradiction | (rw [← hk]; simp only [qWh, qStep, if_neg c1, if_neg c4, if_neg c11, if_pos c12])) _ _ ls w (lv_sub hl [0] rfl)
            · refine lv_iconst (v := nI 1) hx hb d_R_find_138 (by decide) ?_
              refine lv_goto (tgt := 143) hx hb d_R_find_139 (by decide) ?_
              refine mr_bsN F w 10 2 (by decide) (fun _ => rfl) rfl h (by omega) (by decide) rfl (Or.inr rfl) d_R_find_143 (fun H locs w => ?_)
              refine lv_aload_n hx hb d_R_find_144 rfl (lv_at hl 0 rfl) ?_
              refine lv_aload_n hx hb d_R_find_145 rfl (lv_at hl 0 rfl) ?_
              refine mr_get F w (kin in_R) 0 (by decide) rfl rfl 17 (by decide) (kws_in m_545) (fun _ h => h) rfl d_R_find_146 ?_
              refine nr_as (k := h) (eh) ?_
              refine lv_iconst (v := nI 1) hx hb d_R_find_149 (by decide) ?_
              refine nr_iadd hx hb d_R_find_150 ?_
              refine lv_bipush (v := nI 8) hx hb d_R_find_151 (by decide) ?_
              refine nr_irem hx hb d_R_find_153 (by omega) (by omega) (by omega) ?_
              refine mr_put F w (kin in_R) t_R t_R_ok n_R 0 (by decide) rfl rfl 17 (by decide) (kws_in m_545) (fun _ h => h) rfl rfl rfl (Nat.le_of_ble_eq_true rfl) rfl d_R_find_154 (fun H locs w => ?_)
              refine lv_goto (tgt := 82) hx hb d_R_find_157 (by decide) ?_
              exact ih ((h + 1) % 8) (mup (mup τ 10 h (nI 1)) 0 17 (nI ((h + 1) % 8))) hF hS9 (Nat.mod_lt _ (by decide)) rfl (by first | contradiction | (have h9 := hst; simp only [qStops, qStep, if_neg c1, if_neg c4, if_neg c11, if_neg c12] at h9; exact h9)) (fun g9 hg9 hc9 => hok g9 hg9 hc9) (by first | contradiction | (rw [← hk]; simp only [qWh, qStep, if_neg c1, if_neg c4, if_neg c11, if_neg c12])) _ _ ls w (lv_sub hl [0] rfl)
  have loopS : ∀ (n : Nat) (f : Nat) (b : Int32) (hF : qFreeA σ < 0) (hn : f + n = 8) (hk : qSome σ n f b = qSome σ 8 0 (nI 0)) (H : Heap) (locs : List Loc) (ls : Array Slot), mW D clP (tyP cI cF cZ cJ) 12 (eR cI cZ ad) ad σ s A s.heap H locs → lv_has ls 4 [(3, .int (nI f)), (2, .int b), (0, .ref (ad 0))] → W p l e { frames := 5, cells := 0, slots := 0, locals := 135 } s m args below meth c H locs 0 0 (MQ below (va_Qi (fun r σ' => r = (qFind σ).1 ∧ σ' = (qFind σ).2) (KB D clP (tyP cI cF cZ cJ) 12 (eR cI cZ ad) ad) A) args s 0 0 A) (F0 m 45 ls []) := by
    intro n
    induction n with
    | zero =>
      intro f b hF hn hk H locs ls w hl
      rw [show b = qSome σ 8 0 (nI 0) from hk] at hl
      refine lv_iload_n hx hb d_R_find_45 rfl (lv_at hl 0 rfl) ?_
      refine lv_bipush (v := nI 8) hx hb d_R_find_46 (by decide) ?_
      refine nr_icmp_ge (tgt := 76) hx hb d_R_find_48 (by decide) (by omega) (by omega) (fun c13 => ?_) (fun c13 => absurd (by omega) c13)
      refine lv_iload_n hx hb d_R_find_76 rfl (lv_at hl 1 rfl) ?_
      refine lv_if_ne (tgt := 82) hx hb d_R_find_77 (by decide) (fun c14 => ?_) (fun c14 => ?_)
      · exact loopW 17 _ _ hF c14 hh0.1 hh0.2 (hst0 c14) hok0 (by unfold qFind; rw [if_pos hF, if_neg c14]) _ _ ls w (lv_sub hl [2] rfl)
      · refine lv_iconst (v := -1) hx hb d_R_find_80 (by decide) ?_
        exact mr_iret F w hr hlk (by unfold qFind; rw [if_pos hF, if_pos c14]; exact ⟨rfl, rfl⟩) d_R_find_81
    | succ n ih =>
      intro f b hF hn hk H locs ls w hl
      refine lv_iload_n hx hb d_R_find_45 rfl (lv_at hl 0 rfl) ?_
      refine lv_bipush (v := nI 8) hx hb d_R_find_46 (by decide) ?_
      refine nr_icmp_ge (tgt := 76) hx hb d_R_find_48 (by decide) (by omega) (by omega) (fun c15 => absurd c15 (by omega)) (fun c15 => ?_)
      refine lv_iload_n hx hb d_R_find_51 rfl (lv_at hl 1 rfl) ?_
      refine lv_if_ne (tgt := 64) hx hb d_R_find_52 (by decide) (fun c16 => ?_) (fun c16 => ?_)
      · refine lv_iconst (v := nI 1) hx hb d_R_find_64 (by decide) ?_
        refine lv_goto (tgt := 69) hx hb d_R_find_65 (by decide) ?_
        refine lv_istore_n (lv' := [(2, .int (nI 1)), (3, .int (nI f)), (0, .ref (ad 0))]) hx hb d_R_find_69 rfl hl (by decide) rfl (fun ls hl => ?_)
        refine lv_iinc (v := nI (f + 1)) (lv' := [(3, .int (nI (f + 1))), (2, .int (nI 1)), (0, .ref (ad 0))]) hx hb d_R_find_70 hl (k := 1) rfl (nI_1 _) (by decide) rfl (fun ls hl => ?_)
        refine lv_goto (tgt := 45) hx hb d_R_find_73 (by decide) ?_
        exact ih (f + 1) (nI 1) hF (by omega) (by rw [← hk]; simp only [qSome, if_neg c16]) _ _ ls w (lv_sub hl [0, 1, 2] rfl)
      · refine lv_aload_n hx hb d_R_find_55 rfl (lv_at hl 2 rfl) ?_
        refine mr_get F w (kin in_R) 0 (by decide) rfl rfl 14 (by decide) (kws_in m_542) (fun _ h => h) rfl d_R_find_56 ?_
        refine lv_iload_n hx hb d_R_find_59 rfl (lv_at hl 0 rfl) ?_
        refine mr_iaN F w 9 0 (by decide) rfl rfl f (by omega) (by decide) rfl d_R_find_60 ?_
        refine lv_if_ne (tgt := 68) hx hb d_R_find_61 (by decide) (fun c17 => ?_) (fun c17 => ?_)
        · refine lv_iconst (v := nI 0) hx hb d_R_find_68 (by decide) ?_
          refine lv_istore_n (lv' := [(2, .int (nI 0)), (3, .int (nI f)), (0, .ref (ad 0))]) hx hb d_R_find_69 rfl hl (by decide) rfl (fun ls hl => ?_)
          refine lv_iinc (v := nI (f + 1)) (lv' := [(3, .int (nI (f + 1))), (2, .int (nI 0)), (0, .ref (ad 0))]) hx hb d_R_find_70 hl (k := 1) rfl (nI_1 _) (by decide) rfl (fun ls hl => ?_)
          refine lv_goto (tgt := 45) hx hb d_R_find_73 (by decide) ?_
          exact ih (f + 1) (nI 0) hF (by omega) (by rw [← hk]; simp only [qSome, if_pos c16, if_neg c17]) _ _ ls w (lv_sub hl [0, 1, 2] rfl)
        · refine lv_iconst (v := nI 1) hx hb d_R_find_64 (by decide) ?_
          refine lv_goto (tgt := 69) hx hb d_R_find_65 (by decide) ?_
          refine lv_istore_n (lv' := [(2, .int (nI 1)), (3, .int (nI f)), (0, .ref (ad 0))]) hx hb d_R_find_69 rfl hl (by decide) rfl (fun ls hl => ?_)
          refine lv_iinc (v := nI (f + 1)) (lv' := [(3, .int (nI (f + 1))), (2, .int (nI 1)), (0, .ref (ad 0))]) hx hb d_R_find_70 hl (k := 1) rfl (nI_1 _) (by decide) rfl (fun ls hl => ?_)
          refine lv_goto (tgt := 45) hx hb d_R_find_73 (by decide) ?_
          exact ih (f + 1) (nI 1) hF (by omega) (by rw [← hk]; simp only [qSome, if_pos c16, if_pos c17]) _ _ ls w (lv_sub hl [0, 1, 2] rfl)
  have loopF : ∀ (n : Nat) (x : Int32) (hn : n < 9) (hk : qFree σ n x = qFreeA σ) (H : Heap) (locs : List Loc) (ls : Array Slot), mW D clP (tyP cI cF cZ cJ) 12 (eR cI cZ ad) ad σ s A s.heap H locs → lv_has ls 4 [(2, .int (nI n + (-1))), (1, .int x), (0, .ref (ad 0))] → W p l e { frames := 5, cells := 0, slots := 0, locals := 135 } s m args below meth c H locs 0 0 (MQ below (va_Qi (fun r σ' => r = (qFind σ).1 ∧ σ' = (qFind σ).2) (KB D clP (tyP cI cF cZ cJ) 12 (eR cI cZ ad) ad) A) args s 0 0 A) (F0 m 9 ls []) := by
    intro n
    induction n with
    | zero =>
      intro x hn hk H locs ls w hl
      rw [show x = qFreeA σ from hk] at hl
      refine lv_iload_n hx hb d_R_find_9 rfl (lv_at hl 0 rfl) ?_
      refine lv_if_lt (tgt := 35) hx hb d_R_find_10 (by decide) (fun c18 => ?_) (fun c18 => absurd (by decide) c18)
      refine lv_iload_n hx hb d_R_find_35 rfl (lv_at hl 1 rfl) ?_
      refine lv_if_lt (tgt := 41) hx hb d_R_find_36 (by decide) (fun c19 => ?_) (fun c19 => ?_)
      · refine lv_iconst (v := nI 0) hx hb d_R_find_41 (by decide) ?_
        refine lv_istore_n (lv' := [(2, .int (nI 0)), (1, .int (qFreeA σ)), (0, .ref (ad 0))]) hx hb d_R_find_42 rfl hl (by decide) rfl (fun ls hl => ?_)
        refine lv_iconst (v := nI 0) hx hb d_R_find_43 (by decide) ?_
        refine lv_istore_n (lv' := [(3, .int (nI 0)), (2, .int (nI 0)), (1, .int (qFreeA σ)), (0, .ref (ad 0))]) hx hb d_R_find_44 rfl hl (by decide) rfl (fun ls hl => ?_)
        exact loopS 8 0 (nI 0) c19 rfl rfl _ _ ls w (lv_sub hl [0, 1, 3] rfl)
      · refine lv_iload_n hx hb d_R_find_39 rfl (lv_at hl 1 rfl) ?_
        exact mr_iret F w hr hlk (by unfold qFind; rw [if_neg c19]; exact ⟨rfl, rfl⟩) d_R_find_40
    | succ n ih =>
      intro x hn hk H locs ls w hl
      rw [show nI (n + 1) + (-1) = nI n from pk_m1 n] at hl
      refine lv_iload_n hx hb d_R_find_9 rfl (lv_at hl 0 rfl) ?_
      refine lv_if_lt (tgt := 35) hx hb d_R_find_10 (by decide) (fun c20 => absurd c20 (nI_pos (by omega))) (fun c20 => ?_)
      refine lv_aload_n hx hb d_R_find_13 rfl (lv_at hl 2 rfl) ?_
      refine mr_get F w (kin in_R) 0 (by decide) rfl rfl 13 (by decide) (kws_in m_541) (fun _ h => h) rfl d_R_find_14 ?_
      refine lv_iload_n hx hb d_R_find_17 rfl (lv_at hl 0 rfl) ?_
      refine mr_iaN F w 8 0 (by decide) rfl rfl n (by omega) (by decide) rfl d_R_find_18 ?_
      refine lv_iconst (v := -1) hx hb d_R_find_19 (by decide) ?_
      refine lv_icmp_ne (tgt := 27) hx hb d_R_find_20 (by decide) (fun c21 => ?_) (fun c21 => ?_)
      · refine lv_iload_n hx hb d_R_find_27 rfl (lv_at hl 1 rfl) ?_
        refine lv_istore_n (lv' := [(1, .int x), (2, .int (nI n)), (0, .ref (ad 0))]) hx hb d_R_find_28 rfl hl (by decide) rfl (fun ls hl => ?_)
        refine lv_iinc (v := nI n + (-1)) (lv' := [(2, .int (nI n + (-1))), (1, .int x), (0, .ref (ad 0))]) hx hb d_R_find_29 hl (k := 1) rfl rfl (by decide) rfl (fun ls hl => ?_)
        refine lv_goto (tgt := 9) hx hb d_R_find_32 (by decide) ?_
        exact ih x (by omega) (by rw [← hk]; simp only [qFree, if_neg c21]) _ _ ls w (lv_sub hl [0, 1, 2] rfl)
      · refine lv_iload_n hx hb d_R_find_23 rfl (lv_at hl 0 rfl) ?_
        refine lv_goto (tgt := 28) hx hb d_R_find_24 (by decide) ?_
        refine lv_istore_n (lv' := [(1, .int (nI n)), (2, .int (nI n)), (0, .ref (ad 0))]) hx hb d_R_find_28 rfl hl (by decide) rfl (fun ls hl => ?_)
        refine lv_iinc (v := nI n + (-1)) (lv' := [(2, .int (nI n + (-1))), (1, .int (nI n)), (0, .ref (ad 0))]) hx hb d_R_find_29 hl (k := 1) rfl rfl (by decide) rfl (fun ls hl => ?_)
        refine lv_goto (tgt := 9) hx hb d_R_find_32 (by decide) ?_
        exact ih (nI n) (by omega) (by rw [← hk]; simp only [qFree, if_pos c21]) _ _ ls w (lv_sub hl [0, 1, 2] rfl)
  refine lv_aload_n hx hb d_R_find_0 rfl (lv_at hl 0 rfl) ?_
  refine lv_iconst (v := -1) hx hb d_R_find_1 (by decide) ?_
  refine mr_callVi (As := [.int ((-1))]) F w hl.1 (c_R_frameWith σ ((-1))) (cwV 1 hts g_R_find_2 rfl rfl rfl (by decide +kernel) ⟨Nat.le_of_ble_eq_true rfl, Nat.le_of_ble_eq_true rfl⟩) rfl (by decide) rfl rfl rfl (Nat.le_of_ble_eq_true rfl) d_R_find_2 ⟨Nat.zero_le _, Nat.zero_le _⟩ (fun r22 σ23 H locs e24 w => ?_)
  obtain ⟨rfl, hs9⟩ := e24
  rw [hs9] at w
  clear hs9
  refine lv_istore_n (lv' := [(1, .int (qFw σ ((-1)) 8 0 (-1))), (0, .ref (ad 0))]) hx hb d_R_find_5 rfl hl (by decide) rfl (fun ls hl => ?_)
  refine lv_bipush (v := nI 7) hx hb d_R_find_6 (by decide) ?_
  refine lv_istore_n (lv' := [(2, .int (nI 7)), (1, .int (qFw σ ((-1)) 8 0 (-1))), (0, .ref (ad 0))]) hx hb d_R_find_8 rfl hl (by decide) rfl (fun ls hl => ?_)
  rw [show nI 7 = nI 8 + (-1) from rfl] at hl
  exact loopF 8 _ (by decide) rfl _ _ ls w (lv_sub hl [0, 1, 2] rfl)
theorem qFree_in (σ : Mem) : ∀ (n : Nat) (x : Int32), n ≤ 8 → fr8 x → fr8 (qFree σ n x)
  | 0, _, _, h => h
  | n + 1, x, hn, h => by
    unfold qFree
    split
    · exact qFree_in σ n _ (by omega) (fr8_nI (by omega))
    · exact qFree_in σ n _ (by omega) h
theorem qWh_lt : ∀ (n h : Nat) (τ : Mem), h < 8 → (qWh n h τ).1 < 8
  | 0, _, _, hh => hh
  | n + 1, h, τ, hh => by
    unfold qWh
    split
    · exact qWh_lt n _ _ (Nat.mod_lt _ (by decide))
    · split
      · exact hh
      · exact qWh_lt n _ _ (Nat.mod_lt _ (by decide))
theorem qFin_in {x : Nat × Mem} (h : x.1 < 8) : fr8 (qFin x).1 := by
  unfold qFin
  refine pi_fr (fun _ => pi_fr (fun _ => fr8_nI h) (fun _ => fr8_m1)) (fun _ => pi_fr (fun _ => fr8_nI h) (fun _ => fr8_m1))
theorem qFind_in {σ : Mem} (hh : nat0 8 (σ 0 17)) : fr8 (qFind σ).1 := by
  unfold qFind
  refine pi_fr (fun _ => pi_fr (fun _ => fr8_m1) (fun _ => qFin_in (qWh_lt _ _ _ hh.1))) (fun _ => ?_)
  exact qFree_in σ 8 _ (by decide) (qFw_in σ (-1) 8 0 (-1) (by decide) fr8_m1)
def qCp (f pg : Nat) : Nat → Nat → Mem → Mem
  | 0, _, τ => τ
  | n + 1, i, τ => qCp f pg n (i + 1) (mup τ 7 (64 * f + i) (τ 1 (64 * pg + i)))
def qTail (τ : Mem) (f : Nat) : Int32 × Mem := (nI f, mup (mup τ 9 f (τ 9 f + nI 1)) 10 f (nI 1))
def qFix (σ : Mem) (pg : Nat) : Int32 × Mem :=
  if qFw σ (nI pg) 8 0 (-1) = -1 then (if (qFind σ).1 = -1 then (-1, (qFind σ).2) else qTail (qCp (qFind σ).1.toNatClampNeg pg 64 0 (mup (mup (qFind σ).2 8 (qFind σ).1.toNatClampNeg (nI pg)) 11 (qFind σ).1.toNatClampNeg (-1))) (qFind σ).1.toNatClampNeg)
  else qTail σ (qFw σ (nI pg) 8 0 (-1)).toNatClampNeg
set_option maxHeartbeats 4000000 in
set_option maxRecDepth 100000 in
theorem c_R_fixPage (σ : Mem) (pg : Nat) (hpg : pg < 256) (hh0 : nat0 8 (σ 0 17)) (hok0 : rOK σ) (hst0 : ¬ qSome σ 8 0 (nI 0) = 0 → qStops 17 (σ 0 17).toNatClampNeg σ) : KIR l D cI cF cZ cJ ad y_R_fixPage b_R_fixPage 4 (some .int) 6 165 [.ref (ad 0), .int (nI pg)] σ (fun r σ' => r = (qFix σ pg).1 ∧ σ' = (qFix σ pg).2) := by
  refine KI.of (by decide) (Nat.le_of_ble_eq_true rfl) ?_
  intro p e s m args below meth c A ls F w hl hr hlk
  obtain ⟨hx, hb, hml, hown, hts⟩ := id F
  have hl : lv_has ls 4 [(0, .ref (ad 0)), (1, .int (nI pg))] := hl
  have loopC : ∀ (n : Nat) (f i : Nat) (τ : Mem) (hf : f < 8) (hn : i + n = 64) (hk : qTail (qCp f pg n i τ) f = qFix σ pg) (H : Heap) (locs : List Loc) (ls : Array Slot), mW D clP (tyP cI cF cZ cJ) 12 (eR cI cZ ad) ad τ s A s.heap H locs → lv_has ls 4 [(3, .int (nI i)), (2, .int (nI f)), (0, .ref (ad 0)), (1, .int (nI pg))] → W p l e { frames := 6, cells := 0, slots := 0, locals := 165 } s m args below meth c H locs 0 0 (MQ below (va_Qi (fun r σ' => r = (qFix σ pg).1 ∧ σ' = (qFix σ pg).2) (KB D clP (tyP cI cF cZ cJ) 12 (eR cI cZ ad) ad) A) args s 0 0 A) (F0 m 37 ls []) := by
    intro n
    induction n with
    | zero =>
      intro f i τ hf hn hk H locs ls w hl
      refine lv_iload_n hx hb d_R_fixPage_37 rfl (lv_at hl 0 rfl) ?_
      refine lv_bipush (v := nI 64) hx hb d_R_fixPage_38 (by decide) ?_
      refine nr_icmp_ge (tgt := 71) hx hb d_R_fixPage_40 (by decide) (by omega) (by omega) (fun c1 => ?_) (fun c1 => absurd (by omega) c1)
      refine lv_aload_n hx hb d_R_fixPage_71 rfl (lv_at hl 2 rfl) ?_
      refine mr_get F w (kin in_R) 0 (by decide) rfl rfl 14 (by decide) (kws_in m_542) (fun _ h => h) rfl d_R_fixPage_72 ?_
      refine lv_iload_n hx hb d_R_fixPage_75 rfl (lv_at hl 1 rfl) ?_
      refine lv_dup2_11 hx hb d_R_fixPage_76 rfl rfl ?_
      refine mr_iaN F w 9 0 (by decide) rfl rfl f (by omega) (by decide) rfl d_R_fixPage_77 ?_
      refine lv_iconst (v := nI 1) hx hb d_R_fixPage_78 (by decide) ?_
      refine lv_iadd hx hb d_R_fixPage_79 ?_
      refine mr_isN F w 9 0 (by decide) (fun _ => rfl) rfl f (by omega) (by decide) rfl d_R_fixPage_80 (fun H locs w => ?_)
      refine lv_aload_n hx hb d_R_fixPage_81 rfl (lv_at hl 2 rfl) ?_
      refine mr_get F w (kin in_R) 0 (by decide) rfl rfl 15 (by decide) (kws_in m_543) (fun _ h => h) rfl d_R_fixPage_82 ?_
      refine lv_iload_n hx hb d_R_fixPage_85 rfl (lv_at hl 1 rfl) ?_
      refine lv_iconst (v := nI 1) hx hb d_R_fixPage_86 (by decide) ?_
      refine mr_bsN F w 10 2 (by decide) (fun _ => rfl) rfl f (by omega) (by decide) rfl (Or.inr rfl) d_R_fixPage_87 (fun H locs w => ?_)
      refine lv_iload_n hx hb d_R_fixPage_88 rfl (lv_at hl 1 rfl) ?_
      exact mr_iret F w hr hlk (by rw [← hk]; exact ⟨rfl, rfl⟩) d_R_fixPage_89
    | succ n ih =>
      intro f i τ hf hn hk H locs ls w hl
      refine lv_iload_n hx hb d_R_fixPage_37 rfl (lv_at hl 0 rfl) ?_
      refine lv_bipush (v := nI 64) hx hb d_R_fixPage_38 (by decide) ?_
      refine nr_icmp_ge (tgt := 71) hx hb d_R_fixPage_40 (by decide) (by omega) (by omega) (fun c2 => absurd c2 (by omega)) (fun c2 => ?_)
      refine lv_aload_n hx hb d_R_fixPage_43 rfl (lv_at hl 2 rfl) ?_
      refine mr_get F w (kin in_R) 0 (by decide) rfl rfl 12 (by decide) (kws_in m_540) (fun _ h => h) rfl d_R_fixPage_44 ?_
      refine lv_bipush (v := nI 64) hx hb d_R_fixPage_47 (by decide) ?_
      refine lv_iload_n hx hb d_R_fixPage_49 rfl (lv_at hl 1 rfl) ?_
      refine nr_imul hx hb d_R_fixPage_50 ?_
      refine lv_iload_n hx hb d_R_fixPage_51 rfl (lv_at hl 0 rfl) ?_
      refine nr_iadd hx hb d_R_fixPage_52 ?_
      refine lv_aload_n hx hb d_R_fixPage_53 rfl (lv_at hl 2 rfl) ?_
      refine mr_get F w (kin in_R) 0 (by decide) rfl rfl 1 (by decide) (kws_in m_529) (fun _ h => h) rfl d_R_fixPage_54 ?_
      refine lv_bipush (v := nI 64) hx hb d_R_fixPage_57 (by decide) ?_
      refine lv_iload_n hx hb d_R_fixPage_59 rfl (lv_at hl 3 rfl) ?_
      refine nr_imul hx hb d_R_fixPage_60 ?_
      refine lv_iload_n hx hb d_R_fixPage_61 rfl (lv_at hl 0 rfl) ?_
      refine nr_iadd hx hb d_R_fixPage_62 ?_
      refine mr_iaN F w 1 0 (by decide) rfl rfl ((64 * pg) + i) (by omega) (by decide) rfl d_R_fixPage_63 ?_
      refine mr_isN F w 7 0 (by decide) (fun _ => rfl) rfl ((64 * f) + i) (by omega) (by decide) rfl d_R_fixPage_64 (fun H locs w => ?_)
      refine lv_iinc (v := nI (i + 1)) (lv' := [(3, .int (nI (i + 1))), (2, .int (nI f)), (0, .ref (ad 0)), (1, .int (nI pg))]) hx hb d_R_fixPage_65 hl (k := 0) rfl (nI_1 _) (by decide) rfl (fun ls hl => ?_)
      refine lv_goto (tgt := 37) hx hb d_R_fixPage_68 (by decide) ?_
      exact ih f (i + 1) _ hf (by omega) (by rw [← hk]; rfl) _ _ ls w (lv_sub hl [0, 1, 2, 3] rfl)
  refine lv_aload_n hx hb d_R_fixPage_0 rfl (lv_at hl 0 rfl) ?_
  refine lv_iload_n hx hb d_R_fixPage_1 rfl (lv_at hl 1 rfl) ?_
  refine mr_callVi (As := [.int (nI pg)]) F w hl.1 (c_R_frameWith σ (nI pg)) (cwV 1 hts g_R_fixPage_2 rfl rfl rfl (by decide +kernel) ⟨Nat.le_of_ble_eq_true rfl, Nat.le_of_ble_eq_true rfl⟩) rfl (by decide) rfl rfl rfl (Nat.le_of_ble_eq_true rfl) d_R_fixPage_2 ⟨Nat.zero_le _, Nat.zero_le _⟩ (fun r3 σ4 H locs e5 w => ?_)
  have e5_r := e5.1.symm
  have hs9 := e5.2
  rw [hs9] at w
  clear hs9 e5
  rcases Classical.em (r3 = -1) with c6 | c6
  · rw [c6]
    refine lv_istore_n (lv' := [(2, .int ((-1))), (0, .ref (ad 0)), (1, .int (nI pg))]) hx hb d_R_fixPage_5 rfl hl (by decide) rfl (fun ls hl => ?_)
    refine lv_iload_n hx hb d_R_fixPage_6 rfl (lv_at hl 0 rfl) ?_
    refine lv_if_ge (tgt := 71) hx hb d_R_fixPage_7 (by decide) (fun c8 => absurd c8 (by decide)) (fun _ => ?_)
    refine lv_aload_n hx hb d_R_fixPage_10 rfl (lv_at hl 1 rfl) ?_
    refine mr_callVi (As := []) F w hl.1 (c_R_find σ hh0 hok0 hst0) (cwV 0 hts g_R_fixPage_11 rfl rfl rfl (by decide +kernel) ⟨Nat.le_of_ble_eq_true rfl, Nat.le_of_ble_eq_true rfl⟩) rfl (by decide) rfl rfl rfl (Nat.le_of_ble_eq_true rfl) d_R_fixPage_11 ⟨Nat.zero_le _, Nat.zero_le _⟩ (fun r9 σ10 H locs e11 w => ?_)
    have e11_r := e11.1.symm
    have e11_s := e11.2.symm
    clear e11
    rcases Classical.em (r9 = -1) with c12 | c12
    · rw [c12]
      refine lv_istore_n (lv' := [(2, .int ((-1))), (0, .ref (ad 0)), (1, .int (nI pg))]) hx hb d_R_fixPage_14 rfl hl (by decide) rfl (fun ls hl => ?_)
      refine lv_iload_n hx hb d_R_fixPage_15 rfl (lv_at hl 0 rfl) ?_
      refine lv_if_ge (tgt := 21) hx hb d_R_fixPage_16 (by decide) (fun c14 => absurd c14 (by decide)) (fun _ => ?_)
      refine lv_iconst (v := -1) hx hb d_R_fixPage_19 (by decide) ?_
      exact mr_iret F w hr hlk (by subst e5_r e11_r e11_s; unfold qFix; rw [if_pos c6, if_pos c12]; exact ⟨rfl, rfl⟩) d_R_fixPage_20
    · have hb13 : r9.toNatClampNeg < 8 := (fr8_in (by rw [← e11_r]; exact (qFind_in hh0)) c12).1
      rw [(fr8_in (R := r9) (by rw [← e11_r]; exact (qFind_in hh0)) c12).2]
      refine lv_istore_n (lv' := [(2, .int (nI r9.toNatClampNeg)), (0, .ref (ad 0)), (1, .int (nI pg))]) hx hb d_R_fixPage_14 rfl hl (by decide) rfl (fun ls hl => ?_)
      refine lv_iload_n hx hb d_R_fixPage_15 rfl (lv_at hl 0 rfl) ?_
      refine lv_if_ge (tgt := 21) hx hb d_R_fixPage_16 (by decide) (fun _ => ?_) (fun c15 => absurd (nI_pos' (by omega)) c15)
      refine lv_aload_n hx hb d_R_fixPage_21 rfl (lv_at hl 1 rfl) ?_
      refine mr_get F w (kin in_R) 0 (by decide) rfl rfl 13 (by decide) (kws_in m_541) (fun _ h => h) rfl d_R_fixPage_22 ?_
      refine lv_iload_n hx hb d_R_fixPage_25 rfl (lv_at hl 0 rfl) ?_
      refine lv_iload_n hx hb d_R_fixPage_26 rfl (lv_at hl 2 rfl) ?_
      refine mr_isN F w 8 0 (by decide) (fun _ => rfl) rfl r9.toNatClampNeg (by omega) (by decide) rfl d_R_fixPage_27 (fun H locs w => ?_)
      refine lv_aload_n hx hb d_R_fixPage_28 rfl (lv_at hl 1 rfl) ?_
      refine mr_get F w (kin in_R) 0 (by decide) rfl rfl 16 (by decide) (kws_in m_544) (fun _ h => h) rfl d_R_fixPage_29 ?_
      refine lv_iload_n hx hb d_R_fixPage_32 rfl (lv_at hl 0 rfl) ?_
      refine lv_iconst (v := -1) hx hb d_R_fixPage_33 (by decide) ?_
      refine mr_isN F w 11 0 (by decide) (fun _ => rfl) rfl r9.toNatClampNeg (by omega) (by decide) rfl d_R_fixPage_34 (fun H locs w => ?_)
      refine lv_iconst (v := nI 0) hx hb d_R_fixPage_35 (by decide) ?_
      refine lv_istore_n (lv' := [(3, .int (nI 0)), (2, .int (nI r9.toNatClampNeg)), (0, .ref (ad 0)), (1, .int (nI pg))]) hx hb d_R_fixPage_36 rfl hl (by decide) rfl (fun ls hl => ?_)
      exact loopC 64 _ 0 _ hb13 rfl (by subst e5_r e11_r e11_s; unfold qFix; rw [if_pos c6, if_neg c12]) _ _ ls w (lv_sub hl [0, 1, 2, 3] rfl)
  · have hb7 : r3.toNatClampNeg < 8 := (fr8_in (by rw [← e5_r]; exact (qFw_in σ (nI pg) 8 0 (-1) (by decide) fr8_m1)) c6).1
    rw [(fr8_in (R := r3) (by rw [← e5_r]; exact (qFw_in σ (nI pg) 8 0 (-1) (by decide) fr8_m1)) c6).2]
    refine lv_istore_n (lv' := [(2, .int (nI r3.toNatClampNeg)), (0, .ref (ad 0)), (1, .int (nI pg))]) hx hb d_R_fixPage_5 rfl hl (by decide) rfl (fun ls hl => ?_)
    refine lv_iload_n hx hb d_R_fixPage_6 rfl (lv_at hl 0 rfl) ?_
    refine lv_if_ge (tgt := 71) hx hb d_R_fixPage_7 (by decide) (fun _ => ?_) (fun c16 => absurd (nI_pos' (by omega)) c16)
    refine lv_aload_n hx hb d_R_fixPage_71 rfl (lv_at hl 1 rfl) ?_
    refine mr_get F w (kin in_R) 0 (by decide) rfl rfl 14 (by decide) (kws_in m_542) (fun _ h => h) rfl d_R_fixPage_72 ?_
    refine lv_iload_n hx hb d_R_fixPage_75 rfl (lv_at hl 0 rfl) ?_
    refine lv_dup2_11 hx hb d_R_fixPage_76 rfl rfl ?_
    refine mr_iaN F w 9 0 (by decide) rfl rfl r3.toNatClampNeg (by omega) (by decide) rfl d_R_fixPage_77 ?_
    refine lv_iconst (v := nI 1) hx hb d_R_fixPage_78 (by decide) ?_
    refine lv_iadd hx hb d_R_fixPage_79 ?_
    refine mr_isN F w 9 0 (by decide) (fun _ => rfl) rfl r3.toNatClampNeg (by omega) (by decide) rfl d_R_fixPage_80 (fun H locs w => ?_)
    refine lv_aload_n hx hb d_R_fixPage_81 rfl (lv_at hl 1 rfl) ?_
    refine mr_get F w (kin in_R) 0 (by decide) rfl rfl 15 (by decide) (kws_in m_543) (fun _ h => h) rfl d_R_fixPage_82 ?_
    refine lv_iload_n hx hb d_R_fixPage_85 rfl (lv_at hl 0 rfl) ?_
    refine lv_iconst (v := nI 1) hx hb d_R_fixPage_86 (by decide) ?_
    refine mr_bsN F w 10 2 (by decide) (fun _ => rfl) rfl r3.toNatClampNeg (by omega) (by decide) rfl (Or.inr rfl) d_R_fixPage_87 (fun H locs w => ?_)
    refine lv_iload_n hx hb d_R_fixPage_88 rfl (lv_at hl 0 rfl) ?_
    exact mr_iret F w hr hlk (by subst e5_r; unfold qFix; rw [if_neg c6]; exact ⟨rfl, rfl⟩) d_R_fixPage_89
end
