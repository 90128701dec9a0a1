/-! goRound, mend, writeFrame, takeFrame, pin, doAgain -/
section
variable {l : Launch} {D : va_G} {cI cF cZ cJ : ClassId} {ad : Nat → Nat} {σ : Mem}
set_option maxRecDepth 20000 in
theorem m_107 : Cond.fieldLink "PagePool" 60 "PagePool$Frame" "pins" "I" ∈ gt := gt_in 107 (by decide +kernel) (by decide +kernel)
set_option maxRecDepth 20000 in
theorem m_109 : Cond.fieldLink "PagePool" 97 "PagePool$Frame" "used" "Z" ∈ gt := gt_in 109 (by decide +kernel) (by decide +kernel)
set_option maxRecDepth 20000 in
theorem m_499 : Cond.methodLink "PagePool$Medium" 42 (⟨"PagePool$Medium", "writeOwn", "(I[I)Z"⟩ : MethodName) ∈ gt := gt_in 499 (by decide +kernel) (by decide +kernel)
set_option maxRecDepth 20000 in
theorem m_327 : Cond.code (⟨"PagePool$Medium", "writeOwn", "(I[I)Z"⟩ : MethodName) prog_4_method_4_code 4 (some .boolean) ∈ gt := gt_in 327 (by decide +kernel) (by decide +kernel)
set_option maxRecDepth 20000 in
theorem m_325 : Cond.instanceMethod (⟨"PagePool$Medium", "writeOwn", "(I[I)Z"⟩ : MethodName) ∈ gt := gt_in 325 (by decide +kernel) (by decide +kernel)
set_option maxRecDepth 20000 in
theorem m_326 : Cond.selects "PagePool$Medium" (⟨"PagePool$Medium", "writeOwn", "(I[I)Z"⟩ : MethodName) (⟨"PagePool$Medium", "writeOwn", "(I[I)Z"⟩ : MethodName) ∈ gt := gt_in 326 (by decide +kernel) (by decide +kernel)
set_option maxRecDepth 20000 in
theorem m_3 : Cond.initialized "PagePool$Medium" ∈ gt := gt_in 3 (by decide +kernel) (by decide +kernel)
set_option maxRecDepth 20000 in
theorem m_303 : Cond.methodLink "PagePool" 204 (⟨"PagePool$Frame", "endOfLatest", "()I"⟩ : MethodName) ∈ gt := gt_in 303 (by decide +kernel) (by decide +kernel)
set_option maxRecDepth 20000 in
theorem m_306 : Cond.code (⟨"PagePool$Frame", "endOfLatest", "()I"⟩ : MethodName) prog_3_method_5_code 1 (some .int) ∈ gt := gt_in 306 (by decide +kernel) (by decide +kernel)
set_option maxRecDepth 20000 in
theorem m_304 : Cond.instanceMethod (⟨"PagePool$Frame", "endOfLatest", "()I"⟩ : MethodName) ∈ gt := gt_in 304 (by decide +kernel) (by decide +kernel)
set_option maxRecDepth 20000 in
theorem m_305 : Cond.selects "PagePool$Frame" (⟨"PagePool$Frame", "endOfLatest", "()I"⟩ : MethodName) (⟨"PagePool$Frame", "endOfLatest", "()I"⟩ : MethodName) ∈ gt := gt_in 305 (by decide +kernel) (by decide +kernel)
set_option maxRecDepth 20000 in
theorem m_307 : Cond.methodLink "PagePool" 125 (⟨"PagePool$ChangeLog", "forceTo", "(I)Z"⟩ : MethodName) ∈ gt := gt_in 307 (by decide +kernel) (by decide +kernel)
set_option maxRecDepth 20000 in
theorem m_171 : Cond.methodLink "PagePool" 129 (⟨"PagePool", "loseMemory", "()V"⟩ : MethodName) ∈ gt := gt_in 171 (by decide +kernel) (by decide +kernel)
set_option maxRecDepth 20000 in
theorem m_174 : Cond.code (⟨"PagePool", "loseMemory", "()V"⟩ : MethodName) prog_1_method_33_code 2 none ∈ gt := gt_in 174 (by decide +kernel) (by decide +kernel)
set_option maxRecDepth 20000 in
theorem m_173 : Cond.instanceMethod (⟨"PagePool", "loseMemory", "()V"⟩ : MethodName) ∈ gt := gt_in 173 (by decide +kernel) (by decide +kernel)
set_option maxRecDepth 20000 in
theorem ms_1 : Cond.selects "PagePool" (⟨"PagePool", "loseMemory", "()V"⟩ : MethodName) (⟨"PagePool", "loseMemory", "()V"⟩ : MethodName) ∈ gt := gt_sel 1 (by decide +kernel) (by decide +kernel)
set_option maxRecDepth 20000 in
theorem m_124 : Cond.fieldLink "PagePool" 21 "PagePool" "medium" "LPagePool$Medium;" ∈ gt := gt_in 124 (by decide +kernel) (by decide +kernel)
set_option maxRecDepth 20000 in
theorem m_103 : Cond.fieldLink "PagePool" 93 "PagePool$Frame" "words" "[I" ∈ gt := gt_in 103 (by decide +kernel) (by decide +kernel)
set_option maxRecDepth 20000 in
theorem m_316 : Cond.methodLink "PagePool" 207 (⟨"PagePool$Medium", "writeSpare", "(I[I)Z"⟩ : MethodName) ∈ gt := gt_in 316 (by decide +kernel) (by decide +kernel)
set_option maxRecDepth 20000 in
theorem m_319 : Cond.code (⟨"PagePool$Medium", "writeSpare", "(I[I)Z"⟩ : MethodName) prog_4_method_3_code 4 (some .boolean) ∈ gt := gt_in 319 (by decide +kernel) (by decide +kernel)
set_option maxRecDepth 20000 in
theorem m_317 : Cond.instanceMethod (⟨"PagePool$Medium", "writeSpare", "(I[I)Z"⟩ : MethodName) ∈ gt := gt_in 317 (by decide +kernel) (by decide +kernel)
set_option maxRecDepth 20000 in
theorem m_318 : Cond.selects "PagePool$Medium" (⟨"PagePool$Medium", "writeSpare", "(I[I)Z"⟩ : MethodName) (⟨"PagePool$Medium", "writeSpare", "(I[I)Z"⟩ : MethodName) ∈ gt := gt_in 318 (by decide +kernel) (by decide +kernel)
set_option maxRecDepth 20000 in
theorem m_324 : Cond.methodLink "PagePool" 211 (⟨"PagePool$Medium", "writeOwn", "(I[I)Z"⟩ : MethodName) ∈ gt := gt_in 324 (by decide +kernel) (by decide +kernel)
theorem d_P_goRound_0 : decode b_P_goRound 0 = .ok (.iconst 0, 1) := by decide +kernel
theorem d_P_goRound_1 : decode b_P_goRound 1 = .ok (.istore_n 1, 1) := by decide +kernel
theorem d_P_goRound_2 : decode b_P_goRound 2 = .ok (.iload_n 1, 1) := by decide +kernel
theorem d_P_goRound_3 : decode b_P_goRound 3 = .ok (.bipush 16, 2) := by decide +kernel
theorem d_P_goRound_5 : decode b_P_goRound 5 = .ok (.if_icmp .ge 66, 3) := by decide +kernel
theorem d_P_goRound_8 : decode b_P_goRound 8 = .ok (.aload_n 0, 1) := by decide +kernel
theorem d_P_goRound_9 : decode b_P_goRound 9 = .ok (.getfield 39, 3) := by decide +kernel
theorem d_P_goRound_12 : decode b_P_goRound 12 = .ok (.istore_n 2, 1) := by decide +kernel
theorem d_P_goRound_13 : decode b_P_goRound 13 = .ok (.aload_n 0, 1) := by decide +kernel
theorem d_P_goRound_14 : decode b_P_goRound 14 = .ok (.aload_n 0, 1) := by decide +kernel
theorem d_P_goRound_15 : decode b_P_goRound 15 = .ok (.getfield 39, 3) := by decide +kernel
theorem d_P_goRound_18 : decode b_P_goRound 18 = .ok (.iconst 1, 1) := by decide +kernel
theorem d_P_goRound_19 : decode b_P_goRound 19 = .ok (.iadd, 1) := by decide +kernel
theorem d_P_goRound_20 : decode b_P_goRound 20 = .ok (.bipush 8, 2) := by decide +kernel
theorem d_P_goRound_22 : decode b_P_goRound 22 = .ok (.irem, 1) := by decide +kernel
theorem d_P_goRound_23 : decode b_P_goRound 23 = .ok (.putfield 39, 3) := by decide +kernel
theorem d_P_goRound_26 : decode b_P_goRound 26 = .ok (.aload_n 0, 1) := by decide +kernel
theorem d_P_goRound_27 : decode b_P_goRound 27 = .ok (.getfield 34, 3) := by decide +kernel
theorem d_P_goRound_30 : decode b_P_goRound 30 = .ok (.iload_n 2, 1) := by decide +kernel
theorem d_P_goRound_31 : decode b_P_goRound 31 = .ok (.aaload, 1) := by decide +kernel
theorem d_P_goRound_32 : decode b_P_goRound 32 = .ok (.getfield 60, 3) := by decide +kernel
theorem d_P_goRound_35 : decode b_P_goRound 35 = .ok (.ifCond .le 6, 3) := by decide +kernel
theorem d_P_goRound_38 : decode b_P_goRound 38 = .ok (.goto 27, 3) := by decide +kernel
theorem d_P_goRound_41 : decode b_P_goRound 41 = .ok (.aload_n 0, 1) := by decide +kernel
theorem d_P_goRound_42 : decode b_P_goRound 42 = .ok (.getfield 34, 3) := by decide +kernel
theorem d_P_goRound_45 : decode b_P_goRound 45 = .ok (.iload_n 2, 1) := by decide +kernel
theorem d_P_goRound_46 : decode b_P_goRound 46 = .ok (.aaload, 1) := by decide +kernel
theorem d_P_goRound_47 : decode b_P_goRound 47 = .ok (.getfield 97, 3) := by decide +kernel
theorem d_P_goRound_50 : decode b_P_goRound 50 = .ok (.ifCond .ne 5, 3) := by decide +kernel
theorem d_P_goRound_53 : decode b_P_goRound 53 = .ok (.iload_n 2, 1) := by decide +kernel
theorem d_P_goRound_54 : decode b_P_goRound 54 = .ok (.ireturn, 1) := by decide +kernel
theorem d_P_goRound_55 : decode b_P_goRound 55 = .ok (.aload_n 0, 1) := by decide +kernel
theorem d_P_goRound_56 : decode b_P_goRound 56 = .ok (.getfield 34, 3) := by decide +kernel
theorem d_P_goRound_59 : decode b_P_goRound 59 = .ok (.iload_n 2, 1) := by decide +kernel
theorem d_P_goRound_60 : decode b_P_goRound 60 = .ok (.aaload, 1) := by decide +kernel
theorem d_P_goRound_61 : decode b_P_goRound 61 = .ok (.iconst 0, 1) := by decide +kernel
theorem d_P_goRound_62 : decode b_P_goRound 62 = .ok (.putfield 97, 3) := by decide +kernel
theorem d_P_goRound_65 : decode b_P_goRound 65 = .ok (.iinc 1 1, 3) := by decide +kernel
theorem d_P_goRound_68 : decode b_P_goRound 68 = .ok (.goto (-66), 3) := by decide +kernel
theorem d_P_goRound_71 : decode b_P_goRound 71 = .ok (.iconst (-1), 1) := by decide +kernel
theorem d_P_goRound_72 : decode b_P_goRound 72 = .ok (.ireturn, 1) := by decide +kernel
theorem d_M_mend_0 : decode b_M_mend 0 = .ok (.aload_n 0, 1) := by decide +kernel
theorem d_M_mend_1 : decode b_M_mend 1 = .ok (.getfield 26, 3) := by decide +kernel
theorem d_M_mend_4 : decode b_M_mend 4 = .ok (.ifCond .eq 18, 3) := by decide +kernel
theorem d_M_mend_7 : decode b_M_mend 7 = .ok (.aload_n 0, 1) := by decide +kernel
theorem d_M_mend_8 : decode b_M_mend 8 = .ok (.aload_n 0, 1) := by decide +kernel
theorem d_M_mend_9 : decode b_M_mend 9 = .ok (.getfield 22, 3) := by decide +kernel
theorem d_M_mend_12 : decode b_M_mend 12 = .ok (.aload_n 0, 1) := by decide +kernel
theorem d_M_mend_13 : decode b_M_mend 13 = .ok (.getfield 19, 3) := by decide +kernel
theorem d_M_mend_16 : decode b_M_mend 16 = .ok (.invokevirtual 42, 3) := by decide +kernel
theorem d_M_mend_19 : decode b_M_mend 19 = .ok (.ifCond .eq 7, 3) := by decide +kernel
theorem d_M_mend_22 : decode b_M_mend 22 = .ok (.iconst 1, 1) := by decide +kernel
theorem d_M_mend_23 : decode b_M_mend 23 = .ok (.goto 4, 3) := by decide +kernel
theorem d_M_mend_26 : decode b_M_mend 26 = .ok (.iconst 0, 1) := by decide +kernel
theorem d_M_mend_27 : decode b_M_mend 27 = .ok (.ireturn, 1) := by decide +kernel
set_option maxRecDepth 20000 in
theorem g_M_mend_16 : GoodIn (kws (y_M_mend) b_M_mend 1 (some .boolean)) (wsV R_M 42 R_M y_M_writeOwn (kws (y_M_writeOwn) b_M_writeOwn 4 (some .boolean))) := kwV m_499 m_325 m_326 m_3 m_327
theorem d_P_writeFrame_0 : decode b_P_writeFrame 0 = .ok (.aload_n 0, 1) := by decide +kernel
theorem d_P_writeFrame_1 : decode b_P_writeFrame 1 = .ok (.getfield 28, 3) := by decide +kernel
theorem d_P_writeFrame_4 : decode b_P_writeFrame 4 = .ok (.aload_n 1, 1) := by decide +kernel
theorem d_P_writeFrame_5 : decode b_P_writeFrame 5 = .ok (.invokevirtual 204, 3) := by decide +kernel
theorem d_P_writeFrame_8 : decode b_P_writeFrame 8 = .ok (.invokevirtual 125, 3) := by decide +kernel
theorem d_P_writeFrame_11 : decode b_P_writeFrame 11 = .ok (.ifCond .eq 43, 3) := by decide +kernel
theorem d_P_writeFrame_14 : decode b_P_writeFrame 14 = .ok (.aload_n 0, 1) := by decide +kernel
theorem d_P_writeFrame_15 : decode b_P_writeFrame 15 = .ok (.getfield 21, 3) := by decide +kernel
theorem d_P_writeFrame_18 : decode b_P_writeFrame 18 = .ok (.aload_n 1, 1) := by decide +kernel
theorem d_P_writeFrame_19 : decode b_P_writeFrame 19 = .ok (.getfield 77, 3) := by decide +kernel
theorem d_P_writeFrame_22 : decode b_P_writeFrame 22 = .ok (.aload_n 1, 1) := by decide +kernel
theorem d_P_writeFrame_23 : decode b_P_writeFrame 23 = .ok (.getfield 93, 3) := by decide +kernel
theorem d_P_writeFrame_26 : decode b_P_writeFrame 26 = .ok (.invokevirtual 207, 3) := by decide +kernel
theorem d_P_writeFrame_29 : decode b_P_writeFrame 29 = .ok (.ifCond .eq 25, 3) := by decide +kernel
theorem d_P_writeFrame_32 : decode b_P_writeFrame 32 = .ok (.aload_n 0, 1) := by decide +kernel
theorem d_P_writeFrame_33 : decode b_P_writeFrame 33 = .ok (.getfield 21, 3) := by decide +kernel
theorem d_P_writeFrame_36 : decode b_P_writeFrame 36 = .ok (.aload_n 1, 1) := by decide +kernel
theorem d_P_writeFrame_37 : decode b_P_writeFrame 37 = .ok (.getfield 77, 3) := by decide +kernel
theorem d_P_writeFrame_40 : decode b_P_writeFrame 40 = .ok (.aload_n 1, 1) := by decide +kernel
theorem d_P_writeFrame_41 : decode b_P_writeFrame 41 = .ok (.getfield 93, 3) := by decide +kernel
theorem d_P_writeFrame_44 : decode b_P_writeFrame 44 = .ok (.invokevirtual 211, 3) := by decide +kernel
theorem d_P_writeFrame_47 : decode b_P_writeFrame 47 = .ok (.ifCond .eq 7, 3) := by decide +kernel
theorem d_P_writeFrame_50 : decode b_P_writeFrame 50 = .ok (.iconst 1, 1) := by decide +kernel
theorem d_P_writeFrame_51 : decode b_P_writeFrame 51 = .ok (.goto 4, 3) := by decide +kernel
theorem d_P_writeFrame_54 : decode b_P_writeFrame 54 = .ok (.iconst 0, 1) := by decide +kernel
theorem d_P_writeFrame_55 : decode b_P_writeFrame 55 = .ok (.istore_n 2, 1) := by decide +kernel
theorem d_P_writeFrame_56 : decode b_P_writeFrame 56 = .ok (.iload_n 2, 1) := by decide +kernel
theorem d_P_writeFrame_57 : decode b_P_writeFrame 57 = .ok (.ifCond .ne 9, 3) := by decide +kernel
theorem d_P_writeFrame_60 : decode b_P_writeFrame 60 = .ok (.aload_n 0, 1) := by decide +kernel
theorem d_P_writeFrame_61 : decode b_P_writeFrame 61 = .ok (.invokevirtual 129, 3) := by decide +kernel
theorem d_P_writeFrame_64 : decode b_P_writeFrame 64 = .ok (.iconst 0, 1) := by decide +kernel
theorem d_P_writeFrame_65 : decode b_P_writeFrame 65 = .ok (.ireturn, 1) := by decide +kernel
theorem d_P_writeFrame_66 : decode b_P_writeFrame 66 = .ok (.aload_n 1, 1) := by decide +kernel
theorem d_P_writeFrame_67 : decode b_P_writeFrame 67 = .ok (.iconst (-1), 1) := by decide +kernel
theorem d_P_writeFrame_68 : decode b_P_writeFrame 68 = .ok (.putfield 104, 3) := by decide +kernel
theorem d_P_writeFrame_71 : decode b_P_writeFrame 71 = .ok (.iconst 1, 1) := by decide +kernel
theorem d_P_writeFrame_72 : decode b_P_writeFrame 72 = .ok (.ireturn, 1) := by decide +kernel
set_option maxRecDepth 20000 in
theorem g_P_writeFrame_5 : GoodIn (kws (y_P_writeFrame) b_P_writeFrame 3 (some .boolean)) (wsV R_P 204 R_F y_F_endOfLatest (kws (y_F_endOfLatest) b_F_endOfLatest 1 (some .int))) := kwV m_303 m_304 m_305 m_5 m_306
set_option maxRecDepth 20000 in
theorem g_P_writeFrame_8 : GoodIn (kws (y_P_writeFrame) b_P_writeFrame 3 (some .boolean)) (wsV R_P 125 R_C y_C_forceTo (kws (y_C_forceTo) b_C_forceTo 3 (some .boolean))) := kwV m_307 m_308 m_309 m_4 m_310
set_option maxRecDepth 20000 in
theorem g_P_writeFrame_61 : GoodIn (kws (y_P_writeFrame) b_P_writeFrame 3 (some .boolean)) (wsV R_P 129 R_P y_P_loseMemory (kws (y_P_loseMemory) b_P_loseMemory 2 none)) := kwV m_171 m_173 ms_1 m_1 m_174
set_option maxRecDepth 20000 in
theorem g_P_writeFrame_26 : GoodIn (kws (y_P_writeFrame) b_P_writeFrame 3 (some .boolean)) (wsV R_P 207 R_M y_M_writeSpare (kws (y_M_writeSpare) b_M_writeSpare 4 (some .boolean))) := kwV m_316 m_317 m_318 m_3 m_319
set_option maxRecDepth 20000 in
theorem g_P_writeFrame_44 : GoodIn (kws (y_P_writeFrame) b_P_writeFrame 3 (some .boolean)) (wsV R_P 211 R_M y_M_writeOwn (kws (y_M_writeOwn) b_M_writeOwn 4 (some .boolean))) := kwV m_324 m_325 m_326 m_3 m_327
def kGo : Nat → Nat → Mem → Int32 × Mem
  | 0, _, τ => (-1, τ)
  | n + 1, h, τ => if (mup τ 0 4 (nI ((h + 1) % 8))) (h + 9) 2 ≤ 0 then
      (if (mup τ 0 4 (nI ((h + 1) % 8))) (h + 9) 3 = 0 then (nI h, mup τ 0 4 (nI ((h + 1) % 8))) else kGo n ((h + 1) % 8) (mup (mup τ 0 4 (nI ((h + 1) % 8))) (h + 9) 3 (nI 0)))
      else kGo n ((h + 1) % 8) (mup τ 0 4 (nI ((h + 1) % 8)))
theorem kGo_in : ∀ (n h : Nat) (τ : Mem), h < 8 → fr8 (kGo n h τ).1
  | 0, _, _, _ => Or.inl rfl
  | n + 1, h, τ, hh => by
    unfold kGo
    split
    · split
      · exact fr8_nI hh
      · exact kGo_in n _ _ (Nat.mod_lt _ (by decide))
    · exact kGo_in n _ _ (Nat.mod_lt _ (by decide))
def kRound (σ : Mem) : Int32 × Mem := kGo 16 (σ 0 4).toNatClampNeg σ
/-- a number below N -/
def nat0 (N : Nat) (x : Int32) : Prop := x.toNatClampNeg < N ∧ x = nI x.toNatClampNeg
theorem nat0_nI {N g : Nat} (h : g < N) (hN : N < 2 ^ 31) : nat0 N (nI g) := by
  unfold nat0; rw [nI_clamp (by omega)]; exact ⟨h, rfl⟩
theorem kRound_in {σ : Mem} (hh : nat0 8 (σ 0 4)) : fr8 (kRound σ).1 := kGo_in 16 _ _ hh.1
set_option maxHeartbeats 4000000 in
set_option maxRecDepth 100000 in
theorem c_P_goRound (σ : Mem) (hh0 : nat0 8 (σ 0 4)) : KIP l D cI cF cZ cJ ad y_P_goRound b_P_goRound 3 (some .int) 0 0 [.ref (ad 0)] σ (fun r σ' => r = (kRound σ).1 ∧ σ' = (kRound σ).2) := by
  refine KI.of (by decide) (Nat.le_of_ble_eq_true rfl) ?_
  intro p e s m args below meth c A ls F w hl hr hlk
  obtain ⟨hx, hb, hml, hown, hts⟩ := id F
  have hl : lv_has ls 3 [(0, .ref (ad 0))] := hl
  have loop : ∀ (n : Nat) (f h : Nat) (τ : Mem) (hn : f + n = 16) (hh : h < 8) (eh : τ 0 4 = nI h) (hk : kGo n h τ = kRound σ) (H : Heap) (locs : List Loc) (ls : Array Slot), mW D clP (tyP cI cF cZ cJ) 25 (eP cI cF ad) ad τ s A s.heap H locs → lv_has ls 3 [(1, .int (nI f)), (0, .ref (ad 0))] → W p l e { frames := 0, cells := 0, slots := 0, locals := 0 } s m args below meth c H locs 0 0 (MQ below (va_Qi (fun r σ' => r = (kRound σ).1 ∧ σ' = (kRound σ).2) (KB D clP (tyP cI cF cZ cJ) 25 (eP cI cF ad) ad) A) args s 0 0 A) (F0 m 2 ls []) := by
    intro n
    induction n with
    | zero =>
      intro f h τ hn hh eh hk H locs ls w hl
      refine lv_iload_n hx hb d_P_goRound_2 rfl (lv_at hl 0 rfl) ?_
      refine lv_bipush (v := nI 16) hx hb d_P_goRound_3 (by decide) ?_
      refine nr_icmp_ge (tgt := 71) hx hb d_P_goRound_5 (by decide) (by omega) (by omega) (fun c1 => ?_) (fun c1 => absurd (by omega) c1)
      refine lv_iconst (v := -1) hx hb d_P_goRound_71 (by decide) ?_
      exact mr_iret F w hr hlk (⟨by rw [← hk]; first | rfl | (simp only [kGo]; done) | (simp only [kGo]; rfl), by rw [← hk]; first | rfl | (simp only [kGo]; done) | (simp only [kGo]; rfl)⟩) d_P_goRound_72
    | succ n ih =>
      intro f h τ hn hh eh hk H locs ls w hl
      refine lv_iload_n hx hb d_P_goRound_2 rfl (lv_at hl 0 rfl) ?_
      refine lv_bipush (v := nI 16) hx hb d_P_goRound_3 (by decide) ?_
      refine nr_icmp_ge (tgt := 71) hx hb d_P_goRound_5 (by decide) (by omega) (by omega) (fun c2 => absurd c2 (by omega)) (fun c2 => ?_)
      refine lv_aload_n hx hb d_P_goRound_8 rfl (lv_at hl 1 rfl) ?_
      refine mr_get F w (kin in_P) 0 (by decide) rfl rfl 4 (by decide) (kws_in m_127) (fun _ h => h) rfl d_P_goRound_9 ?_
      rw [show τ 0 4 = nI h from eh]
      refine lv_istore_n (lv' := [(2, .int (nI h)), (1, .int (nI f)), (0, .ref (ad 0))]) hx hb d_P_goRound_12 rfl hl (by decide) rfl (fun ls hl => ?_)
      refine lv_aload_n hx hb d_P_goRound_13 rfl (lv_at hl 2 rfl) ?_
      refine lv_aload_n hx hb d_P_goRound_14 rfl (lv_at hl 2 rfl) ?_
      refine mr_get F w (kin in_P) 0 (by decide) rfl rfl 4 (by decide) (kws_in m_127) (fun _ h => h) rfl d_P_goRound_15 ?_
      rw [show τ 0 4 = nI h from eh]
      refine lv_iconst (v := nI 1) hx hb d_P_goRound_18 (by decide) ?_
      refine nr_iadd hx hb d_P_goRound_19 ?_
      refine lv_bipush (v := nI 8) hx hb d_P_goRound_20 (by decide) ?_
      refine nr_irem hx hb d_P_goRound_22 (by omega) (by omega) (by omega) ?_
      refine mr_put F w (kin in_P) t_P t_P_ok n_P 0 (by decide) rfl rfl 4 (by decide) (kws_in m_127) (fun _ h => h) rfl rfl rfl (Nat.le_of_ble_eq_true rfl) rfl d_P_goRound_23 (fun H locs w => ?_)
      refine lv_aload_n hx hb d_P_goRound_26 rfl (lv_at hl 2 rfl) ?_
      refine mr_get F w (kin in_P) 0 (by decide) rfl rfl 3 (by decide) (kws_in m_126) (fun _ h => h) rfl d_P_goRound_27 ?_
      refine lv_iload_n hx hb d_P_goRound_30 rfl (lv_at hl 0 rfl) ?_
      refine mr_aldq F w 8 1 (by decide) rfl rfl h (by omega) (by decide) rfl rfl d_P_goRound_31 ?_
      refine mr_get F w (kin in_F) (h + 9) (by omega) (eP_F (by omega) _) rfl 2 (by decide) (kws_in m_107) (fun _ h => h) rfl d_P_goRound_32 ?_
      refine lv_if_le (tgt := 41) hx hb d_P_goRound_35 (by decide) (fun c3 => ?_) (fun c3 => ?_)
      · refine lv_aload_n hx hb d_P_goRound_41 rfl (lv_at hl 2 rfl) ?_
        refine mr_get F w (kin in_P) 0 (by decide) rfl rfl 3 (by decide) (kws_in m_126) (fun _ h => h) rfl d_P_goRound_42 ?_
        refine lv_iload_n hx hb d_P_goRound_45 rfl (lv_at hl 0 rfl) ?_
        refine mr_aldq F w 8 1 (by decide) rfl rfl h (by omega) (by decide) rfl rfl d_P_goRound_46 ?_
        refine mr_get F w (kin in_F) (h + 9) (by omega) (eP_F (by omega) _) rfl 3 (by decide) (kws_in m_109) (fun _ h => h) rfl d_P_goRound_47 ?_
        refine lv_if_ne (tgt := 55) hx hb d_P_goRound_50 (by decide) (fun c4 => ?_) (fun c4 => ?_)
        · refine lv_aload_n hx hb d_P_goRound_55 rfl (lv_at hl 2 rfl) ?_
          refine mr_get F w (kin in_P) 0 (by decide) rfl rfl 3 (by decide) (kws_in m_126) (fun _ h => h) rfl d_P_goRound_56 ?_
          refine lv_iload_n hx hb d_P_goRound_59 rfl (lv_at hl 0 rfl) ?_
          refine mr_aldq F w 8 1 (by decide) rfl rfl h (by omega) (by decide) rfl rfl d_P_goRound_60 ?_
          refine lv_iconst (v := nI 0) hx hb d_P_goRound_61 (by decide) ?_
          refine mr_put F w (kin in_F) t_F t_F_ok n_F (h + 9) (by omega) (eP_F (by omega) _) rfl 3 (by decide) (kws_in m_109) (fun _ h => h) rfl rfl rfl (Nat.le_of_ble_eq_true rfl) (eP_F (by omega) _) d_P_goRound_62 (fun H locs w => ?_)
          refine lv_iinc (v := nI (f + 1)) (lv' := [(1, .int (nI (f + 1))), (2, .int (nI h)), (0, .ref (ad 0))]) hx hb d_P_goRound_65 hl (k := 1) rfl (nI_1 _) (by decide) rfl (fun ls hl => ?_)
          refine lv_goto (tgt := 2) hx hb d_P_goRound_68 (by decide) ?_
          exact ih (f + 1) _ _ (by omega) (Nat.mod_lt _ (by decide)) (by first | rfl | (rw [mup_n _ _ _ (by omega)]; rfl)) (by rw [← hk]; simp only [kGo, if_pos c3, if_neg c4]) _ _ ls w (lv_sub hl [0, 2] rfl)
        · refine lv_iload_n hx hb d_P_goRound_53 rfl (lv_at hl 0 rfl) ?_
          exact mr_iret F w hr hlk (⟨by rw [← hk]; first | rfl | (simp only [kGo, if_pos c3, if_pos c4]; done) | (simp only [kGo, if_pos c3, if_pos c4]; rfl), by rw [← hk]; first | rfl | (simp only [kGo, if_pos c3, if_pos c4]; done) | (simp only [kGo, if_pos c3, if_pos c4]; rfl)⟩) d_P_goRound_54
      · refine lv_goto (tgt := 65) hx hb d_P_goRound_38 (by decide) ?_
        refine lv_iinc (v := nI (f + 1)) (lv' := [(1, .int (nI (f + 1))), (2, .int (nI h)), (0, .ref (ad 0))]) hx hb d_P_goRound_65 hl (k := 1) rfl (nI_1 _) (by decide) rfl (fun ls hl => ?_)
        refine lv_goto (tgt := 2) hx hb d_P_goRound_68 (by decide) ?_
        exact ih (f + 1) _ _ (by omega) (Nat.mod_lt _ (by decide)) (by first | rfl | (rw [mup_n _ _ _ (by omega)]; rfl)) (by rw [← hk]; simp only [kGo, if_neg c3]) _ _ ls w (lv_sub hl [0, 2] rfl)
  refine lv_iconst (v := nI 0) hx hb d_P_goRound_0 (by decide) ?_
  refine lv_istore_n (lv' := [(1, .int (nI 0)), (0, .ref (ad 0))]) hx hb d_P_goRound_1 rfl hl (by decide) rfl (fun ls hl => ?_)
  exact loop 16 0 _ _ rfl hh0.1 hh0.2 rfl _ _ ls w (lv_sub hl [0, 1] rfl)
theorem kLW_n (σ : Mem) {i : Nat} (h : i ≠ 1) : (kLW σ).2 i = σ i := by
  unfold kLW kFail
  split
  · simp only [mup_n _ _ _ h]
  · split <;> simp only [mup_n _ _ _ h]
theorem kForce_n : ∀ (n : Nat) (σ : Mem) {i : Nat}, i ≠ 1 → i ≠ 5 → (kForce n σ).2 i = σ i
  | 0, _, _, _, _ => rfl
  | n + 1, σ, i, h1, h5 => by
    unfold kForce
    split
    · exact kLW_n σ h1
    · rw [kForce_n n _ h1 h5, mup_n _ _ _ h5, kLW_n σ h1]
theorem kFT_n (σ : Mem) (x : Int32) {i : Nat} (h1 : i ≠ 1) (h5 : i ≠ 5) : (kFT σ x).2 i = σ i := kForce_n _ σ h1 h5
theorem mcp_n (σ : Mem) (a b c d n : Nat) {i : Nat} (h : i ≠ b) : mcp σ a b c d n i = σ i := mset_n _ _ h
theorem kSpare_n (σ : Mem) (pg : Int32) (j : Nat) {i : Nat} (h1 : i ≠ 1) (h2 : i ≠ 2) (h4 : i ≠ 4) : (kSpare σ pg j).2 i = σ i := by
  unfold kSpare kThen
  split
  · exact kLW_n _ h1
  · dsimp only
    split
    · rw [kLW_n _ h1, mcp_n _ _ _ _ _ _ h4, kLW_n _ h1]
    · split
      · rw [kLW_n _ h1, mcp_n _ _ _ _ _ _ h4, kLW_n _ h1, mcp_n _ _ _ _ _ _ h4, kLW_n _ h1]
      · dsimp only
        rw [mup_n _ _ _ h2, kLW_n _ h1, mcp_n _ _ _ _ _ _ h4, kLW_n _ h1, mcp_n _ _ _ _ _ _ h4, kLW_n _ h1]
theorem kOwn_n (σ : Mem) (pg j : Nat) {i : Nat} (h1 : i ≠ 1) (h2 : i ≠ 2) (h3 : i ≠ 3) : (kOwn σ pg j).2 i = σ i := by
  unfold kOwn kThen
  split
  · exact kLW_n _ h1
  · dsimp only
    split
    · rw [kLW_n _ h1, mup_n _ _ _ h2, mcp_n _ _ _ _ _ _ h3, kLW_n _ h1]
    · dsimp only
      rw [mup_n _ _ _ h2, mcp_n _ _ _ _ _ _ h3, kLW_n _ h1, mup_n _ _ _ h2, mcp_n _ _ _ _ _ _ h3, kLW_n _ h1]
def kMend (σ : Mem)  : Int32 × Mem :=
  if (σ 2 4) = 0 then (nI 1, σ)
  else if ((kOwn σ ((σ 2 3).toNatClampNeg) 4).1) = 0 then (nI 0, ((kOwn σ ((σ 2 3).toNatClampNeg) 4).2))
  else (nI 1, ((kOwn σ ((σ 2 3).toNatClampNeg) 4).2))
set_option maxHeartbeats 4000000 in
set_option maxRecDepth 100000 in
theorem c_M_mend (σ : Mem) (hs : nat0 256 (σ 2 3)) : KIP l D cI cF cZ cJ ad y_M_mend b_M_mend 1 (some .boolean) 3 90 [.ref (ad 2)] σ (fun r σ' => r = (kMend σ).1 ∧ σ' = (kMend σ).2) := by
  refine KI.of (by decide) (Nat.le_of_ble_eq_true rfl) ?_
  intro p e s m args below meth c A ls F w hl hr hlk
  obtain ⟨hx, hb, hml, hown, hts⟩ := id F
  have hl : lv_has ls 1 [(0, .ref (ad 2))] := hl
  refine lv_aload_n hx hb d_M_mend_0 rfl (lv_at hl 0 rfl) ?_
  refine mr_get F w (kin in_M) 2 (by decide) rfl rfl 4 (by decide) (kws_in m_53) (fun _ h => h) rfl d_M_mend_1 ?_
  refine lv_if_eq (tgt := 22) hx hb d_M_mend_4 (by decide) (fun c1 => ?_) (fun c1 => ?_)
  · refine lv_iconst (v := nI 1) hx hb d_M_mend_22 (by decide) ?_
    refine lv_goto (tgt := 27) hx hb d_M_mend_23 (by decide) ?_
    exact mr_zret F w hr hlk (Or.inr rfl) (by unfold kMend; rw [if_pos c1]; exact ⟨rfl, rfl⟩) d_M_mend_27
  · refine lv_aload_n hx hb d_M_mend_7 rfl (lv_at hl 0 rfl) ?_
    refine lv_aload_n hx hb d_M_mend_8 rfl (lv_at hl 0 rfl) ?_
    refine mr_get F w (kin in_M) 2 (by decide) rfl rfl 3 (by decide) (kws_in m_52) (fun _ h => h) rfl d_M_mend_9 ?_
    rw [show σ 2 3 = nI ((σ 2 3).toNatClampNeg) from hs.2]
    refine lv_aload_n hx hb d_M_mend_12 rfl (lv_at hl 0 rfl) ?_
    refine mr_get F w (kin in_M) 2 (by decide) rfl rfl 2 (by decide) (kws_in m_51) (fun _ h => h) rfl d_M_mend_13 ?_
    refine mr_callVi (As := [.int (nI ((σ 2 3).toNatClampNeg)), .ref (ad 4)]) F w hl.1 (c_M_writeOwnS σ ((σ 2 3).toNatClampNeg) hs.1) (cwV 2 hts g_M_mend_16 rfl rfl rfl (by decide +kernel) ⟨Nat.le_of_ble_eq_true rfl, Nat.le_of_ble_eq_true rfl⟩) rfl (by decide) rfl rfl rfl (Nat.le_of_ble_eq_true rfl) d_M_mend_16 ⟨Nat.zero_le _, Nat.zero_le _⟩ (fun r2 σ3 H locs e4 w => ?_)
    have e4_r := e4.1.symm
    have e4_s := e4.2.symm
    clear e4
    refine lv_if_eq (tgt := 26) hx hb d_M_mend_19 (by decide) (fun c5 => ?_) (fun c5 => ?_)
    · refine lv_iconst (v := nI 0) hx hb d_M_mend_26 (by decide) ?_
      exact mr_zret F w hr hlk (Or.inl rfl) (by subst e4_r e4_s; unfold kMend; rw [if_neg c1, if_pos c5]; exact ⟨rfl, rfl⟩) d_M_mend_27
    · refine lv_iconst (v := nI 1) hx hb d_M_mend_22 (by decide) ?_
      refine lv_goto (tgt := 27) hx hb d_M_mend_23 (by decide) ?_
      exact mr_zret F w hr hlk (Or.inr rfl) (by subst e4_r e4_s; unfold kMend; rw [if_neg c1, if_neg c5]; exact ⟨rfl, rfl⟩) d_M_mend_27
def kWF (σ : Mem) (f : Nat) : Int32 × Mem :=
  if ((kFT σ (kEnd σ f)).1) = 0 then (nI 0, (kLose ((kFT σ (kEnd σ f)).2)))
  else if ((kSpare ((kFT σ (kEnd σ f)).2) (((kFT σ (kEnd σ f)).2) (f + 9) 1) (f + 17)).1) = 0 then (nI 0, (kLose ((kSpare ((kFT σ (kEnd σ f)).2) (((kFT σ (kEnd σ f)).2) (f + 9) 1) (f + 17)).2)))
  else if ((kOwn ((kSpare ((kFT σ (kEnd σ f)).2) (((kFT σ (kEnd σ f)).2) (f + 9) 1) (f + 17)).2) ((σ (f + 9) 1).toNatClampNeg) (f + 17)).1) = 0 then (nI 0, (kLose ((kOwn ((kSpare ((kFT σ (kEnd σ f)).2) (((kFT σ (kEnd σ f)).2) (f + 9) 1) (f + 17)).2) ((σ (f + 9) 1).toNatClampNeg) (f + 17)).2)))
  else (nI 1, mup ((kOwn ((kSpare ((kFT σ (kEnd σ f)).2) (((kFT σ (kEnd σ f)).2) (f + 9) 1) (f + 17)).2) ((σ (f + 9) 1).toNatClampNeg) (f + 17)).2) (f + 9) 4 ((-1)))
set_option maxHeartbeats 4000000 in
set_option maxRecDepth 100000 in
theorem c_P_writeFrame (σ : Mem) (f : Nat) (hf : f < 8) (hp : nat0 256 (σ (f + 9) 1)) : KIP l D cI cF cZ cJ ad y_P_writeFrame b_P_writeFrame 3 (some .boolean) 3 90 [.ref (ad 0), .ref (ad (f + 9))] σ (fun r σ' => r = (kWF σ f).1 ∧ σ' = (kWF σ f).2) := by
  refine KI.of (by decide) (Nat.le_of_ble_eq_true rfl) ?_
  intro p e s m args below meth c A ls F w hl hr hlk
  obtain ⟨hx, hb, hml, hown, hts⟩ := id F
  have hl : lv_has ls 3 [(0, .ref (ad 0)), (1, .ref (ad (f + 9)))] := hl
  refine lv_aload_n hx hb d_P_writeFrame_0 rfl (lv_at hl 0 rfl) ?_
  refine mr_get F w (kin in_P) 0 (by decide) rfl rfl 2 (by decide) (kws_in m_125) (fun _ h => h) rfl d_P_writeFrame_1 ?_
  refine lv_aload_n hx hb d_P_writeFrame_4 rfl (lv_at hl 1 rfl) ?_
  refine mr_callVi (As := []) F w hl.1 (c_F_endOfLatest σ f hf) (cwV 0 hts g_P_writeFrame_5 rfl rfl rfl (by decide +kernel) ⟨Nat.le_of_ble_eq_true rfl, Nat.le_of_ble_eq_true rfl⟩) rfl (by omega) (eP_F hf _) rfl rfl (Nat.le_of_ble_eq_true rfl) d_P_writeFrame_5 ⟨Nat.zero_le _, Nat.zero_le _⟩ (fun r1 σ2 H locs e3 w => ?_)
  obtain ⟨rfl, hs9⟩ := e3
  rw [hs9] at w
  clear hs9
  refine mr_callVi (As := [.int (kEnd σ f)]) F w hl.1 (c_C_forceTo σ (kEnd σ f)) (cwV 1 hts g_P_writeFrame_8 rfl rfl rfl (by decide +kernel) ⟨Nat.le_of_ble_eq_true rfl, Nat.le_of_ble_eq_true rfl⟩) rfl (by decide) rfl rfl rfl (Nat.le_of_ble_eq_true rfl) d_P_writeFrame_8 ⟨Nat.zero_le _, Nat.zero_le _⟩ (fun r4 σ5 H locs e6 w => ?_)
  have e6_r := e6.1.symm
  have e6_s := e6.2.symm
  clear e6
  refine lv_if_eq (tgt := 54) hx hb d_P_writeFrame_11 (by decide) (fun c7 => ?_) (fun c7 => ?_)
  · refine lv_iconst (v := nI 0) hx hb d_P_writeFrame_54 (by decide) ?_
    refine lv_istore_n (lv' := [(2, .int (nI 0)), (0, .ref (ad 0)), (1, .ref (ad (f + 9)))]) hx hb d_P_writeFrame_55 rfl hl (by decide) rfl (fun ls hl => ?_)
    refine lv_iload_n hx hb d_P_writeFrame_56 rfl (lv_at hl 0 rfl) ?_
    refine lv_if_ne (tgt := 66) hx hb d_P_writeFrame_57 (by decide) (fun c8 => absurd c8 (by decide)) (fun _ => ?_)
    refine lv_aload_n hx hb d_P_writeFrame_60 rfl (lv_at hl 1 rfl) ?_
    refine mr_callVv (As := []) F w hl.1 (c_P_loseMemory σ5) (cwV 0 hts g_P_writeFrame_61 rfl rfl rfl (by decide +kernel) ⟨Nat.le_of_ble_eq_true rfl, Nat.le_of_ble_eq_true rfl⟩) rfl (by decide) rfl rfl rfl (Nat.le_of_ble_eq_true rfl) d_P_writeFrame_61 ⟨Nat.zero_le _, Nat.zero_le _⟩ (fun σ10 H locs e11 w => ?_)
    replace e11 := Eq.symm e11
    refine lv_iconst (v := nI 0) hx hb d_P_writeFrame_64 (by decide) ?_
    exact mr_zret F w hr hlk (Or.inl rfl) (by subst e6_r e6_s e11; unfold kWF; rw [if_pos c7]; exact ⟨rfl, rfl⟩) d_P_writeFrame_65
  · refine lv_aload_n hx hb d_P_writeFrame_14 rfl (lv_at hl 0 rfl) ?_
    refine mr_get F w (kin in_P) 0 (by decide) rfl rfl 1 (by decide) (kws_in m_124) (fun _ h => h) rfl d_P_writeFrame_15 ?_
    refine lv_aload_n hx hb d_P_writeFrame_18 rfl (lv_at hl 1 rfl) ?_
    refine mr_get F w (kin in_F) (f + 9) (by omega) (eP_F hf _) rfl 1 (by decide) (kws_in m_105) (fun _ h => h) rfl d_P_writeFrame_19 ?_
    refine lv_aload_n hx hb d_P_writeFrame_22 rfl (lv_at hl 1 rfl) ?_
    refine mr_get F w (kin in_F) (f + 9) (by omega) (eP_F hf _) rfl 0 (by decide) (kws_in m_103) (fun _ h => h) rfl d_P_writeFrame_23 ?_
    refine mr_callVi (As := [.int (σ5 (f + 9) 1), .ref (ad (f + 17))]) F w hl.1 (c_M_writeSpare σ5 (σ5 (f + 9) 1) f hf) (cwV 2 hts g_P_writeFrame_26 rfl rfl rfl (by decide +kernel) ⟨Nat.le_of_ble_eq_true rfl, Nat.le_of_ble_eq_true rfl⟩) rfl (by decide) rfl rfl rfl (Nat.le_of_ble_eq_true rfl) d_P_writeFrame_26 ⟨Nat.zero_le _, Nat.zero_le _⟩ (fun r12 σ13 H locs e14 w => ?_)
    have e14_r := e14.1.symm
    have e14_s := e14.2.symm
    clear e14
    refine lv_if_eq (tgt := 54) hx hb d_P_writeFrame_29 (by decide) (fun c15 => ?_) (fun c15 => ?_)
    · refine lv_iconst (v := nI 0) hx hb d_P_writeFrame_54 (by decide) ?_
      refine lv_istore_n (lv' := [(2, .int (nI 0)), (0, .ref (ad 0)), (1, .ref (ad (f + 9)))]) hx hb d_P_writeFrame_55 rfl hl (by decide) rfl (fun ls hl => ?_)
      refine lv_iload_n hx hb d_P_writeFrame_56 rfl (lv_at hl 0 rfl) ?_
      refine lv_if_ne (tgt := 66) hx hb d_P_writeFrame_57 (by decide) (fun c16 => absurd c16 (by decide)) (fun _ => ?_)
      refine lv_aload_n hx hb d_P_writeFrame_60 rfl (lv_at hl 1 rfl) ?_
      refine mr_callVv (As := []) F w hl.1 (c_P_loseMemory σ13) (cwV 0 hts g_P_writeFrame_61 rfl rfl rfl (by decide +kernel) ⟨Nat.le_of_ble_eq_true rfl, Nat.le_of_ble_eq_true rfl⟩) rfl (by decide) rfl rfl rfl (Nat.le_of_ble_eq_true rfl) d_P_writeFrame_61 ⟨Nat.zero_le _, Nat.zero_le _⟩ (fun σ18 H locs e19 w => ?_)
      replace e19 := Eq.symm e19
      refine lv_iconst (v := nI 0) hx hb d_P_writeFrame_64 (by decide) ?_
      exact mr_zret F w hr hlk (Or.inl rfl) (by subst e6_r e6_s e14_r e14_s e19; unfold kWF; rw [if_neg c7, if_pos c15]; exact ⟨rfl, rfl⟩) d_P_writeFrame_65
    · refine lv_aload_n hx hb d_P_writeFrame_32 rfl (lv_at hl 0 rfl) ?_
      refine mr_get F w (kin in_P) 0 (by decide) rfl rfl 1 (by decide) (kws_in m_124) (fun _ h => h) rfl d_P_writeFrame_33 ?_
      refine lv_aload_n hx hb d_P_writeFrame_36 rfl (lv_at hl 1 rfl) ?_
      refine mr_get F w (kin in_F) (f + 9) (by omega) (eP_F hf _) rfl 1 (by decide) (kws_in m_105) (fun _ h => h) rfl d_P_writeFrame_37 ?_
      rw [show σ13 (f + 9) 1 = nI ((σ (f + 9) 1).toNatClampNeg) from by subst e6_r e6_s e14_r e14_s; rw [kSpare_n _ _ _ (by omega) (by omega) (by omega), kFT_n _ _ (by omega) (by omega)]; exact hp.2]
      refine lv_aload_n hx hb d_P_writeFrame_40 rfl (lv_at hl 1 rfl) ?_
      refine mr_get F w (kin in_F) (f + 9) (by omega) (eP_F hf _) rfl 0 (by decide) (kws_in m_103) (fun _ h => h) rfl d_P_writeFrame_41 ?_
      refine mr_callVi (As := [.int (nI ((σ (f + 9) 1).toNatClampNeg)), .ref (ad (f + 17))]) F w hl.1 (c_M_writeOwn σ13 ((σ (f + 9) 1).toNatClampNeg) hp.1 f hf) (cwV 2 hts g_P_writeFrame_44 rfl rfl rfl (by decide +kernel) ⟨Nat.le_of_ble_eq_true rfl, Nat.le_of_ble_eq_true rfl⟩) rfl (by decide) rfl rfl rfl (Nat.le_of_ble_eq_true rfl) d_P_writeFrame_44 ⟨Nat.zero_le _, Nat.zero_le _⟩ (fun r20 σ21 H locs e22 w => ?_)
      have e22_r := e22.1.symm
      have e22_s := e22.2.symm
      clear e22
      refine lv_if_eq (tgt := 54) hx hb d_P_writeFrame_47 (by decide) (fun c23 => ?_) (fun c23 => ?_)
      · refine lv_iconst (v := nI 0) hx hb d_P_writeFrame_54 (by decide) ?_
        refine lv_istore_n (lv' := [(2, .int (nI 0)), (0, .ref (ad 0)), (1, .ref (ad (f + 9)))]) hx hb d_P_writeFrame_55 rfl hl (by decide) rfl (fun ls hl => ?_)
        refine lv_iload_n hx hb d_P_writeFrame_56 rfl (lv_at hl 0 rfl) ?_
        refine lv_if_ne (tgt := 66) hx hb d_P_writeFrame_57 (by decide) (fun c24 => absurd c24 (by decide)) (fun _ => ?_)
        refine lv_aload_n hx hb d_P_writeFrame_60 rfl (lv_at hl 1 rfl) ?_
        refine mr_callVv (As := []) F w hl.1 (c_P_loseMemory σ21) (cwV 0 hts g_P_writeFrame_61 rfl rfl rfl (by decide +kernel) ⟨Nat.le_of_ble_eq_true rfl, Nat.le_of_ble_eq_true rfl⟩) rfl (by decide) rfl rfl rfl (Nat.le_of_ble_eq_true rfl) d_P_writeFrame_61 ⟨Nat.zero_le _, Nat.zero_le _⟩ (fun σ26 H locs e27 w => ?_)
        replace e27 := Eq.symm e27
        refine lv_iconst (v := nI 0) hx hb d_P_writeFrame_64 (by decide) ?_
        exact mr_zret F w hr hlk (Or.inl rfl) (by subst e6_r e6_s e14_r e14_s e22_r e22_s e27; unfold kWF; rw [if_neg c7, if_neg c15, if_pos c23]; exact ⟨rfl, rfl⟩) d_P_writeFrame_65
      · refine lv_iconst (v := nI 1) hx hb d_P_writeFrame_50 (by decide) ?_
        refine lv_goto (tgt := 55) hx hb d_P_writeFrame_51 (by decide) ?_
        refine lv_istore_n (lv' := [(2, .int (nI 1)), (0, .ref (ad 0)), (1, .ref (ad (f + 9)))]) hx hb d_P_writeFrame_55 rfl hl (by decide) rfl (fun ls hl => ?_)
        refine lv_iload_n hx hb d_P_writeFrame_56 rfl (lv_at hl 0 rfl) ?_
        refine lv_if_ne (tgt := 66) hx hb d_P_writeFrame_57 (by decide) (fun _ => ?_) (fun c28 => absurd c28 (by decide))
        refine lv_aload_n hx hb d_P_writeFrame_66 rfl (lv_at hl 2 rfl) ?_
        refine lv_iconst (v := -1) hx hb d_P_writeFrame_67 (by decide) ?_
        refine mr_put F w (kin in_F) t_F t_F_ok n_F (f + 9) (by omega) (eP_F hf _) rfl 4 (by decide) (kws_in m_111) (fun _ h => h) rfl rfl rfl (Nat.le_of_ble_eq_true rfl) (eP_F hf _) d_P_writeFrame_68 (fun H locs w => ?_)
        refine lv_iconst (v := nI 1) hx hb d_P_writeFrame_71 (by decide) ?_
        exact mr_zret F w hr hlk (Or.inr rfl) (by subst e6_r e6_s e14_r e14_s e22_r e22_s; unfold kWF; rw [if_neg c7, if_neg c15, if_neg c23]; exact ⟨rfl, rfl⟩) d_P_writeFrame_72
end
