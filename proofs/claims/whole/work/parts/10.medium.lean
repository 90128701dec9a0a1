/-! ChangeLog.forceTo; Medium -/
section
variable {l : Launch} {D : va_G} {cI cF cZ cJ : ClassId} {ad : Nat → Nat} {σ : Mem}
set_option maxRecDepth 20000 in
theorem m_73 : Cond.fieldLink "PagePool$ChangeLog" 11 "PagePool$ChangeLog" "power" "LPagePool$Power;" ∈ gt := gt_in 73 (by decide +kernel) (by decide +kernel)
set_option maxRecDepth 20000 in
theorem m_311 : Cond.methodLink "PagePool$ChangeLog" 37 (⟨"PagePool$Power", "leastWrite", "()Z"⟩ : MethodName) ∈ gt := gt_in 311 (by decide +kernel) (by decide +kernel)
set_option maxRecDepth 20000 in
theorem m_314 : Cond.code (⟨"PagePool$Power", "leastWrite", "()Z"⟩ : MethodName) prog_5_method_2_code 1 (some .boolean) ∈ gt := gt_in 314 (by decide +kernel) (by decide +kernel)
set_option maxRecDepth 20000 in
theorem m_312 : Cond.instanceMethod (⟨"PagePool$Power", "leastWrite", "()Z"⟩ : MethodName) ∈ gt := gt_in 312 (by decide +kernel) (by decide +kernel)
set_option maxRecDepth 20000 in
theorem m_313 : Cond.selects "PagePool$Power" (⟨"PagePool$Power", "leastWrite", "()Z"⟩ : MethodName) (⟨"PagePool$Power", "leastWrite", "()Z"⟩ : MethodName) ∈ gt := gt_in 313 (by decide +kernel) (by decide +kernel)
set_option maxRecDepth 20000 in
theorem m_78 : Cond.fieldLink "PagePool$ChangeLog" 26 "PagePool$ChangeLog" "forced" "I" ∈ gt := gt_in 78 (by decide +kernel) (by decide +kernel)
set_option maxRecDepth 20000 in
theorem m_49 : Cond.fieldLink "PagePool$Medium" 15 "PagePool$Medium" "own" "[I" ∈ gt := gt_in 49 (by decide +kernel) (by decide +kernel)
set_option maxRecDepth 20000 in
theorem m_321 : Cond.methodLink "PagePool$Medium" 30 (⟨"java/lang/System", "arraycopy", "(Ljava/lang/Object;ILjava/lang/Object;II)V"⟩ : MethodName) ∈ gt := gt_in 321 (by decide +kernel) (by decide +kernel)
set_option maxRecDepth 20000 in
theorem m_323 : Cond.native (⟨"java/lang/System", "arraycopy", "(Ljava/lang/Object;ILjava/lang/Object;II)V"⟩ : MethodName) ∈ gt := gt_in 323 (by decide +kernel) (by decide +kernel)
set_option maxRecDepth 20000 in
theorem m_322 : Cond.static (⟨"java/lang/System", "arraycopy", "(Ljava/lang/Object;ILjava/lang/Object;II)V"⟩ : MethodName) ∈ gt := gt_in 322 (by decide +kernel) (by decide +kernel)
set_option maxRecDepth 20000 in
theorem m_12 : Cond.initialized "java/lang/System" ∈ gt := gt_in 12 (by decide +kernel) (by decide +kernel)
set_option maxRecDepth 20000 in
theorem m_48 : Cond.fieldLink "PagePool$Medium" 9 "PagePool$Medium" "power" "LPagePool$Power;" ∈ gt := gt_in 48 (by decide +kernel) (by decide +kernel)
set_option maxRecDepth 20000 in
theorem m_320 : Cond.methodLink "PagePool$Medium" 36 (⟨"PagePool$Power", "leastWrite", "()Z"⟩ : MethodName) ∈ gt := gt_in 320 (by decide +kernel) (by decide +kernel)
set_option maxRecDepth 20000 in
theorem m_51 : Cond.fieldLink "PagePool$Medium" 19 "PagePool$Medium" "spare" "[I" ∈ gt := gt_in 51 (by decide +kernel) (by decide +kernel)
set_option maxRecDepth 20000 in
theorem m_52 : Cond.fieldLink "PagePool$Medium" 22 "PagePool$Medium" "spareNumber" "I" ∈ gt := gt_in 52 (by decide +kernel) (by decide +kernel)
set_option maxRecDepth 20000 in
theorem m_53 : Cond.fieldLink "PagePool$Medium" 26 "PagePool$Medium" "halfWritten" "Z" ∈ gt := gt_in 53 (by decide +kernel) (by decide +kernel)
theorem d_C_forceTo_0 : decode b_C_forceTo 0 = .ok (.iload_n 1, 1) := by decide +kernel
theorem d_C_forceTo_1 : decode b_C_forceTo 1 = .ok (.aload_n 0, 1) := by decide +kernel
theorem d_C_forceTo_2 : decode b_C_forceTo 2 = .ok (.getfield 26, 3) := by decide +kernel
theorem d_C_forceTo_5 : decode b_C_forceTo 5 = .ok (.isub, 1) := by decide +kernel
theorem d_C_forceTo_6 : decode b_C_forceTo 6 = .ok (.istore_n 2, 1) := by decide +kernel
theorem d_C_forceTo_7 : decode b_C_forceTo 7 = .ok (.iload_n 2, 1) := by decide +kernel
theorem d_C_forceTo_8 : decode b_C_forceTo 8 = .ok (.ifCond .le 31, 3) := by decide +kernel
theorem d_C_forceTo_11 : decode b_C_forceTo 11 = .ok (.aload_n 0, 1) := by decide +kernel
theorem d_C_forceTo_12 : decode b_C_forceTo 12 = .ok (.getfield 11, 3) := by decide +kernel
theorem d_C_forceTo_15 : decode b_C_forceTo 15 = .ok (.invokevirtual 37, 3) := by decide +kernel
theorem d_C_forceTo_18 : decode b_C_forceTo 18 = .ok (.ifCond .ne 5, 3) := by decide +kernel
theorem d_C_forceTo_21 : decode b_C_forceTo 21 = .ok (.iconst 0, 1) := by decide +kernel
theorem d_C_forceTo_22 : decode b_C_forceTo 22 = .ok (.ireturn, 1) := by decide +kernel
theorem d_C_forceTo_23 : decode b_C_forceTo 23 = .ok (.aload_n 0, 1) := by decide +kernel
theorem d_C_forceTo_24 : decode b_C_forceTo 24 = .ok (.dup, 1) := by decide +kernel
theorem d_C_forceTo_25 : decode b_C_forceTo 25 = .ok (.getfield 26, 3) := by decide +kernel
theorem d_C_forceTo_28 : decode b_C_forceTo 28 = .ok (.iconst 1, 1) := by decide +kernel
theorem d_C_forceTo_29 : decode b_C_forceTo 29 = .ok (.iadd, 1) := by decide +kernel
theorem d_C_forceTo_30 : decode b_C_forceTo 30 = .ok (.putfield 26, 3) := by decide +kernel
theorem d_C_forceTo_33 : decode b_C_forceTo 33 = .ok (.iinc 2 (-1), 3) := by decide +kernel
theorem d_C_forceTo_36 : decode b_C_forceTo 36 = .ok (.goto (-29), 3) := by decide +kernel
theorem d_C_forceTo_39 : decode b_C_forceTo 39 = .ok (.iconst 1, 1) := by decide +kernel
theorem d_C_forceTo_40 : decode b_C_forceTo 40 = .ok (.ireturn, 1) := by decide +kernel
set_option maxRecDepth 20000 in
theorem g_C_forceTo_15 : GoodIn (kws (y_C_forceTo) b_C_forceTo 3 (some .boolean)) (wsV R_C 37 R_W y_W_leastWrite (kws (y_W_leastWrite) b_W_leastWrite 1 (some .boolean))) := kwV m_311 m_312 m_313 m_2 m_314
theorem d_M_read_0 : decode b_M_read 0 = .ok (.aload_n 0, 1) := by decide +kernel
theorem d_M_read_1 : decode b_M_read 1 = .ok (.getfield 15, 3) := by decide +kernel
theorem d_M_read_4 : decode b_M_read 4 = .ok (.iload_n 1, 1) := by decide +kernel
theorem d_M_read_5 : decode b_M_read 5 = .ok (.bipush 64, 2) := by decide +kernel
theorem d_M_read_7 : decode b_M_read 7 = .ok (.imul, 1) := by decide +kernel
theorem d_M_read_8 : decode b_M_read 8 = .ok (.aload_n 2, 1) := by decide +kernel
theorem d_M_read_9 : decode b_M_read 9 = .ok (.iconst 0, 1) := by decide +kernel
theorem d_M_read_10 : decode b_M_read 10 = .ok (.bipush 64, 2) := by decide +kernel
theorem d_M_read_12 : decode b_M_read 12 = .ok (.invokestatic 30, 3) := by decide +kernel
theorem d_M_read_15 : decode b_M_read 15 = .ok (.return_, 1) := by decide +kernel
theorem d_M_writeSpare_0 : decode b_M_writeSpare 0 = .ok (.iconst 0, 1) := by decide +kernel
theorem d_M_writeSpare_1 : decode b_M_writeSpare 1 = .ok (.istore_n 3, 1) := by decide +kernel
theorem d_M_writeSpare_2 : decode b_M_writeSpare 2 = .ok (.iload_n 3, 1) := by decide +kernel
theorem d_M_writeSpare_3 : decode b_M_writeSpare 3 = .ok (.bipush 64, 2) := by decide +kernel
theorem d_M_writeSpare_5 : decode b_M_writeSpare 5 = .ok (.if_icmp .ge 33, 3) := by decide +kernel
theorem d_M_writeSpare_8 : decode b_M_writeSpare 8 = .ok (.aload_n 0, 1) := by decide +kernel
theorem d_M_writeSpare_9 : decode b_M_writeSpare 9 = .ok (.getfield 9, 3) := by decide +kernel
theorem d_M_writeSpare_12 : decode b_M_writeSpare 12 = .ok (.invokevirtual 36, 3) := by decide +kernel
theorem d_M_writeSpare_15 : decode b_M_writeSpare 15 = .ok (.ifCond .ne 5, 3) := by decide +kernel
theorem d_M_writeSpare_18 : decode b_M_writeSpare 18 = .ok (.iconst 0, 1) := by decide +kernel
theorem d_M_writeSpare_19 : decode b_M_writeSpare 19 = .ok (.ireturn, 1) := by decide +kernel
theorem d_M_writeSpare_20 : decode b_M_writeSpare 20 = .ok (.aload_n 2, 1) := by decide +kernel
theorem d_M_writeSpare_21 : decode b_M_writeSpare 21 = .ok (.iload_n 3, 1) := by decide +kernel
theorem d_M_writeSpare_22 : decode b_M_writeSpare 22 = .ok (.aload_n 0, 1) := by decide +kernel
theorem d_M_writeSpare_23 : decode b_M_writeSpare 23 = .ok (.getfield 19, 3) := by decide +kernel
theorem d_M_writeSpare_26 : decode b_M_writeSpare 26 = .ok (.iload_n 3, 1) := by decide +kernel
theorem d_M_writeSpare_27 : decode b_M_writeSpare 27 = .ok (.bipush 32, 2) := by decide +kernel
theorem d_M_writeSpare_29 : decode b_M_writeSpare 29 = .ok (.invokestatic 30, 3) := by decide +kernel
theorem d_M_writeSpare_32 : decode b_M_writeSpare 32 = .ok (.iinc 3 32, 3) := by decide +kernel
theorem d_M_writeSpare_35 : decode b_M_writeSpare 35 = .ok (.goto (-33), 3) := by decide +kernel
theorem d_M_writeSpare_38 : decode b_M_writeSpare 38 = .ok (.aload_n 0, 1) := by decide +kernel
theorem d_M_writeSpare_39 : decode b_M_writeSpare 39 = .ok (.getfield 9, 3) := by decide +kernel
theorem d_M_writeSpare_42 : decode b_M_writeSpare 42 = .ok (.invokevirtual 36, 3) := by decide +kernel
theorem d_M_writeSpare_45 : decode b_M_writeSpare 45 = .ok (.ifCond .ne 5, 3) := by decide +kernel
theorem d_M_writeSpare_48 : decode b_M_writeSpare 48 = .ok (.iconst 0, 1) := by decide +kernel
theorem d_M_writeSpare_49 : decode b_M_writeSpare 49 = .ok (.ireturn, 1) := by decide +kernel
theorem d_M_writeSpare_50 : decode b_M_writeSpare 50 = .ok (.aload_n 0, 1) := by decide +kernel
theorem d_M_writeSpare_51 : decode b_M_writeSpare 51 = .ok (.iload_n 1, 1) := by decide +kernel
theorem d_M_writeSpare_52 : decode b_M_writeSpare 52 = .ok (.putfield 22, 3) := by decide +kernel
theorem d_M_writeSpare_55 : decode b_M_writeSpare 55 = .ok (.iconst 1, 1) := by decide +kernel
theorem d_M_writeSpare_56 : decode b_M_writeSpare 56 = .ok (.ireturn, 1) := by decide +kernel
set_option maxRecDepth 20000 in
theorem g_M_writeSpare_12 : GoodIn (kws (y_M_writeSpare) b_M_writeSpare 4 (some .boolean)) (wsV R_M 36 R_W y_W_leastWrite (kws (y_W_leastWrite) b_W_leastWrite 1 (some .boolean))) := kwV m_320 m_312 m_313 m_2 m_314
set_option maxRecDepth 20000 in
theorem g_M_writeSpare_42 : GoodIn (kws (y_M_writeSpare) b_M_writeSpare 4 (some .boolean)) (wsV R_M 36 R_W y_W_leastWrite (kws (y_W_leastWrite) b_W_leastWrite 1 (some .boolean))) := kwV m_320 m_312 m_313 m_2 m_314
theorem d_M_writeOwn_0 : decode b_M_writeOwn 0 = .ok (.iconst 0, 1) := by decide +kernel
theorem d_M_writeOwn_1 : decode b_M_writeOwn 1 = .ok (.istore_n 3, 1) := by decide +kernel
theorem d_M_writeOwn_2 : decode b_M_writeOwn 2 = .ok (.iload_n 3, 1) := by decide +kernel
theorem d_M_writeOwn_3 : decode b_M_writeOwn 3 = .ok (.bipush 64, 2) := by decide +kernel
theorem d_M_writeOwn_5 : decode b_M_writeOwn 5 = .ok (.if_icmp .ge 51, 3) := by decide +kernel
theorem d_M_writeOwn_8 : decode b_M_writeOwn 8 = .ok (.aload_n 0, 1) := by decide +kernel
theorem d_M_writeOwn_9 : decode b_M_writeOwn 9 = .ok (.getfield 9, 3) := by decide +kernel
theorem d_M_writeOwn_12 : decode b_M_writeOwn 12 = .ok (.invokevirtual 36, 3) := by decide +kernel
theorem d_M_writeOwn_15 : decode b_M_writeOwn 15 = .ok (.ifCond .ne 5, 3) := by decide +kernel
theorem d_M_writeOwn_18 : decode b_M_writeOwn 18 = .ok (.iconst 0, 1) := by decide +kernel
theorem d_M_writeOwn_19 : decode b_M_writeOwn 19 = .ok (.ireturn, 1) := by decide +kernel
theorem d_M_writeOwn_20 : decode b_M_writeOwn 20 = .ok (.aload_n 2, 1) := by decide +kernel
theorem d_M_writeOwn_21 : decode b_M_writeOwn 21 = .ok (.iload_n 3, 1) := by decide +kernel
theorem d_M_writeOwn_22 : decode b_M_writeOwn 22 = .ok (.aload_n 0, 1) := by decide +kernel
theorem d_M_writeOwn_23 : decode b_M_writeOwn 23 = .ok (.getfield 15, 3) := by decide +kernel
theorem d_M_writeOwn_26 : decode b_M_writeOwn 26 = .ok (.iload_n 1, 1) := by decide +kernel
theorem d_M_writeOwn_27 : decode b_M_writeOwn 27 = .ok (.bipush 64, 2) := by decide +kernel
theorem d_M_writeOwn_29 : decode b_M_writeOwn 29 = .ok (.imul, 1) := by decide +kernel
theorem d_M_writeOwn_30 : decode b_M_writeOwn 30 = .ok (.iload_n 3, 1) := by decide +kernel
theorem d_M_writeOwn_31 : decode b_M_writeOwn 31 = .ok (.iadd, 1) := by decide +kernel
theorem d_M_writeOwn_32 : decode b_M_writeOwn 32 = .ok (.bipush 32, 2) := by decide +kernel
theorem d_M_writeOwn_34 : decode b_M_writeOwn 34 = .ok (.invokestatic 30, 3) := by decide +kernel
theorem d_M_writeOwn_37 : decode b_M_writeOwn 37 = .ok (.aload_n 0, 1) := by decide +kernel
theorem d_M_writeOwn_38 : decode b_M_writeOwn 38 = .ok (.iload_n 3, 1) := by decide +kernel
theorem d_M_writeOwn_39 : decode b_M_writeOwn 39 = .ok (.ifCond .ne 7, 3) := by decide +kernel
theorem d_M_writeOwn_42 : decode b_M_writeOwn 42 = .ok (.iconst 1, 1) := by decide +kernel
theorem d_M_writeOwn_43 : decode b_M_writeOwn 43 = .ok (.goto 4, 3) := by decide +kernel
theorem d_M_writeOwn_46 : decode b_M_writeOwn 46 = .ok (.iconst 0, 1) := by decide +kernel
theorem d_M_writeOwn_47 : decode b_M_writeOwn 47 = .ok (.putfield 26, 3) := by decide +kernel
theorem d_M_writeOwn_50 : decode b_M_writeOwn 50 = .ok (.iinc 3 32, 3) := by decide +kernel
theorem d_M_writeOwn_53 : decode b_M_writeOwn 53 = .ok (.goto (-51), 3) := by decide +kernel
theorem d_M_writeOwn_56 : decode b_M_writeOwn 56 = .ok (.iconst 1, 1) := by decide +kernel
theorem d_M_writeOwn_57 : decode b_M_writeOwn 57 = .ok (.ireturn, 1) := by decide +kernel
set_option maxRecDepth 20000 in
theorem g_M_writeOwn_12 : GoodIn (kws (y_M_writeOwn) b_M_writeOwn 4 (some .boolean)) (wsV R_M 36 R_W y_W_leastWrite (kws (y_W_leastWrite) b_W_leastWrite 1 (some .boolean))) := kwV m_320 m_312 m_313 m_2 m_314
theorem cl0 {x : Int32} (h : x.toNatClampNeg = 0) : x ≤ 0 := by
  have h1 : x.toInt.toNat = 0 := h
  rw [Int32.le_iff_toInt_le]
  show x.toInt ≤ 0
  omega
theorem clS {x : Int32} {n : Nat} (h : x.toNatClampNeg = n + 1) : ¬ x ≤ 0 ∧ (x + (-1)).toNatClampNeg = n := by
  have h1 : x.toInt.toNat = n + 1 := h
  have h2 : x.toInt < 2 ^ 31 := Int32.toInt_lt x
  have h3 : (x + (-1)).toInt = x.toInt - 1 := by
    rw [Int32.toInt_add]
    show (x.toInt + -1).bmod (2 ^ 32) = _
    rw [Int.bmod_eq_of_le] <;> omega
  refine ⟨fun q => ?_, ?_⟩
  · rw [Int32.le_iff_toInt_le] at q
    have q2 : x.toInt ≤ 0 := q
    omega
  · show (x + (-1)).toInt.toNat = n
    rw [h3]; omega
set_option maxHeartbeats 4000000 in
set_option maxRecDepth 100000 in
theorem c_C_forceTo (σ : Mem) (place : Int32) : KIP l D cI cF cZ cJ ad y_C_forceTo b_C_forceTo 3 (some .boolean) 2 40 [.ref (ad 5), .int place] σ (fun r σ' => r = (kFT σ place).1 ∧ σ' = (kFT σ place).2) := by
  refine KI.of (by decide) (Nat.le_of_ble_eq_true rfl) ?_
  intro p e s m args below meth c A ls F w hl hr hlk
  obtain ⟨hx, hb, hml, hown, hts⟩ := id F
  have hl : lv_has ls 3 [(0, .ref (ad 5)), (1, .int place)] := hl
  have loop : ∀ (n : Nat) (x : Int32) (τ : Mem) (hx9 : x.toNatClampNeg = n) (hk : kForce n τ = kFT σ place) (H : Heap) (locs : List Loc) (ls : Array Slot), mW D clP (tyP cI cF cZ cJ) 25 (eP cI cF ad) ad τ s A s.heap H locs → lv_has ls 3 [(2, .int x), (0, .ref (ad 5)), (1, .int place)] → W p l e { frames := 2, cells := 0, slots := 0, locals := 40 } s m args below meth c H locs 0 0 (MQ below (va_Qi (fun r σ' => r = (kFT σ place).1 ∧ σ' = (kFT σ place).2) (KB D clP (tyP cI cF cZ cJ) 25 (eP cI cF ad) ad) A) args s 0 0 A) (F0 m 7 ls []) := by
    intro n
    induction n with
    | zero =>
      intro x τ hx9 hk H locs ls w hl
      refine lv_iload_n hx hb d_C_forceTo_7 rfl (lv_at hl 0 rfl) ?_
      refine lv_if_le (tgt := 39) hx hb d_C_forceTo_8 (by decide) (fun c1 => ?_) (fun c1 => absurd (cl0 hx9) c1)
      refine lv_iconst (v := nI 1) hx hb d_C_forceTo_39 (by decide) ?_
      exact mr_zret F w hr hlk (Or.inr rfl) (⟨by rw [← hk]; first | rfl | (simp only [kForce]; done) | (simp only [kForce]; rfl), by rw [← hk]; first | rfl | (simp only [kForce]; done) | (simp only [kForce]; rfl)⟩) d_C_forceTo_40
    | succ n ih =>
      intro x τ hx9 hk H locs ls w hl
      refine lv_iload_n hx hb d_C_forceTo_7 rfl (lv_at hl 0 rfl) ?_
      refine lv_if_le (tgt := 39) hx hb d_C_forceTo_8 (by decide) (fun c2 => absurd c2 (clS hx9).1) (fun c2 => ?_)
      refine lv_aload_n hx hb d_C_forceTo_11 rfl (lv_at hl 1 rfl) ?_
      refine mr_get F w (kin in_C) 5 (by decide) rfl rfl 0 (by decide) (kws_in m_73) (fun _ h => h) rfl d_C_forceTo_12 ?_
      refine mr_callVi (As := []) F w hl.1 (c_W_leastWrite τ) (cwV 0 hts g_C_forceTo_15 rfl rfl rfl (by decide +kernel) ⟨Nat.le_of_ble_eq_true rfl, Nat.le_of_ble_eq_true rfl⟩) rfl (by decide) rfl rfl rfl (Nat.le_of_ble_eq_true rfl) d_C_forceTo_15 ⟨Nat.zero_le _, Nat.zero_le _⟩ (fun r3 σ4 H locs e5 w => ?_)
      have e5_r := e5.1.symm
      have e5_s := e5.2.symm
      clear e5
      refine lv_if_ne (tgt := 23) hx hb d_C_forceTo_18 (by decide) (fun c6 => ?_) (fun c6 => ?_)
      · refine lv_aload_n hx hb d_C_forceTo_23 rfl (lv_at hl 1 rfl) ?_
        refine lv_dup hx hb d_C_forceTo_24 rfl ?_
        refine mr_get F w (kin in_C) 5 (by decide) rfl rfl 4 (by decide) (kws_in m_78) (fun _ h => h) rfl d_C_forceTo_25 ?_
        refine lv_iconst (v := nI 1) hx hb d_C_forceTo_28 (by decide) ?_
        refine lv_iadd hx hb d_C_forceTo_29 ?_
        refine mr_put F w (kin in_C) t_C t_C_ok n_C 5 (by decide) rfl rfl 4 (by decide) (kws_in m_78) (fun _ h => h) rfl rfl rfl (Nat.le_of_ble_eq_true rfl) rfl d_C_forceTo_30 (fun H locs w => ?_)
        refine lv_iinc (v := x + (-1)) (lv' := [(2, .int (x + (-1))), (0, .ref (ad 5)), (1, .int place)]) hx hb d_C_forceTo_33 hl (k := 0) rfl rfl (by decide) rfl (fun ls hl => ?_)
        refine lv_goto (tgt := 7) hx hb d_C_forceTo_36 (by decide) ?_
        exact ih _ _ (clS hx9).2 (by subst e5_r e5_s; rw [← hk]; simp only [kForce, if_neg c6]) _ _ ls w (lv_sub hl [0, 1, 2] rfl)
      · refine lv_iconst (v := nI 0) hx hb d_C_forceTo_21 (by decide) ?_
        exact mr_zret F w hr hlk (Or.inl rfl) (⟨by subst e5_r e5_s; rw [← hk]; first | rfl | (simp only [kForce, if_pos c6]; done) | (simp only [kForce, if_pos c6]; rfl), by subst e5_r e5_s; rw [← hk]; first | rfl | (simp only [kForce, if_pos c6]; done) | (simp only [kForce, if_pos c6]; rfl)⟩) d_C_forceTo_22
  refine lv_iload_n hx hb d_C_forceTo_0 rfl (lv_at hl 1 rfl) ?_
  refine lv_aload_n hx hb d_C_forceTo_1 rfl (lv_at hl 0 rfl) ?_
  refine mr_get F w (kin in_C) 5 (by decide) rfl rfl 4 (by decide) (kws_in m_78) (fun _ h => h) rfl d_C_forceTo_2 ?_
  refine lv_isub hx hb d_C_forceTo_5 ?_
  refine lv_istore_n (lv' := [(2, .int (place - (σ 5 4))), (0, .ref (ad 5)), (1, .int place)]) hx hb d_C_forceTo_6 rfl hl (by decide) rfl (fun ls hl => ?_)
  exact loop _ _ _ rfl rfl _ _ ls w (lv_sub hl [0, 1, 2] rfl)
set_option maxHeartbeats 4000000 in
set_option maxRecDepth 100000 in
theorem c_M_read (σ : Mem) (pg : Nat) (hp : pg < 256) (f : Nat) (hf : f < 8) : KVP l D cI cF cZ cJ ad y_M_read b_M_read 3 1 60 [.ref (ad 2), .int (nI pg), .ref (ad (f + 17))] σ (fun σ' => σ' = mcp σ 3 (f + 17) (pg * 64) 0 64) := by
  refine KV.of (by decide) (Nat.le_of_ble_eq_true rfl) ?_
  intro p e s m args below meth c A ls F w hl hr hlk
  obtain ⟨hx, hb, hml, hown, hts⟩ := id F
  have hl : lv_has ls 3 [(0, .ref (ad 2)), (1, .int (nI pg)), (2, .ref (ad (f + 17)))] := hl
  refine lv_aload_n hx hb d_M_read_0 rfl (lv_at hl 0 rfl) ?_
  refine mr_get F w (kin in_M) 2 (by decide) rfl rfl 1 (by decide) (kws_in m_49) (fun _ h => h) rfl d_M_read_1 ?_
  refine lv_iload_n hx hb d_M_read_4 rfl (lv_at hl 1 rfl) ?_
  refine lv_bipush (v := nI 64) hx hb d_M_read_5 (by decide) ?_
  refine nr_imul hx hb d_M_read_7 ?_
  refine lv_aload_n hx hb d_M_read_8 rfl (lv_at hl 2 rfl) ?_
  refine lv_iconst (v := nI 0) hx hb d_M_read_9 (by decide) ?_
  refine lv_bipush (v := nI 64) hx hb d_M_read_10 (by decide) ?_
  refine mr_copy F w hl.1 (kws_in m_321) (kws_in m_323) (kws_in m_322) (kws_in m_12) 3 (f + 17) 0 (by decide) (by omega) (fun _ => rfl) eP_V rfl (pg * 64) 0 64 (by omega) (by omega) (by decide) (by decide) rfl rfl rfl (Nat.le_of_ble_eq_true rfl) (Nat.le_of_ble_eq_true rfl) d_M_read_12 (fun H locs w => ?_)
  exact mr_vret F w hr hlk (rfl) d_M_read_15
set_option maxHeartbeats 4000000 in
set_option maxRecDepth 100000 in
theorem c_M_writeSpare (σ : Mem) (pg : Int32) (f : Nat) (hf : f < 8) : KIP l D cI cF cZ cJ ad y_M_writeSpare b_M_writeSpare 4 (some .boolean) 2 60 [.ref (ad 2), .int pg, .ref (ad (f + 17))] σ (fun r σ' => r = (kSpare σ pg (f + 17)).1 ∧ σ' = (kSpare σ pg (f + 17)).2) := by
  refine KI.of (by decide) (Nat.le_of_ble_eq_true rfl) ?_
  intro p e s m args below meth c A ls F w hl hr hlk
  obtain ⟨hx, hb, hml, hown, hts⟩ := id F
  have hl : lv_has ls 4 [(0, .ref (ad 2)), (1, .int pg), (2, .ref (ad (f + 17)))] := hl
  refine lv_iconst (v := nI 0) hx hb d_M_writeSpare_0 (by decide) ?_
  refine lv_istore_n (lv' := [(3, .int (nI 0)), (0, .ref (ad 2)), (1, .int pg), (2, .ref (ad (f + 17)))]) hx hb d_M_writeSpare_1 rfl hl (by decide) rfl (fun ls hl => ?_)
  refine lv_iload_n hx hb d_M_writeSpare_2 rfl (lv_at hl 0 rfl) ?_
  refine lv_bipush (v := nI 64) hx hb d_M_writeSpare_3 (by decide) ?_
  refine nr_icmp_ge (tgt := 38) hx hb d_M_writeSpare_5 (by decide) (by omega) (by omega) (fun c1 => absurd c1 (by omega)) (fun _ => ?_)
  refine lv_aload_n hx hb d_M_writeSpare_8 rfl (lv_at hl 1 rfl) ?_
  refine mr_get F w (kin in_M) 2 (by decide) rfl rfl 0 (by decide) (kws_in m_48) (fun _ h => h) rfl d_M_writeSpare_9 ?_
  refine mr_callVi (As := []) F w hl.1 (c_W_leastWrite σ) (cwV 0 hts g_M_writeSpare_12 rfl rfl rfl (by decide +kernel) ⟨Nat.le_of_ble_eq_true rfl, Nat.le_of_ble_eq_true rfl⟩) rfl (by decide) rfl rfl rfl (Nat.le_of_ble_eq_true rfl) d_M_writeSpare_12 ⟨Nat.zero_le _, Nat.zero_le _⟩ (fun r2 σ3 H locs e4 w => ?_)
  have e4_r := e4.1.symm
  have e4_s := e4.2.symm
  clear e4
  refine lv_if_ne (tgt := 20) hx hb d_M_writeSpare_15 (by decide) (fun c5 => ?_) (fun c5 => ?_)
  · refine lv_aload_n hx hb d_M_writeSpare_20 rfl (lv_at hl 3 rfl) ?_
    refine lv_iload_n hx hb d_M_writeSpare_21 rfl (lv_at hl 0 rfl) ?_
    refine lv_aload_n hx hb d_M_writeSpare_22 rfl (lv_at hl 1 rfl) ?_
    refine mr_get F w (kin in_M) 2 (by decide) rfl rfl 2 (by decide) (kws_in m_51) (fun _ h => h) rfl d_M_writeSpare_23 ?_
    refine lv_iload_n hx hb d_M_writeSpare_26 rfl (lv_at hl 0 rfl) ?_
    refine lv_bipush (v := nI 32) hx hb d_M_writeSpare_27 (by decide) ?_
    refine mr_copy F w hl.1 (kws_in m_321) (kws_in m_323) (kws_in m_322) (kws_in m_12) (f + 17) 4 0 (by omega) (by decide) eP_V (fun _ => rfl) rfl 0 0 32 (by omega) (by omega) (by decide) (by decide) rfl rfl rfl (Nat.le_of_ble_eq_true rfl) (Nat.le_of_ble_eq_true rfl) d_M_writeSpare_29 (fun H locs w => ?_)
    refine lv_iinc (v := nI 32) (lv' := [(3, .int (nI 32)), (0, .ref (ad 2)), (1, .int pg), (2, .ref (ad (f + 17)))]) hx hb d_M_writeSpare_32 hl (k := 0) rfl (nI_add _ 32) (by decide) rfl (fun ls hl => ?_)
    refine lv_goto (tgt := 2) hx hb d_M_writeSpare_35 (by decide) ?_
    refine lv_iload_n hx hb d_M_writeSpare_2 rfl (lv_at hl 0 rfl) ?_
    refine lv_bipush (v := nI 64) hx hb d_M_writeSpare_3 (by decide) ?_
    refine nr_icmp_ge (tgt := 38) hx hb d_M_writeSpare_5 (by decide) (by omega) (by omega) (fun c6 => absurd c6 (by omega)) (fun _ => ?_)
    refine lv_aload_n hx hb d_M_writeSpare_8 rfl (lv_at hl 1 rfl) ?_
    refine mr_get F w (kin in_M) 2 (by decide) rfl rfl 0 (by decide) (kws_in m_48) (fun _ h => h) rfl d_M_writeSpare_9 ?_
    refine mr_callVi (As := []) F w hl.1 (c_W_leastWrite (mcp σ3 (f + 17) 4 0 0 32)) (cwV 0 hts g_M_writeSpare_12 rfl rfl rfl (by decide +kernel) ⟨Nat.le_of_ble_eq_true rfl, Nat.le_of_ble_eq_true rfl⟩) rfl (by decide) rfl rfl rfl (Nat.le_of_ble_eq_true rfl) d_M_writeSpare_12 ⟨Nat.zero_le _, Nat.zero_le _⟩ (fun r7 σ8 H locs e9 w => ?_)
    have e9_r := e9.1.symm
    have e9_s := e9.2.symm
    clear e9
    refine lv_if_ne (tgt := 20) hx hb d_M_writeSpare_15 (by decide) (fun c10 => ?_) (fun c10 => ?_)
    · refine lv_aload_n hx hb d_M_writeSpare_20 rfl (lv_at hl 3 rfl) ?_
      refine lv_iload_n hx hb d_M_writeSpare_21 rfl (lv_at hl 0 rfl) ?_
      refine lv_aload_n hx hb d_M_writeSpare_22 rfl (lv_at hl 1 rfl) ?_
      refine mr_get F w (kin in_M) 2 (by decide) rfl rfl 2 (by decide) (kws_in m_51) (fun _ h => h) rfl d_M_writeSpare_23 ?_
      refine lv_iload_n hx hb d_M_writeSpare_26 rfl (lv_at hl 0 rfl) ?_
      refine lv_bipush (v := nI 32) hx hb d_M_writeSpare_27 (by decide) ?_
      refine mr_copy F w hl.1 (kws_in m_321) (kws_in m_323) (kws_in m_322) (kws_in m_12) (f + 17) 4 0 (by omega) (by decide) eP_V (fun _ => rfl) rfl 32 32 32 (by omega) (by omega) (by decide) (by decide) rfl rfl rfl (Nat.le_of_ble_eq_true rfl) (Nat.le_of_ble_eq_true rfl) d_M_writeSpare_29 (fun H locs w => ?_)
      refine lv_iinc (v := nI 64) (lv' := [(3, .int (nI 64)), (0, .ref (ad 2)), (1, .int pg), (2, .ref (ad (f + 17)))]) hx hb d_M_writeSpare_32 hl (k := 0) rfl (nI_add _ 32) (by decide) rfl (fun ls hl => ?_)
      refine lv_goto (tgt := 2) hx hb d_M_writeSpare_35 (by decide) ?_
      refine lv_iload_n hx hb d_M_writeSpare_2 rfl (lv_at hl 0 rfl) ?_
      refine lv_bipush (v := nI 64) hx hb d_M_writeSpare_3 (by decide) ?_
      refine nr_icmp_ge (tgt := 38) hx hb d_M_writeSpare_5 (by decide) (by omega) (by omega) (fun _ => ?_) (fun c11 => absurd c11 (by omega))
      refine lv_aload_n hx hb d_M_writeSpare_38 rfl (lv_at hl 1 rfl) ?_
      refine mr_get F w (kin in_M) 2 (by decide) rfl rfl 0 (by decide) (kws_in m_48) (fun _ h => h) rfl d_M_writeSpare_39 ?_
      refine mr_callVi (As := []) F w hl.1 (c_W_leastWrite (mcp σ8 (f + 17) 4 32 32 32)) (cwV 0 hts g_M_writeSpare_42 rfl rfl rfl (by decide +kernel) ⟨Nat.le_of_ble_eq_true rfl, Nat.le_of_ble_eq_true rfl⟩) rfl (by decide) rfl rfl rfl (Nat.le_of_ble_eq_true rfl) d_M_writeSpare_42 ⟨Nat.zero_le _, Nat.zero_le _⟩ (fun r12 σ13 H locs e14 w => ?_)
      have e14_r := e14.1.symm
      have e14_s := e14.2.symm
      clear e14
      refine lv_if_ne (tgt := 50) hx hb d_M_writeSpare_45 (by decide) (fun c15 => ?_) (fun c15 => ?_)
      · refine lv_aload_n hx hb d_M_writeSpare_50 rfl (lv_at hl 1 rfl) ?_
        refine lv_iload_n hx hb d_M_writeSpare_51 rfl (lv_at hl 2 rfl) ?_
        refine mr_put F w (kin in_M) t_M t_M_ok n_M 2 (by decide) rfl rfl 3 (by decide) (kws_in m_52) (fun _ h => h) rfl rfl rfl (Nat.le_of_ble_eq_true rfl) rfl d_M_writeSpare_52 (fun H locs w => ?_)
        refine lv_iconst (v := nI 1) hx hb d_M_writeSpare_55 (by decide) ?_
        exact mr_zret F w hr hlk (Or.inr rfl) (⟨by subst e4_r e4_s e9_r e9_s e14_r e14_s; first | rfl | (simp only [kSpare, kThen, if_neg c5, if_neg c10, if_neg c15]; done) | (simp only [kSpare, kThen, if_neg c5, if_neg c10, if_neg c15]; rfl), by subst e4_r e4_s e9_r e9_s e14_r e14_s; first | rfl | (simp only [kSpare, kThen, if_neg c5, if_neg c10, if_neg c15]; done) | (simp only [kSpare, kThen, if_neg c5, if_neg c10, if_neg c15]; rfl)⟩) d_M_writeSpare_56
      · refine lv_iconst (v := nI 0) hx hb d_M_writeSpare_48 (by decide) ?_
        exact mr_zret F w hr hlk (Or.inl rfl) (⟨by subst e4_r e4_s e9_r e9_s e14_r e14_s; first | rfl | (simp only [kSpare, kThen, if_neg c5, if_neg c10, if_pos c15]; done) | (simp only [kSpare, kThen, if_neg c5, if_neg c10, if_pos c15]; rfl), by subst e4_r e4_s e9_r e9_s e14_r e14_s; first | rfl | (simp only [kSpare, kThen, if_neg c5, if_neg c10, if_pos c15]; done) | (simp only [kSpare, kThen, if_neg c5, if_neg c10, if_pos c15]; rfl)⟩) d_M_writeSpare_49
    · refine lv_iconst (v := nI 0) hx hb d_M_writeSpare_18 (by decide) ?_
      exact mr_zret F w hr hlk (Or.inl rfl) (⟨by subst e4_r e4_s e9_r e9_s; first | rfl | (simp only [kSpare, kThen, if_neg c5, if_pos c10]; done) | (simp only [kSpare, kThen, if_neg c5, if_pos c10]; rfl), by subst e4_r e4_s e9_r e9_s; first | rfl | (simp only [kSpare, kThen, if_neg c5, if_pos c10]; done) | (simp only [kSpare, kThen, if_neg c5, if_pos c10]; rfl)⟩) d_M_writeSpare_19
  · refine lv_iconst (v := nI 0) hx hb d_M_writeSpare_18 (by decide) ?_
    exact mr_zret F w hr hlk (Or.inl rfl) (⟨by subst e4_r e4_s; first | rfl | (simp only [kSpare, kThen, if_pos c5]; done) | (simp only [kSpare, kThen, if_pos c5]; rfl), by subst e4_r e4_s; first | rfl | (simp only [kSpare, kThen, if_pos c5]; done) | (simp only [kSpare, kThen, if_pos c5]; rfl)⟩) d_M_writeSpare_19
set_option maxHeartbeats 4000000 in
set_option maxRecDepth 100000 in
theorem c_M_writeOwn (σ : Mem) (pg : Nat) (hp : pg < 256) (f : Nat) (hf : f < 8) : KIP l D cI cF cZ cJ ad y_M_writeOwn b_M_writeOwn 4 (some .boolean) 2 60 [.ref (ad 2), .int (nI pg), .ref (ad (f + 17))] σ (fun r σ' => r = (kOwn σ pg (f + 17)).1 ∧ σ' = (kOwn σ pg (f + 17)).2) := by
  refine KI.of (by decide) (Nat.le_of_ble_eq_true rfl) ?_
  intro p e s m args below meth c A ls F w hl hr hlk
  obtain ⟨hx, hb, hml, hown, hts⟩ := id F
  have hl : lv_has ls 4 [(0, .ref (ad 2)), (1, .int (nI pg)), (2, .ref (ad (f + 17)))] := hl
  refine lv_iconst (v := nI 0) hx hb d_M_writeOwn_0 (by decide) ?_
  refine lv_istore_n (lv' := [(3, .int (nI 0)), (0, .ref (ad 2)), (1, .int (nI pg)), (2, .ref (ad (f + 17)))]) hx hb d_M_writeOwn_1 rfl hl (by decide) rfl (fun ls hl => ?_)
  refine lv_iload_n hx hb d_M_writeOwn_2 rfl (lv_at hl 0 rfl) ?_
  refine lv_bipush (v := nI 64) hx hb d_M_writeOwn_3 (by decide) ?_
  refine nr_icmp_ge (tgt := 56) hx hb d_M_writeOwn_5 (by decide) (by omega) (by omega) (fun c1 => absurd c1 (by omega)) (fun _ => ?_)
  refine lv_aload_n hx hb d_M_writeOwn_8 rfl (lv_at hl 1 rfl) ?_
  refine mr_get F w (kin in_M) 2 (by decide) rfl rfl 0 (by decide) (kws_in m_48) (fun _ h => h) rfl d_M_writeOwn_9 ?_
  refine mr_callVi (As := []) F w hl.1 (c_W_leastWrite σ) (cwV 0 hts g_M_writeOwn_12 rfl rfl rfl (by decide +kernel) ⟨Nat.le_of_ble_eq_true rfl, Nat.le_of_ble_eq_true rfl⟩) rfl (by decide) rfl rfl rfl (Nat.le_of_ble_eq_true rfl) d_M_writeOwn_12 ⟨Nat.zero_le _, Nat.zero_le _⟩ (fun r2 σ3 H locs e4 w => ?_)
  have e4_r := e4.1.symm
  have e4_s := e4.2.symm
  clear e4
  refine lv_if_ne (tgt := 20) hx hb d_M_writeOwn_15 (by decide) (fun c5 => ?_) (fun c5 => ?_)
  · refine lv_aload_n hx hb d_M_writeOwn_20 rfl (lv_at hl 3 rfl) ?_
    refine lv_iload_n hx hb d_M_writeOwn_21 rfl (lv_at hl 0 rfl) ?_
    refine lv_aload_n hx hb d_M_writeOwn_22 rfl (lv_at hl 1 rfl) ?_
    refine mr_get F w (kin in_M) 2 (by decide) rfl rfl 1 (by decide) (kws_in m_49) (fun _ h => h) rfl d_M_writeOwn_23 ?_
    refine lv_iload_n hx hb d_M_writeOwn_26 rfl (lv_at hl 2 rfl) ?_
    refine lv_bipush (v := nI 64) hx hb d_M_writeOwn_27 (by decide) ?_
    refine nr_imul hx hb d_M_writeOwn_29 ?_
    refine lv_iload_n hx hb d_M_writeOwn_30 rfl (lv_at hl 0 rfl) ?_
    refine nr_iadd hx hb d_M_writeOwn_31 ?_
    refine lv_bipush (v := nI 32) hx hb d_M_writeOwn_32 (by decide) ?_
    refine mr_copy F w hl.1 (kws_in m_321) (kws_in m_323) (kws_in m_322) (kws_in m_12) (f + 17) 3 0 (by omega) (by decide) eP_V (fun _ => rfl) rfl 0 ((pg * 64) + 0) 32 (by omega) (by omega) (by decide) (by decide) rfl rfl rfl (Nat.le_of_ble_eq_true rfl) (Nat.le_of_ble_eq_true rfl) d_M_writeOwn_34 (fun H locs w => ?_)
    refine lv_aload_n hx hb d_M_writeOwn_37 rfl (lv_at hl 1 rfl) ?_
    refine lv_iload_n hx hb d_M_writeOwn_38 rfl (lv_at hl 0 rfl) ?_
    refine lv_if_ne (tgt := 46) hx hb d_M_writeOwn_39 (by decide) (fun c6 => absurd c6 (by decide)) (fun _ => ?_)
    refine lv_iconst (v := nI 1) hx hb d_M_writeOwn_42 (by decide) ?_
    refine lv_goto (tgt := 47) hx hb d_M_writeOwn_43 (by decide) ?_
    refine mr_put F w (kin in_M) t_M t_M_ok n_M 2 (by decide) rfl rfl 4 (by decide) (kws_in m_53) (fun _ h => h) rfl rfl rfl (Nat.le_of_ble_eq_true rfl) rfl d_M_writeOwn_47 (fun H locs w => ?_)
    refine lv_iinc (v := nI 32) (lv' := [(3, .int (nI 32)), (0, .ref (ad 2)), (1, .int (nI pg)), (2, .ref (ad (f + 17)))]) hx hb d_M_writeOwn_50 hl (k := 0) rfl (nI_add _ 32) (by decide) rfl (fun ls hl => ?_)
    refine lv_goto (tgt := 2) hx hb d_M_writeOwn_53 (by decide) ?_
    refine lv_iload_n hx hb d_M_writeOwn_2 rfl (lv_at hl 0 rfl) ?_
    refine lv_bipush (v := nI 64) hx hb d_M_writeOwn_3 (by decide) ?_
    refine nr_icmp_ge (tgt := 56) hx hb d_M_writeOwn_5 (by decide) (by omega) (by omega) (fun c7 => absurd c7 (by omega)) (fun _ => ?_)
    refine lv_aload_n hx hb d_M_writeOwn_8 rfl (lv_at hl 1 rfl) ?_
    refine mr_get F w (kin in_M) 2 (by decide) rfl rfl 0 (by decide) (kws_in m_48) (fun _ h => h) rfl d_M_writeOwn_9 ?_
    refine mr_callVi (As := []) F w hl.1 (c_W_leastWrite (mup (mcp σ3 (f + 17) 3 0 ((pg * 64) + 0) 32) 2 4 (nI 1))) (cwV 0 hts g_M_writeOwn_12 rfl rfl rfl (by decide +kernel) ⟨Nat.le_of_ble_eq_true rfl, Nat.le_of_ble_eq_true rfl⟩) rfl (by decide) rfl rfl rfl (Nat.le_of_ble_eq_true rfl) d_M_writeOwn_12 ⟨Nat.zero_le _, Nat.zero_le _⟩ (fun r8 σ9 H locs e10 w => ?_)
    have e10_r := e10.1.symm
    have e10_s := e10.2.symm
    clear e10
    refine lv_if_ne (tgt := 20) hx hb d_M_writeOwn_15 (by decide) (fun c11 => ?_) (fun c11 => ?_)
    · refine lv_aload_n hx hb d_M_writeOwn_20 rfl (lv_at hl 3 rfl) ?_
      refine lv_iload_n hx hb d_M_writeOwn_21 rfl (lv_at hl 0 rfl) ?_
      refine lv_aload_n hx hb d_M_writeOwn_22 rfl (lv_at hl 1 rfl) ?_
      refine mr_get F w (kin in_M) 2 (by decide) rfl rfl 1 (by decide) (kws_in m_49) (fun _ h => h) rfl d_M_writeOwn_23 ?_
      refine lv_iload_n hx hb d_M_writeOwn_26 rfl (lv_at hl 2 rfl) ?_
      refine lv_bipush (v := nI 64) hx hb d_M_writeOwn_27 (by decide) ?_
      refine nr_imul hx hb d_M_writeOwn_29 ?_
      refine lv_iload_n hx hb d_M_writeOwn_30 rfl (lv_at hl 0 rfl) ?_
      refine nr_iadd hx hb d_M_writeOwn_31 ?_
      refine lv_bipush (v := nI 32) hx hb d_M_writeOwn_32 (by decide) ?_
      refine mr_copy F w hl.1 (kws_in m_321) (kws_in m_323) (kws_in m_322) (kws_in m_12) (f + 17) 3 0 (by omega) (by decide) eP_V (fun _ => rfl) rfl 32 ((pg * 64) + 32) 32 (by omega) (by omega) (by decide) (by decide) rfl rfl rfl (Nat.le_of_ble_eq_true rfl) (Nat.le_of_ble_eq_true rfl) d_M_writeOwn_34 (fun H locs w => ?_)
      refine lv_aload_n hx hb d_M_writeOwn_37 rfl (lv_at hl 1 rfl) ?_
      refine lv_iload_n hx hb d_M_writeOwn_38 rfl (lv_at hl 0 rfl) ?_
      refine lv_if_ne (tgt := 46) hx hb d_M_writeOwn_39 (by decide) (fun _ => ?_) (fun c12 => absurd c12 (by decide))
      refine lv_iconst (v := nI 0) hx hb d_M_writeOwn_46 (by decide) ?_
      refine mr_put F w (kin in_M) t_M t_M_ok n_M 2 (by decide) rfl rfl 4 (by decide) (kws_in m_53) (fun _ h => h) rfl rfl rfl (Nat.le_of_ble_eq_true rfl) rfl d_M_writeOwn_47 (fun H locs w => ?_)
      refine lv_iinc (v := nI 64) (lv' := [(3, .int (nI 64)), (0, .ref (ad 2)), (1, .int (nI pg)), (2, .ref (ad (f + 17)))]) hx hb d_M_writeOwn_50 hl (k := 0) rfl (nI_add _ 32) (by decide) rfl (fun ls hl => ?_)
      refine lv_goto (tgt := 2) hx hb d_M_writeOwn_53 (by decide) ?_
      refine lv_iload_n hx hb d_M_writeOwn_2 rfl (lv_at hl 0 rfl) ?_
      refine lv_bipush (v := nI 64) hx hb d_M_writeOwn_3 (by decide) ?_
      refine nr_icmp_ge (tgt := 56) hx hb d_M_writeOwn_5 (by decide) (by omega) (by omega) (fun _ => ?_) (fun c13 => absurd c13 (by omega))
      refine lv_iconst (v := nI 1) hx hb d_M_writeOwn_56 (by decide) ?_
      exact mr_zret F w hr hlk (Or.inr rfl) (⟨by subst e4_r e4_s e10_r e10_s; first | rfl | (simp only [kOwn, kThen, if_neg c5, if_neg c11]; done) | (simp only [kOwn, kThen, if_neg c5, if_neg c11]; rfl), by subst e4_r e4_s e10_r e10_s; first | rfl | (simp only [kOwn, kThen, if_neg c5, if_neg c11]; done) | (simp only [kOwn, kThen, if_neg c5, if_neg c11]; rfl)⟩) d_M_writeOwn_57
    · refine lv_iconst (v := nI 0) hx hb d_M_writeOwn_18 (by decide) ?_
      exact mr_zret F w hr hlk (Or.inl rfl) (⟨by subst e4_r e4_s e10_r e10_s; first | rfl | (simp only [kOwn, kThen, if_neg c5, if_pos c11]; done) | (simp only [kOwn, kThen, if_neg c5, if_pos c11]; rfl), by subst e4_r e4_s e10_r e10_s; first | rfl | (simp only [kOwn, kThen, if_neg c5, if_pos c11]; done) | (simp only [kOwn, kThen, if_neg c5, if_pos c11]; rfl)⟩) d_M_writeOwn_19
  · refine lv_iconst (v := nI 0) hx hb d_M_writeOwn_18 (by decide) ?_
    exact mr_zret F w hr hlk (Or.inl rfl) (⟨by subst e4_r e4_s; first | rfl | (simp only [kOwn, kThen, if_pos c5]; done) | (simp only [kOwn, kThen, if_pos c5]; rfl), by subst e4_r e4_s; first | rfl | (simp only [kOwn, kThen, if_pos c5]; done) | (simp only [kOwn, kThen, if_pos c5]; rfl)⟩) d_M_writeOwn_19
set_option maxHeartbeats 4000000 in
set_option maxRecDepth 100000 in
theorem c_M_writeOwnS (σ : Mem) (pg : Nat) (hp : pg < 256)  : KIP l D cI cF cZ cJ ad y_M_writeOwn b_M_writeOwn 4 (some .boolean) 2 60 [.ref (ad 2), .int (nI pg), .ref (ad 4)] σ (fun r σ' => r = (kOwn σ pg 4).1 ∧ σ' = (kOwn σ pg 4).2) := by
  refine KI.of (by decide) (Nat.le_of_ble_eq_true rfl) ?_
  intro p e s m args below meth c A ls F w hl hr hlk
  obtain ⟨hx, hb, hml, hown, hts⟩ := id F
  have hl : lv_has ls 4 [(0, .ref (ad 2)), (1, .int (nI pg)), (2, .ref (ad 4))] := hl
  refine lv_iconst (v := nI 0) hx hb d_M_writeOwn_0 (by decide) ?_
  refine lv_istore_n (lv' := [(3, .int (nI 0)), (0, .ref (ad 2)), (1, .int (nI pg)), (2, .ref (ad 4))]) hx hb d_M_writeOwn_1 rfl hl (by decide) rfl (fun ls hl => ?_)
  refine lv_iload_n hx hb d_M_writeOwn_2 rfl (lv_at hl 0 rfl) ?_
  refine lv_bipush (v := nI 64) hx hb d_M_writeOwn_3 (by decide) ?_
  refine nr_icmp_ge (tgt := 56) hx hb d_M_writeOwn_5 (by decide) (by omega) (by omega) (fun c1 => absurd c1 (by omega)) (fun _ => ?_)
  refine lv_aload_n hx hb d_M_writeOwn_8 rfl (lv_at hl 1 rfl) ?_
  refine mr_get F w (kin in_M) 2 (by decide) rfl rfl 0 (by decide) (kws_in m_48) (fun _ h => h) rfl d_M_writeOwn_9 ?_
  refine mr_callVi (As := []) F w hl.1 (c_W_leastWrite σ) (cwV 0 hts g_M_writeOwn_12 rfl rfl rfl (by decide +kernel) ⟨Nat.le_of_ble_eq_true rfl, Nat.le_of_ble_eq_true rfl⟩) rfl (by decide) rfl rfl rfl (Nat.le_of_ble_eq_true rfl) d_M_writeOwn_12 ⟨Nat.zero_le _, Nat.zero_le _⟩ (fun r2 σ3 H locs e4 w => ?_)
  have e4_r := e4.1.symm
  have e4_s := e4.2.symm
  clear e4
  refine lv_if_ne (tgt := 20) hx hb d_M_writeOwn_15 (by decide) (fun c5 => ?_) (fun c5 => ?_)
  · refine lv_aload_n hx hb d_M_writeOwn_20 rfl (lv_at hl 3 rfl) ?_
    refine lv_iload_n hx hb d_M_writeOwn_21 rfl (lv_at hl 0 rfl) ?_
    refine lv_aload_n hx hb d_M_writeOwn_22 rfl (lv_at hl 1 rfl) ?_
    refine mr_get F w (kin in_M) 2 (by decide) rfl rfl 1 (by decide) (kws_in m_49) (fun _ h => h) rfl d_M_writeOwn_23 ?_
    refine lv_iload_n hx hb d_M_writeOwn_26 rfl (lv_at hl 2 rfl) ?_
    refine lv_bipush (v := nI 64) hx hb d_M_writeOwn_27 (by decide) ?_
    refine nr_imul hx hb d_M_writeOwn_29 ?_
    refine lv_iload_n hx hb d_M_writeOwn_30 rfl (lv_at hl 0 rfl) ?_
    refine nr_iadd hx hb d_M_writeOwn_31 ?_
    refine lv_bipush (v := nI 32) hx hb d_M_writeOwn_32 (by decide) ?_
    refine mr_copy F w hl.1 (kws_in m_321) (kws_in m_323) (kws_in m_322) (kws_in m_12) 4 3 0 (by decide) (by decide) (fun _ => rfl) (fun _ => rfl) rfl 0 ((pg * 64) + 0) 32 (by omega) (by omega) (by decide) (by decide) rfl rfl rfl (Nat.le_of_ble_eq_true rfl) (Nat.le_of_ble_eq_true rfl) d_M_writeOwn_34 (fun H locs w => ?_)
    refine lv_aload_n hx hb d_M_writeOwn_37 rfl (lv_at hl 1 rfl) ?_
    refine lv_iload_n hx hb d_M_writeOwn_38 rfl (lv_at hl 0 rfl) ?_
    refine lv_if_ne (tgt := 46) hx hb d_M_writeOwn_39 (by decide) (fun c6 => absurd c6 (by decide)) (fun _ => ?_)
    refine lv_iconst (v := nI 1) hx hb d_M_writeOwn_42 (by decide) ?_
    refine lv_goto (tgt := 47) hx hb d_M_writeOwn_43 (by decide) ?_
    refine mr_put F w (kin in_M) t_M t_M_ok n_M 2 (by decide) rfl rfl 4 (by decide) (kws_in m_53) (fun _ h => h) rfl rfl rfl (Nat.le_of_ble_eq_true rfl) rfl d_M_writeOwn_47 (fun H locs w => ?_)
    refine lv_iinc (v := nI 32) (lv' := [(3, .int (nI 32)), (0, .ref (ad 2)), (1, .int (nI pg)), (2, .ref (ad 4))]) hx hb d_M_writeOwn_50 hl (k := 0) rfl (nI_add _ 32) (by decide) rfl (fun ls hl => ?_)
    refine lv_goto (tgt := 2) hx hb d_M_writeOwn_53 (by decide) ?_
    refine lv_iload_n hx hb d_M_writeOwn_2 rfl (lv_at hl 0 rfl) ?_
    refine lv_bipush (v := nI 64) hx hb d_M_writeOwn_3 (by decide) ?_
    refine nr_icmp_ge (tgt := 56) hx hb d_M_writeOwn_5 (by decide) (by omega) (by omega) (fun c7 => absurd c7 (by omega)) (fun _ => ?_)
    refine lv_aload_n hx hb d_M_writeOwn_8 rfl (lv_at hl 1 rfl) ?_
    refine mr_get F w (kin in_M) 2 (by decide) rfl rfl 0 (by decide) (kws_in m_48) (fun _ h => h) rfl d_M_writeOwn_9 ?_
    refine mr_callVi (As := []) F w hl.1 (c_W_leastWrite (mup (mcp σ3 4 3 0 ((pg * 64) + 0) 32) 2 4 (nI 1))) (cwV 0 hts g_M_writeOwn_12 rfl rfl rfl (by decide +kernel) ⟨Nat.le_of_ble_eq_true rfl, Nat.le_of_ble_eq_true rfl⟩) rfl (by decide) rfl rfl rfl (Nat.le_of_ble_eq_true rfl) d_M_writeOwn_12 ⟨Nat.zero_le _, Nat.zero_le _⟩ (fun r8 σ9 H locs e10 w => ?_)
    have e10_r := e10.1.symm
    have e10_s := e10.2.symm
    clear e10
    refine lv_if_ne (tgt := 20) hx hb d_M_writeOwn_15 (by decide) (fun c11 => ?_) (fun c11 => ?_)
    · refine lv_aload_n hx hb d_M_writeOwn_20 rfl (lv_at hl 3 rfl) ?_
      refine lv_iload_n hx hb d_M_writeOwn_21 rfl (lv_at hl 0 rfl) ?_
      refine lv_aload_n hx hb d_M_writeOwn_22 rfl (lv_at hl 1 rfl) ?_
      refine mr_get F w (kin in_M) 2 (by decide) rfl rfl 1 (by decide) (kws_in m_49) (fun _ h => h) rfl d_M_writeOwn_23 ?_
      refine lv_iload_n hx hb d_M_writeOwn_26 rfl (lv_at hl 2 rfl) ?_
      refine lv_bipush (v := nI 64) hx hb d_M_writeOwn_27 (by decide) ?_
      refine nr_imul hx hb d_M_writeOwn_29 ?_
      refine lv_iload_n hx hb d_M_writeOwn_30 rfl (lv_at hl 0 rfl) ?_
      refine nr_iadd hx hb d_M_writeOwn_31 ?_
      refine lv_bipush (v := nI 32) hx hb d_M_writeOwn_32 (by decide) ?_
      refine mr_copy F w hl.1 (kws_in m_321) (kws_in m_323) (kws_in m_322) (kws_in m_12) 4 3 0 (by decide) (by decide) (fun _ => rfl) (fun _ => rfl) rfl 32 ((pg * 64) + 32) 32 (by omega) (by omega) (by decide) (by decide) rfl rfl rfl (Nat.le_of_ble_eq_true rfl) (Nat.le_of_ble_eq_true rfl) d_M_writeOwn_34 (fun H locs w => ?_)
      refine lv_aload_n hx hb d_M_writeOwn_37 rfl (lv_at hl 1 rfl) ?_
      refine lv_iload_n hx hb d_M_writeOwn_38 rfl (lv_at hl 0 rfl) ?_
      refine lv_if_ne (tgt := 46) hx hb d_M_writeOwn_39 (by decide) (fun _ => ?_) (fun c12 => absurd c12 (by decide))
      refine lv_iconst (v := nI 0) hx hb d_M_writeOwn_46 (by decide) ?_
      refine mr_put F w (kin in_M) t_M t_M_ok n_M 2 (by decide) rfl rfl 4 (by decide) (kws_in m_53) (fun _ h => h) rfl rfl rfl (Nat.le_of_ble_eq_true rfl) rfl d_M_writeOwn_47 (fun H locs w => ?_)
      refine lv_iinc (v := nI 64) (lv' := [(3, .int (nI 64)), (0, .ref (ad 2)), (1, .int (nI pg)), (2, .ref (ad 4))]) hx hb d_M_writeOwn_50 hl (k := 0) rfl (nI_add _ 32) (by decide) rfl (fun ls hl => ?_)
      refine lv_goto (tgt := 2) hx hb d_M_writeOwn_53 (by decide) ?_
      refine lv_iload_n hx hb d_M_writeOwn_2 rfl (lv_at hl 0 rfl) ?_
      refine lv_bipush (v := nI 64) hx hb d_M_writeOwn_3 (by decide) ?_
      refine nr_icmp_ge (tgt := 56) hx hb d_M_writeOwn_5 (by decide) (by omega) (by omega) (fun _ => ?_) (fun c13 => absurd c13 (by omega))
      refine lv_iconst (v := nI 1) hx hb d_M_writeOwn_56 (by decide) ?_
      exact mr_zret F w hr hlk (Or.inr rfl) (⟨by subst e4_r e4_s e10_r e10_s; first | rfl | (simp only [kOwn, kThen, if_neg c5, if_neg c11]; done) | (simp only [kOwn, kThen, if_neg c5, if_neg c11]; rfl), by subst e4_r e4_s e10_r e10_s; first | rfl | (simp only [kOwn, kThen, if_neg c5, if_neg c11]; done) | (simp only [kOwn, kThen, if_neg c5, if_neg c11]; rfl)⟩) d_M_writeOwn_57
    · refine lv_iconst (v := nI 0) hx hb d_M_writeOwn_18 (by decide) ?_
      exact mr_zret F w hr hlk (Or.inl rfl) (⟨by subst e4_r e4_s e10_r e10_s; first | rfl | (simp only [kOwn, kThen, if_neg c5, if_pos c11]; done) | (simp only [kOwn, kThen, if_neg c5, if_pos c11]; rfl), by subst e4_r e4_s e10_r e10_s; first | rfl | (simp only [kOwn, kThen, if_neg c5, if_pos c11]; done) | (simp only [kOwn, kThen, if_neg c5, if_pos c11]; rfl)⟩) d_M_writeOwn_19
  · refine lv_iconst (v := nI 0) hx hb d_M_writeOwn_18 (by decide) ?_
    exact mr_zret F w hr hlk (Or.inl rfl) (⟨by subst e4_r e4_s; first | rfl | (simp only [kOwn, kThen, if_pos c5]; done) | (simp only [kOwn, kThen, if_pos c5]; rfl), by subst e4_r e4_s; first | rfl | (simp only [kOwn, kThen, if_pos c5]; done) | (simp only [kOwn, kThen, if_pos c5]; rfl)⟩) d_M_writeOwn_19
end
