/-! PagePool.start -/
section
variable {l : Launch} {D : va_G} {cI cF cZ cJ : ClassId} {ad : Nat → Nat} {σ : Mem}
set_option maxRecDepth 20000 in
theorem m_501 : Cond.methodLink "PagePool" 181 (⟨"PagePool", "doAgain", "(I)I"⟩ : MethodName) ∈ gt := gt_in 501 (by decide +kernel) (by decide +kernel)
set_option maxRecDepth 20000 in
theorem m_504 : Cond.code (⟨"PagePool", "doAgain", "(I)I"⟩ : MethodName) prog_1_method_32_code 4 (some .int) ∈ gt := gt_in 504 (by decide +kernel) (by decide +kernel)
set_option maxRecDepth 20000 in
theorem m_503 : Cond.instanceMethod (⟨"PagePool", "doAgain", "(I)I"⟩ : MethodName) ∈ gt := gt_in 503 (by decide +kernel) (by decide +kernel)
set_option maxRecDepth 20000 in
theorem ms_10 : Cond.selects "PagePool" (⟨"PagePool", "doAgain", "(I)I"⟩ : MethodName) (⟨"PagePool", "doAgain", "(I)I"⟩ : MethodName) ∈ gt := gt_sel 10 (by decide +kernel) (by decide +kernel)
set_option maxRecDepth 20000 in
theorem m_490 : Cond.methodLink "PagePool" 172 (⟨"PagePool$ChangeLog", "fillUp", "()Z"⟩ : MethodName) ∈ gt := gt_in 490 (by decide +kernel) (by decide +kernel)
set_option maxRecDepth 20000 in
theorem m_493 : Cond.code (⟨"PagePool$ChangeLog", "fillUp", "()Z"⟩ : MethodName) prog_2_method_5_code 2 (some .boolean) ∈ gt := gt_in 493 (by decide +kernel) (by decide +kernel)
set_option maxRecDepth 20000 in
theorem m_491 : Cond.instanceMethod (⟨"PagePool$ChangeLog", "fillUp", "()Z"⟩ : MethodName) ∈ gt := gt_in 491 (by decide +kernel) (by decide +kernel)
set_option maxRecDepth 20000 in
theorem m_492 : Cond.selects "PagePool$ChangeLog" (⟨"PagePool$ChangeLog", "fillUp", "()Z"⟩ : MethodName) (⟨"PagePool$ChangeLog", "fillUp", "()Z"⟩ : MethodName) ∈ gt := gt_in 492 (by decide +kernel) (by decide +kernel)
set_option maxRecDepth 20000 in
theorem m_495 : Cond.methodLink "PagePool" 175 (⟨"PagePool$Medium", "mend", "()Z"⟩ : MethodName) ∈ gt := gt_in 495 (by decide +kernel) (by decide +kernel)
set_option maxRecDepth 20000 in
theorem m_498 : Cond.code (⟨"PagePool$Medium", "mend", "()Z"⟩ : MethodName) prog_4_method_5_code 1 (some .boolean) ∈ gt := gt_in 498 (by decide +kernel) (by decide +kernel)
set_option maxRecDepth 20000 in
theorem m_496 : Cond.instanceMethod (⟨"PagePool$Medium", "mend", "()Z"⟩ : MethodName) ∈ gt := gt_in 496 (by decide +kernel) (by decide +kernel)
set_option maxRecDepth 20000 in
theorem m_497 : Cond.selects "PagePool$Medium" (⟨"PagePool$Medium", "mend", "()Z"⟩ : MethodName) (⟨"PagePool$Medium", "mend", "()Z"⟩ : MethodName) ∈ gt := gt_in 497 (by decide +kernel) (by decide +kernel)
set_option maxRecDepth 20000 in
theorem m_500 : Cond.methodLink "PagePool" 178 (⟨"PagePool$ChangeLog", "count", "()I"⟩ : MethodName) ∈ gt := gt_in 500 (by decide +kernel) (by decide +kernel)
theorem d_P_start_0 : decode b_P_start 0 = .ok (.aload_n 0, 1) := by decide +kernel
theorem d_P_start_1 : decode b_P_start 1 = .ok (.getfield 12, 3) := by decide +kernel
theorem d_P_start_4 : decode b_P_start 4 = .ok (.getfield 164, 3) := by decide +kernel
theorem d_P_start_7 : decode b_P_start 7 = .ok (.ifCond .eq 13, 3) := by decide +kernel
theorem d_P_start_10 : decode b_P_start 10 = .ok (.new 88, 3) := by decide +kernel
theorem d_P_start_13 : decode b_P_start 13 = .ok (.dup, 1) := by decide +kernel
theorem d_P_start_14 : decode b_P_start 14 = .ok (.ldc 170, 2) := by decide +kernel
theorem d_P_start_16 : decode b_P_start 16 = .ok (.invokespecial 92, 3) := by decide +kernel
theorem d_P_start_19 : decode b_P_start 19 = .ok (.athrow, 1) := by decide +kernel
theorem d_P_start_20 : decode b_P_start 20 = .ok (.aload_n 0, 1) := by decide +kernel
theorem d_P_start_21 : decode b_P_start 21 = .ok (.getfield 12, 3) := by decide +kernel
theorem d_P_start_24 : decode b_P_start 24 = .ok (.iconst 1, 1) := by decide +kernel
theorem d_P_start_25 : decode b_P_start 25 = .ok (.putfield 164, 3) := by decide +kernel
theorem d_P_start_28 : decode b_P_start 28 = .ok (.aload_n 0, 1) := by decide +kernel
theorem d_P_start_29 : decode b_P_start 29 = .ok (.getfield 28, 3) := by decide +kernel
theorem d_P_start_32 : decode b_P_start 32 = .ok (.invokevirtual 172, 3) := by decide +kernel
theorem d_P_start_35 : decode b_P_start 35 = .ok (.ifCond .eq 13, 3) := by decide +kernel
theorem d_P_start_38 : decode b_P_start 38 = .ok (.aload_n 0, 1) := by decide +kernel
theorem d_P_start_39 : decode b_P_start 39 = .ok (.getfield 21, 3) := by decide +kernel
theorem d_P_start_42 : decode b_P_start 42 = .ok (.invokevirtual 175, 3) := by decide +kernel
theorem d_P_start_45 : decode b_P_start 45 = .ok (.ifCond .ne 9, 3) := by decide +kernel
theorem d_P_start_48 : decode b_P_start 48 = .ok (.aload_n 0, 1) := by decide +kernel
theorem d_P_start_49 : decode b_P_start 49 = .ok (.invokevirtual 129, 3) := by decide +kernel
theorem d_P_start_52 : decode b_P_start 52 = .ok (.iconst (-1), 1) := by decide +kernel
theorem d_P_start_53 : decode b_P_start 53 = .ok (.ireturn, 1) := by decide +kernel
theorem d_P_start_54 : decode b_P_start 54 = .ok (.aload_n 0, 1) := by decide +kernel
theorem d_P_start_55 : decode b_P_start 55 = .ok (.getfield 28, 3) := by decide +kernel
theorem d_P_start_58 : decode b_P_start 58 = .ok (.invokevirtual 178, 3) := by decide +kernel
theorem d_P_start_61 : decode b_P_start 61 = .ok (.istore_n 1, 1) := by decide +kernel
theorem d_P_start_62 : decode b_P_start 62 = .ok (.iconst 0, 1) := by decide +kernel
theorem d_P_start_63 : decode b_P_start 63 = .ok (.istore_n 2, 1) := by decide +kernel
theorem d_P_start_64 : decode b_P_start 64 = .ok (.iconst 0, 1) := by decide +kernel
theorem d_P_start_65 : decode b_P_start 65 = .ok (.istore_n 3, 1) := by decide +kernel
theorem d_P_start_66 : decode b_P_start 66 = .ok (.iload_n 3, 1) := by decide +kernel
theorem d_P_start_67 : decode b_P_start 67 = .ok (.iload_n 1, 1) := by decide +kernel
theorem d_P_start_68 : decode b_P_start 68 = .ok (.if_icmp .ge 40, 3) := by decide +kernel
theorem d_P_start_71 : decode b_P_start 71 = .ok (.aload_n 0, 1) := by decide +kernel
theorem d_P_start_72 : decode b_P_start 72 = .ok (.aload_n 0, 1) := by decide +kernel
theorem d_P_start_73 : decode b_P_start 73 = .ok (.getfield 28, 3) := by decide +kernel
theorem d_P_start_76 : decode b_P_start 76 = .ok (.getfield 142, 3) := by decide +kernel
theorem d_P_start_79 : decode b_P_start 79 = .ok (.iload_n 3, 1) := by decide +kernel
theorem d_P_start_80 : decode b_P_start 80 = .ok (.bipush 8, 2) := by decide +kernel
theorem d_P_start_82 : decode b_P_start 82 = .ok (.imul, 1) := by decide +kernel
theorem d_P_start_83 : decode b_P_start 83 = .ok (.iadd, 1) := by decide +kernel
theorem d_P_start_84 : decode b_P_start 84 = .ok (.invokevirtual 181, 3) := by decide +kernel
theorem d_P_start_87 : decode b_P_start 87 = .ok (.istore 4, 2) := by decide +kernel
theorem d_P_start_89 : decode b_P_start 89 = .ok (.iload 4, 2) := by decide +kernel
theorem d_P_start_91 : decode b_P_start 91 = .ok (.iconst (-1), 1) := by decide +kernel
theorem d_P_start_92 : decode b_P_start 92 = .ok (.if_icmp .ne 5, 3) := by decide +kernel
theorem d_P_start_95 : decode b_P_start 95 = .ok (.iconst (-1), 1) := by decide +kernel
theorem d_P_start_96 : decode b_P_start 96 = .ok (.ireturn, 1) := by decide +kernel
theorem d_P_start_97 : decode b_P_start 97 = .ok (.iload_n 2, 1) := by decide +kernel
theorem d_P_start_98 : decode b_P_start 98 = .ok (.iload 4, 2) := by decide +kernel
theorem d_P_start_100 : decode b_P_start 100 = .ok (.iadd, 1) := by decide +kernel
theorem d_P_start_101 : decode b_P_start 101 = .ok (.istore_n 2, 1) := by decide +kernel
theorem d_P_start_102 : decode b_P_start 102 = .ok (.iinc 3 1, 3) := by decide +kernel
theorem d_P_start_105 : decode b_P_start 105 = .ok (.goto (-39), 3) := by decide +kernel
theorem d_P_start_108 : decode b_P_start 108 = .ok (.iload_n 2, 1) := by decide +kernel
theorem d_P_start_109 : decode b_P_start 109 = .ok (.ireturn, 1) := by decide +kernel
set_option maxRecDepth 20000 in
theorem g_P_start_84 : GoodIn (kws (y_P_start) b_P_start 5 (some .int)) (wsV R_P 181 R_P y_P_doAgain (kws (y_P_doAgain) b_P_doAgain 4 (some .int))) := kwV m_501 m_503 ms_10 m_1 m_504
set_option maxRecDepth 20000 in
theorem g_P_start_32 : GoodIn (kws (y_P_start) b_P_start 5 (some .int)) (wsV R_P 172 R_C y_C_fillUp (kws (y_C_fillUp) b_C_fillUp 2 (some .boolean))) := kwV m_490 m_491 m_492 m_4 m_493
set_option maxRecDepth 20000 in
theorem g_P_start_49 : GoodIn (kws (y_P_start) b_P_start 5 (some .int)) (wsV R_P 129 R_P y_P_loseMemory (kws (y_P_loseMemory) b_P_loseMemory 2 none)) := kwV m_171 m_173 ms_1 m_1 m_174
set_option maxRecDepth 20000 in
theorem g_P_start_42 : GoodIn (kws (y_P_start) b_P_start 5 (some .int)) (wsV R_P 175 R_M y_M_mend (kws (y_M_mend) b_M_mend 1 (some .boolean))) := kwV m_495 m_496 m_497 m_3 m_498
set_option maxRecDepth 20000 in
theorem g_P_start_58 : GoodIn (kws (y_P_start) b_P_start 5 (some .int)) (wsV R_P 178 R_C y_C_count (kws (y_C_count) b_C_count 1 (some .int))) := kwV m_500 m_426 m_427 m_4 m_428
def sOK (τ : Mem) (x : Int32) : Prop := nat0 8 (τ 0 4) ∧ pgOK τ ∧ (¬ kIsCh τ x = 0 → nat0 16384 (τ 6 (kSlot x)))
def kLoop : Nat → Nat → Int32 → Mem → Int32 × Mem
  | 0, _, d, τ => (d, τ)
  | n + 1, k, d, τ => if (kAgain τ (τ 5 3 + nI (k * 8))).1 = -1 then (-1, (kAgain τ (τ 5 3 + nI (k * 8))).2) else kLoop n (k + 1) (d + (kAgain τ (τ 5 3 + nI (k * 8))).1) (kAgain τ (τ 5 3 + nI (k * 8))).2
def kLoopOK : Nat → Nat → Mem → Prop
  | 0, _, _ => True
  | n + 1, k, τ => sOK τ (τ 5 3 + nI (k * 8)) ∧ (¬ (kAgain τ (τ 5 3 + nI (k * 8))).1 = -1 → kLoopOK n (k + 1) (kAgain τ (τ 5 3 + nI (k * 8))).2)
def kF (σ : Mem) : Int32 × Mem := kFill (mup σ 1 0 (nI 1))
def kG (σ : Mem) : Int32 × Mem := kMend (kF σ).2
def xStart (σ : Mem) : Nat × Int32 × Mem :=
  if σ 1 0 = 0 then (if (kF σ).1 = 0 then (0, -1, kLose (kF σ).2) else if (kG σ).1 = 0 then (0, -1, kLose (kG σ).2) else (0, kLoop (kCnt (kG σ).2) 0 (nI 0) (kG σ).2)) else (1, nI 0, σ)
theorem kFill_2 (σ : Mem) : (kFill σ).2 2 = σ 2 := by
  unfold kFill
  split
  · rfl
  · dsimp only
    rw [kFT_n _ _ (by decide) (by decide), mup_n _ _ _ (by decide), mup_n _ _ _ (by decide)]
set_option maxHeartbeats 4000000 in
set_option maxRecDepth 100000 in
theorem c_P_start (hl9 : l.stackTraces = false) (σ : Mem) (hs : nat0 256 (σ 2 3)) (hc : σ 1 0 = 0 → ¬ (kF σ).1 = 0 → ¬ (kG σ).1 = 0 → ((kG σ).2 5 5 - (kG σ).2 5 3) / nI 8 = nI (kCnt (kG σ).2)) (hc2 : kCnt (kG σ).2 < 2 ^ 30) (hL : σ 1 0 = 0 → ¬ (kF σ).1 = 0 → ¬ (kG σ).1 = 0 → kLoopOK (kCnt (kG σ).2) 0 (kG σ).2) : KXi l D clP (tyP cI cF cZ cJ) 25 (eP cI cF ad) ad y_P_start b_P_start 5 (some .int) { frames := 8, cells := 1, slots := 6, locals := 200 } [.ref (ad 0)] σ (fun r σ' => xStart σ = (0, r, σ')) (fun C => (xStart σ).1 ≠ 0 ∧ C = xn (xStart σ).1) := by
  refine KXi.of (by decide) (Nat.le_of_ble_eq_true rfl) ?_
  intro p e s m args below meth c A ls F w hT hl hr hlk hex
  obtain ⟨hx, hb, hml, hown, hts⟩ := id F
  have hl : lv_has ls 5 [(0, .ref (ad 0))] := hl
  have loopB : ∀ (n : Nat) (k : Nat) (d : Int32) (τ : Mem) (hok : kLoopOK n k τ) (hn : k + n = kCnt (kG σ).2) (hk : (0, kLoop n k d τ) = xStart σ) (H : Heap) (locs : List Loc) (ls : Array Slot), mW D clP (tyP cI cF cZ cJ) 25 (eP cI cF ad) ad τ s A s.heap H locs → lv_has ls 5 [(3, .int (nI k)), (2, .int d), (1, .int (nI (kCnt (kG σ).2))), (0, .ref (ad 0))] → W p l e { frames := 8, cells := 1, slots := 6, locals := 200 } s m args below meth c H locs 0 0 (vx_MQ below (va_Qi (fun r σ' => xStart σ = (0, r, σ')) (KB D clP (tyP cI cF cZ cJ) 25 (eP cI cF ad) ad) A) (XCf D clP (tyP cI cF cZ cJ) 25 (eP cI cF ad) ad σ (fun C => (xStart σ).1 ≠ 0 ∧ C = xn (xStart σ).1) A) args s 1 6 A) (F0 m 66 ls []) := by
    intro n
    induction n with
    | zero =>
      intro k d τ hok hn hk H locs ls w hl
      refine lv_iload_n hx hb d_P_start_66 rfl (lv_at hl 0 rfl) ?_
      refine lv_iload_n hx hb d_P_start_67 rfl (lv_at hl 2 rfl) ?_
      refine nr_icmp_ge (tgt := 108) hx hb d_P_start_68 (by decide) (by omega) (by omega) (fun c1 => ?_) (fun c1 => absurd (by omega) c1)
      refine lv_iload_n hx hb d_P_start_108 rfl (lv_at hl 1 rfl) ?_
      exact mr_xiret F w hr hlk (Nat.le_of_ble_eq_true rfl) (Nat.le_of_ble_eq_true rfl) (by rw [← hk]; rfl) d_P_start_109
    | succ n ih =>
      intro k d τ hok hn hk H locs ls w hl
      refine lv_iload_n hx hb d_P_start_66 rfl (lv_at hl 0 rfl) ?_
      refine lv_iload_n hx hb d_P_start_67 rfl (lv_at hl 2 rfl) ?_
      refine nr_icmp_ge (tgt := 108) hx hb d_P_start_68 (by decide) (by omega) (by omega) (fun c2 => absurd c2 (by omega)) (fun c2 => ?_)
      refine lv_aload_n hx hb d_P_start_71 rfl (lv_at hl 3 rfl) ?_
      refine lv_aload_n hx hb d_P_start_72 rfl (lv_at hl 3 rfl) ?_
      refine mr_get F w (kin in_P) 0 (by decide) rfl rfl 2 (by decide) (kws_in m_125) (fun _ h => h) rfl d_P_start_73 ?_
      refine mr_get F w (kin in_C) 5 (by decide) rfl rfl 3 (by decide) (kws_in m_77) (fun _ h => h) rfl d_P_start_76 ?_
      refine lv_iload_n hx hb d_P_start_79 rfl (lv_at hl 0 rfl) ?_
      refine lv_bipush (v := nI 8) hx hb d_P_start_80 (by decide) ?_
      refine nr_imul hx hb d_P_start_82 ?_
      refine lv_iadd hx hb d_P_start_83 ?_
      refine mr_callVi (As := [.int ((τ 5 3) + (nI (k * 8)))]) F w hl.1 (c_P_doAgain τ ((τ 5 3) + (nI (k * 8))) hok.1.1 hok.1.2.1 hok.1.2.2) (cwV 1 hts g_P_start_84 rfl rfl rfl (by decide +kernel) ⟨Nat.le_of_ble_eq_true rfl, Nat.le_of_ble_eq_true rfl⟩) rfl (by decide) rfl rfl rfl (Nat.le_of_ble_eq_true rfl) d_P_start_84 ⟨Nat.le_of_ble_eq_true rfl, Nat.le_of_ble_eq_true rfl⟩ (fun r3 σ4 H locs e5 w => ?_)
      have e5_r := e5.1.symm
      have e5_s := e5.2.symm
      clear e5
      refine lv_istore (lv' := [(4, .int r3), (3, .int (nI k)), (2, .int d), (1, .int (nI (kCnt (kG σ).2))), (0, .ref (ad 0))]) hx hb d_P_start_87 hl (by decide) rfl (fun ls hl => ?_)
      refine lv_iload hx hb d_P_start_89 (lv_at hl 0 rfl) ?_
      refine lv_iconst (v := -1) hx hb d_P_start_91 (by decide) ?_
      refine lv_icmp_ne (tgt := 97) hx hb d_P_start_92 (by decide) (fun c6 => ?_) (fun c6 => ?_)
      · refine lv_iload_n hx hb d_P_start_97 rfl (lv_at hl 2 rfl) ?_
        refine lv_iload hx hb d_P_start_98 (lv_at hl 0 rfl) ?_
        refine lv_iadd hx hb d_P_start_100 ?_
        refine lv_istore_n (lv' := [(2, .int (d + r3)), (4, .int r3), (3, .int (nI k)), (1, .int (nI (kCnt (kG σ).2))), (0, .ref (ad 0))]) hx hb d_P_start_101 rfl hl (by decide) rfl (fun ls hl => ?_)
        refine lv_iinc (v := nI (k + 1)) (lv' := [(3, .int (nI (k + 1))), (2, .int (d + r3)), (4, .int r3), (1, .int (nI (kCnt (kG σ).2))), (0, .ref (ad 0))]) hx hb d_P_start_102 hl (k := 2) rfl (nI_1 _) (by decide) rfl (fun ls hl => ?_)
        refine lv_goto (tgt := 66) hx hb d_P_start_105 (by decide) ?_
        exact ih (k + 1) _ _ (by subst e5_r e5_s; exact hok.2 c6) (by omega) (by subst e5_r e5_s; rw [← hk]; conv => rhs; unfold kLoop; rw [if_neg c6]) _ _ ls w (lv_sub hl [0, 1, 3, 4] rfl)
      · refine lv_iconst (v := -1) hx hb d_P_start_95 (by decide) ?_
        exact mr_xiret F w hr hlk (Nat.le_of_ble_eq_true rfl) (Nat.le_of_ble_eq_true rfl) (by subst e5_r e5_s; rw [← hk]; unfold kLoop; rw [if_pos c6]) d_P_start_96
  refine lv_aload_n hx hb d_P_start_0 rfl (lv_at hl 0 rfl) ?_
  refine mr_get F w (kin in_P) 0 (by decide) rfl rfl 0 (by decide) (kws_in m_123) (fun _ h => h) rfl d_P_start_1 ?_
  refine mr_get F w (kin in_W) 1 (by decide) rfl rfl 0 (by decide) (kws_in m_30) (fun _ h => h) rfl d_P_start_4 ?_
  refine lv_if_eq (tgt := 20) hx hb d_P_start_7 (by decide) (fun c7 => ?_) (fun c7 => ?_)
  · refine lv_aload_n hx hb d_P_start_20 rfl (lv_at hl 0 rfl) ?_
    refine mr_get F w (kin in_P) 0 (by decide) rfl rfl 0 (by decide) (kws_in m_123) (fun _ h => h) rfl d_P_start_21 ?_
    refine lv_iconst (v := nI 1) hx hb d_P_start_24 (by decide) ?_
    refine mr_put F w (kin in_W) t_W t_W_ok n_W 1 (by decide) rfl rfl 0 (by decide) (kws_in m_30) (fun _ h => h) rfl rfl rfl (Nat.le_of_ble_eq_true rfl) rfl d_P_start_25 (fun H locs w => ?_)
    refine lv_aload_n hx hb d_P_start_28 rfl (lv_at hl 0 rfl) ?_
    refine mr_get F w (kin in_P) 0 (by decide) rfl rfl 2 (by decide) (kws_in m_125) (fun _ h => h) rfl d_P_start_29 ?_
    refine mr_callVi (As := []) F w hl.1 (c_C_fillUp (mup σ 1 0 (nI 1))) (cwV 0 hts g_P_start_32 rfl rfl rfl (by decide +kernel) ⟨Nat.le_of_ble_eq_true rfl, Nat.le_of_ble_eq_true rfl⟩) rfl (by decide) rfl rfl rfl (Nat.le_of_ble_eq_true rfl) d_P_start_32 ⟨Nat.le_of_ble_eq_true rfl, Nat.le_of_ble_eq_true rfl⟩ (fun r8 σ9 H locs e10 w => ?_)
    have e10_r := e10.1.symm
    have e10_s := e10.2.symm
    clear e10
    refine lv_if_eq (tgt := 48) hx hb d_P_start_35 (by decide) (fun c11 => ?_) (fun c11 => ?_)
    · refine lv_aload_n hx hb d_P_start_48 rfl (lv_at hl 0 rfl) ?_
      refine mr_callVv (As := []) F w hl.1 (c_P_loseMemory σ9) (cwV 0 hts g_P_start_49 rfl rfl rfl (by decide +kernel) ⟨Nat.le_of_ble_eq_true rfl, Nat.le_of_ble_eq_true rfl⟩) rfl (by decide) rfl rfl rfl (Nat.le_of_ble_eq_true rfl) d_P_start_49 ⟨Nat.le_of_ble_eq_true rfl, Nat.le_of_ble_eq_true rfl⟩ (fun σ13 H locs e14 w => ?_)
      replace e14 := Eq.symm e14
      refine lv_iconst (v := -1) hx hb d_P_start_52 (by decide) ?_
      exact mr_xiret F w hr hlk (Nat.le_of_ble_eq_true rfl) (Nat.le_of_ble_eq_true rfl) (by subst e10_r e10_s e14; unfold xStart kG kF; rw [if_pos c7, if_pos c11]) d_P_start_53
    · refine lv_aload_n hx hb d_P_start_38 rfl (lv_at hl 0 rfl) ?_
      refine mr_get F w (kin in_P) 0 (by decide) rfl rfl 1 (by decide) (kws_in m_124) (fun _ h => h) rfl d_P_start_39 ?_
      refine mr_callVi (As := []) F w hl.1 (c_M_mend σ9 (by subst e10_r e10_s; rw [kFill_2]; exact hs)) (cwV 0 hts g_P_start_42 rfl rfl rfl (by decide +kernel) ⟨Nat.le_of_ble_eq_true rfl, Nat.le_of_ble_eq_true rfl⟩) rfl (by decide) rfl rfl rfl (Nat.le_of_ble_eq_true rfl) d_P_start_42 ⟨Nat.le_of_ble_eq_true rfl, Nat.le_of_ble_eq_true rfl⟩ (fun r15 σ16 H locs e17 w => ?_)
      have e17_r := e17.1.symm
      have e17_s := e17.2.symm
      clear e17
      refine lv_if_ne (tgt := 54) hx hb d_P_start_45 (by decide) (fun c18 => ?_) (fun c18 => ?_)
      · refine lv_aload_n hx hb d_P_start_54 rfl (lv_at hl 0 rfl) ?_
        refine mr_get F w (kin in_P) 0 (by decide) rfl rfl 2 (by decide) (kws_in m_125) (fun _ h => h) rfl d_P_start_55 ?_
        refine mr_callVi (As := []) F w hl.1 (c_C_count σ16) (cwV 0 hts g_P_start_58 rfl rfl rfl (by decide +kernel) ⟨Nat.le_of_ble_eq_true rfl, Nat.le_of_ble_eq_true rfl⟩) rfl (by decide) rfl rfl rfl (Nat.le_of_ble_eq_true rfl) d_P_start_58 ⟨Nat.le_of_ble_eq_true rfl, Nat.le_of_ble_eq_true rfl⟩ (fun r19 σ20 H locs e21 w => ?_)
        obtain ⟨rfl, hs9⟩ := e21
        rw [hs9] at w
        clear hs9
        refine lv_istore_n (lv' := [(1, .int ((σ16 5 5 - σ16 5 3) / nI 8)), (0, .ref (ad 0))]) hx hb d_P_start_61 rfl hl (by decide) rfl (fun ls hl => ?_)
        refine lv_iconst (v := nI 0) hx hb d_P_start_62 (by decide) ?_
        refine lv_istore_n (lv' := [(2, .int (nI 0)), (1, .int ((σ16 5 5 - σ16 5 3) / nI 8)), (0, .ref (ad 0))]) hx hb d_P_start_63 rfl hl (by decide) rfl (fun ls hl => ?_)
        refine lv_iconst (v := nI 0) hx hb d_P_start_64 (by decide) ?_
        refine lv_istore_n (lv' := [(3, .int (nI 0)), (2, .int (nI 0)), (1, .int ((σ16 5 5 - σ16 5 3) / nI 8)), (0, .ref (ad 0))]) hx hb d_P_start_65 rfl hl (by decide) rfl (fun ls hl => ?_)
        rw [show (σ16 5 5 - σ16 5 3) / nI 8 = nI (kCnt (kG σ).2) from (by subst e10_r e10_s e17_r e17_s; exact hc c7 c11 c18)] at hl
        exact loopB _ 0 (nI 0) _ (by subst e10_r e10_s e17_r e17_s; exact hL c7 c11 c18) (by omega) (by subst e10_r e10_s e17_r e17_s; unfold xStart kG kF; rw [if_pos c7, if_neg c11, if_neg c18]) _ _ ls w (lv_sub hl [0, 1, 2, 3] rfl)
      · refine lv_aload_n hx hb d_P_start_48 rfl (lv_at hl 0 rfl) ?_
        refine mr_callVv (As := []) F w hl.1 (c_P_loseMemory σ16) (cwV 0 hts g_P_start_49 rfl rfl rfl (by decide +kernel) ⟨Nat.le_of_ble_eq_true rfl, Nat.le_of_ble_eq_true rfl⟩) rfl (by decide) rfl rfl rfl (Nat.le_of_ble_eq_true rfl) d_P_start_49 ⟨Nat.le_of_ble_eq_true rfl, Nat.le_of_ble_eq_true rfl⟩ (fun σ23 H locs e24 w => ?_)
        replace e24 := Eq.symm e24
        refine lv_iconst (v := -1) hx hb d_P_start_52 (by decide) ?_
        exact mr_xiret F w hr hlk (Nat.le_of_ble_eq_true rfl) (Nat.le_of_ble_eq_true rfl) (by subst e10_r e10_s e17_r e17_s e24; unfold xStart kG kF; rw [if_pos c7, if_neg c11, if_pos c18]) d_P_start_53
  · exact mr_throw (cls := cISE) (text := "power is on") hl9 F w hT hl.1 (by decide +kernel) m_196 m_10 (by decide) tXg1 tXb1 tXo1 d_P_start_10 d_P_start_13 d_P_start_14 d_P_start_16 d_P_start_19 hex (Nat.le_of_ble_eq_true rfl) (Nat.le_of_ble_eq_true rfl) (Nat.le_of_ble_eq_true rfl) (Nat.le_of_ble_eq_true rfl) hlk (Nat.le_of_ble_eq_true rfl) (Nat.le_of_ble_eq_true rfl) (by unfold xStart; rw [if_neg c7]; exact ⟨by show (1 : Nat) ≠ 0; decide, rfl⟩)
end
