/-! The reference: small methods -/
section
variable {l : Launch} {D : va_G} {cI cF cZ cJ : ClassId} {ad : Nat → Nat} {σ : Mem}
set_option maxRecDepth 20000 in
theorem m_528 : Cond.fieldLink "PagePoolModel" 57 "PagePoolModel" "thrown" "I" ∈ gt := gt_in 528 (by decide +kernel) (by decide +kernel)
set_option maxRecDepth 20000 in
theorem m_636 : Cond.methodLink "PagePoolModel" 115 (⟨"PagePoolModel", "in", "(III)Z"⟩ : MethodName) ∈ gt := gt_in 636 (by decide +kernel) (by decide +kernel)
set_option maxRecDepth 20000 in
theorem m_638 : Cond.code (⟨"PagePoolModel", "in", "(III)Z"⟩ : MethodName) prog_7_method_4_code 3 (some .boolean) ∈ gt := gt_in 638 (by decide +kernel) (by decide +kernel)
set_option maxRecDepth 20000 in
theorem m_637 : Cond.static (⟨"PagePoolModel", "in", "(III)Z"⟩ : MethodName) ∈ gt := gt_in 637 (by decide +kernel) (by decide +kernel)
set_option maxRecDepth 20000 in
theorem m_6 : Cond.initialized "PagePoolModel" ∈ gt := gt_in 6 (by decide +kernel) (by decide +kernel)
set_option maxRecDepth 20000 in
theorem m_532 : Cond.fieldLink "PagePoolModel" 20 "PagePoolModel" "tornPage" "I" ∈ gt := gt_in 532 (by decide +kernel) (by decide +kernel)
set_option maxRecDepth 20000 in
theorem m_548 : Cond.fieldLink "PagePoolModel" 79 "PagePoolModel" "made" "I" ∈ gt := gt_in 548 (by decide +kernel) (by decide +kernel)
set_option maxRecDepth 20000 in
theorem m_546 : Cond.fieldLink "PagePoolModel" 69 "PagePoolModel" "off" "Z" ∈ gt := gt_in 546 (by decide +kernel) (by decide +kernel)
theorem d_R_thrown_0 : decode b_R_thrown 0 = .ok (.aload_n 0, 1) := by decide +kernel
theorem d_R_thrown_1 : decode b_R_thrown 1 = .ok (.getfield 57, 3) := by decide +kernel
theorem d_R_thrown_4 : decode b_R_thrown 4 = .ok (.ireturn, 1) := by decide +kernel
theorem d_R_refused_0 : decode b_R_refused 0 = .ok (.aload_n 0, 1) := by decide +kernel
theorem d_R_refused_1 : decode b_R_refused 1 = .ok (.iload_n 1, 1) := by decide +kernel
theorem d_R_refused_2 : decode b_R_refused 2 = .ok (.ifCond .eq 7, 3) := by decide +kernel
theorem d_R_refused_5 : decode b_R_refused 5 = .ok (.iconst 1, 1) := by decide +kernel
theorem d_R_refused_6 : decode b_R_refused 6 = .ok (.goto 20, 3) := by decide +kernel
theorem d_R_refused_9 : decode b_R_refused 9 = .ok (.iload_n 2, 1) := by decide +kernel
theorem d_R_refused_10 : decode b_R_refused 10 = .ok (.ifCond .eq 7, 3) := by decide +kernel
theorem d_R_refused_13 : decode b_R_refused 13 = .ok (.iconst 2, 1) := by decide +kernel
theorem d_R_refused_14 : decode b_R_refused 14 = .ok (.goto 12, 3) := by decide +kernel
theorem d_R_refused_17 : decode b_R_refused 17 = .ok (.iload_n 3, 1) := by decide +kernel
theorem d_R_refused_18 : decode b_R_refused 18 = .ok (.ifCond .eq 7, 3) := by decide +kernel
theorem d_R_refused_21 : decode b_R_refused 21 = .ok (.iconst 3, 1) := by decide +kernel
theorem d_R_refused_22 : decode b_R_refused 22 = .ok (.goto 4, 3) := by decide +kernel
theorem d_R_refused_25 : decode b_R_refused 25 = .ok (.iconst 0, 1) := by decide +kernel
theorem d_R_refused_26 : decode b_R_refused 26 = .ok (.putfield 57, 3) := by decide +kernel
theorem d_R_refused_29 : decode b_R_refused 29 = .ok (.aload_n 0, 1) := by decide +kernel
theorem d_R_refused_30 : decode b_R_refused 30 = .ok (.getfield 57, 3) := by decide +kernel
theorem d_R_refused_33 : decode b_R_refused 33 = .ok (.ifCond .le 7, 3) := by decide +kernel
theorem d_R_refused_36 : decode b_R_refused 36 = .ok (.iconst 1, 1) := by decide +kernel
theorem d_R_refused_37 : decode b_R_refused 37 = .ok (.goto 4, 3) := by decide +kernel
theorem d_R_refused_40 : decode b_R_refused 40 = .ok (.iconst 0, 1) := by decide +kernel
theorem d_R_refused_41 : decode b_R_refused 41 = .ok (.ireturn, 1) := by decide +kernel
theorem d_R_in_0 : decode b_R_in 0 = .ok (.iload_n 0, 1) := by decide +kernel
theorem d_R_in_1 : decode b_R_in 1 = .ok (.iload_n 1, 1) := by decide +kernel
theorem d_R_in_2 : decode b_R_in 2 = .ok (.if_icmp .lt 12, 3) := by decide +kernel
theorem d_R_in_5 : decode b_R_in 5 = .ok (.iload_n 0, 1) := by decide +kernel
theorem d_R_in_6 : decode b_R_in 6 = .ok (.iload_n 2, 1) := by decide +kernel
theorem d_R_in_7 : decode b_R_in 7 = .ok (.if_icmp .gt 7, 3) := by decide +kernel
theorem d_R_in_10 : decode b_R_in 10 = .ok (.iconst 1, 1) := by decide +kernel
theorem d_R_in_11 : decode b_R_in 11 = .ok (.goto 4, 3) := by decide +kernel
theorem d_R_in_14 : decode b_R_in 14 = .ok (.iconst 0, 1) := by decide +kernel
theorem d_R_in_15 : decode b_R_in 15 = .ok (.ireturn, 1) := by decide +kernel
theorem d_R_isFrame_0 : decode b_R_isFrame 0 = .ok (.iload_n 0, 1) := by decide +kernel
theorem d_R_isFrame_1 : decode b_R_isFrame 1 = .ok (.iconst 0, 1) := by decide +kernel
theorem d_R_isFrame_2 : decode b_R_isFrame 2 = .ok (.bipush 7, 2) := by decide +kernel
theorem d_R_isFrame_4 : decode b_R_isFrame 4 = .ok (.invokestatic 115, 3) := by decide +kernel
theorem d_R_isFrame_7 : decode b_R_isFrame 7 = .ok (.ireturn, 1) := by decide +kernel
set_option maxRecDepth 20000 in
theorem g_R_isFrame_4 : GoodIn (kws (y_R_isFrame) b_R_isFrame 1 (some .boolean)) (wsS R_R 115 y_R_in (kws (y_R_in) b_R_in 3 (some .boolean))) := kwS m_636 m_637 m_6 m_638
theorem d_R_torn_0 : decode b_R_torn 0 = .ok (.aload_n 0, 1) := by decide +kernel
theorem d_R_torn_1 : decode b_R_torn 1 = .ok (.iconst 0, 1) := by decide +kernel
theorem d_R_torn_2 : decode b_R_torn 2 = .ok (.putfield 57, 3) := by decide +kernel
theorem d_R_torn_5 : decode b_R_torn 5 = .ok (.aload_n 0, 1) := by decide +kernel
theorem d_R_torn_6 : decode b_R_torn 6 = .ok (.getfield 20, 3) := by decide +kernel
theorem d_R_torn_9 : decode b_R_torn 9 = .ok (.ifCond .lt 7, 3) := by decide +kernel
theorem d_R_torn_12 : decode b_R_torn 12 = .ok (.iconst 1, 1) := by decide +kernel
theorem d_R_torn_13 : decode b_R_torn 13 = .ok (.goto 4, 3) := by decide +kernel
theorem d_R_torn_16 : decode b_R_torn 16 = .ok (.iconst 0, 1) := by decide +kernel
theorem d_R_torn_17 : decode b_R_torn 17 = .ok (.ireturn, 1) := by decide +kernel
theorem d_R_writes_0 : decode b_R_writes 0 = .ok (.aload_n 0, 1) := by decide +kernel
theorem d_R_writes_1 : decode b_R_writes 1 = .ok (.iconst 0, 1) := by decide +kernel
theorem d_R_writes_2 : decode b_R_writes 2 = .ok (.putfield 57, 3) := by decide +kernel
theorem d_R_writes_5 : decode b_R_writes 5 = .ok (.aload_n 0, 1) := by decide +kernel
theorem d_R_writes_6 : decode b_R_writes 6 = .ok (.getfield 79, 3) := by decide +kernel
theorem d_R_writes_9 : decode b_R_writes 9 = .ok (.ireturn, 1) := by decide +kernel
theorem d_R_isOn_0 : decode b_R_isOn 0 = .ok (.aload_n 0, 1) := by decide +kernel
theorem d_R_isOn_1 : decode b_R_isOn 1 = .ok (.iconst 0, 1) := by decide +kernel
theorem d_R_isOn_2 : decode b_R_isOn 2 = .ok (.putfield 57, 3) := by decide +kernel
theorem d_R_isOn_5 : decode b_R_isOn 5 = .ok (.aload_n 0, 1) := by decide +kernel
theorem d_R_isOn_6 : decode b_R_isOn 6 = .ok (.getfield 69, 3) := by decide +kernel
theorem d_R_isOn_9 : decode b_R_isOn 9 = .ok (.ifCond .ne 7, 3) := by decide +kernel
theorem d_R_isOn_12 : decode b_R_isOn 12 = .ok (.iconst 1, 1) := by decide +kernel
theorem d_R_isOn_13 : decode b_R_isOn 13 = .ok (.goto 4, 3) := by decide +kernel
theorem d_R_isOn_16 : decode b_R_isOn 16 = .ok (.iconst 0, 1) := by decide +kernel
theorem d_R_isOn_17 : decode b_R_isOn 17 = .ok (.ireturn, 1) := by decide +kernel
def qThrown (σ : Mem)  : Int32 × Mem :=
  (σ 0 0, σ)
set_option maxHeartbeats 4000000 in
set_option maxRecDepth 100000 in
theorem c_R_thrown (σ : Mem) : KIR l D cI cF cZ cJ ad y_R_thrown b_R_thrown 1 (some .int) 0 0 [.ref (ad 0)] σ (fun r σ' => r = (qThrown σ).1 ∧ σ' = (qThrown σ).2) := by
  refine KI.of (by decide) (Nat.le_of_ble_eq_true rfl) ?_
  intro p e s m args below meth c A ls F w hl hr hlk
  obtain ⟨hx, hb, hml, hown, hts⟩ := id F
  have hl : lv_has ls 1 [(0, .ref (ad 0))] := hl
  refine lv_aload_n hx hb d_R_thrown_0 rfl (lv_at hl 0 rfl) ?_
  refine mr_get F w (kin in_R) 0 (by decide) rfl rfl 0 (by decide) (kws_in m_528) (fun _ h => h) rfl d_R_thrown_1 ?_
  exact mr_iret F w hr hlk (by unfold qThrown; exact ⟨rfl, rfl⟩) d_R_thrown_4
def qRef (σ : Mem) (x1 x2 x3 : Int32) : Int32 × Mem :=
  if x1 = 0 then (if x2 = 0 then (if x3 = 0 then (nI 0, mup σ 0 0 (nI 0))
      else (nI 1, mup σ 0 0 (nI 3)))
    else (nI 1, mup σ 0 0 (nI 2)))
  else (nI 1, mup σ 0 0 (nI 1))
set_option maxHeartbeats 4000000 in
set_option maxRecDepth 100000 in
theorem c_R_refused (σ : Mem) (x1 x2 x3 : Int32) : KIR l D cI cF cZ cJ ad y_R_refused b_R_refused 4 (some .boolean) 0 0 [.ref (ad 0), .int x1, .int x2, .int x3] σ (fun r σ' => r = (qRef σ x1 x2 x3).1 ∧ σ' = (qRef σ x1 x2 x3).2) := by
  refine KI.of (by decide) (Nat.le_of_ble_eq_true rfl) ?_
  intro p e s m args below meth c A ls F w hl hr hlk
  obtain ⟨hx, hb, hml, hown, hts⟩ := id F
  have hl : lv_has ls 4 [(0, .ref (ad 0)), (1, .int x1), (2, .int x2), (3, .int x3)] := hl
  refine lv_aload_n hx hb d_R_refused_0 rfl (lv_at hl 0 rfl) ?_
  refine lv_iload_n hx hb d_R_refused_1 rfl (lv_at hl 1 rfl) ?_
  refine lv_if_eq (tgt := 9) hx hb d_R_refused_2 (by decide) (fun c1 => ?_) (fun c1 => ?_)
  · refine lv_iload_n hx hb d_R_refused_9 rfl (lv_at hl 2 rfl) ?_
    refine lv_if_eq (tgt := 17) hx hb d_R_refused_10 (by decide) (fun c2 => ?_) (fun c2 => ?_)
    · refine lv_iload_n hx hb d_R_refused_17 rfl (lv_at hl 3 rfl) ?_
      refine lv_if_eq (tgt := 25) hx hb d_R_refused_18 (by decide) (fun c3 => ?_) (fun c3 => ?_)
      · refine lv_iconst (v := nI 0) hx hb d_R_refused_25 (by decide) ?_
        refine mr_put F w (kin in_R) t_R t_R_ok n_R 0 (by decide) rfl rfl 0 (by decide) (kws_in m_528) (fun _ h => h) rfl rfl rfl (Nat.le_of_ble_eq_true rfl) rfl d_R_refused_26 (fun H locs w => ?_)
        refine lv_aload_n hx hb d_R_refused_29 rfl (lv_at hl 0 rfl) ?_
        refine mr_get F w (kin in_R) 0 (by decide) rfl rfl 0 (by decide) (kws_in m_528) (fun _ h => h) rfl d_R_refused_30 ?_
        refine nr_as (k := 0) rfl ?_
        refine lv_if_le (tgt := 40) hx hb d_R_refused_33 (by decide) (fun _ => ?_) (fun c4 => absurd c4 (by decide))
        refine lv_iconst (v := nI 0) hx hb d_R_refused_40 (by decide) ?_
        exact mr_zret F w hr hlk (Or.inl rfl) (by unfold qRef; rw [if_pos c1, if_pos c2, if_pos c3]; exact ⟨rfl, rfl⟩) d_R_refused_41
      · refine lv_iconst (v := nI 3) hx hb d_R_refused_21 (by decide) ?_
        refine lv_goto (tgt := 26) hx hb d_R_refused_22 (by decide) ?_
        refine mr_put F w (kin in_R) t_R t_R_ok n_R 0 (by decide) rfl rfl 0 (by decide) (kws_in m_528) (fun _ h => h) rfl rfl rfl (Nat.le_of_ble_eq_true rfl) rfl d_R_refused_26 (fun H locs w => ?_)
        refine lv_aload_n hx hb d_R_refused_29 rfl (lv_at hl 0 rfl) ?_
        refine mr_get F w (kin in_R) 0 (by decide) rfl rfl 0 (by decide) (kws_in m_528) (fun _ h => h) rfl d_R_refused_30 ?_
        refine nr_as (k := 3) rfl ?_
        refine lv_if_le (tgt := 40) hx hb d_R_refused_33 (by decide) (fun c5 => absurd c5 (by decide)) (fun _ => ?_)
        refine lv_iconst (v := nI 1) hx hb d_R_refused_36 (by decide) ?_
        refine lv_goto (tgt := 41) hx hb d_R_refused_37 (by decide) ?_
        exact mr_zret F w hr hlk (Or.inr rfl) (by unfold qRef; rw [if_pos c1, if_pos c2, if_neg c3]; exact ⟨rfl, rfl⟩) d_R_refused_41
    · refine lv_iconst (v := nI 2) hx hb d_R_refused_13 (by decide) ?_
      refine lv_goto (tgt := 26) hx hb d_R_refused_14 (by decide) ?_
      refine mr_put F w (kin in_R) t_R t_R_ok n_R 0 (by decide) rfl rfl 0 (by decide) (kws_in m_528) (fun _ h => h) rfl rfl rfl (Nat.le_of_ble_eq_true rfl) rfl d_R_refused_26 (fun H locs w => ?_)
      refine lv_aload_n hx hb d_R_refused_29 rfl (lv_at hl 0 rfl) ?_
      refine mr_get F w (kin in_R) 0 (by decide) rfl rfl 0 (by decide) (kws_in m_528) (fun _ h => h) rfl d_R_refused_30 ?_
      refine nr_as (k := 2) rfl ?_
      refine lv_if_le (tgt := 40) hx hb d_R_refused_33 (by decide) (fun c6 => absurd c6 (by decide)) (fun _ => ?_)
      refine lv_iconst (v := nI 1) hx hb d_R_refused_36 (by decide) ?_
      refine lv_goto (tgt := 41) hx hb d_R_refused_37 (by decide) ?_
      exact mr_zret F w hr hlk (Or.inr rfl) (by unfold qRef; rw [if_pos c1, if_neg c2]; exact ⟨rfl, rfl⟩) d_R_refused_41
  · refine lv_iconst (v := nI 1) hx hb d_R_refused_5 (by decide) ?_
    refine lv_goto (tgt := 26) hx hb d_R_refused_6 (by decide) ?_
    refine mr_put F w (kin in_R) t_R t_R_ok n_R 0 (by decide) rfl rfl 0 (by decide) (kws_in m_528) (fun _ h => h) rfl rfl rfl (Nat.le_of_ble_eq_true rfl) rfl d_R_refused_26 (fun H locs w => ?_)
    refine lv_aload_n hx hb d_R_refused_29 rfl (lv_at hl 0 rfl) ?_
    refine mr_get F w (kin in_R) 0 (by decide) rfl rfl 0 (by decide) (kws_in m_528) (fun _ h => h) rfl d_R_refused_30 ?_
    refine nr_as (k := 1) rfl ?_
    refine lv_if_le (tgt := 40) hx hb d_R_refused_33 (by decide) (fun c7 => absurd c7 (by decide)) (fun _ => ?_)
    refine lv_iconst (v := nI 1) hx hb d_R_refused_36 (by decide) ?_
    refine lv_goto (tgt := 41) hx hb d_R_refused_37 (by decide) ?_
    exact mr_zret F w hr hlk (Or.inr rfl) (by unfold qRef; rw [if_neg c1]; exact ⟨rfl, rfl⟩) d_R_refused_41
def qInv (v a b : Int32) : Int32 := if v < a then nI 0 else if b < v then nI 0 else nI 1
theorem qInv_01 (v a b : Int32) : qInv v a b = 0 ∨ qInv v a b = 1 := by
  unfold qInv
  split
  · exact Or.inl rfl
  · split
    · exact Or.inl rfl
    · exact Or.inr rfl
theorem qInv_nat {v : Int32} {a b : Nat} (ha : a < 2 ^ 31) (hb : b < 2 ^ 30) (h : ¬ qInv v (nI a) (nI b) = 0) : nat0 (b + 1) v ∧ a ≤ v.toNatClampNeg := by
  unfold qInv at h
  split at h
  · exact absurd rfl h
  · split at h
    · exact absurd rfl h
    · rename_i h1 h2
      have h0 : ¬ v < 0 := by
        intro q
        apply h1
        rw [Int32.lt_iff_toInt_lt] at q ⊢
        rw [nI_toInt ha]
        have q2 : v.toInt < 0 := q
        omega
      obtain ⟨j, hj, rfl⟩ := nI_of h0
      have e1 : a ≤ j := Nat.le_of_not_lt fun z => h1 ((nI_ltI hj ha).mpr z)
      have e2 : j ≤ b := Nat.le_of_not_lt fun z => h2 ((nI_ltI (by omega) hj).mpr z)
      rw [nI_clamp hj]
      exact ⟨nat0_nI (by omega) (by omega), e1⟩
set_option maxHeartbeats 4000000 in
set_option maxRecDepth 100000 in
theorem c_R_in (σ : Mem) (v a b : Int32) : KIR l D cI cF cZ cJ ad y_R_in b_R_in 3 (some .boolean) 0 0 [.int v, .int a, .int b] σ (fun r σ' => r = qInv v a b ∧ σ' = σ) := by
  refine KI.of (by decide) (Nat.le_of_ble_eq_true rfl) ?_
  intro p e s m args below meth c A ls F w hl hr hlk
  obtain ⟨hx, hb, hml, hown, hts⟩ := id F
  have hl : lv_has ls 3 [(0, .int v), (1, .int a), (2, .int b)] := hl
  refine lv_iload_n hx hb d_R_in_0 rfl (lv_at hl 0 rfl) ?_
  refine lv_iload_n hx hb d_R_in_1 rfl (lv_at hl 1 rfl) ?_
  refine lv_icmp_lt (tgt := 14) hx hb d_R_in_2 (by decide) (fun c1 => ?_) (fun c1 => ?_)
  · refine lv_iconst (v := nI 0) hx hb d_R_in_14 (by decide) ?_
    exact mr_zret F w hr hlk (Or.inl rfl) (by unfold qInv; rw [if_pos c1]; exact ⟨rfl, rfl⟩) d_R_in_15
  · refine lv_iload_n hx hb d_R_in_5 rfl (lv_at hl 0 rfl) ?_
    refine lv_iload_n hx hb d_R_in_6 rfl (lv_at hl 2 rfl) ?_
    refine lv_icmp_gt (tgt := 14) hx hb d_R_in_7 (by decide) (fun c2 => ?_) (fun c2 => ?_)
    · refine lv_iconst (v := nI 0) hx hb d_R_in_14 (by decide) ?_
      exact mr_zret F w hr hlk (Or.inl rfl) (by unfold qInv; rw [if_neg c1, if_pos c2]; exact ⟨rfl, rfl⟩) d_R_in_15
    · refine lv_iconst (v := nI 1) hx hb d_R_in_10 (by decide) ?_
      refine lv_goto (tgt := 15) hx hb d_R_in_11 (by decide) ?_
      exact mr_zret F w hr hlk (Or.inr rfl) (by unfold qInv; rw [if_neg c1, if_neg c2]; exact ⟨rfl, rfl⟩) d_R_in_15
set_option maxHeartbeats 4000000 in
set_option maxRecDepth 100000 in
theorem c_R_isFrame (σ : Mem) (v : Int32) : KIR l D cI cF cZ cJ ad y_R_isFrame b_R_isFrame 1 (some .boolean) 1 25 [.int v] σ (fun r σ' => r = qInv v (nI 0) (nI 7) ∧ σ' = σ) := by
  refine KI.of (by decide) (Nat.le_of_ble_eq_true rfl) ?_
  intro p e s m args below meth c A ls F w hl hr hlk
  obtain ⟨hx, hb, hml, hown, hts⟩ := id F
  have hl : lv_has ls 1 [(0, .int v)] := hl
  refine lv_iload_n hx hb d_R_isFrame_0 rfl (lv_at hl 0 rfl) ?_
  refine lv_iconst (v := nI 0) hx hb d_R_isFrame_1 (by decide) ?_
  refine lv_bipush (v := nI 7) hx hb d_R_isFrame_2 (by decide) ?_
  refine mr_callSi (As := [.int v, .int (nI 0), .int (nI 7)]) F w hl.1 (c_R_in σ v (nI 0) (nI 7)) (cwS 3 hts g_R_isFrame_4 rfl rfl rfl (by decide +kernel) ⟨Nat.le_of_ble_eq_true rfl, Nat.le_of_ble_eq_true rfl⟩) rfl rfl (Nat.le_of_ble_eq_true rfl) d_R_isFrame_4 ⟨Nat.zero_le _, Nat.zero_le _⟩ (fun r1 σ2 H locs e3 w => ?_)
  obtain ⟨rfl, hs9⟩ := e3
  rw [hs9] at w
  clear hs9
  exact mr_zret F w hr hlk (qInv_01 _ _ _) (⟨rfl, rfl⟩) d_R_isFrame_7
def qTorn (σ : Mem)  : Int32 × Mem :=
  if ((mup σ 0 0 (nI 0)) 0 4) < 0 then (nI 0, mup σ 0 0 (nI 0))
  else (nI 1, mup σ 0 0 (nI 0))
set_option maxHeartbeats 4000000 in
set_option maxRecDepth 100000 in
theorem c_R_torn (σ : Mem) : KIR l D cI cF cZ cJ ad y_R_torn b_R_torn 1 (some .int) 0 0 [.ref (ad 0)] σ (fun r σ' => r = (qTorn σ).1 ∧ σ' = (qTorn σ).2) := by
  refine KI.of (by decide) (Nat.le_of_ble_eq_true rfl) ?_
  intro p e s m args below meth c A ls F w hl hr hlk
  obtain ⟨hx, hb, hml, hown, hts⟩ := id F
  have hl : lv_has ls 1 [(0, .ref (ad 0))] := hl
  refine lv_aload_n hx hb d_R_torn_0 rfl (lv_at hl 0 rfl) ?_
  refine lv_iconst (v := nI 0) hx hb d_R_torn_1 (by decide) ?_
  refine mr_put F w (kin in_R) t_R t_R_ok n_R 0 (by decide) rfl rfl 0 (by decide) (kws_in m_528) (fun _ h => h) rfl rfl rfl (Nat.le_of_ble_eq_true rfl) rfl d_R_torn_2 (fun H locs w => ?_)
  refine lv_aload_n hx hb d_R_torn_5 rfl (lv_at hl 0 rfl) ?_
  refine mr_get F w (kin in_R) 0 (by decide) rfl rfl 4 (by decide) (kws_in m_532) (fun _ h => h) rfl d_R_torn_6 ?_
  refine lv_if_lt (tgt := 16) hx hb d_R_torn_9 (by decide) (fun c1 => ?_) (fun c1 => ?_)
  · refine lv_iconst (v := nI 0) hx hb d_R_torn_16 (by decide) ?_
    exact mr_iret F w hr hlk (by unfold qTorn; rw [if_pos c1]; exact ⟨rfl, rfl⟩) d_R_torn_17
  · refine lv_iconst (v := nI 1) hx hb d_R_torn_12 (by decide) ?_
    refine lv_goto (tgt := 17) hx hb d_R_torn_13 (by decide) ?_
    exact mr_iret F w hr hlk (by unfold qTorn; rw [if_neg c1]; exact ⟨rfl, rfl⟩) d_R_torn_17
def qWrites (σ : Mem)  : Int32 × Mem :=
  ((mup σ 0 0 (nI 0)) 0 20, mup σ 0 0 (nI 0))
set_option maxHeartbeats 4000000 in
set_option maxRecDepth 100000 in
theorem c_R_writes (σ : Mem) : KIR l D cI cF cZ cJ ad y_R_writes b_R_writes 1 (some .int) 0 0 [.ref (ad 0)] σ (fun r σ' => r = (qWrites σ).1 ∧ σ' = (qWrites σ).2) := by
  refine KI.of (by decide) (Nat.le_of_ble_eq_true rfl) ?_
  intro p e s m args below meth c A ls F w hl hr hlk
  obtain ⟨hx, hb, hml, hown, hts⟩ := id F
  have hl : lv_has ls 1 [(0, .ref (ad 0))] := hl
  refine lv_aload_n hx hb d_R_writes_0 rfl (lv_at hl 0 rfl) ?_
  refine lv_iconst (v := nI 0) hx hb d_R_writes_1 (by decide) ?_
  refine mr_put F w (kin in_R) t_R t_R_ok n_R 0 (by decide) rfl rfl 0 (by decide) (kws_in m_528) (fun _ h => h) rfl rfl rfl (Nat.le_of_ble_eq_true rfl) rfl d_R_writes_2 (fun H locs w => ?_)
  refine lv_aload_n hx hb d_R_writes_5 rfl (lv_at hl 0 rfl) ?_
  refine mr_get F w (kin in_R) 0 (by decide) rfl rfl 20 (by decide) (kws_in m_548) (fun _ h => h) rfl d_R_writes_6 ?_
  exact mr_iret F w hr hlk (by unfold qWrites; exact ⟨rfl, rfl⟩) d_R_writes_9
def qIsOn (σ : Mem)  : Int32 × Mem :=
  if ((mup σ 0 0 (nI 0)) 0 18) = 0 then (nI 1, mup σ 0 0 (nI 0))
  else (nI 0, mup σ 0 0 (nI 0))
set_option maxHeartbeats 4000000 in
set_option maxRecDepth 100000 in
theorem c_R_isOn (σ : Mem) : KIR l D cI cF cZ cJ ad y_R_isOn b_R_isOn 1 (some .boolean) 0 0 [.ref (ad 0)] σ (fun r σ' => r = (qIsOn σ).1 ∧ σ' = (qIsOn σ).2) := by
  refine KI.of (by decide) (Nat.le_of_ble_eq_true rfl) ?_
  intro p e s m args below meth c A ls F w hl hr hlk
  obtain ⟨hx, hb, hml, hown, hts⟩ := id F
  have hl : lv_has ls 1 [(0, .ref (ad 0))] := hl
  refine lv_aload_n hx hb d_R_isOn_0 rfl (lv_at hl 0 rfl) ?_
  refine lv_iconst (v := nI 0) hx hb d_R_isOn_1 (by decide) ?_
  refine mr_put F w (kin in_R) t_R t_R_ok n_R 0 (by decide) rfl rfl 0 (by decide) (kws_in m_528) (fun _ h => h) rfl rfl rfl (Nat.le_of_ble_eq_true rfl) rfl d_R_isOn_2 (fun H locs w => ?_)
  refine lv_aload_n hx hb d_R_isOn_5 rfl (lv_at hl 0 rfl) ?_
  refine mr_get F w (kin in_R) 0 (by decide) rfl rfl 18 (by decide) (kws_in m_546) (fun _ h => h) rfl d_R_isOn_6 ?_
  refine lv_if_ne (tgt := 16) hx hb d_R_isOn_9 (by decide) (fun c1 => ?_) (fun c1 => ?_)
  · refine lv_iconst (v := nI 0) hx hb d_R_isOn_16 (by decide) ?_
    exact mr_zret F w hr hlk (Or.inl rfl) (by unfold qIsOn; rw [if_neg c1]; exact ⟨rfl, rfl⟩) d_R_isOn_17
  · refine lv_iconst (v := nI 1) hx hb d_R_isOn_12 (by decide) ?_
    refine lv_goto (tgt := 17) hx hb d_R_isOn_13 (by decide) ?_
    exact mr_zret F w hr hlk (Or.inr rfl) (by unfold qIsOn; rw [if_pos c1]; exact ⟨rfl, rfl⟩) d_R_isOn_17
end
