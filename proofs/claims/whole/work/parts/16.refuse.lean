/-! requirePower, requirePins, requirePage, requireFrame, requireWord; the calls that throw nothing -/
section
variable {l : Launch} {D : va_G} {cI cF cZ cJ : ClassId} {ad : Nat → Nat} {σ : Mem}
set_option maxRecDepth 20000 in
theorem m_123 : Cond.fieldLink "PagePool" 12 "PagePool" "power" "LPagePool$Power;" ∈ gt := gt_in 123 (by decide +kernel) (by decide +kernel)
set_option maxRecDepth 20000 in
theorem m_30 : Cond.fieldLink "PagePool" 164 "PagePool$Power" "on" "Z" ∈ gt := gt_in 30 (by decide +kernel) (by decide +kernel)
set_option maxRecDepth 20000 in
theorem m_196 : Cond.classLink "PagePool" 88 "java/lang/IllegalStateException" ∈ gt := gt_in 196 (by decide +kernel) (by decide +kernel)
set_option maxRecDepth 20000 in
theorem m_10 : Cond.initialized "java/lang/IllegalStateException" ∈ gt := gt_in 10 (by decide +kernel) (by decide +kernel)
set_option maxRecDepth 20000 in
theorem m_267 : Cond.classLink "PagePool" 63 "java/lang/IndexOutOfBoundsException" ∈ gt := gt_in 267 (by decide +kernel) (by decide +kernel)
set_option maxRecDepth 20000 in
theorem m_11 : Cond.initialized "java/lang/IndexOutOfBoundsException" ∈ gt := gt_in 11 (by decide +kernel) (by decide +kernel)
set_option maxRecDepth 20000 in
theorem m_54 : Cond.fieldLink "PagePool" 150 "PagePool$Medium" "halfWritten" "Z" ∈ gt := gt_in 54 (by decide +kernel) (by decide +kernel)
set_option maxRecDepth 20000 in
theorem m_34 : Cond.fieldLink "PagePool" 153 "PagePool$Power" "made" "I" ∈ gt := gt_in 34 (by decide +kernel) (by decide +kernel)
set_option maxRecDepth 20000 in
theorem m_167 : Cond.methodLink "PagePool" 167 (⟨"PagePool$Power", "fail", "()V"⟩ : MethodName) ∈ gt := gt_in 167 (by decide +kernel) (by decide +kernel)
theorem d_P_requirePower_0 : decode b_P_requirePower 0 = .ok (.aload_n 0, 1) := by decide +kernel
theorem d_P_requirePower_1 : decode b_P_requirePower 1 = .ok (.getfield 12, 3) := by decide +kernel
theorem d_P_requirePower_4 : decode b_P_requirePower 4 = .ok (.getfield 164, 3) := by decide +kernel
theorem d_P_requirePower_7 : decode b_P_requirePower 7 = .ok (.ifCond .ne 13, 3) := by decide +kernel
theorem d_P_requirePower_10 : decode b_P_requirePower 10 = .ok (.new 88, 3) := by decide +kernel
theorem d_P_requirePower_13 : decode b_P_requirePower 13 = .ok (.dup, 1) := by decide +kernel
theorem d_P_requirePower_14 : decode b_P_requirePower 14 = .ok (.ldc 184, 2) := by decide +kernel
theorem d_P_requirePower_16 : decode b_P_requirePower 16 = .ok (.invokespecial 92, 3) := by decide +kernel
theorem d_P_requirePower_19 : decode b_P_requirePower 19 = .ok (.athrow, 1) := by decide +kernel
theorem d_P_requirePower_20 : decode b_P_requirePower 20 = .ok (.return_, 1) := by decide +kernel
theorem d_P_requirePins_0 : decode b_P_requirePins 0 = .ok (.aload_n 0, 1) := by decide +kernel
theorem d_P_requirePins_1 : decode b_P_requirePins 1 = .ok (.getfield 34, 3) := by decide +kernel
theorem d_P_requirePins_4 : decode b_P_requirePins 4 = .ok (.iload_n 1, 1) := by decide +kernel
theorem d_P_requirePins_5 : decode b_P_requirePins 5 = .ok (.aaload, 1) := by decide +kernel
theorem d_P_requirePins_6 : decode b_P_requirePins 6 = .ok (.getfield 60, 3) := by decide +kernel
theorem d_P_requirePins_9 : decode b_P_requirePins 9 = .ok (.ifCond .ne 13, 3) := by decide +kernel
theorem d_P_requirePins_12 : decode b_P_requirePins 12 = .ok (.new 88, 3) := by decide +kernel
theorem d_P_requirePins_15 : decode b_P_requirePins 15 = .ok (.dup, 1) := by decide +kernel
theorem d_P_requirePins_16 : decode b_P_requirePins 16 = .ok (.ldc 186, 2) := by decide +kernel
theorem d_P_requirePins_18 : decode b_P_requirePins 18 = .ok (.invokespecial 92, 3) := by decide +kernel
theorem d_P_requirePins_21 : decode b_P_requirePins 21 = .ok (.athrow, 1) := by decide +kernel
theorem d_P_requirePins_22 : decode b_P_requirePins 22 = .ok (.return_, 1) := by decide +kernel
theorem d_P_requirePage_0 : decode b_P_requirePage 0 = .ok (.iload_n 0, 1) := by decide +kernel
theorem d_P_requirePage_1 : decode b_P_requirePage 1 = .ok (.ifCond .lt 10, 3) := by decide +kernel
theorem d_P_requirePage_4 : decode b_P_requirePage 4 = .ok (.iload_n 0, 1) := by decide +kernel
theorem d_P_requirePage_5 : decode b_P_requirePage 5 = .ok (.sipush 256, 3) := by decide +kernel
theorem d_P_requirePage_8 : decode b_P_requirePage 8 = .ok (.if_icmp .lt 13, 3) := by decide +kernel
theorem d_P_requirePage_11 : decode b_P_requirePage 11 = .ok (.new 63, 3) := by decide +kernel
theorem d_P_requirePage_14 : decode b_P_requirePage 14 = .ok (.dup, 1) := by decide +kernel
theorem d_P_requirePage_15 : decode b_P_requirePage 15 = .ok (.ldc 188, 2) := by decide +kernel
theorem d_P_requirePage_17 : decode b_P_requirePage 17 = .ok (.invokespecial 67, 3) := by decide +kernel
theorem d_P_requirePage_20 : decode b_P_requirePage 20 = .ok (.athrow, 1) := by decide +kernel
theorem d_P_requirePage_21 : decode b_P_requirePage 21 = .ok (.return_, 1) := by decide +kernel
theorem d_P_requireFrame_0 : decode b_P_requireFrame 0 = .ok (.iload_n 0, 1) := by decide +kernel
theorem d_P_requireFrame_1 : decode b_P_requireFrame 1 = .ok (.ifCond .lt 9, 3) := by decide +kernel
theorem d_P_requireFrame_4 : decode b_P_requireFrame 4 = .ok (.iload_n 0, 1) := by decide +kernel
theorem d_P_requireFrame_5 : decode b_P_requireFrame 5 = .ok (.bipush 8, 2) := by decide +kernel
theorem d_P_requireFrame_7 : decode b_P_requireFrame 7 = .ok (.if_icmp .lt 13, 3) := by decide +kernel
theorem d_P_requireFrame_10 : decode b_P_requireFrame 10 = .ok (.new 63, 3) := by decide +kernel
theorem d_P_requireFrame_13 : decode b_P_requireFrame 13 = .ok (.dup, 1) := by decide +kernel
theorem d_P_requireFrame_14 : decode b_P_requireFrame 14 = .ok (.ldc 190, 2) := by decide +kernel
theorem d_P_requireFrame_16 : decode b_P_requireFrame 16 = .ok (.invokespecial 67, 3) := by decide +kernel
theorem d_P_requireFrame_19 : decode b_P_requireFrame 19 = .ok (.athrow, 1) := by decide +kernel
theorem d_P_requireFrame_20 : decode b_P_requireFrame 20 = .ok (.return_, 1) := by decide +kernel
theorem d_P_requireWord_0 : decode b_P_requireWord 0 = .ok (.iload_n 0, 1) := by decide +kernel
theorem d_P_requireWord_1 : decode b_P_requireWord 1 = .ok (.ifCond .lt 9, 3) := by decide +kernel
theorem d_P_requireWord_4 : decode b_P_requireWord 4 = .ok (.iload_n 0, 1) := by decide +kernel
theorem d_P_requireWord_5 : decode b_P_requireWord 5 = .ok (.bipush 64, 2) := by decide +kernel
theorem d_P_requireWord_7 : decode b_P_requireWord 7 = .ok (.if_icmp .lt 13, 3) := by decide +kernel
theorem d_P_requireWord_10 : decode b_P_requireWord 10 = .ok (.new 63, 3) := by decide +kernel
theorem d_P_requireWord_13 : decode b_P_requireWord 13 = .ok (.dup, 1) := by decide +kernel
theorem d_P_requireWord_14 : decode b_P_requireWord 14 = .ok (.ldc 192, 2) := by decide +kernel
theorem d_P_requireWord_16 : decode b_P_requireWord 16 = .ok (.invokespecial 67, 3) := by decide +kernel
theorem d_P_requireWord_19 : decode b_P_requireWord 19 = .ok (.athrow, 1) := by decide +kernel
theorem d_P_requireWord_20 : decode b_P_requireWord 20 = .ok (.return_, 1) := by decide +kernel
theorem d_P_torn_0 : decode b_P_torn 0 = .ok (.aload_n 0, 1) := by decide +kernel
theorem d_P_torn_1 : decode b_P_torn 1 = .ok (.getfield 21, 3) := by decide +kernel
theorem d_P_torn_4 : decode b_P_torn 4 = .ok (.getfield 150, 3) := by decide +kernel
theorem d_P_torn_7 : decode b_P_torn 7 = .ok (.ifCond .eq 7, 3) := by decide +kernel
theorem d_P_torn_10 : decode b_P_torn 10 = .ok (.iconst 1, 1) := by decide +kernel
theorem d_P_torn_11 : decode b_P_torn 11 = .ok (.goto 4, 3) := by decide +kernel
theorem d_P_torn_14 : decode b_P_torn 14 = .ok (.iconst 0, 1) := by decide +kernel
theorem d_P_torn_15 : decode b_P_torn 15 = .ok (.ireturn, 1) := by decide +kernel
theorem d_P_writes_0 : decode b_P_writes 0 = .ok (.aload_n 0, 1) := by decide +kernel
theorem d_P_writes_1 : decode b_P_writes 1 = .ok (.getfield 12, 3) := by decide +kernel
theorem d_P_writes_4 : decode b_P_writes 4 = .ok (.getfield 153, 3) := by decide +kernel
theorem d_P_writes_7 : decode b_P_writes 7 = .ok (.ireturn, 1) := by decide +kernel
theorem d_P_isOn_0 : decode b_P_isOn 0 = .ok (.aload_n 0, 1) := by decide +kernel
theorem d_P_isOn_1 : decode b_P_isOn 1 = .ok (.getfield 12, 3) := by decide +kernel
theorem d_P_isOn_4 : decode b_P_isOn 4 = .ok (.getfield 164, 3) := by decide +kernel
theorem d_P_isOn_7 : decode b_P_isOn 7 = .ok (.ireturn, 1) := by decide +kernel
theorem d_P_cut_0 : decode b_P_cut 0 = .ok (.aload_n 0, 1) := by decide +kernel
theorem d_P_cut_1 : decode b_P_cut 1 = .ok (.getfield 12, 3) := by decide +kernel
theorem d_P_cut_4 : decode b_P_cut 4 = .ok (.getfield 164, 3) := by decide +kernel
theorem d_P_cut_7 : decode b_P_cut 7 = .ok (.ifCond .ne 5, 3) := by decide +kernel
theorem d_P_cut_10 : decode b_P_cut 10 = .ok (.iconst 0, 1) := by decide +kernel
theorem d_P_cut_11 : decode b_P_cut 11 = .ok (.ireturn, 1) := by decide +kernel
theorem d_P_cut_12 : decode b_P_cut 12 = .ok (.aload_n 0, 1) := by decide +kernel
theorem d_P_cut_13 : decode b_P_cut 13 = .ok (.getfield 12, 3) := by decide +kernel
theorem d_P_cut_16 : decode b_P_cut 16 = .ok (.invokevirtual 167, 3) := by decide +kernel
theorem d_P_cut_19 : decode b_P_cut 19 = .ok (.aload_n 0, 1) := by decide +kernel
theorem d_P_cut_20 : decode b_P_cut 20 = .ok (.invokevirtual 129, 3) := by decide +kernel
theorem d_P_cut_23 : decode b_P_cut 23 = .ok (.iconst 1, 1) := by decide +kernel
theorem d_P_cut_24 : decode b_P_cut 24 = .ok (.ireturn, 1) := by decide +kernel
set_option maxRecDepth 20000 in
theorem g_P_cut_16 : GoodIn (kws (y_P_cut) b_P_cut 1 (some .boolean)) (wsV R_P 167 R_W y_W_fail (kws (y_W_fail) b_W_fail 1 none)) := kwV m_167 m_168 m_169 m_2 m_170
set_option maxRecDepth 20000 in
theorem g_P_cut_20 : GoodIn (kws (y_P_cut) b_P_cut 1 (some .boolean)) (wsV R_P 129 R_P y_P_loseMemory (kws (y_P_loseMemory) b_P_loseMemory 2 none)) := kwV m_171 m_173 ms_1 m_1 m_174
set_option maxHeartbeats 4000000 in
set_option maxRecDepth 100000 in
theorem c_P_requirePower (hl9 : l.stackTraces = false) (σ : Mem) : KXv l D clP (tyP cI cF cZ cJ) 25 (eP cI cF ad) ad y_P_requirePower b_P_requirePower 1 { frames := 6, cells := 1, slots := 6, locals := 84 } [.ref (ad 0)] σ (fun σ' => σ' = σ ∧ ¬ σ 1 0 = 0) (fun C => C = cISE ∧ σ 1 0 = 0) := by
  refine KXv.of (by decide) (Nat.le_of_ble_eq_true rfl) ?_
  intro p e s m args below meth c A ls F w hT hl hr hlk hex
  obtain ⟨hx, hb, hml, hown, hts⟩ := id F
  have hl : lv_has ls 1 [(0, .ref (ad 0))] := hl
  refine lv_aload_n hx hb d_P_requirePower_0 rfl (lv_at hl 0 rfl) ?_
  refine mr_get F w (kin in_P) 0 (by decide) rfl rfl 0 (by decide) (kws_in m_123) (fun _ h => h) rfl d_P_requirePower_1 ?_
  refine mr_get F w (kin in_W) 1 (by decide) rfl rfl 0 (by decide) (kws_in m_30) (fun _ h => h) rfl d_P_requirePower_4 ?_
  refine lv_if_ne (tgt := 20) hx hb d_P_requirePower_7 (by decide) (fun c1 => ?_) (fun c1 => ?_)
  · exact mr_xvret F w hr hlk (Nat.le_of_ble_eq_true rfl) (Nat.le_of_ble_eq_true rfl) (⟨rfl, c1⟩) d_P_requirePower_20
  · exact mr_throw (cls := cISE) (text := "power is off") hl9 F w hT hl.1 (by decide +kernel) m_196 m_10 (by decide) tXg1 tXb1 tXo1 d_P_requirePower_10 d_P_requirePower_13 d_P_requirePower_14 d_P_requirePower_16 d_P_requirePower_19 hex (Nat.le_of_ble_eq_true rfl) (Nat.le_of_ble_eq_true rfl) (Nat.le_of_ble_eq_true rfl) (Nat.le_of_ble_eq_true rfl) hlk (Nat.le_of_ble_eq_true rfl) (Nat.le_of_ble_eq_true rfl) (⟨rfl, c1⟩)
set_option maxHeartbeats 4000000 in
set_option maxRecDepth 100000 in
theorem c_P_requirePins (hl9 : l.stackTraces = false) (σ : Mem) (f : Nat) (hf : f < 8) : KXv l D clP (tyP cI cF cZ cJ) 25 (eP cI cF ad) ad y_P_requirePins b_P_requirePins 2 { frames := 6, cells := 1, slots := 6, locals := 84 } [.ref (ad 0), .int (nI f)] σ (fun σ' => σ' = σ ∧ ¬ σ (f + 9) 2 = 0) (fun C => C = cISE ∧ σ (f + 9) 2 = 0) := by
  refine KXv.of (by decide) (Nat.le_of_ble_eq_true rfl) ?_
  intro p e s m args below meth c A ls F w hT hl hr hlk hex
  obtain ⟨hx, hb, hml, hown, hts⟩ := id F
  have hl : lv_has ls 2 [(0, .ref (ad 0)), (1, .int (nI f))] := hl
  refine lv_aload_n hx hb d_P_requirePins_0 rfl (lv_at hl 0 rfl) ?_
  refine mr_get F w (kin in_P) 0 (by decide) rfl rfl 3 (by decide) (kws_in m_126) (fun _ h => h) rfl d_P_requirePins_1 ?_
  refine lv_iload_n hx hb d_P_requirePins_4 rfl (lv_at hl 1 rfl) ?_
  refine mr_aldq F w 8 1 (by decide) rfl rfl f (by omega) (by decide) rfl rfl d_P_requirePins_5 ?_
  refine mr_get F w (kin in_F) (f + 9) (by omega) (eP_F (by omega) _) rfl 2 (by decide) (kws_in m_107) (fun _ h => h) rfl d_P_requirePins_6 ?_
  refine lv_if_ne (tgt := 22) hx hb d_P_requirePins_9 (by decide) (fun c1 => ?_) (fun c1 => ?_)
  · exact mr_xvret F w hr hlk (Nat.le_of_ble_eq_true rfl) (Nat.le_of_ble_eq_true rfl) (⟨rfl, c1⟩) d_P_requirePins_22
  · exact mr_throw (cls := cISE) (text := "the frame has no pins") hl9 F w hT hl.1 (by decide +kernel) m_196 m_10 (by decide) tXg1 tXb1 tXo1 d_P_requirePins_12 d_P_requirePins_15 d_P_requirePins_16 d_P_requirePins_18 d_P_requirePins_21 hex (Nat.le_of_ble_eq_true rfl) (Nat.le_of_ble_eq_true rfl) (Nat.le_of_ble_eq_true rfl) (Nat.le_of_ble_eq_true rfl) hlk (Nat.le_of_ble_eq_true rfl) (Nat.le_of_ble_eq_true rfl) (⟨rfl, c1⟩)
set_option maxHeartbeats 4000000 in
set_option maxRecDepth 100000 in
theorem c_P_requirePage (hl9 : l.stackTraces = false) (σ : Mem) (x : Int32) : KXv l D clP (tyP cI cF cZ cJ) 25 (eP cI cF ad) ad y_P_requirePage b_P_requirePage 1 { frames := 6, cells := 1, slots := 6, locals := 84 } [.int x] σ (fun σ' => σ' = σ ∧ ¬ kBad 256 x) (fun C => C = cIOB ∧ kBad 256 x) := by
  refine KXv.of (by decide) (Nat.le_of_ble_eq_true rfl) ?_
  intro p e s m args below meth c A ls F w hT hl hr hlk hex
  obtain ⟨hx, hb, hml, hown, hts⟩ := id F
  have hl : lv_has ls 1 [(0, .int x)] := hl
  refine lv_iload_n hx hb d_P_requirePage_0 rfl (lv_at hl 0 rfl) ?_
  refine lv_if_lt (tgt := 11) hx hb d_P_requirePage_1 (by decide) (fun c1 => ?_) (fun c1 => ?_)
  · exact mr_throw (cls := cIOB) (text := "no such page") hl9 F w hT hl.1 (by decide +kernel) m_267 m_11 (by decide) tXg2 tXb2 tXo2 d_P_requirePage_11 d_P_requirePage_14 d_P_requirePage_15 d_P_requirePage_17 d_P_requirePage_20 hex (Nat.le_of_ble_eq_true rfl) (Nat.le_of_ble_eq_true rfl) (Nat.le_of_ble_eq_true rfl) (Nat.le_of_ble_eq_true rfl) hlk (Nat.le_of_ble_eq_true rfl) (Nat.le_of_ble_eq_true rfl) (⟨rfl, Or.inl c1⟩)
  · refine lv_iload_n hx hb d_P_requirePage_4 rfl (lv_at hl 0 rfl) ?_
    refine lv_sipush (v := nI 256) hx hb d_P_requirePage_5 (by decide) ?_
    refine lv_icmp_lt (tgt := 21) hx hb d_P_requirePage_8 (by decide) (fun c2 => ?_) (fun c2 => ?_)
    · exact mr_xvret F w hr hlk (Nat.le_of_ble_eq_true rfl) (Nat.le_of_ble_eq_true rfl) (⟨rfl, fun h9 => h9.elim c1 (fun h8 => h8 c2)⟩) d_P_requirePage_21
    · exact mr_throw (cls := cIOB) (text := "no such page") hl9 F w hT hl.1 (by decide +kernel) m_267 m_11 (by decide) tXg2 tXb2 tXo2 d_P_requirePage_11 d_P_requirePage_14 d_P_requirePage_15 d_P_requirePage_17 d_P_requirePage_20 hex (Nat.le_of_ble_eq_true rfl) (Nat.le_of_ble_eq_true rfl) (Nat.le_of_ble_eq_true rfl) (Nat.le_of_ble_eq_true rfl) hlk (Nat.le_of_ble_eq_true rfl) (Nat.le_of_ble_eq_true rfl) (⟨rfl, Or.inr c2⟩)
set_option maxHeartbeats 4000000 in
set_option maxRecDepth 100000 in
theorem c_P_requireFrame (hl9 : l.stackTraces = false) (σ : Mem) (x : Int32) : KXv l D clP (tyP cI cF cZ cJ) 25 (eP cI cF ad) ad y_P_requireFrame b_P_requireFrame 1 { frames := 6, cells := 1, slots := 6, locals := 84 } [.int x] σ (fun σ' => σ' = σ ∧ ¬ kBad 8 x) (fun C => C = cIOB ∧ kBad 8 x) := by
  refine KXv.of (by decide) (Nat.le_of_ble_eq_true rfl) ?_
  intro p e s m args below meth c A ls F w hT hl hr hlk hex
  obtain ⟨hx, hb, hml, hown, hts⟩ := id F
  have hl : lv_has ls 1 [(0, .int x)] := hl
  refine lv_iload_n hx hb d_P_requireFrame_0 rfl (lv_at hl 0 rfl) ?_
  refine lv_if_lt (tgt := 10) hx hb d_P_requireFrame_1 (by decide) (fun c1 => ?_) (fun c1 => ?_)
  · exact mr_throw (cls := cIOB) (text := "no such frame") hl9 F w hT hl.1 (by decide +kernel) m_267 m_11 (by decide) tXg2 tXb2 tXo2 d_P_requireFrame_10 d_P_requireFrame_13 d_P_requireFrame_14 d_P_requireFrame_16 d_P_requireFrame_19 hex (Nat.le_of_ble_eq_true rfl) (Nat.le_of_ble_eq_true rfl) (Nat.le_of_ble_eq_true rfl) (Nat.le_of_ble_eq_true rfl) hlk (Nat.le_of_ble_eq_true rfl) (Nat.le_of_ble_eq_true rfl) (⟨rfl, Or.inl c1⟩)
  · refine lv_iload_n hx hb d_P_requireFrame_4 rfl (lv_at hl 0 rfl) ?_
    refine lv_bipush (v := nI 8) hx hb d_P_requireFrame_5 (by decide) ?_
    refine lv_icmp_lt (tgt := 20) hx hb d_P_requireFrame_7 (by decide) (fun c2 => ?_) (fun c2 => ?_)
    · exact mr_xvret F w hr hlk (Nat.le_of_ble_eq_true rfl) (Nat.le_of_ble_eq_true rfl) (⟨rfl, fun h9 => h9.elim c1 (fun h8 => h8 c2)⟩) d_P_requireFrame_20
    · exact mr_throw (cls := cIOB) (text := "no such frame") hl9 F w hT hl.1 (by decide +kernel) m_267 m_11 (by decide) tXg2 tXb2 tXo2 d_P_requireFrame_10 d_P_requireFrame_13 d_P_requireFrame_14 d_P_requireFrame_16 d_P_requireFrame_19 hex (Nat.le_of_ble_eq_true rfl) (Nat.le_of_ble_eq_true rfl) (Nat.le_of_ble_eq_true rfl) (Nat.le_of_ble_eq_true rfl) hlk (Nat.le_of_ble_eq_true rfl) (Nat.le_of_ble_eq_true rfl) (⟨rfl, Or.inr c2⟩)
set_option maxHeartbeats 4000000 in
set_option maxRecDepth 100000 in
theorem c_P_requireWord (hl9 : l.stackTraces = false) (σ : Mem) (x : Int32) : KXv l D clP (tyP cI cF cZ cJ) 25 (eP cI cF ad) ad y_P_requireWord b_P_requireWord 1 { frames := 6, cells := 1, slots := 6, locals := 84 } [.int x] σ (fun σ' => σ' = σ ∧ ¬ kBad 64 x) (fun C => C = cIOB ∧ kBad 64 x) := by
  refine KXv.of (by decide) (Nat.le_of_ble_eq_true rfl) ?_
  intro p e s m args below meth c A ls F w hT hl hr hlk hex
  obtain ⟨hx, hb, hml, hown, hts⟩ := id F
  have hl : lv_has ls 1 [(0, .int x)] := hl
  refine lv_iload_n hx hb d_P_requireWord_0 rfl (lv_at hl 0 rfl) ?_
  refine lv_if_lt (tgt := 10) hx hb d_P_requireWord_1 (by decide) (fun c1 => ?_) (fun c1 => ?_)
  · exact mr_throw (cls := cIOB) (text := "no such word") hl9 F w hT hl.1 (by decide +kernel) m_267 m_11 (by decide) tXg2 tXb2 tXo2 d_P_requireWord_10 d_P_requireWord_13 d_P_requireWord_14 d_P_requireWord_16 d_P_requireWord_19 hex (Nat.le_of_ble_eq_true rfl) (Nat.le_of_ble_eq_true rfl) (Nat.le_of_ble_eq_true rfl) (Nat.le_of_ble_eq_true rfl) hlk (Nat.le_of_ble_eq_true rfl) (Nat.le_of_ble_eq_true rfl) (⟨rfl, Or.inl c1⟩)
  · refine lv_iload_n hx hb d_P_requireWord_4 rfl (lv_at hl 0 rfl) ?_
    refine lv_bipush (v := nI 64) hx hb d_P_requireWord_5 (by decide) ?_
    refine lv_icmp_lt (tgt := 20) hx hb d_P_requireWord_7 (by decide) (fun c2 => ?_) (fun c2 => ?_)
    · exact mr_xvret F w hr hlk (Nat.le_of_ble_eq_true rfl) (Nat.le_of_ble_eq_true rfl) (⟨rfl, fun h9 => h9.elim c1 (fun h8 => h8 c2)⟩) d_P_requireWord_20
    · exact mr_throw (cls := cIOB) (text := "no such word") hl9 F w hT hl.1 (by decide +kernel) m_267 m_11 (by decide) tXg2 tXb2 tXo2 d_P_requireWord_10 d_P_requireWord_13 d_P_requireWord_14 d_P_requireWord_16 d_P_requireWord_19 hex (Nat.le_of_ble_eq_true rfl) (Nat.le_of_ble_eq_true rfl) (Nat.le_of_ble_eq_true rfl) (Nat.le_of_ble_eq_true rfl) hlk (Nat.le_of_ble_eq_true rfl) (Nat.le_of_ble_eq_true rfl) (⟨rfl, Or.inr c2⟩)
def kTorn (σ : Mem)  : Int32 × Mem :=
  if (σ 2 4) = 0 then (nI 0, σ)
  else (nI 1, σ)
set_option maxHeartbeats 4000000 in
set_option maxRecDepth 100000 in
theorem c_P_torn (σ : Mem) : KIP l D cI cF cZ cJ ad y_P_torn b_P_torn 1 (some .int) 0 0 [.ref (ad 0)] σ (fun r σ' => r = (kTorn σ).1 ∧ σ' = (kTorn σ).2) := by
  refine KI.of (by decide) (Nat.le_of_ble_eq_true rfl) ?_
  intro p e s m args below meth c A ls F w hl hr hlk
  obtain ⟨hx, hb, hml, hown, hts⟩ := id F
  have hl : lv_has ls 1 [(0, .ref (ad 0))] := hl
  refine lv_aload_n hx hb d_P_torn_0 rfl (lv_at hl 0 rfl) ?_
  refine mr_get F w (kin in_P) 0 (by decide) rfl rfl 1 (by decide) (kws_in m_124) (fun _ h => h) rfl d_P_torn_1 ?_
  refine mr_get F w (kin in_M) 2 (by decide) rfl rfl 4 (by decide) (kws_in m_54) (fun _ h => h) rfl d_P_torn_4 ?_
  refine lv_if_eq (tgt := 14) hx hb d_P_torn_7 (by decide) (fun c1 => ?_) (fun c1 => ?_)
  · refine lv_iconst (v := nI 0) hx hb d_P_torn_14 (by decide) ?_
    exact mr_iret F w hr hlk (by unfold kTorn; rw [if_pos c1]; exact ⟨rfl, rfl⟩) d_P_torn_15
  · refine lv_iconst (v := nI 1) hx hb d_P_torn_10 (by decide) ?_
    refine lv_goto (tgt := 15) hx hb d_P_torn_11 (by decide) ?_
    exact mr_iret F w hr hlk (by unfold kTorn; rw [if_neg c1]; exact ⟨rfl, rfl⟩) d_P_torn_15
def kWrites (σ : Mem)  : Int32 × Mem :=
  (σ 1 2, σ)
set_option maxHeartbeats 4000000 in
set_option maxRecDepth 100000 in
theorem c_P_writes (σ : Mem) : KIP l D cI cF cZ cJ ad y_P_writes b_P_writes 1 (some .int) 0 0 [.ref (ad 0)] σ (fun r σ' => r = (kWrites σ).1 ∧ σ' = (kWrites σ).2) := by
  refine KI.of (by decide) (Nat.le_of_ble_eq_true rfl) ?_
  intro p e s m args below meth c A ls F w hl hr hlk
  obtain ⟨hx, hb, hml, hown, hts⟩ := id F
  have hl : lv_has ls 1 [(0, .ref (ad 0))] := hl
  refine lv_aload_n hx hb d_P_writes_0 rfl (lv_at hl 0 rfl) ?_
  refine mr_get F w (kin in_P) 0 (by decide) rfl rfl 0 (by decide) (kws_in m_123) (fun _ h => h) rfl d_P_writes_1 ?_
  refine mr_get F w (kin in_W) 1 (by decide) rfl rfl 2 (by decide) (kws_in m_34) (fun _ h => h) rfl d_P_writes_4 ?_
  exact mr_iret F w hr hlk (by unfold kWrites; exact ⟨rfl, rfl⟩) d_P_writes_7
def kIsOn (σ : Mem)  : Int32 × Mem :=
  (σ 1 0, σ)
set_option maxHeartbeats 4000000 in
set_option maxRecDepth 100000 in
theorem c_P_isOn (σ : Mem) (h1 : σ 1 0 = 0 ∨ σ 1 0 = 1) : KIP l D cI cF cZ cJ ad y_P_isOn b_P_isOn 1 (some .boolean) 0 0 [.ref (ad 0)] σ (fun r σ' => r = (kIsOn σ).1 ∧ σ' = (kIsOn σ).2) := by
  refine KI.of (by decide) (Nat.le_of_ble_eq_true rfl) ?_
  intro p e s m args below meth c A ls F w hl hr hlk
  obtain ⟨hx, hb, hml, hown, hts⟩ := id F
  have hl : lv_has ls 1 [(0, .ref (ad 0))] := hl
  refine lv_aload_n hx hb d_P_isOn_0 rfl (lv_at hl 0 rfl) ?_
  refine mr_get F w (kin in_P) 0 (by decide) rfl rfl 0 (by decide) (kws_in m_123) (fun _ h => h) rfl d_P_isOn_1 ?_
  refine mr_get F w (kin in_W) 1 (by decide) rfl rfl 0 (by decide) (kws_in m_30) (fun _ h => h) rfl d_P_isOn_4 ?_
  exact mr_zret F w hr hlk (h1) (by unfold kIsOn; exact ⟨rfl, rfl⟩) d_P_isOn_7
def kCut (σ : Mem)  : Int32 × Mem :=
  if (σ 1 0) = 0 then (nI 0, σ)
  else (nI 1, (kLose (kFail σ)))
set_option maxHeartbeats 4000000 in
set_option maxRecDepth 100000 in
theorem c_P_cut (σ : Mem) : KIP l D cI cF cZ cJ ad y_P_cut b_P_cut 1 (some .boolean) 2 45 [.ref (ad 0)] σ (fun r σ' => r = (kCut σ).1 ∧ σ' = (kCut σ).2) := by
  refine KI.of (by decide) (Nat.le_of_ble_eq_true rfl) ?_
  intro p e s m args below meth c A ls F w hl hr hlk
  obtain ⟨hx, hb, hml, hown, hts⟩ := id F
  have hl : lv_has ls 1 [(0, .ref (ad 0))] := hl
  refine lv_aload_n hx hb d_P_cut_0 rfl (lv_at hl 0 rfl) ?_
  refine mr_get F w (kin in_P) 0 (by decide) rfl rfl 0 (by decide) (kws_in m_123) (fun _ h => h) rfl d_P_cut_1 ?_
  refine mr_get F w (kin in_W) 1 (by decide) rfl rfl 0 (by decide) (kws_in m_30) (fun _ h => h) rfl d_P_cut_4 ?_
  refine lv_if_ne (tgt := 12) hx hb d_P_cut_7 (by decide) (fun c1 => ?_) (fun c1 => ?_)
  · refine lv_aload_n hx hb d_P_cut_12 rfl (lv_at hl 0 rfl) ?_
    refine mr_get F w (kin in_P) 0 (by decide) rfl rfl 0 (by decide) (kws_in m_123) (fun _ h => h) rfl d_P_cut_13 ?_
    refine mr_callVv (As := []) F w hl.1 (c_W_fail σ) (cwV 0 hts g_P_cut_16 rfl rfl rfl (by decide +kernel) ⟨Nat.le_of_ble_eq_true rfl, Nat.le_of_ble_eq_true rfl⟩) rfl (by decide) rfl rfl rfl (Nat.le_of_ble_eq_true rfl) d_P_cut_16 ⟨Nat.zero_le _, Nat.zero_le _⟩ (fun σ3 H locs e4 w => ?_)
    replace e4 := Eq.symm e4
    refine lv_aload_n hx hb d_P_cut_19 rfl (lv_at hl 0 rfl) ?_
    refine mr_callVv (As := []) F w hl.1 (c_P_loseMemory σ3) (cwV 0 hts g_P_cut_20 rfl rfl rfl (by decide +kernel) ⟨Nat.le_of_ble_eq_true rfl, Nat.le_of_ble_eq_true rfl⟩) rfl (by decide) rfl rfl rfl (Nat.le_of_ble_eq_true rfl) d_P_cut_20 ⟨Nat.zero_le _, Nat.zero_le _⟩ (fun σ6 H locs e7 w => ?_)
    replace e7 := Eq.symm e7
    refine lv_iconst (v := nI 1) hx hb d_P_cut_23 (by decide) ?_
    exact mr_zret F w hr hlk (Or.inr rfl) (by subst e4 e7; unfold kCut; rw [if_neg c1]; exact ⟨rfl, rfl⟩) d_P_cut_24
  · refine lv_iconst (v := nI 0) hx hb d_P_cut_10 (by decide) ?_
    exact mr_zret F w hr hlk (Or.inl rfl) (by unfold kCut; rw [if_pos c1]; exact ⟨rfl, rfl⟩) d_P_cut_11
end
