/-! takeFrame, pin, doAgain -/
section
variable {l : Launch} {D : va_G} {cI cF cZ cJ : ClassId} {ad : Nat → Nat} {σ : Mem}
set_option maxRecDepth 20000 in
theorem m_287 : Cond.methodLink "PagePool" 109 (⟨"PagePool", "frameWith", "(I)I"⟩ : MethodName) ∈ gt := gt_in 287 (by decide +kernel) (by decide +kernel)
set_option maxRecDepth 20000 in
theorem m_290 : Cond.code (⟨"PagePool", "frameWith", "(I)I"⟩ : MethodName) prog_1_method_26_code 3 (some .int) ∈ gt := gt_in 290 (by decide +kernel) (by decide +kernel)
set_option maxRecDepth 20000 in
theorem m_289 : Cond.instanceMethod (⟨"PagePool", "frameWith", "(I)I"⟩ : MethodName) ∈ gt := gt_in 289 (by decide +kernel) (by decide +kernel)
set_option maxRecDepth 20000 in
theorem ms_5 : Cond.selects "PagePool" (⟨"PagePool", "frameWith", "(I)I"⟩ : MethodName) (⟨"PagePool", "frameWith", "(I)I"⟩ : MethodName) ∈ gt := gt_sel 5 (by decide +kernel) (by decide +kernel)
set_option maxRecDepth 20000 in
theorem m_295 : Cond.methodLink "PagePool" 197 (⟨"PagePool", "goRound", "()I"⟩ : MethodName) ∈ gt := gt_in 295 (by decide +kernel) (by decide +kernel)
set_option maxRecDepth 20000 in
theorem m_298 : Cond.code (⟨"PagePool", "goRound", "()I"⟩ : MethodName) prog_1_method_30_code 3 (some .int) ∈ gt := gt_in 298 (by decide +kernel) (by decide +kernel)
set_option maxRecDepth 20000 in
theorem m_297 : Cond.instanceMethod (⟨"PagePool", "goRound", "()I"⟩ : MethodName) ∈ gt := gt_in 297 (by decide +kernel) (by decide +kernel)
set_option maxRecDepth 20000 in
theorem ms_7 : Cond.selects "PagePool" (⟨"PagePool", "goRound", "()I"⟩ : MethodName) (⟨"PagePool", "goRound", "()I"⟩ : MethodName) ∈ gt := gt_sel 7 (by decide +kernel) (by decide +kernel)
set_option maxRecDepth 20000 in
theorem m_328 : Cond.methodLink "PagePool" 200 (⟨"PagePool$Medium", "read", "(I[I)V"⟩ : MethodName) ∈ gt := gt_in 328 (by decide +kernel) (by decide +kernel)
set_option maxRecDepth 20000 in
theorem m_331 : Cond.code (⟨"PagePool$Medium", "read", "(I[I)V"⟩ : MethodName) prog_4_method_2_code 3 none ∈ gt := gt_in 331 (by decide +kernel) (by decide +kernel)
set_option maxRecDepth 20000 in
theorem m_329 : Cond.instanceMethod (⟨"PagePool$Medium", "read", "(I[I)V"⟩ : MethodName) ∈ gt := gt_in 329 (by decide +kernel) (by decide +kernel)
set_option maxRecDepth 20000 in
theorem m_330 : Cond.selects "PagePool$Medium" (⟨"PagePool$Medium", "read", "(I[I)V"⟩ : MethodName) (⟨"PagePool$Medium", "read", "(I[I)V"⟩ : MethodName) ∈ gt := gt_in 330 (by decide +kernel) (by decide +kernel)
set_option maxRecDepth 20000 in
theorem m_299 : Cond.methodLink "PagePool" 112 (⟨"PagePool", "writeFrame", "(LPagePool$Frame;)Z"⟩ : MethodName) ∈ gt := gt_in 299 (by decide +kernel) (by decide +kernel)
set_option maxRecDepth 20000 in
theorem m_302 : Cond.code (⟨"PagePool", "writeFrame", "(LPagePool$Frame;)Z"⟩ : MethodName) prog_1_method_31_code 3 (some .boolean) ∈ gt := gt_in 302 (by decide +kernel) (by decide +kernel)
set_option maxRecDepth 20000 in
theorem m_301 : Cond.instanceMethod (⟨"PagePool", "writeFrame", "(LPagePool$Frame;)Z"⟩ : MethodName) ∈ gt := gt_in 301 (by decide +kernel) (by decide +kernel)
set_option maxRecDepth 20000 in
theorem ms_8 : Cond.selects "PagePool" (⟨"PagePool", "writeFrame", "(LPagePool$Frame;)Z"⟩ : MethodName) (⟨"PagePool", "writeFrame", "(LPagePool$Frame;)Z"⟩ : MethodName) ∈ gt := gt_sel 8 (by decide +kernel) (by decide +kernel)
set_option maxRecDepth 20000 in
theorem m_291 : Cond.methodLink "PagePool" 194 (⟨"PagePool", "takeFrame", "(I)I"⟩ : MethodName) ∈ gt := gt_in 291 (by decide +kernel) (by decide +kernel)
set_option maxRecDepth 20000 in
theorem m_294 : Cond.code (⟨"PagePool", "takeFrame", "(I)I"⟩ : MethodName) prog_1_method_29_code 3 (some .int) ∈ gt := gt_in 294 (by decide +kernel) (by decide +kernel)
set_option maxRecDepth 20000 in
theorem m_293 : Cond.instanceMethod (⟨"PagePool", "takeFrame", "(I)I"⟩ : MethodName) ∈ gt := gt_in 293 (by decide +kernel) (by decide +kernel)
set_option maxRecDepth 20000 in
theorem ms_6 : Cond.selects "PagePool" (⟨"PagePool", "takeFrame", "(I)I"⟩ : MethodName) (⟨"PagePool", "takeFrame", "(I)I"⟩ : MethodName) ∈ gt := gt_sel 6 (by decide +kernel) (by decide +kernel)
theorem d_P_takeFrame_0 : decode b_P_takeFrame 0 = .ok (.aload_n 0, 1) := by decide +kernel
theorem d_P_takeFrame_1 : decode b_P_takeFrame 1 = .ok (.iconst (-1), 1) := by decide +kernel
theorem d_P_takeFrame_2 : decode b_P_takeFrame 2 = .ok (.invokevirtual 109, 3) := by decide +kernel
theorem d_P_takeFrame_5 : decode b_P_takeFrame 5 = .ok (.istore_n 2, 1) := by decide +kernel
theorem d_P_takeFrame_6 : decode b_P_takeFrame 6 = .ok (.iload_n 2, 1) := by decide +kernel
theorem d_P_takeFrame_7 : decode b_P_takeFrame 7 = .ok (.iconst (-1), 1) := by decide +kernel
theorem d_P_takeFrame_8 : decode b_P_takeFrame 8 = .ok (.if_icmp .ne 8, 3) := by decide +kernel
theorem d_P_takeFrame_11 : decode b_P_takeFrame 11 = .ok (.aload_n 0, 1) := by decide +kernel
theorem d_P_takeFrame_12 : decode b_P_takeFrame 12 = .ok (.invokevirtual 197, 3) := by decide +kernel
theorem d_P_takeFrame_15 : decode b_P_takeFrame 15 = .ok (.istore_n 2, 1) := by decide +kernel
theorem d_P_takeFrame_16 : decode b_P_takeFrame 16 = .ok (.iload_n 2, 1) := by decide +kernel
theorem d_P_takeFrame_17 : decode b_P_takeFrame 17 = .ok (.iconst (-1), 1) := by decide +kernel
theorem d_P_takeFrame_18 : decode b_P_takeFrame 18 = .ok (.if_icmp .ne 5, 3) := by decide +kernel
theorem d_P_takeFrame_21 : decode b_P_takeFrame 21 = .ok (.iconst (-1), 1) := by decide +kernel
theorem d_P_takeFrame_22 : decode b_P_takeFrame 22 = .ok (.ireturn, 1) := by decide +kernel
theorem d_P_takeFrame_23 : decode b_P_takeFrame 23 = .ok (.aload_n 0, 1) := by decide +kernel
theorem d_P_takeFrame_24 : decode b_P_takeFrame 24 = .ok (.getfield 34, 3) := by decide +kernel
theorem d_P_takeFrame_27 : decode b_P_takeFrame 27 = .ok (.iload_n 2, 1) := by decide +kernel
theorem d_P_takeFrame_28 : decode b_P_takeFrame 28 = .ok (.aaload, 1) := by decide +kernel
theorem d_P_takeFrame_29 : decode b_P_takeFrame 29 = .ok (.invokevirtual 101, 3) := by decide +kernel
theorem d_P_takeFrame_32 : decode b_P_takeFrame 32 = .ok (.ifCond .eq 18, 3) := by decide +kernel
theorem d_P_takeFrame_35 : decode b_P_takeFrame 35 = .ok (.aload_n 0, 1) := by decide +kernel
theorem d_P_takeFrame_36 : decode b_P_takeFrame 36 = .ok (.aload_n 0, 1) := by decide +kernel
theorem d_P_takeFrame_37 : decode b_P_takeFrame 37 = .ok (.getfield 34, 3) := by decide +kernel
theorem d_P_takeFrame_40 : decode b_P_takeFrame 40 = .ok (.iload_n 2, 1) := by decide +kernel
theorem d_P_takeFrame_41 : decode b_P_takeFrame 41 = .ok (.aaload, 1) := by decide +kernel
theorem d_P_takeFrame_42 : decode b_P_takeFrame 42 = .ok (.invokevirtual 112, 3) := by decide +kernel
theorem d_P_takeFrame_45 : decode b_P_takeFrame 45 = .ok (.ifCond .ne 5, 3) := by decide +kernel
theorem d_P_takeFrame_48 : decode b_P_takeFrame 48 = .ok (.iconst (-1), 1) := by decide +kernel
theorem d_P_takeFrame_49 : decode b_P_takeFrame 49 = .ok (.ireturn, 1) := by decide +kernel
theorem d_P_takeFrame_50 : decode b_P_takeFrame 50 = .ok (.aload_n 0, 1) := by decide +kernel
theorem d_P_takeFrame_51 : decode b_P_takeFrame 51 = .ok (.getfield 34, 3) := by decide +kernel
theorem d_P_takeFrame_54 : decode b_P_takeFrame 54 = .ok (.iload_n 2, 1) := by decide +kernel
theorem d_P_takeFrame_55 : decode b_P_takeFrame 55 = .ok (.aaload, 1) := by decide +kernel
theorem d_P_takeFrame_56 : decode b_P_takeFrame 56 = .ok (.iload_n 1, 1) := by decide +kernel
theorem d_P_takeFrame_57 : decode b_P_takeFrame 57 = .ok (.putfield 77, 3) := by decide +kernel
theorem d_P_takeFrame_60 : decode b_P_takeFrame 60 = .ok (.aload_n 0, 1) := by decide +kernel
theorem d_P_takeFrame_61 : decode b_P_takeFrame 61 = .ok (.getfield 21, 3) := by decide +kernel
theorem d_P_takeFrame_64 : decode b_P_takeFrame 64 = .ok (.iload_n 1, 1) := by decide +kernel
theorem d_P_takeFrame_65 : decode b_P_takeFrame 65 = .ok (.aload_n 0, 1) := by decide +kernel
theorem d_P_takeFrame_66 : decode b_P_takeFrame 66 = .ok (.getfield 34, 3) := by decide +kernel
theorem d_P_takeFrame_69 : decode b_P_takeFrame 69 = .ok (.iload_n 2, 1) := by decide +kernel
theorem d_P_takeFrame_70 : decode b_P_takeFrame 70 = .ok (.aaload, 1) := by decide +kernel
theorem d_P_takeFrame_71 : decode b_P_takeFrame 71 = .ok (.getfield 93, 3) := by decide +kernel
theorem d_P_takeFrame_74 : decode b_P_takeFrame 74 = .ok (.invokevirtual 200, 3) := by decide +kernel
theorem d_P_takeFrame_77 : decode b_P_takeFrame 77 = .ok (.iload_n 2, 1) := by decide +kernel
theorem d_P_takeFrame_78 : decode b_P_takeFrame 78 = .ok (.ireturn, 1) := by decide +kernel
set_option maxRecDepth 20000 in
theorem g_P_takeFrame_2 : GoodIn (kws (y_P_takeFrame) b_P_takeFrame 3 (some .int)) (wsV R_P 109 R_P y_P_frameWith (kws (y_P_frameWith) b_P_frameWith 3 (some .int))) := kwV m_287 m_289 ms_5 m_1 m_290
set_option maxRecDepth 20000 in
theorem g_P_takeFrame_12 : GoodIn (kws (y_P_takeFrame) b_P_takeFrame 3 (some .int)) (wsV R_P 197 R_P y_P_goRound (kws (y_P_goRound) b_P_goRound 3 (some .int))) := kwV m_295 m_297 ms_7 m_1 m_298
set_option maxRecDepth 20000 in
theorem g_P_takeFrame_29 : GoodIn (kws (y_P_takeFrame) b_P_takeFrame 3 (some .int)) (wsV R_P 101 R_F y_F_isChanged (kws (y_F_isChanged) b_F_isChanged 1 (some .boolean))) := kwV m_143 m_144 m_145 m_5 m_146
set_option maxRecDepth 20000 in
theorem g_P_takeFrame_74 : GoodIn (kws (y_P_takeFrame) b_P_takeFrame 3 (some .int)) (wsV R_P 200 R_M y_M_read (kws (y_M_read) b_M_read 3 none)) := kwV m_328 m_329 m_330 m_3 m_331
set_option maxRecDepth 20000 in
theorem g_P_takeFrame_42 : GoodIn (kws (y_P_takeFrame) b_P_takeFrame 3 (some .int)) (wsV R_P 112 R_P y_P_writeFrame (kws (y_P_writeFrame) b_P_writeFrame 3 (some .boolean))) := kwV m_299 m_301 ms_8 m_1 m_302
theorem d_P_pin_0 : decode b_P_pin 0 = .ok (.aload_n 0, 1) := by decide +kernel
theorem d_P_pin_1 : decode b_P_pin 1 = .ok (.iload_n 1, 1) := by decide +kernel
theorem d_P_pin_2 : decode b_P_pin 2 = .ok (.invokevirtual 109, 3) := by decide +kernel
theorem d_P_pin_5 : decode b_P_pin 5 = .ok (.istore_n 2, 1) := by decide +kernel
theorem d_P_pin_6 : decode b_P_pin 6 = .ok (.iload_n 2, 1) := by decide +kernel
theorem d_P_pin_7 : decode b_P_pin 7 = .ok (.iconst (-1), 1) := by decide +kernel
theorem d_P_pin_8 : decode b_P_pin 8 = .ok (.if_icmp .ne 9, 3) := by decide +kernel
theorem d_P_pin_11 : decode b_P_pin 11 = .ok (.aload_n 0, 1) := by decide +kernel
theorem d_P_pin_12 : decode b_P_pin 12 = .ok (.iload_n 1, 1) := by decide +kernel
theorem d_P_pin_13 : decode b_P_pin 13 = .ok (.invokevirtual 194, 3) := by decide +kernel
theorem d_P_pin_16 : decode b_P_pin 16 = .ok (.istore_n 2, 1) := by decide +kernel
theorem d_P_pin_17 : decode b_P_pin 17 = .ok (.iload_n 2, 1) := by decide +kernel
theorem d_P_pin_18 : decode b_P_pin 18 = .ok (.iconst (-1), 1) := by decide +kernel
theorem d_P_pin_19 : decode b_P_pin 19 = .ok (.if_icmp .ne 5, 3) := by decide +kernel
theorem d_P_pin_22 : decode b_P_pin 22 = .ok (.iconst (-1), 1) := by decide +kernel
theorem d_P_pin_23 : decode b_P_pin 23 = .ok (.ireturn, 1) := by decide +kernel
theorem d_P_pin_24 : decode b_P_pin 24 = .ok (.aload_n 0, 1) := by decide +kernel
theorem d_P_pin_25 : decode b_P_pin 25 = .ok (.getfield 34, 3) := by decide +kernel
theorem d_P_pin_28 : decode b_P_pin 28 = .ok (.iload_n 2, 1) := by decide +kernel
theorem d_P_pin_29 : decode b_P_pin 29 = .ok (.aaload, 1) := by decide +kernel
theorem d_P_pin_30 : decode b_P_pin 30 = .ok (.dup, 1) := by decide +kernel
theorem d_P_pin_31 : decode b_P_pin 31 = .ok (.getfield 60, 3) := by decide +kernel
theorem d_P_pin_34 : decode b_P_pin 34 = .ok (.iconst 1, 1) := by decide +kernel
theorem d_P_pin_35 : decode b_P_pin 35 = .ok (.iadd, 1) := by decide +kernel
theorem d_P_pin_36 : decode b_P_pin 36 = .ok (.putfield 60, 3) := by decide +kernel
theorem d_P_pin_39 : decode b_P_pin 39 = .ok (.aload_n 0, 1) := by decide +kernel
theorem d_P_pin_40 : decode b_P_pin 40 = .ok (.getfield 34, 3) := by decide +kernel
theorem d_P_pin_43 : decode b_P_pin 43 = .ok (.iload_n 2, 1) := by decide +kernel
theorem d_P_pin_44 : decode b_P_pin 44 = .ok (.aaload, 1) := by decide +kernel
theorem d_P_pin_45 : decode b_P_pin 45 = .ok (.iconst 1, 1) := by decide +kernel
theorem d_P_pin_46 : decode b_P_pin 46 = .ok (.putfield 97, 3) := by decide +kernel
theorem d_P_pin_49 : decode b_P_pin 49 = .ok (.iload_n 2, 1) := by decide +kernel
theorem d_P_pin_50 : decode b_P_pin 50 = .ok (.ireturn, 1) := by decide +kernel
set_option maxRecDepth 20000 in
theorem g_P_pin_2 : GoodIn (kws (y_P_pin) b_P_pin 3 (some .int)) (wsV R_P 109 R_P y_P_frameWith (kws (y_P_frameWith) b_P_frameWith 3 (some .int))) := kwV m_287 m_289 ms_5 m_1 m_290
set_option maxRecDepth 20000 in
theorem g_P_pin_13 : GoodIn (kws (y_P_pin) b_P_pin 3 (some .int)) (wsV R_P 194 R_P y_P_takeFrame (kws (y_P_takeFrame) b_P_takeFrame 3 (some .int))) := kwV m_291 m_293 ms_6 m_1 m_294
theorem fr8_m1 : fr8 (-1) := Or.inl rfl
theorem pi_fr {c : Prop} [Decidable c] {a b : Int32 × Mem} (h1 : c → fr8 a.1) (h2 : ¬ c → fr8 b.1) : fr8 (if c then a else b).1 := by
  split
  · exact h1 (by assumption)
  · exact h2 (by assumption)
/-- changed frames have pages -/
def pgOK (σ : Mem) : Prop := ∀ g, g < 8 → ¬ kCh σ g = 0 → nat0 256 (σ (g + 9) 1)
theorem kGo_f : ∀ (n h : Nat) (τ : Mem) (g k : Nat), k ≠ 3 → (kGo n h τ).2 (g + 9) k = τ (g + 9) k
  | 0, _, _, _, _, _ => rfl
  | n + 1, h, τ, g, k, hk => by
    have e1 : ∀ v, (mup τ 0 4 v) (g + 9) k = τ (g + 9) k := fun v => by rw [mup_n _ _ _ (by omega)]
    unfold kGo
    split
    · split
      · exact e1 (nI ((h + 1) % 8))
      · rw [kGo_f n _ _ g k hk, ← e1 (nI ((h + 1) % 8))]
        unfold mup mset upd
        by_cases hg : g + 9 = h + 9
        · simp only [hg, if_true, if_neg hk]
        · simp only [if_neg hg]
    · rw [kGo_f n _ _ g k hk, e1]
theorem kRound_ok {σ : Mem} (h : pgOK σ) : pgOK (kRound σ).2 := by
  intro g hg hc
  have e1 : ∀ k, k ≠ 3 → (kRound σ).2 (g + 9) k = σ (g + 9) k := fun k hk => kGo_f _ _ _ g k hk
  rw [e1 1 (by decide)]
  refine h g hg ?_
  unfold kCh at hc ⊢
  rw [e1 4 (by decide)] at hc
  exact hc
def kTake (σ : Mem) (pg : Nat) : Int32 × Mem :=
  if (kFw σ ((-1)) 8 0) = -1 then (if ((kRound σ).1) = -1 then ((-1), ((kRound σ).2))
    else if (kCh ((kRound σ).2) ((kRound σ).1).toNatClampNeg) = 0 then (nI ((kRound σ).1).toNatClampNeg, (mcp (mup ((kRound σ).2) (((kRound σ).1).toNatClampNeg + 9) 1 (nI pg)) 3 (((kRound σ).1).toNatClampNeg + 17) (pg * 64) 0 64))
    else if ((kWF ((kRound σ).2) ((kRound σ).1).toNatClampNeg).1) = 0 then ((-1), ((kWF ((kRound σ).2) ((kRound σ).1).toNatClampNeg).2))
    else (nI ((kRound σ).1).toNatClampNeg, (mcp (mup ((kWF ((kRound σ).2) ((kRound σ).1).toNatClampNeg).2) (((kRound σ).1).toNatClampNeg + 9) 1 (nI pg)) 3 (((kRound σ).1).toNatClampNeg + 17) (pg * 64) 0 64)))
  else if (kCh σ (kFw σ ((-1)) 8 0).toNatClampNeg) = 0 then (nI (kFw σ ((-1)) 8 0).toNatClampNeg, (mcp (mup σ ((kFw σ ((-1)) 8 0).toNatClampNeg + 9) 1 (nI pg)) 3 ((kFw σ ((-1)) 8 0).toNatClampNeg + 17) (pg * 64) 0 64))
  else if ((kWF σ (kFw σ ((-1)) 8 0).toNatClampNeg).1) = 0 then ((-1), ((kWF σ (kFw σ ((-1)) 8 0).toNatClampNeg).2))
  else (nI (kFw σ ((-1)) 8 0).toNatClampNeg, (mcp (mup ((kWF σ (kFw σ ((-1)) 8 0).toNatClampNeg).2) ((kFw σ ((-1)) 8 0).toNatClampNeg + 9) 1 (nI pg)) 3 ((kFw σ ((-1)) 8 0).toNatClampNeg + 17) (pg * 64) 0 64))
set_option maxHeartbeats 4000000 in
set_option maxRecDepth 100000 in
theorem c_P_takeFrame (σ : Mem) (pg : Nat) (hpg : pg < 256) (hh : nat0 8 (σ 0 4)) (hok : pgOK σ) : KIP l D cI cF cZ cJ ad y_P_takeFrame b_P_takeFrame 3 (some .int) 4 115 [.ref (ad 0), .int (nI pg)] σ (fun r σ' => r = (kTake σ pg).1 ∧ σ' = (kTake σ pg).2) := by
  refine KI.of (by decide) (Nat.le_of_ble_eq_true rfl) ?_
  intro p e s m args below meth c A ls F w hl hr hlk
  obtain ⟨hx, hb, hml, hown, hts⟩ := id F
  have hl : lv_has ls 3 [(0, .ref (ad 0)), (1, .int (nI pg))] := hl
  refine lv_aload_n hx hb d_P_takeFrame_0 rfl (lv_at hl 0 rfl) ?_
  refine lv_iconst (v := -1) hx hb d_P_takeFrame_1 (by decide) ?_
  refine mr_callVi (As := [.int ((-1))]) F w hl.1 (c_P_frameWith σ ((-1))) (cwV 1 hts g_P_takeFrame_2 rfl rfl rfl (by decide +kernel) ⟨Nat.le_of_ble_eq_true rfl, Nat.le_of_ble_eq_true rfl⟩) rfl (by decide) rfl rfl rfl (Nat.le_of_ble_eq_true rfl) d_P_takeFrame_2 ⟨Nat.zero_le _, Nat.zero_le _⟩ (fun r1 σ2 H locs e3 w => ?_)
  have e3_r := e3.1.symm
  have hs9 := e3.2
  rw [hs9] at w
  clear hs9 e3
  rcases Classical.em (r1 = -1) with c4 | c4
  · rw [c4]
    refine lv_istore_n (lv' := [(2, .int ((-1))), (0, .ref (ad 0)), (1, .int (nI pg))]) hx hb d_P_takeFrame_5 rfl hl (by decide) rfl (fun ls hl => ?_)
    refine lv_iload_n hx hb d_P_takeFrame_6 rfl (lv_at hl 0 rfl) ?_
    refine lv_iconst (v := -1) hx hb d_P_takeFrame_7 (by decide) ?_
    refine lv_icmp_ne (tgt := 16) hx hb d_P_takeFrame_8 (by decide) (fun c6 => absurd rfl c6) (fun _ => ?_)
    refine lv_aload_n hx hb d_P_takeFrame_11 rfl (lv_at hl 1 rfl) ?_
    refine mr_callVi (As := []) F w hl.1 (c_P_goRound σ hh) (cwV 0 hts g_P_takeFrame_12 rfl rfl rfl (by decide +kernel) ⟨Nat.le_of_ble_eq_true rfl, Nat.le_of_ble_eq_true rfl⟩) rfl (by decide) rfl rfl rfl (Nat.le_of_ble_eq_true rfl) d_P_takeFrame_12 ⟨Nat.zero_le _, Nat.zero_le _⟩ (fun r7 σ8 H locs e9 w => ?_)
    have e9_r := e9.1.symm
    have e9_s := e9.2.symm
    clear e9
    rcases Classical.em (r7 = -1) with c10 | c10
    · rw [c10]
      refine lv_istore_n (lv' := [(2, .int ((-1))), (0, .ref (ad 0)), (1, .int (nI pg))]) hx hb d_P_takeFrame_15 rfl hl (by decide) rfl (fun ls hl => ?_)
      refine lv_iload_n hx hb d_P_takeFrame_16 rfl (lv_at hl 0 rfl) ?_
      refine lv_iconst (v := -1) hx hb d_P_takeFrame_17 (by decide) ?_
      refine lv_icmp_ne (tgt := 23) hx hb d_P_takeFrame_18 (by decide) (fun c12 => absurd rfl c12) (fun _ => ?_)
      refine lv_iconst (v := -1) hx hb d_P_takeFrame_21 (by decide) ?_
      exact mr_iret F w hr hlk (by subst e3_r e9_r e9_s; unfold kTake; rw [if_pos c4, if_pos c10]; exact ⟨rfl, rfl⟩) d_P_takeFrame_22
    · have hb11 : r7.toNatClampNeg < 8 := (fr8_in (by rw [← e9_r]; exact (kRound_in hh)) c10).1
      rw [(fr8_in (R := r7) (by rw [← e9_r]; exact (kRound_in hh)) c10).2]
      refine lv_istore_n (lv' := [(2, .int (nI r7.toNatClampNeg)), (0, .ref (ad 0)), (1, .int (nI pg))]) hx hb d_P_takeFrame_15 rfl hl (by decide) rfl (fun ls hl => ?_)
      refine lv_iload_n hx hb d_P_takeFrame_16 rfl (lv_at hl 0 rfl) ?_
      refine lv_iconst (v := -1) hx hb d_P_takeFrame_17 (by decide) ?_
      refine lv_icmp_ne (tgt := 23) hx hb d_P_takeFrame_18 (by decide) (fun _ => ?_) (fun c13 => absurd c13 (nI_nm1 hb11))
      refine lv_aload_n hx hb d_P_takeFrame_23 rfl (lv_at hl 1 rfl) ?_
      refine mr_get F w (kin in_P) 0 (by decide) rfl rfl 3 (by decide) (kws_in m_126) (fun _ h => h) rfl d_P_takeFrame_24 ?_
      refine lv_iload_n hx hb d_P_takeFrame_27 rfl (lv_at hl 0 rfl) ?_
      refine mr_aldq F w 8 1 (by decide) rfl rfl r7.toNatClampNeg hb11 (by decide) rfl rfl d_P_takeFrame_28 ?_
      refine mr_callVi (As := []) F w hl.1 (c_F_isChanged σ8 r7.toNatClampNeg hb11) (cwV 0 hts g_P_takeFrame_29 rfl rfl rfl (by decide +kernel) ⟨Nat.le_of_ble_eq_true rfl, Nat.le_of_ble_eq_true rfl⟩) rfl (by omega) (eP_F hb11 _) rfl rfl (Nat.le_of_ble_eq_true rfl) d_P_takeFrame_29 ⟨Nat.zero_le _, Nat.zero_le _⟩ (fun r14 σ15 H locs e16 w => ?_)
      obtain ⟨rfl, hs9⟩ := e16
      rw [hs9] at w
      clear hs9
      refine lv_if_eq (tgt := 50) hx hb d_P_takeFrame_32 (by decide) (fun c17 => ?_) (fun c17 => ?_)
      · refine lv_aload_n hx hb d_P_takeFrame_50 rfl (lv_at hl 1 rfl) ?_
        refine mr_get F w (kin in_P) 0 (by decide) rfl rfl 3 (by decide) (kws_in m_126) (fun _ h => h) rfl d_P_takeFrame_51 ?_
        refine lv_iload_n hx hb d_P_takeFrame_54 rfl (lv_at hl 0 rfl) ?_
        refine mr_aldq F w 8 1 (by decide) rfl rfl r7.toNatClampNeg hb11 (by decide) rfl rfl d_P_takeFrame_55 ?_
        refine lv_iload_n hx hb d_P_takeFrame_56 rfl (lv_at hl 2 rfl) ?_
        refine mr_put F w (kin in_F) t_F t_F_ok n_F (r7.toNatClampNeg + 9) (by omega) (eP_F hb11 _) rfl 1 (by decide) (kws_in m_105) (fun _ h => h) rfl rfl rfl (Nat.le_of_ble_eq_true rfl) (eP_F hb11 _) d_P_takeFrame_57 (fun H locs w => ?_)
        refine lv_aload_n hx hb d_P_takeFrame_60 rfl (lv_at hl 1 rfl) ?_
        refine mr_get F w (kin in_P) 0 (by decide) rfl rfl 1 (by decide) (kws_in m_124) (fun _ h => h) rfl d_P_takeFrame_61 ?_
        refine lv_iload_n hx hb d_P_takeFrame_64 rfl (lv_at hl 2 rfl) ?_
        refine lv_aload_n hx hb d_P_takeFrame_65 rfl (lv_at hl 1 rfl) ?_
        refine mr_get F w (kin in_P) 0 (by decide) rfl rfl 3 (by decide) (kws_in m_126) (fun _ h => h) rfl d_P_takeFrame_66 ?_
        refine lv_iload_n hx hb d_P_takeFrame_69 rfl (lv_at hl 0 rfl) ?_
        refine mr_aldq F w 8 1 (by decide) rfl rfl r7.toNatClampNeg hb11 (by decide) rfl rfl d_P_takeFrame_70 ?_
        refine mr_get F w (kin in_F) (r7.toNatClampNeg + 9) (by omega) (eP_F hb11 _) rfl 0 (by decide) (kws_in m_103) (fun _ h => h) rfl d_P_takeFrame_71 ?_
        refine mr_callVv (As := [.int (nI pg), .ref (ad (r7.toNatClampNeg + 17))]) F w hl.1 (c_M_read (mup σ8 (r7.toNatClampNeg + 9) 1 (nI pg)) pg hpg r7.toNatClampNeg hb11) (cwV 2 hts g_P_takeFrame_74 rfl rfl rfl (by decide +kernel) ⟨Nat.le_of_ble_eq_true rfl, Nat.le_of_ble_eq_true rfl⟩) rfl (by decide) rfl rfl rfl (Nat.le_of_ble_eq_true rfl) d_P_takeFrame_74 ⟨Nat.zero_le _, Nat.zero_le _⟩ (fun σ19 H locs e20 w => ?_)
        replace e20 := Eq.symm e20
        refine lv_iload_n hx hb d_P_takeFrame_77 rfl (lv_at hl 0 rfl) ?_
        exact mr_iret F w hr hlk (by subst e3_r e9_r e9_s e20; unfold kTake; rw [if_pos c4, if_neg c10, if_pos c17]; exact ⟨rfl, rfl⟩) d_P_takeFrame_78
      · refine lv_aload_n hx hb d_P_takeFrame_35 rfl (lv_at hl 1 rfl) ?_
        refine lv_aload_n hx hb d_P_takeFrame_36 rfl (lv_at hl 1 rfl) ?_
        refine mr_get F w (kin in_P) 0 (by decide) rfl rfl 3 (by decide) (kws_in m_126) (fun _ h => h) rfl d_P_takeFrame_37 ?_
        refine lv_iload_n hx hb d_P_takeFrame_40 rfl (lv_at hl 0 rfl) ?_
        refine mr_aldq F w 8 1 (by decide) rfl rfl r7.toNatClampNeg hb11 (by decide) rfl rfl d_P_takeFrame_41 ?_
        refine mr_callVi (As := [.ref (ad (r7.toNatClampNeg + 9))]) F w hl.1 (c_P_writeFrame σ8 r7.toNatClampNeg hb11 (((by subst e3_r e9_r e9_s; exact kRound_ok hok) : pgOK σ8) _ hb11 c17)) (cwV 1 hts g_P_takeFrame_42 rfl rfl rfl (by decide +kernel) ⟨Nat.le_of_ble_eq_true rfl, Nat.le_of_ble_eq_true rfl⟩) rfl (by decide) rfl rfl rfl (Nat.le_of_ble_eq_true rfl) d_P_takeFrame_42 ⟨Nat.zero_le _, Nat.zero_le _⟩ (fun r21 σ22 H locs e23 w => ?_)
        have e23_r := e23.1.symm
        have e23_s := e23.2.symm
        clear e23
        refine lv_if_ne (tgt := 50) hx hb d_P_takeFrame_45 (by decide) (fun c24 => ?_) (fun c24 => ?_)
        · refine lv_aload_n hx hb d_P_takeFrame_50 rfl (lv_at hl 1 rfl) ?_
          refine mr_get F w (kin in_P) 0 (by decide) rfl rfl 3 (by decide) (kws_in m_126) (fun _ h => h) rfl d_P_takeFrame_51 ?_
          refine lv_iload_n hx hb d_P_takeFrame_54 rfl (lv_at hl 0 rfl) ?_
          refine mr_aldq F w 8 1 (by decide) rfl rfl r7.toNatClampNeg hb11 (by decide) rfl rfl d_P_takeFrame_55 ?_
          refine lv_iload_n hx hb d_P_takeFrame_56 rfl (lv_at hl 2 rfl) ?_
          refine mr_put F w (kin in_F) t_F t_F_ok n_F (r7.toNatClampNeg + 9) (by omega) (eP_F hb11 _) rfl 1 (by decide) (kws_in m_105) (fun _ h => h) rfl rfl rfl (Nat.le_of_ble_eq_true rfl) (eP_F hb11 _) d_P_takeFrame_57 (fun H locs w => ?_)
          refine lv_aload_n hx hb d_P_takeFrame_60 rfl (lv_at hl 1 rfl) ?_
          refine mr_get F w (kin in_P) 0 (by decide) rfl rfl 1 (by decide) (kws_in m_124) (fun _ h => h) rfl d_P_takeFrame_61 ?_
          refine lv_iload_n hx hb d_P_takeFrame_64 rfl (lv_at hl 2 rfl) ?_
          refine lv_aload_n hx hb d_P_takeFrame_65 rfl (lv_at hl 1 rfl) ?_
          refine mr_get F w (kin in_P) 0 (by decide) rfl rfl 3 (by decide) (kws_in m_126) (fun _ h => h) rfl d_P_takeFrame_66 ?_
          refine lv_iload_n hx hb d_P_takeFrame_69 rfl (lv_at hl 0 rfl) ?_
          refine mr_aldq F w 8 1 (by decide) rfl rfl r7.toNatClampNeg hb11 (by decide) rfl rfl d_P_takeFrame_70 ?_
          refine mr_get F w (kin in_F) (r7.toNatClampNeg + 9) (by omega) (eP_F hb11 _) rfl 0 (by decide) (kws_in m_103) (fun _ h => h) rfl d_P_takeFrame_71 ?_
          refine mr_callVv (As := [.int (nI pg), .ref (ad (r7.toNatClampNeg + 17))]) F w hl.1 (c_M_read (mup σ22 (r7.toNatClampNeg + 9) 1 (nI pg)) pg hpg r7.toNatClampNeg hb11) (cwV 2 hts g_P_takeFrame_74 rfl rfl rfl (by decide +kernel) ⟨Nat.le_of_ble_eq_true rfl, Nat.le_of_ble_eq_true rfl⟩) rfl (by decide) rfl rfl rfl (Nat.le_of_ble_eq_true rfl) d_P_takeFrame_74 ⟨Nat.zero_le _, Nat.zero_le _⟩ (fun σ26 H locs e27 w => ?_)
          replace e27 := Eq.symm e27
          refine lv_iload_n hx hb d_P_takeFrame_77 rfl (lv_at hl 0 rfl) ?_
          exact mr_iret F w hr hlk (by subst e3_r e9_r e9_s e23_r e23_s e27; unfold kTake; rw [if_pos c4, if_neg c10, if_neg c17, if_neg c24]; exact ⟨rfl, rfl⟩) d_P_takeFrame_78
        · refine lv_iconst (v := -1) hx hb d_P_takeFrame_48 (by decide) ?_
          exact mr_iret F w hr hlk (by subst e3_r e9_r e9_s e23_r e23_s; unfold kTake; rw [if_pos c4, if_neg c10, if_neg c17, if_pos c24]; exact ⟨rfl, rfl⟩) d_P_takeFrame_49
  · have hb5 : r1.toNatClampNeg < 8 := (fr8_in (by rw [← e3_r]; exact (kFw_in σ ((-1)) 8 0 (by decide))) c4).1
    rw [(fr8_in (R := r1) (by rw [← e3_r]; exact (kFw_in σ ((-1)) 8 0 (by decide))) c4).2]
    refine lv_istore_n (lv' := [(2, .int (nI r1.toNatClampNeg)), (0, .ref (ad 0)), (1, .int (nI pg))]) hx hb d_P_takeFrame_5 rfl hl (by decide) rfl (fun ls hl => ?_)
    refine lv_iload_n hx hb d_P_takeFrame_6 rfl (lv_at hl 0 rfl) ?_
    refine lv_iconst (v := -1) hx hb d_P_takeFrame_7 (by decide) ?_
    refine lv_icmp_ne (tgt := 16) hx hb d_P_takeFrame_8 (by decide) (fun _ => ?_) (fun c28 => absurd c28 (nI_nm1 hb5))
    refine lv_iload_n hx hb d_P_takeFrame_16 rfl (lv_at hl 0 rfl) ?_
    refine lv_iconst (v := -1) hx hb d_P_takeFrame_17 (by decide) ?_
    refine lv_icmp_ne (tgt := 23) hx hb d_P_takeFrame_18 (by decide) (fun _ => ?_) (fun c29 => absurd c29 (nI_nm1 hb5))
    refine lv_aload_n hx hb d_P_takeFrame_23 rfl (lv_at hl 1 rfl) ?_
    refine mr_get F w (kin in_P) 0 (by decide) rfl rfl 3 (by decide) (kws_in m_126) (fun _ h => h) rfl d_P_takeFrame_24 ?_
    refine lv_iload_n hx hb d_P_takeFrame_27 rfl (lv_at hl 0 rfl) ?_
    refine mr_aldq F w 8 1 (by decide) rfl rfl r1.toNatClampNeg hb5 (by decide) rfl rfl d_P_takeFrame_28 ?_
    refine mr_callVi (As := []) F w hl.1 (c_F_isChanged σ r1.toNatClampNeg hb5) (cwV 0 hts g_P_takeFrame_29 rfl rfl rfl (by decide +kernel) ⟨Nat.le_of_ble_eq_true rfl, Nat.le_of_ble_eq_true rfl⟩) rfl (by omega) (eP_F hb5 _) rfl rfl (Nat.le_of_ble_eq_true rfl) d_P_takeFrame_29 ⟨Nat.zero_le _, Nat.zero_le _⟩ (fun r30 σ31 H locs e32 w => ?_)
    obtain ⟨rfl, hs9⟩ := e32
    rw [hs9] at w
    clear hs9
    refine lv_if_eq (tgt := 50) hx hb d_P_takeFrame_32 (by decide) (fun c33 => ?_) (fun c33 => ?_)
    · refine lv_aload_n hx hb d_P_takeFrame_50 rfl (lv_at hl 1 rfl) ?_
      refine mr_get F w (kin in_P) 0 (by decide) rfl rfl 3 (by decide) (kws_in m_126) (fun _ h => h) rfl d_P_takeFrame_51 ?_
      refine lv_iload_n hx hb d_P_takeFrame_54 rfl (lv_at hl 0 rfl) ?_
      refine mr_aldq F w 8 1 (by decide) rfl rfl r1.toNatClampNeg hb5 (by decide) rfl rfl d_P_takeFrame_55 ?_
      refine lv_iload_n hx hb d_P_takeFrame_56 rfl (lv_at hl 2 rfl) ?_
      refine mr_put F w (kin in_F) t_F t_F_ok n_F (r1.toNatClampNeg + 9) (by omega) (eP_F hb5 _) rfl 1 (by decide) (kws_in m_105) (fun _ h => h) rfl rfl rfl (Nat.le_of_ble_eq_true rfl) (eP_F hb5 _) d_P_takeFrame_57 (fun H locs w => ?_)
      refine lv_aload_n hx hb d_P_takeFrame_60 rfl (lv_at hl 1 rfl) ?_
      refine mr_get F w (kin in_P) 0 (by decide) rfl rfl 1 (by decide) (kws_in m_124) (fun _ h => h) rfl d_P_takeFrame_61 ?_
      refine lv_iload_n hx hb d_P_takeFrame_64 rfl (lv_at hl 2 rfl) ?_
      refine lv_aload_n hx hb d_P_takeFrame_65 rfl (lv_at hl 1 rfl) ?_
      refine mr_get F w (kin in_P) 0 (by decide) rfl rfl 3 (by decide) (kws_in m_126) (fun _ h => h) rfl d_P_takeFrame_66 ?_
      refine lv_iload_n hx hb d_P_takeFrame_69 rfl (lv_at hl 0 rfl) ?_
      refine mr_aldq F w 8 1 (by decide) rfl rfl r1.toNatClampNeg hb5 (by decide) rfl rfl d_P_takeFrame_70 ?_
      refine mr_get F w (kin in_F) (r1.toNatClampNeg + 9) (by omega) (eP_F hb5 _) rfl 0 (by decide) (kws_in m_103) (fun _ h => h) rfl d_P_takeFrame_71 ?_
      refine mr_callVv (As := [.int (nI pg), .ref (ad (r1.toNatClampNeg + 17))]) F w hl.1 (c_M_read (mup σ (r1.toNatClampNeg + 9) 1 (nI pg)) pg hpg r1.toNatClampNeg hb5) (cwV 2 hts g_P_takeFrame_74 rfl rfl rfl (by decide +kernel) ⟨Nat.le_of_ble_eq_true rfl, Nat.le_of_ble_eq_true rfl⟩) rfl (by decide) rfl rfl rfl (Nat.le_of_ble_eq_true rfl) d_P_takeFrame_74 ⟨Nat.zero_le _, Nat.zero_le _⟩ (fun σ35 H locs e36 w => ?_)
      replace e36 := Eq.symm e36
      refine lv_iload_n hx hb d_P_takeFrame_77 rfl (lv_at hl 0 rfl) ?_
      exact mr_iret F w hr hlk (by subst e3_r e36; unfold kTake; rw [if_neg c4, if_pos c33]; exact ⟨rfl, rfl⟩) d_P_takeFrame_78
    · refine lv_aload_n hx hb d_P_takeFrame_35 rfl (lv_at hl 1 rfl) ?_
      refine lv_aload_n hx hb d_P_takeFrame_36 rfl (lv_at hl 1 rfl) ?_
      refine mr_get F w (kin in_P) 0 (by decide) rfl rfl 3 (by decide) (kws_in m_126) (fun _ h => h) rfl d_P_takeFrame_37 ?_
      refine lv_iload_n hx hb d_P_takeFrame_40 rfl (lv_at hl 0 rfl) ?_
      refine mr_aldq F w 8 1 (by decide) rfl rfl r1.toNatClampNeg hb5 (by decide) rfl rfl d_P_takeFrame_41 ?_
      refine mr_callVi (As := [.ref (ad (r1.toNatClampNeg + 9))]) F w hl.1 (c_P_writeFrame σ r1.toNatClampNeg hb5 (hok _ hb5 c33)) (cwV 1 hts g_P_takeFrame_42 rfl rfl rfl (by decide +kernel) ⟨Nat.le_of_ble_eq_true rfl, Nat.le_of_ble_eq_true rfl⟩) rfl (by decide) rfl rfl rfl (Nat.le_of_ble_eq_true rfl) d_P_takeFrame_42 ⟨Nat.zero_le _, Nat.zero_le _⟩ (fun r37 σ38 H locs e39 w => ?_)
      have e39_r := e39.1.symm
      have e39_s := e39.2.symm
      clear e39
      refine lv_if_ne (tgt := 50) hx hb d_P_takeFrame_45 (by decide) (fun c40 => ?_) (fun c40 => ?_)
      · refine lv_aload_n hx hb d_P_takeFrame_50 rfl (lv_at hl 1 rfl) ?_
        refine mr_get F w (kin in_P) 0 (by decide) rfl rfl 3 (by decide) (kws_in m_126) (fun _ h => h) rfl d_P_takeFrame_51 ?_
        refine lv_iload_n hx hb d_P_takeFrame_54 rfl (lv_at hl 0 rfl) ?_
        refine mr_aldq F w 8 1 (by decide) rfl rfl r1.toNatClampNeg hb5 (by decide) rfl rfl d_P_takeFrame_55 ?_
        refine lv_iload_n hx hb d_P_takeFrame_56 rfl (lv_at hl 2 rfl) ?_
        refine mr_put F w (kin in_F) t_F t_F_ok n_F (r1.toNatClampNeg + 9) (by omega) (eP_F hb5 _) rfl 1 (by decide) (kws_in m_105) (fun _ h => h) rfl rfl rfl (Nat.le_of_ble_eq_true rfl) (eP_F hb5 _) d_P_takeFrame_57 (fun H locs w => ?_)
        refine lv_aload_n hx hb d_P_takeFrame_60 rfl (lv_at hl 1 rfl) ?_
        refine mr_get F w (kin in_P) 0 (by decide) rfl rfl 1 (by decide) (kws_in m_124) (fun _ h => h) rfl d_P_takeFrame_61 ?_
        refine lv_iload_n hx hb d_P_takeFrame_64 rfl (lv_at hl 2 rfl) ?_
        refine lv_aload_n hx hb d_P_takeFrame_65 rfl (lv_at hl 1 rfl) ?_
        refine mr_get F w (kin in_P) 0 (by decide) rfl rfl 3 (by decide) (kws_in m_126) (fun _ h => h) rfl d_P_takeFrame_66 ?_
        refine lv_iload_n hx hb d_P_takeFrame_69 rfl (lv_at hl 0 rfl) ?_
        refine mr_aldq F w 8 1 (by decide) rfl rfl r1.toNatClampNeg hb5 (by decide) rfl rfl d_P_takeFrame_70 ?_
        refine mr_get F w (kin in_F) (r1.toNatClampNeg + 9) (by omega) (eP_F hb5 _) rfl 0 (by decide) (kws_in m_103) (fun _ h => h) rfl d_P_takeFrame_71 ?_
        refine mr_callVv (As := [.int (nI pg), .ref (ad (r1.toNatClampNeg + 17))]) F w hl.1 (c_M_read (mup σ38 (r1.toNatClampNeg + 9) 1 (nI pg)) pg hpg r1.toNatClampNeg hb5) (cwV 2 hts g_P_takeFrame_74 rfl rfl rfl (by decide +kernel) ⟨Nat.le_of_ble_eq_true rfl, Nat.le_of_ble_eq_true rfl⟩) rfl (by decide) rfl rfl rfl (Nat.le_of_ble_eq_true rfl) d_P_takeFrame_74 ⟨Nat.zero_le _, Nat.zero_le _⟩ (fun σ42 H locs e43 w => ?_)
        replace e43 := Eq.symm e43
        refine lv_iload_n hx hb d_P_takeFrame_77 rfl (lv_at hl 0 rfl) ?_
        exact mr_iret F w hr hlk (by subst e3_r e39_r e39_s e43; unfold kTake; rw [if_neg c4, if_neg c33, if_neg c40]; exact ⟨rfl, rfl⟩) d_P_takeFrame_78
      · refine lv_iconst (v := -1) hx hb d_P_takeFrame_48 (by decide) ?_
        exact mr_iret F w hr hlk (by subst e3_r e39_r e39_s; unfold kTake; rw [if_neg c4, if_neg c33, if_pos c40]; exact ⟨rfl, rfl⟩) d_P_takeFrame_49
theorem kTake_in {σ : Mem} {pg : Nat} (hh : nat0 8 (σ 0 4)) : fr8 (kTake σ pg).1 := by
  unfold kTake
  refine pi_fr (fun c1 => ?_) (fun c1 => ?_)
  · refine pi_fr (fun c1 => ?_) (fun c1 => ?_)
    · exact fr8_m1
    · refine pi_fr (fun c2 => ?_) (fun c2 => ?_)
      · exact fr8_nI (fr8_in (kRound_in hh) c1).1
      · refine pi_fr (fun c3 => ?_) (fun c3 => ?_)
        · exact fr8_m1
        · exact fr8_nI (fr8_in (kRound_in hh) c1).1
  · refine pi_fr (fun c2 => ?_) (fun c2 => ?_)
    · exact fr8_nI (fr8_in (kFw_in σ (-1) 8 0 (by decide)) c1).1
    · refine pi_fr (fun c3 => ?_) (fun c3 => ?_)
      · exact fr8_m1
      · exact fr8_nI (fr8_in (kFw_in σ (-1) 8 0 (by decide)) c1).1
def kPin (σ : Mem) (pg : Nat) : Int32 × Mem :=
  if (kFw σ (nI pg) 8 0) = -1 then (if ((kTake σ pg).1) = -1 then ((-1), ((kTake σ pg).2))
    else (nI ((kTake σ pg).1).toNatClampNeg, mup (mup ((kTake σ pg).2) (((kTake σ pg).1).toNatClampNeg + 9) 2 ((((kTake σ pg).2) (((kTake σ pg).1).toNatClampNeg + 9) 2) + (nI 1))) (((kTake σ pg).1).toNatClampNeg + 9) 3 (nI 1)))
  else (nI (kFw σ (nI pg) 8 0).toNatClampNeg, mup (mup σ ((kFw σ (nI pg) 8 0).toNatClampNeg + 9) 2 ((σ ((kFw σ (nI pg) 8 0).toNatClampNeg + 9) 2) + (nI 1))) ((kFw σ (nI pg) 8 0).toNatClampNeg + 9) 3 (nI 1))
set_option maxHeartbeats 4000000 in
set_option maxRecDepth 100000 in
theorem c_P_pin (σ : Mem) (pg : Nat) (hpg : pg < 256) (hh : nat0 8 (σ 0 4)) (hok : pgOK σ) : KIP l D cI cF cZ cJ ad y_P_pin b_P_pin 3 (some .int) 5 140 [.ref (ad 0), .int (nI pg)] σ (fun r σ' => r = (kPin σ pg).1 ∧ σ' = (kPin σ pg).2) := by
  refine KI.of (by decide) (Nat.le_of_ble_eq_true rfl) ?_
  intro p e s m args below meth c A ls F w hl hr hlk
  obtain ⟨hx, hb, hml, hown, hts⟩ := id F
  have hl : lv_has ls 3 [(0, .ref (ad 0)), (1, .int (nI pg))] := hl
  refine lv_aload_n hx hb d_P_pin_0 rfl (lv_at hl 0 rfl) ?_
  refine lv_iload_n hx hb d_P_pin_1 rfl (lv_at hl 1 rfl) ?_
  refine mr_callVi (As := [.int (nI pg)]) F w hl.1 (c_P_frameWith σ (nI pg)) (cwV 1 hts g_P_pin_2 rfl rfl rfl (by decide +kernel) ⟨Nat.le_of_ble_eq_true rfl, Nat.le_of_ble_eq_true rfl⟩) rfl (by decide) rfl rfl rfl (Nat.le_of_ble_eq_true rfl) d_P_pin_2 ⟨Nat.zero_le _, Nat.zero_le _⟩ (fun r1 σ2 H locs e3 w => ?_)
  have e3_r := e3.1.symm
  have hs9 := e3.2
  rw [hs9] at w
  clear hs9 e3
  rcases Classical.em (r1 = -1) with c4 | c4
  · rw [c4]
    refine lv_istore_n (lv' := [(2, .int ((-1))), (0, .ref (ad 0)), (1, .int (nI pg))]) hx hb d_P_pin_5 rfl hl (by decide) rfl (fun ls hl => ?_)
    refine lv_iload_n hx hb d_P_pin_6 rfl (lv_at hl 0 rfl) ?_
    refine lv_iconst (v := -1) hx hb d_P_pin_7 (by decide) ?_
    refine lv_icmp_ne (tgt := 17) hx hb d_P_pin_8 (by decide) (fun c6 => absurd rfl c6) (fun _ => ?_)
    refine lv_aload_n hx hb d_P_pin_11 rfl (lv_at hl 1 rfl) ?_
    refine lv_iload_n hx hb d_P_pin_12 rfl (lv_at hl 2 rfl) ?_
    refine mr_callVi (As := [.int (nI pg)]) F w hl.1 (c_P_takeFrame σ pg hpg hh hok) (cwV 1 hts g_P_pin_13 rfl rfl rfl (by decide +kernel) ⟨Nat.le_of_ble_eq_true rfl, Nat.le_of_ble_eq_true rfl⟩) rfl (by decide) rfl rfl rfl (Nat.le_of_ble_eq_true rfl) d_P_pin_13 ⟨Nat.zero_le _, Nat.zero_le _⟩ (fun r7 σ8 H locs e9 w => ?_)
    have e9_r := e9.1.symm
    have e9_s := e9.2.symm
    clear e9
    rcases Classical.em (r7 = -1) with c10 | c10
    · rw [c10]
      refine lv_istore_n (lv' := [(2, .int ((-1))), (0, .ref (ad 0)), (1, .int (nI pg))]) hx hb d_P_pin_16 rfl hl (by decide) rfl (fun ls hl => ?_)
      refine lv_iload_n hx hb d_P_pin_17 rfl (lv_at hl 0 rfl) ?_
      refine lv_iconst (v := -1) hx hb d_P_pin_18 (by decide) ?_
      refine lv_icmp_ne (tgt := 24) hx hb d_P_pin_19 (by decide) (fun c12 => absurd rfl c12) (fun _ => ?_)
      refine lv_iconst (v := -1) hx hb d_P_pin_22 (by decide) ?_
      exact mr_iret F w hr hlk (by subst e3_r e9_r e9_s; unfold kPin; rw [if_pos c4, if_pos c10]; exact ⟨rfl, rfl⟩) d_P_pin_23
    · have hb11 : r7.toNatClampNeg < 8 := (fr8_in (by rw [← e9_r]; exact (kTake_in hh)) c10).1
      rw [(fr8_in (R := r7) (by rw [← e9_r]; exact (kTake_in hh)) c10).2]
      refine lv_istore_n (lv' := [(2, .int (nI r7.toNatClampNeg)), (0, .ref (ad 0)), (1, .int (nI pg))]) hx hb d_P_pin_16 rfl hl (by decide) rfl (fun ls hl => ?_)
      refine lv_iload_n hx hb d_P_pin_17 rfl (lv_at hl 0 rfl) ?_
      refine lv_iconst (v := -1) hx hb d_P_pin_18 (by decide) ?_
      refine lv_icmp_ne (tgt := 24) hx hb d_P_pin_19 (by decide) (fun _ => ?_) (fun c13 => absurd c13 (nI_nm1 hb11))
      refine lv_aload_n hx hb d_P_pin_24 rfl (lv_at hl 1 rfl) ?_
      refine mr_get F w (kin in_P) 0 (by decide) rfl rfl 3 (by decide) (kws_in m_126) (fun _ h => h) rfl d_P_pin_25 ?_
      refine lv_iload_n hx hb d_P_pin_28 rfl (lv_at hl 0 rfl) ?_
      refine mr_aldq F w 8 1 (by decide) rfl rfl r7.toNatClampNeg hb11 (by decide) rfl rfl d_P_pin_29 ?_
      refine lv_dup hx hb d_P_pin_30 rfl ?_
      refine mr_get F w (kin in_F) (r7.toNatClampNeg + 9) (by omega) (eP_F hb11 _) rfl 2 (by decide) (kws_in m_107) (fun _ h => h) rfl d_P_pin_31 ?_
      refine lv_iconst (v := nI 1) hx hb d_P_pin_34 (by decide) ?_
      refine lv_iadd hx hb d_P_pin_35 ?_
      refine mr_put F w (kin in_F) t_F t_F_ok n_F (r7.toNatClampNeg + 9) (by omega) (eP_F hb11 _) rfl 2 (by decide) (kws_in m_107) (fun _ h => h) rfl rfl rfl (Nat.le_of_ble_eq_true rfl) (eP_F hb11 _) d_P_pin_36 (fun H locs w => ?_)
      refine lv_aload_n hx hb d_P_pin_39 rfl (lv_at hl 1 rfl) ?_
      refine mr_get F w (kin in_P) 0 (by decide) rfl rfl 3 (by decide) (kws_in m_126) (fun _ h => h) rfl d_P_pin_40 ?_
      refine lv_iload_n hx hb d_P_pin_43 rfl (lv_at hl 0 rfl) ?_
      refine mr_aldq F w 8 1 (by decide) rfl rfl r7.toNatClampNeg hb11 (by decide) rfl rfl d_P_pin_44 ?_
      refine lv_iconst (v := nI 1) hx hb d_P_pin_45 (by decide) ?_
      refine mr_put F w (kin in_F) t_F t_F_ok n_F (r7.toNatClampNeg + 9) (by omega) (eP_F hb11 _) rfl 3 (by decide) (kws_in m_109) (fun _ h => h) rfl rfl rfl (Nat.le_of_ble_eq_true rfl) (eP_F hb11 _) d_P_pin_46 (fun H locs w => ?_)
      refine lv_iload_n hx hb d_P_pin_49 rfl (lv_at hl 0 rfl) ?_
      exact mr_iret F w hr hlk (by subst e3_r e9_r e9_s; unfold kPin; rw [if_pos c4, if_neg c10]; exact ⟨rfl, rfl⟩) d_P_pin_50
  · have hb5 : r1.toNatClampNeg < 8 := (fr8_in (by rw [← e3_r]; exact (kFw_in σ (nI pg) 8 0 (by decide))) c4).1
    rw [(fr8_in (R := r1) (by rw [← e3_r]; exact (kFw_in σ (nI pg) 8 0 (by decide))) c4).2]
    refine lv_istore_n (lv' := [(2, .int (nI r1.toNatClampNeg)), (0, .ref (ad 0)), (1, .int (nI pg))]) hx hb d_P_pin_5 rfl hl (by decide) rfl (fun ls hl => ?_)
    refine lv_iload_n hx hb d_P_pin_6 rfl (lv_at hl 0 rfl) ?_
    refine lv_iconst (v := -1) hx hb d_P_pin_7 (by decide) ?_
    refine lv_icmp_ne (tgt := 17) hx hb d_P_pin_8 (by decide) (fun _ => ?_) (fun c14 => absurd c14 (nI_nm1 hb5))
    refine lv_iload_n hx hb d_P_pin_17 rfl (lv_at hl 0 rfl) ?_
    refine lv_iconst (v := -1) hx hb d_P_pin_18 (by decide) ?_
    refine lv_icmp_ne (tgt := 24) hx hb d_P_pin_19 (by decide) (fun _ => ?_) (fun c15 => absurd c15 (nI_nm1 hb5))
    refine lv_aload_n hx hb d_P_pin_24 rfl (lv_at hl 1 rfl) ?_
    refine mr_get F w (kin in_P) 0 (by decide) rfl rfl 3 (by decide) (kws_in m_126) (fun _ h => h) rfl d_P_pin_25 ?_
    refine lv_iload_n hx hb d_P_pin_28 rfl (lv_at hl 0 rfl) ?_
    refine mr_aldq F w 8 1 (by decide) rfl rfl r1.toNatClampNeg hb5 (by decide) rfl rfl d_P_pin_29 ?_
    refine lv_dup hx hb d_P_pin_30 rfl ?_
    refine mr_get F w (kin in_F) (r1.toNatClampNeg + 9) (by omega) (eP_F hb5 _) rfl 2 (by decide) (kws_in m_107) (fun _ h => h) rfl d_P_pin_31 ?_
    refine lv_iconst (v := nI 1) hx hb d_P_pin_34 (by decide) ?_
    refine lv_iadd hx hb d_P_pin_35 ?_
    refine mr_put F w (kin in_F) t_F t_F_ok n_F (r1.toNatClampNeg + 9) (by omega) (eP_F hb5 _) rfl 2 (by decide) (kws_in m_107) (fun _ h => h) rfl rfl rfl (Nat.le_of_ble_eq_true rfl) (eP_F hb5 _) d_P_pin_36 (fun H locs w => ?_)
    refine lv_aload_n hx hb d_P_pin_39 rfl (lv_at hl 1 rfl) ?_
    refine mr_get F w (kin in_P) 0 (by decide) rfl rfl 3 (by decide) (kws_in m_126) (fun _ h => h) rfl d_P_pin_40 ?_
    refine lv_iload_n hx hb d_P_pin_43 rfl (lv_at hl 0 rfl) ?_
    refine mr_aldq F w 8 1 (by decide) rfl rfl r1.toNatClampNeg hb5 (by decide) rfl rfl d_P_pin_44 ?_
    refine lv_iconst (v := nI 1) hx hb d_P_pin_45 (by decide) ?_
    refine mr_put F w (kin in_F) t_F t_F_ok n_F (r1.toNatClampNeg + 9) (by omega) (eP_F hb5 _) rfl 3 (by decide) (kws_in m_109) (fun _ h => h) rfl rfl rfl (Nat.le_of_ble_eq_true rfl) (eP_F hb5 _) d_P_pin_46 (fun H locs w => ?_)
    refine lv_iload_n hx hb d_P_pin_49 rfl (lv_at hl 0 rfl) ?_
    exact mr_iret F w hr hlk (by subst e3_r; unfold kPin; rw [if_neg c4]; exact ⟨rfl, rfl⟩) d_P_pin_50
theorem kPin_in {σ : Mem} {pg : Nat} (hh : nat0 8 (σ 0 4)) : fr8 (kPin σ pg).1 := by
  unfold kPin
  refine pi_fr (fun c1 => ?_) (fun c1 => ?_)
  · refine pi_fr (fun c1 => ?_) (fun c1 => ?_)
    · exact fr8_m1
    · exact fr8_nI (fr8_in (kTake_in hh) c1).1
  · exact fr8_nI (fr8_in (kFw_in σ (nI pg) 8 0 (by decide)) c1).1
end
