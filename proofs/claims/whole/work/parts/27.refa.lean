/-! The reference: the hand stops; fix, again, trim -/
section
variable {l : Launch} {D : va_G} {cI cF cZ cJ : ClassId} {ad : Nat → Nat} {σ : Mem}
set_option maxRecDepth 20000 in
theorem m_639 : Cond.methodLink "PagePoolModel" 119 (⟨"PagePoolModel", "fixPage", "(I)I"⟩ : MethodName) ∈ gt := gt_in 639 (by decide +kernel) (by decide +kernel)
set_option maxRecDepth 20000 in
theorem m_642 : Cond.code (⟨"PagePoolModel", "fixPage", "(I)I"⟩ : MethodName) prog_7_method_20_code 4 (some .int) ∈ gt := gt_in 642 (by decide +kernel) (by decide +kernel)
set_option maxRecDepth 20000 in
theorem m_641 : Cond.instanceMethod (⟨"PagePoolModel", "fixPage", "(I)I"⟩ : MethodName) ∈ gt := gt_in 641 (by decide +kernel) (by decide +kernel)
set_option maxRecDepth 20000 in
theorem ms_16 : Cond.selects "PagePoolModel" (⟨"PagePoolModel", "fixPage", "(I)I"⟩ : MethodName) (⟨"PagePoolModel", "fixPage", "(I)I"⟩ : MethodName) ∈ gt := gt_sel 16 (by decide +kernel) (by decide +kernel)
theorem d_R_fix_0 : decode b_R_fix 0 = .ok (.aload_n 0, 1) := by decide +kernel
theorem d_R_fix_1 : decode b_R_fix 1 = .ok (.aload_n 0, 1) := by decide +kernel
theorem d_R_fix_2 : decode b_R_fix 2 = .ok (.getfield 69, 3) := by decide +kernel
theorem d_R_fix_5 : decode b_R_fix 5 = .ok (.iload_n 1, 1) := by decide +kernel
theorem d_R_fix_6 : decode b_R_fix 6 = .ok (.iconst 0, 1) := by decide +kernel
theorem d_R_fix_7 : decode b_R_fix 7 = .ok (.sipush 255, 3) := by decide +kernel
theorem d_R_fix_10 : decode b_R_fix 10 = .ok (.invokestatic 115, 3) := by decide +kernel
theorem d_R_fix_13 : decode b_R_fix 13 = .ok (.ifCond .ne 7, 3) := by decide +kernel
theorem d_R_fix_16 : decode b_R_fix 16 = .ok (.iconst 1, 1) := by decide +kernel
theorem d_R_fix_17 : decode b_R_fix 17 = .ok (.goto 4, 3) := by decide +kernel
theorem d_R_fix_20 : decode b_R_fix 20 = .ok (.iconst 0, 1) := by decide +kernel
theorem d_R_fix_21 : decode b_R_fix 21 = .ok (.iconst 0, 1) := by decide +kernel
theorem d_R_fix_22 : decode b_R_fix 22 = .ok (.invokevirtual 82, 3) := by decide +kernel
theorem d_R_fix_25 : decode b_R_fix 25 = .ok (.ifCond .eq 5, 3) := by decide +kernel
theorem d_R_fix_28 : decode b_R_fix 28 = .ok (.iconst 0, 1) := by decide +kernel
theorem d_R_fix_29 : decode b_R_fix 29 = .ok (.ireturn, 1) := by decide +kernel
theorem d_R_fix_30 : decode b_R_fix 30 = .ok (.aload_n 0, 1) := by decide +kernel
theorem d_R_fix_31 : decode b_R_fix 31 = .ok (.iconst 0, 1) := by decide +kernel
theorem d_R_fix_32 : decode b_R_fix 32 = .ok (.putfield 73, 3) := by decide +kernel
theorem d_R_fix_35 : decode b_R_fix 35 = .ok (.aload_n 0, 1) := by decide +kernel
theorem d_R_fix_36 : decode b_R_fix 36 = .ok (.iload_n 1, 1) := by decide +kernel
theorem d_R_fix_37 : decode b_R_fix 37 = .ok (.invokevirtual 119, 3) := by decide +kernel
theorem d_R_fix_40 : decode b_R_fix 40 = .ok (.ireturn, 1) := by decide +kernel
set_option maxRecDepth 20000 in
theorem g_R_fix_10 : GoodIn (kws (y_R_fix) b_R_fix 2 (some .int)) (wsS R_R 115 y_R_in (kws (y_R_in) b_R_in 3 (some .boolean))) := kwS m_636 m_637 m_6 m_638
set_option maxRecDepth 20000 in
theorem g_R_fix_22 : GoodIn (kws (y_R_fix) b_R_fix 2 (some .int)) (wsV R_R 82 R_R y_R_refused (kws (y_R_refused) b_R_refused 4 (some .boolean))) := kwV m_604 m_606 ms_12 m_6 m_607
set_option maxRecDepth 20000 in
theorem g_R_fix_37 : GoodIn (kws (y_R_fix) b_R_fix 2 (some .int)) (wsV R_R 119 R_R y_R_fixPage (kws (y_R_fixPage) b_R_fixPage 4 (some .int))) := kwV m_639 m_641 ms_16 m_6 m_642
theorem d_R_again_0 : decode b_R_again 0 = .ok (.iload_n 1, 1) := by decide +kernel
theorem d_R_again_1 : decode b_R_again 1 = .ok (.invokestatic 130, 3) := by decide +kernel
theorem d_R_again_4 : decode b_R_again 4 = .ok (.istore_n 2, 1) := by decide +kernel
theorem d_R_again_5 : decode b_R_again 5 = .ok (.aload_n 0, 1) := by decide +kernel
theorem d_R_again_6 : decode b_R_again 6 = .ok (.aload_n 0, 1) := by decide +kernel
theorem d_R_again_7 : decode b_R_again 7 = .ok (.getfield 23, 3) := by decide +kernel
theorem d_R_again_10 : decode b_R_again 10 = .ok (.iload_n 2, 1) := by decide +kernel
theorem d_R_again_11 : decode b_R_again 11 = .ok (.iaload, 1) := by decide +kernel
theorem d_R_again_12 : decode b_R_again 12 = .ok (.invokevirtual 119, 3) := by decide +kernel
theorem d_R_again_15 : decode b_R_again 15 = .ok (.istore_n 3, 1) := by decide +kernel
theorem d_R_again_16 : decode b_R_again 16 = .ok (.iload_n 3, 1) := by decide +kernel
theorem d_R_again_17 : decode b_R_again 17 = .ok (.ifCond .ge 5, 3) := by decide +kernel
theorem d_R_again_20 : decode b_R_again 20 = .ok (.iconst 0, 1) := by decide +kernel
theorem d_R_again_21 : decode b_R_again 21 = .ok (.ireturn, 1) := by decide +kernel
theorem d_R_again_22 : decode b_R_again 22 = .ok (.aload_n 0, 1) := by decide +kernel
theorem d_R_again_23 : decode b_R_again 23 = .ok (.getfield 42, 3) := by decide +kernel
theorem d_R_again_26 : decode b_R_again 26 = .ok (.iload_n 3, 1) := by decide +kernel
theorem d_R_again_27 : decode b_R_again 27 = .ok (.dup2, 1) := by decide +kernel
theorem d_R_again_28 : decode b_R_again 28 = .ok (.iaload, 1) := by decide +kernel
theorem d_R_again_29 : decode b_R_again 29 = .ok (.iconst 1, 1) := by decide +kernel
theorem d_R_again_30 : decode b_R_again 30 = .ok (.isub, 1) := by decide +kernel
theorem d_R_again_31 : decode b_R_again 31 = .ok (.iastore, 1) := by decide +kernel
theorem d_R_again_32 : decode b_R_again 32 = .ok (.aload_n 0, 1) := by decide +kernel
theorem d_R_again_33 : decode b_R_again 33 = .ok (.getfield 36, 3) := by decide +kernel
theorem d_R_again_36 : decode b_R_again 36 = .ok (.bipush 64, 2) := by decide +kernel
theorem d_R_again_38 : decode b_R_again 38 = .ok (.iload_n 3, 1) := by decide +kernel
theorem d_R_again_39 : decode b_R_again 39 = .ok (.imul, 1) := by decide +kernel
theorem d_R_again_40 : decode b_R_again 40 = .ok (.iaload, 1) := by decide +kernel
theorem d_R_again_41 : decode b_R_again 41 = .ok (.iload_n 1, 1) := by decide +kernel
theorem d_R_again_42 : decode b_R_again 42 = .ok (.if_icmp .le 5, 3) := by decide +kernel
theorem d_R_again_45 : decode b_R_again 45 = .ok (.iconst 0, 1) := by decide +kernel
theorem d_R_again_46 : decode b_R_again 46 = .ok (.ireturn, 1) := by decide +kernel
theorem d_R_again_47 : decode b_R_again 47 = .ok (.aload_n 0, 1) := by decide +kernel
theorem d_R_again_48 : decode b_R_again 48 = .ok (.iload_n 3, 1) := by decide +kernel
theorem d_R_again_49 : decode b_R_again 49 = .ok (.aload_n 0, 1) := by decide +kernel
theorem d_R_again_50 : decode b_R_again 50 = .ok (.getfield 26, 3) := by decide +kernel
theorem d_R_again_53 : decode b_R_again 53 = .ok (.iload_n 2, 1) := by decide +kernel
theorem d_R_again_54 : decode b_R_again 54 = .ok (.iaload, 1) := by decide +kernel
theorem d_R_again_55 : decode b_R_again 55 = .ok (.aload_n 0, 1) := by decide +kernel
theorem d_R_again_56 : decode b_R_again 56 = .ok (.getfield 29, 3) := by decide +kernel
theorem d_R_again_59 : decode b_R_again 59 = .ok (.iload_n 2, 1) := by decide +kernel
theorem d_R_again_60 : decode b_R_again 60 = .ok (.iaload, 1) := by decide +kernel
theorem d_R_again_61 : decode b_R_again 61 = .ok (.iload_n 1, 1) := by decide +kernel
theorem d_R_again_62 : decode b_R_again 62 = .ok (.invokevirtual 133, 3) := by decide +kernel
theorem d_R_again_65 : decode b_R_again 65 = .ok (.iconst 1, 1) := by decide +kernel
theorem d_R_again_66 : decode b_R_again 66 = .ok (.ireturn, 1) := by decide +kernel
set_option maxRecDepth 20000 in
theorem g_R_again_1 : GoodIn (kws (y_R_again) b_R_again 4 (some .boolean)) (wsS R_R 130 y_R_rowOf (kws (y_R_rowOf) b_R_rowOf 1 (some .int))) := kwS m_679 m_680 m_6 m_681
set_option maxRecDepth 20000 in
theorem g_R_again_12 : GoodIn (kws (y_R_again) b_R_again 4 (some .boolean)) (wsV R_R 119 R_R y_R_fixPage (kws (y_R_fixPage) b_R_fixPage 4 (some .int))) := kwV m_639 m_641 ms_16 m_6 m_642
set_option maxRecDepth 20000 in
theorem g_R_again_62 : GoodIn (kws (y_R_again) b_R_again 4 (some .boolean)) (wsV R_R 133 R_R y_R_put (kws (y_R_put) b_R_put 5 none)) := kwV m_682 m_684 ms_23 m_6 m_685
theorem qStep_9 (h : Nat) (τ : Mem) : qStep h τ 9 = τ 9 := by
  unfold qStep
  rw [mup_n _ _ _ (by decide), mup_n _ _ _ (by decide)]
theorem qStep_10 (h : Nat) (τ : Mem) {g : Nat} (hg : g ≠ h) : qStep h τ 10 g = τ 10 g := by
  unfold qStep
  rw [mup_n _ _ _ (by decide), mup_f _ _ _ _ hg]
theorem stA : ∀ (d n h g : Nat) (τ : Mem), h < 8 → g < 8 → (g + 8 - h) % 8 = d → d < n → ¬ 0 < τ 9 g → τ 10 g = 0 → qStops n h τ
  | d, 0, _, _, _, _, _, _, hn, _, _ => absurd hn (Nat.not_lt_zero d)
  | d, n + 1, h, g, τ, hh, hg, hd, hn, h9, h10 => by
    have go : h ≠ g → qStops n ((h + 1) % 8) (qStep h τ) := fun hne => by
      refine stA (d - 1) n ((h + 1) % 8) g _ (Nat.mod_lt _ (by decide)) hg (by omega) (by omega) (by rw [qStep_9]; exact h9) (by rw [qStep_10 _ _ (fun q => hne q.symm)]; exact h10)
    unfold qStops
    split
    · rename_i hp
      exact go (fun q => h9 (q ▸ hp))
    · split
      · trivial
      · rename_i hu
        exact go (fun q => hu (q ▸ h10))
termination_by d n => n
theorem stB : ∀ (d n h g : Nat) (τ : Mem), h < 8 → g < 8 → (g + 8 - h) % 8 = d → d + 9 ≤ n → ¬ 0 < τ 9 g → qStops n h τ
  | d, 0, _, _, _, _, _, _, hn, _ => absurd hn (by omega)
  | d, n + 1, h, g, τ, hh, hg, hd, hn, h9 => by
    by_cases hne : h = g
    · subst hne
      unfold qStops
      rw [if_neg h9]
      split
      · trivial
      · rename_i hu
        refine stA 7 n ((h + 1) % 8) h _ (Nat.mod_lt _ (by decide)) hh (by omega) (by omega) (by rw [qStep_9]; exact h9) ?_
        unfold qStep
        rw [mup_n _ _ _ (by decide), mup_v, if_neg hu, if_pos (Int32.not_lt.mp h9)]
        rfl
    · have go : qStops n ((h + 1) % 8) (qStep h τ) := stB (d - 1) n ((h + 1) % 8) g _ (Nat.mod_lt _ (by decide)) hg (by omega) (by omega) (by rw [qStep_9]; exact h9)
      unfold qStops
      split
      · exact go
      · split
        · trivial
        · exact go
termination_by d n => n
theorem qSome_ex (τ : Mem) : ∀ (n f : Nat) (b : Int32), f + n ≤ 8 → ¬ qSome τ n f b = 0 → ¬ b = 0 ∨ ∃ g, g < 8 ∧ τ 9 g = 0
  | 0, _, b, _, h => Or.inl h
  | n + 1, f, b, hn, h => by
    unfold qSome at h
    split at h
    · split at h
      · exact Or.inr ⟨f, by omega, by assumption⟩
      · rcases qSome_ex τ n (f + 1) _ (by omega) h with h9 | h9
        · exact absurd rfl h9
        · exact Or.inr h9
    · exact Or.inl (by assumption)
theorem stops (τ : Mem) {h : Nat} (hh : h < 8) (hs : ¬ qSome τ 8 0 (nI 0) = 0) : qStops 17 h τ := by
  rcases qSome_ex τ 8 0 (nI 0) (by decide) hs with h9 | ⟨g, hg, h9⟩
  · exact absurd rfl h9
  · exact stB _ 17 h g τ hh hg rfl (by omega) (by rw [h9]; decide)
def qFixP (σ : Mem) (pg : Int32) : Int32 × Mem :=
  if (qInv pg (nI 0) (nI 255)) = 0 then (if σ 0 18 = 0 then (nI 0, mup σ 0 0 (nI 2))
    else (nI 0, mup σ 0 0 (nI 1)))
  else if σ 0 18 = 0 then (((qFix (mup (mup σ 0 0 (nI 0)) 0 21 (nI 0)) pg.toNatClampNeg).1), ((qFix (mup (mup σ 0 0 (nI 0)) 0 21 (nI 0)) pg.toNatClampNeg).2))
  else (nI 0, mup σ 0 0 (nI 1))
set_option maxHeartbeats 4000000 in
set_option maxRecDepth 100000 in
theorem c_R_fix (σ : Mem) (pg : Int32) (hh0 : nat0 8 (σ 0 17)) (hok0 : rOK σ) : KIR l D cI cF cZ cJ ad y_R_fix b_R_fix 2 (some .int) 7 190 [.ref (ad 0), .int pg] σ (fun r σ' => r = (qFixP σ pg).1 ∧ σ' = (qFixP σ pg).2) := by
  refine KI.of (by decide) (Nat.le_of_ble_eq_true rfl) ?_
  intro p e s m args below meth c A ls F w hl hr hlk
  obtain ⟨hx, hb, hml, hown, hts⟩ := id F
  have hl : lv_has ls 2 [(0, .ref (ad 0)), (1, .int pg)] := hl
  refine lv_aload_n hx hb d_R_fix_0 rfl (lv_at hl 0 rfl) ?_
  refine lv_aload_n hx hb d_R_fix_1 rfl (lv_at hl 0 rfl) ?_
  refine mr_get F w (kin in_R) 0 (by decide) rfl rfl 18 (by decide) (kws_in m_546) (fun _ h => h) rfl d_R_fix_2 ?_
  refine lv_iload_n hx hb d_R_fix_5 rfl (lv_at hl 1 rfl) ?_
  refine lv_iconst (v := nI 0) hx hb d_R_fix_6 (by decide) ?_
  refine lv_sipush (v := nI 255) hx hb d_R_fix_7 (by decide) ?_
  refine mr_callSi (As := [.int pg, .int (nI 0), .int (nI 255)]) F w hl.1 (c_R_in σ pg (nI 0) (nI 255)) (cwS 3 hts g_R_fix_10 rfl rfl rfl (by decide +kernel) ⟨Nat.le_of_ble_eq_true rfl, Nat.le_of_ble_eq_true rfl⟩) rfl rfl (Nat.le_of_ble_eq_true rfl) d_R_fix_10 ⟨Nat.zero_le _, Nat.zero_le _⟩ (fun r1 σ2 H locs e3 w => ?_)
  obtain ⟨rfl, hs9⟩ := e3
  rw [hs9] at w
  clear hs9
  refine lv_if_ne (tgt := 20) hx hb d_R_fix_13 (by decide) (fun c4 => ?_) (fun c4 => ?_)
  · have hb5 : pg.toNatClampNeg < 256 := (qInv_nat (by decide) (by decide) c4).1.1
    have hb6 : 0 ≤ pg.toNatClampNeg := (qInv_nat (by decide) (by decide) c4).2
    refine lv_iconst (v := nI 0) hx hb d_R_fix_20 (by decide) ?_
    refine lv_iconst (v := nI 0) hx hb d_R_fix_21 (by decide) ?_
    refine mr_callVi (As := [.int (σ 0 18), .int (nI 0), .int (nI 0)]) F w hl.1 (c_R_refused σ (σ 0 18) (nI 0) (nI 0)) (cwV 3 hts g_R_fix_22 rfl rfl rfl (by decide +kernel) ⟨Nat.le_of_ble_eq_true rfl, Nat.le_of_ble_eq_true rfl⟩) rfl (by decide) rfl rfl rfl (Nat.le_of_ble_eq_true rfl) d_R_fix_22 ⟨Nat.zero_le _, Nat.zero_le _⟩ (fun r7 σ8 H locs e9 w => ?_)
    have e9_r := e9.1.symm
    have e9_s := e9.2.symm
    clear e9
    rcases Classical.em (σ 0 18 = 0) with c10 | c10
    · rw [show σ8 = mup σ 0 0 (nI 0) from (by subst e9_r e9_s; unfold qRef; rw [if_pos c10]; try rfl)] at w
      refine nr_as (k := 0) (by subst e9_r e9_s; unfold qRef; rw [if_pos c10]; try rfl) ?_
      clear e9_r e9_s
      refine lv_if_eq (tgt := 30) hx hb d_R_fix_25 (by decide) (fun _ => ?_) (fun c11 => absurd c11 (by decide))
      refine lv_aload_n hx hb d_R_fix_30 rfl (lv_at hl 0 rfl) ?_
      refine lv_iconst (v := nI 0) hx hb d_R_fix_31 (by decide) ?_
      refine mr_put F w (kin in_R) t_R t_R_ok n_R 0 (by decide) rfl rfl 21 (by decide) (kws_in m_549) (fun _ h => h) rfl rfl rfl (Nat.le_of_ble_eq_true rfl) rfl d_R_fix_32 (fun H locs w => ?_)
      refine lv_aload_n hx hb d_R_fix_35 rfl (lv_at hl 0 rfl) ?_
      refine lv_iload_n hx hb d_R_fix_36 rfl (lv_at hl 1 rfl) ?_
      refine nr_as (k := pg.toNatClampNeg) (qInv_nat (by decide) (by decide) c4).1.2 ?_
      refine mr_callVi (As := [.int (nI pg.toNatClampNeg)]) F w hl.1 (c_R_fixPage (mup (mup σ 0 0 (nI 0)) 0 21 (nI 0)) pg.toNatClampNeg (by omega) hh0 (fun g9 hg9 hc9 => hok0 g9 hg9 hc9) (fun h9 => stops _ hh0.1 h9)) (cwV 1 hts g_R_fix_37 rfl rfl rfl (by decide +kernel) ⟨Nat.le_of_ble_eq_true rfl, Nat.le_of_ble_eq_true rfl⟩) rfl (by decide) rfl rfl rfl (Nat.le_of_ble_eq_true rfl) d_R_fix_37 ⟨Nat.zero_le _, Nat.zero_le _⟩ (fun r12 σ13 H locs e14 w => ?_)
      have e14_r := e14.1.symm
      have e14_s := e14.2.symm
      clear e14
      exact mr_iret F w hr hlk (by subst e14_r e14_s; unfold qFixP; rw [if_neg c4, if_pos c10]; exact ⟨rfl, rfl⟩) d_R_fix_40
    · rw [show σ8 = mup σ 0 0 (nI 1) from (by subst e9_r e9_s; unfold qRef; rw [if_neg c10]; try rfl)] at w
      refine nr_as (k := 1) (by subst e9_r e9_s; unfold qRef; rw [if_neg c10]; try rfl) ?_
      clear e9_r e9_s
      refine lv_if_eq (tgt := 30) hx hb d_R_fix_25 (by decide) (fun c15 => absurd c15 (by decide)) (fun _ => ?_)
      refine lv_iconst (v := nI 0) hx hb d_R_fix_28 (by decide) ?_
      exact mr_iret F w hr hlk (by unfold qFixP; rw [if_neg c4, if_neg c10]; exact ⟨rfl, rfl⟩) d_R_fix_29
  · refine lv_iconst (v := nI 1) hx hb d_R_fix_16 (by decide) ?_
    refine lv_goto (tgt := 21) hx hb d_R_fix_17 (by decide) ?_
    refine lv_iconst (v := nI 0) hx hb d_R_fix_21 (by decide) ?_
    refine mr_callVi (As := [.int (σ 0 18), .int (nI 1), .int (nI 0)]) F w hl.1 (c_R_refused σ (σ 0 18) (nI 1) (nI 0)) (cwV 3 hts g_R_fix_22 rfl rfl rfl (by decide +kernel) ⟨Nat.le_of_ble_eq_true rfl, Nat.le_of_ble_eq_true rfl⟩) rfl (by decide) rfl rfl rfl (Nat.le_of_ble_eq_true rfl) d_R_fix_22 ⟨Nat.zero_le _, Nat.zero_le _⟩ (fun r16 σ17 H locs e18 w => ?_)
    have e18_r := e18.1.symm
    have e18_s := e18.2.symm
    clear e18
    rcases Classical.em (σ 0 18 = 0) with c19 | c19
    · rw [show σ17 = mup σ 0 0 (nI 2) from (by subst e18_r e18_s; unfold qRef; rw [if_pos c19]; try rfl)] at w
      refine nr_as (k := 1) (by subst e18_r e18_s; unfold qRef; rw [if_pos c19]; try rfl) ?_
      clear e18_r e18_s
      refine lv_if_eq (tgt := 30) hx hb d_R_fix_25 (by decide) (fun c20 => absurd c20 (by decide)) (fun _ => ?_)
      refine lv_iconst (v := nI 0) hx hb d_R_fix_28 (by decide) ?_
      exact mr_iret F w hr hlk (by unfold qFixP; rw [if_pos c4, if_pos c19]; exact ⟨rfl, rfl⟩) d_R_fix_29
    · rw [show σ17 = mup σ 0 0 (nI 1) from (by subst e18_r e18_s; unfold qRef; rw [if_neg c19]; try rfl)] at w
      refine nr_as (k := 1) (by subst e18_r e18_s; unfold qRef; rw [if_neg c19]; try rfl) ?_
      clear e18_r e18_s
      refine lv_if_eq (tgt := 30) hx hb d_R_fix_25 (by decide) (fun c21 => absurd c21 (by decide)) (fun _ => ?_)
      refine lv_iconst (v := nI 0) hx hb d_R_fix_28 (by decide) ?_
      exact mr_iret F w hr hlk (by unfold qFixP; rw [if_pos c4, if_neg c19]; exact ⟨rfl, rfl⟩) d_R_fix_29
theorem qForget_n (σ : Mem) {i : Nat} (h0 : i ≠ 0) (h8 : i < 8) : qForget σ i = σ i := by
  unfold qForget
  rw [mup_n _ _ _ h0, mup_n _ _ _ h0, qForgets_n _ _ _ _ h8]
theorem qFail_n (σ : Mem) {i : Nat} (h0 : i ≠ 0) (h8 : i < 8) : qFail σ i = σ i := by
  unfold qFail
  rw [qForget_n _ h0 h8, mup_n _ _ _ h0, mup_n _ _ _ h0, mup_n _ _ _ h0]
theorem qCW_n (σ : Mem) {i : Nat} (h0 : i ≠ 0) (h8 : i < 8) : (qCW σ).2 i = σ i := by
  unfold qCW
  repeat' split
  all_goals first | exact qFail_n σ h0 h8 | rfl | (dsimp only; rw [mup_n _ _ _ h0, mup_n _ _ _ h0])
theorem qFo_n : ∀ (n : Nat) (k : Int32) (σ : Mem) {i : Nat}, i ≠ 0 → i < 8 → (qFo n k σ).2 i = σ i
  | 0, _, _, _, _, _ => rfl
  | n + 1, k, σ, i, h0, h8 => by
    unfold qFo
    split
    · exact qCW_n σ h0 h8
    · rw [qFo_n n _ _ h0 h8, mup_n _ _ _ h0, qCW_n σ h0 h8]
theorem qFT_n (σ : Mem) (x : Int32) {i : Nat} (h0 : i ≠ 0) (h8 : i < 8) : (qFT σ x).2 i = σ i := qFo_n _ _ σ h0 h8
theorem qTS_n (f : Nat) : ∀ (n k : Nat) (σ : Mem) {i : Nat}, i ≠ 2 → qTS f n k σ i = σ i
  | 0, _, _, _, _ => rfl
  | n + 1, k, σ, i, h => by
    unfold qTS
    rw [qTS_n f n _ _ h, mup_n _ _ _ h]
theorem qTO_n (pg : Nat) : ∀ (n k : Nat) (σ : Mem) {i : Nat}, i ≠ 1 → qTO pg n k σ i = σ i
  | 0, _, _, _, _ => rfl
  | n + 1, k, σ, i, h => by
    unfold qTO
    rw [qTO_n pg n _ _ h, mup_n _ _ _ h]
theorem qCp_n (f pg : Nat) : ∀ (n k : Nat) (σ : Mem) {i : Nat}, i ≠ 7 → qCp f pg n k σ i = σ i
  | 0, _, _, _, _ => rfl
  | n + 1, k, σ, i, h => by
    unfold qCp
    rw [qCp_n f pg n _ _ h, mup_n _ _ _ h]
theorem qWh_n : ∀ (n h : Nat) (τ : Mem) {i : Nat}, i ≠ 0 → i ≠ 10 → (qWh n h τ).2 i = τ i
  | 0, _, _, _, _, _ => rfl
  | n + 1, h, τ, i, h0, h10 => by
    have e1 : qStep h τ i = τ i := by unfold qStep; rw [mup_n _ _ _ h0, mup_n _ _ _ h10]
    unfold qWh
    split
    · rw [qWh_n n _ _ h0 h10, e1]
    · split
      · rfl
      · rw [qWh_n n _ _ h0 h10, e1]
theorem pv_n {c : Prop} [Decidable c] {a b : Mem} {z : Nat → Int32} {i : Nat} (h1 : a i = z) (h2 : b i = z) : (if c then a else b) i = z := by
  split <;> assumption
theorem qWO_n (σ : Mem) (pg : Nat) {i : Nat} (h2 : 2 < i) (h8 : i < 8) : (qWO σ pg) i = σ i := by
  unfold qWO
  refine pv_n ?_ ?_
  · show (((qCW σ).2)) i = σ i
    rw [qCW_n _ (by omega) (by omega)]
  · refine pv_n ?_ ?_
    · show (((qCW (mup (qTO pg 32 (0 * 32) ((qCW σ).2)) 0 4 (nI pg))).2)) i = σ i
      rw [qCW_n _ (by omega) (by omega), mup_n _ _ _ (by omega), qTO_n _ _ _ _ (by omega), qCW_n _ (by omega) (by omega)]
    · show (mup (qTO pg 32 (1 * 32) ((qCW (mup (qTO pg 32 (0 * 32) ((qCW σ).2)) 0 4 (nI pg))).2)) 0 4 ((-1))) i = σ i
      rw [mup_n _ _ _ (by omega), qTO_n _ _ _ _ (by omega), qCW_n _ (by omega) (by omega), mup_n _ _ _ (by omega), qTO_n _ _ _ _ (by omega), qCW_n _ (by omega) (by omega)]
theorem qWr_n (σ : Mem) (f : Nat) {i : Nat} (h2 : 2 < i) (h8 : i < 8) : (qWr σ f) i = σ i := by
  unfold qWr
  refine pv_n ?_ ?_
  · refine pv_n ?_ ?_
    · refine pv_n ?_ ?_
      · refine pv_n ?_ ?_
        · show (mup (qWO ((qCW ((qCW ((qFT σ (((σ 7 (64 * f)) + (nI 8)) - (nI 1))).2)).2)).2) ((σ 8 f).toNatClampNeg)) 11 f ((-1))) i = σ i
          rw [mup_n _ _ _ (by omega), qWO_n _ _ (by omega) (by omega), qCW_n _ (by omega) (by omega), qCW_n _ (by omega) (by omega), qFT_n _ _ (by omega) (by omega)]
        · show ((qWO ((qCW ((qCW ((qFT σ (((σ 7 (64 * f)) + (nI 8)) - (nI 1))).2)).2)).2) ((σ 8 f).toNatClampNeg))) i = σ i
          rw [qWO_n _ _ (by omega) (by omega), qCW_n _ (by omega) (by omega), qCW_n _ (by omega) (by omega), qFT_n _ _ (by omega) (by omega)]
      · refine pv_n ?_ ?_
        · show (mup ((qCW ((qCW ((qFT σ (((σ 7 (64 * f)) + (nI 8)) - (nI 1))).2)).2)).2) 11 f ((-1))) i = σ i
          rw [mup_n _ _ _ (by omega), qCW_n _ (by omega) (by omega), qCW_n _ (by omega) (by omega), qFT_n _ _ (by omega) (by omega)]
        · show (((qCW ((qCW ((qFT σ (((σ 7 (64 * f)) + (nI 8)) - (nI 1))).2)).2)).2)) i = σ i
          rw [qCW_n _ (by omega) (by omega), qCW_n _ (by omega) (by omega), qFT_n _ _ (by omega) (by omega)]
    · refine pv_n ?_ ?_
      · refine pv_n ?_ ?_
        · show (mup (qWO (mup ((qCW ((qCW ((qFT σ (((σ 7 (64 * f)) + (nI 8)) - (nI 1))).2)).2)).2) 0 3 (((qCW ((qCW ((qFT σ (((σ 7 (64 * f)) + (nI 8)) - (nI 1))).2)).2)).2) 8 f)) ((σ 8 f).toNatClampNeg)) 11 f ((-1))) i = σ i
          rw [mup_n _ _ _ (by omega), qWO_n _ _ (by omega) (by omega), mup_n _ _ _ (by omega), qCW_n _ (by omega) (by omega), qCW_n _ (by omega) (by omega), qFT_n _ _ (by omega) (by omega)]
        · show ((qWO (mup ((qCW ((qCW ((qFT σ (((σ 7 (64 * f)) + (nI 8)) - (nI 1))).2)).2)).2) 0 3 (((qCW ((qCW ((qFT σ (((σ 7 (64 * f)) + (nI 8)) - (nI 1))).2)).2)).2) 8 f)) ((σ 8 f).toNatClampNeg))) i = σ i
          rw [qWO_n _ _ (by omega) (by omega), mup_n _ _ _ (by omega), qCW_n _ (by omega) (by omega), qCW_n _ (by omega) (by omega), qFT_n _ _ (by omega) (by omega)]
      · refine pv_n ?_ ?_
        · show (mup (mup ((qCW ((qCW ((qFT σ (((σ 7 (64 * f)) + (nI 8)) - (nI 1))).2)).2)).2) 0 3 (((qCW ((qCW ((qFT σ (((σ 7 (64 * f)) + (nI 8)) - (nI 1))).2)).2)).2) 8 f)) 11 f ((-1))) i = σ i
          rw [mup_n _ _ _ (by omega), mup_n _ _ _ (by omega), qCW_n _ (by omega) (by omega), qCW_n _ (by omega) (by omega), qFT_n _ _ (by omega) (by omega)]
        · show (mup ((qCW ((qCW ((qFT σ (((σ 7 (64 * f)) + (nI 8)) - (nI 1))).2)).2)).2) 0 3 (((qCW ((qCW ((qFT σ (((σ 7 (64 * f)) + (nI 8)) - (nI 1))).2)).2)).2) 8 f)) i = σ i
          rw [mup_n _ _ _ (by omega), qCW_n _ (by omega) (by omega), qCW_n _ (by omega) (by omega), qFT_n _ _ (by omega) (by omega)]
  · refine pv_n ?_ ?_
    · refine pv_n ?_ ?_
      · refine pv_n ?_ ?_
        · refine pv_n ?_ ?_
          · show (mup (qWO ((qCW ((qCW (qTS f 32 (0 * 32) ((qCW ((qFT σ (((σ 7 (64 * f)) + (nI 8)) - (nI 1))).2)).2))).2)).2) ((σ 8 f).toNatClampNeg)) 11 f ((-1))) i = σ i
            rw [mup_n _ _ _ (by omega), qWO_n _ _ (by omega) (by omega), qCW_n _ (by omega) (by omega), qCW_n _ (by omega) (by omega), qTS_n _ _ _ _ (by omega), qCW_n _ (by omega) (by omega), qFT_n _ _ (by omega) (by omega)]
          · show ((qWO ((qCW ((qCW (qTS f 32 (0 * 32) ((qCW ((qFT σ (((σ 7 (64 * f)) + (nI 8)) - (nI 1))).2)).2))).2)).2) ((σ 8 f).toNatClampNeg))) i = σ i
            rw [qWO_n _ _ (by omega) (by omega), qCW_n _ (by omega) (by omega), qCW_n _ (by omega) (by omega), qTS_n _ _ _ _ (by omega), qCW_n _ (by omega) (by omega), qFT_n _ _ (by omega) (by omega)]
        · refine pv_n ?_ ?_
          · show (mup ((qCW ((qCW (qTS f 32 (0 * 32) ((qCW ((qFT σ (((σ 7 (64 * f)) + (nI 8)) - (nI 1))).2)).2))).2)).2) 11 f ((-1))) i = σ i
            rw [mup_n _ _ _ (by omega), qCW_n _ (by omega) (by omega), qCW_n _ (by omega) (by omega), qTS_n _ _ _ _ (by omega), qCW_n _ (by omega) (by omega), qFT_n _ _ (by omega) (by omega)]
          · show (((qCW ((qCW (qTS f 32 (0 * 32) ((qCW ((qFT σ (((σ 7 (64 * f)) + (nI 8)) - (nI 1))).2)).2))).2)).2)) i = σ i
            rw [qCW_n _ (by omega) (by omega), qCW_n _ (by omega) (by omega), qTS_n _ _ _ _ (by omega), qCW_n _ (by omega) (by omega), qFT_n _ _ (by omega) (by omega)]
      · refine pv_n ?_ ?_
        · refine pv_n ?_ ?_
          · show (mup (qWO (mup ((qCW ((qCW (qTS f 32 (0 * 32) ((qCW ((qFT σ (((σ 7 (64 * f)) + (nI 8)) - (nI 1))).2)).2))).2)).2) 0 3 (((qCW ((qCW (qTS f 32 (0 * 32) ((qCW ((qFT σ (((σ 7 (64 * f)) + (nI 8)) - (nI 1))).2)).2))).2)).2) 8 f)) ((σ 8 f).toNatClampNeg)) 11 f ((-1))) i = σ i
            rw [mup_n _ _ _ (by omega), qWO_n _ _ (by omega) (by omega), mup_n _ _ _ (by omega), qCW_n _ (by omega) (by omega), qCW_n _ (by omega) (by omega), qTS_n _ _ _ _ (by omega), qCW_n _ (by omega) (by omega), qFT_n _ _ (by omega) (by omega)]
          · show ((qWO (mup ((qCW ((qCW (qTS f 32 (0 * 32) ((qCW ((qFT σ (((σ 7 (64 * f)) + (nI 8)) - (nI 1))).2)).2))).2)).2) 0 3 (((qCW ((qCW (qTS f 32 (0 * 32) ((qCW ((qFT σ (((σ 7 (64 * f)) + (nI 8)) - (nI 1))).2)).2))).2)).2) 8 f)) ((σ 8 f).toNatClampNeg))) i = σ i
            rw [qWO_n _ _ (by omega) (by omega), mup_n _ _ _ (by omega), qCW_n _ (by omega) (by omega), qCW_n _ (by omega) (by omega), qTS_n _ _ _ _ (by omega), qCW_n _ (by omega) (by omega), qFT_n _ _ (by omega) (by omega)]
        · refine pv_n ?_ ?_
          · show (mup (mup ((qCW ((qCW (qTS f 32 (0 * 32) ((qCW ((qFT σ (((σ 7 (64 * f)) + (nI 8)) - (nI 1))).2)).2))).2)).2) 0 3 (((qCW ((qCW (qTS f 32 (0 * 32) ((qCW ((qFT σ (((σ 7 (64 * f)) + (nI 8)) - (nI 1))).2)).2))).2)).2) 8 f)) 11 f ((-1))) i = σ i
            rw [mup_n _ _ _ (by omega), mup_n _ _ _ (by omega), qCW_n _ (by omega) (by omega), qCW_n _ (by omega) (by omega), qTS_n _ _ _ _ (by omega), qCW_n _ (by omega) (by omega), qFT_n _ _ (by omega) (by omega)]
          · show (mup ((qCW ((qCW (qTS f 32 (0 * 32) ((qCW ((qFT σ (((σ 7 (64 * f)) + (nI 8)) - (nI 1))).2)).2))).2)).2) 0 3 (((qCW ((qCW (qTS f 32 (0 * 32) ((qCW ((qFT σ (((σ 7 (64 * f)) + (nI 8)) - (nI 1))).2)).2))).2)).2) 8 f)) i = σ i
            rw [mup_n _ _ _ (by omega), qCW_n _ (by omega) (by omega), qCW_n _ (by omega) (by omega), qTS_n _ _ _ _ (by omega), qCW_n _ (by omega) (by omega), qFT_n _ _ (by omega) (by omega)]
    · refine pv_n ?_ ?_
      · refine pv_n ?_ ?_
        · refine pv_n ?_ ?_
          · show (mup (qWO ((qCW (qTS f 32 (1 * 32) ((qCW (qTS f 32 (0 * 32) ((qCW ((qFT σ (((σ 7 (64 * f)) + (nI 8)) - (nI 1))).2)).2))).2))).2) ((σ 8 f).toNatClampNeg)) 11 f ((-1))) i = σ i
            rw [mup_n _ _ _ (by omega), qWO_n _ _ (by omega) (by omega), qCW_n _ (by omega) (by omega), qTS_n _ _ _ _ (by omega), qCW_n _ (by omega) (by omega), qTS_n _ _ _ _ (by omega), qCW_n _ (by omega) (by omega), qFT_n _ _ (by omega) (by omega)]
          · show ((qWO ((qCW (qTS f 32 (1 * 32) ((qCW (qTS f 32 (0 * 32) ((qCW ((qFT σ (((σ 7 (64 * f)) + (nI 8)) - (nI 1))).2)).2))).2))).2) ((σ 8 f).toNatClampNeg))) i = σ i
            rw [qWO_n _ _ (by omega) (by omega), qCW_n _ (by omega) (by omega), qTS_n _ _ _ _ (by omega), qCW_n _ (by omega) (by omega), qTS_n _ _ _ _ (by omega), qCW_n _ (by omega) (by omega), qFT_n _ _ (by omega) (by omega)]
        · refine pv_n ?_ ?_
          · show (mup ((qCW (qTS f 32 (1 * 32) ((qCW (qTS f 32 (0 * 32) ((qCW ((qFT σ (((σ 7 (64 * f)) + (nI 8)) - (nI 1))).2)).2))).2))).2) 11 f ((-1))) i = σ i
            rw [mup_n _ _ _ (by omega), qCW_n _ (by omega) (by omega), qTS_n _ _ _ _ (by omega), qCW_n _ (by omega) (by omega), qTS_n _ _ _ _ (by omega), qCW_n _ (by omega) (by omega), qFT_n _ _ (by omega) (by omega)]
          · show (((qCW (qTS f 32 (1 * 32) ((qCW (qTS f 32 (0 * 32) ((qCW ((qFT σ (((σ 7 (64 * f)) + (nI 8)) - (nI 1))).2)).2))).2))).2)) i = σ i
            rw [qCW_n _ (by omega) (by omega), qTS_n _ _ _ _ (by omega), qCW_n _ (by omega) (by omega), qTS_n _ _ _ _ (by omega), qCW_n _ (by omega) (by omega), qFT_n _ _ (by omega) (by omega)]
      · refine pv_n ?_ ?_
        · refine pv_n ?_ ?_
          · show (mup (qWO (mup ((qCW (qTS f 32 (1 * 32) ((qCW (qTS f 32 (0 * 32) ((qCW ((qFT σ (((σ 7 (64 * f)) + (nI 8)) - (nI 1))).2)).2))).2))).2) 0 3 (((qCW (qTS f 32 (1 * 32) ((qCW (qTS f 32 (0 * 32) ((qCW ((qFT σ (((σ 7 (64 * f)) + (nI 8)) - (nI 1))).2)).2))).2))).2) 8 f)) ((σ 8 f).toNatClampNeg)) 11 f ((-1))) i = σ i
            rw [mup_n _ _ _ (by omega), qWO_n _ _ (by omega) (by omega), mup_n _ _ _ (by omega), qCW_n _ (by omega) (by omega), qTS_n _ _ _ _ (by omega), qCW_n _ (by omega) (by omega), qTS_n _ _ _ _ (by omega), qCW_n _ (by omega) (by omega), qFT_n _ _ (by omega) (by omega)]
          · show ((qWO (mup ((qCW (qTS f 32 (1 * 32) ((qCW (qTS f 32 (0 * 32) ((qCW ((qFT σ (((σ 7 (64 * f)) + (nI 8)) - (nI 1))).2)).2))).2))).2) 0 3 (((qCW (qTS f 32 (1 * 32) ((qCW (qTS f 32 (0 * 32) ((qCW ((qFT σ (((σ 7 (64 * f)) + (nI 8)) - (nI 1))).2)).2))).2))).2) 8 f)) ((σ 8 f).toNatClampNeg))) i = σ i
            rw [qWO_n _ _ (by omega) (by omega), mup_n _ _ _ (by omega), qCW_n _ (by omega) (by omega), qTS_n _ _ _ _ (by omega), qCW_n _ (by omega) (by omega), qTS_n _ _ _ _ (by omega), qCW_n _ (by omega) (by omega), qFT_n _ _ (by omega) (by omega)]
        · refine pv_n ?_ ?_
          · show (mup (mup ((qCW (qTS f 32 (1 * 32) ((qCW (qTS f 32 (0 * 32) ((qCW ((qFT σ (((σ 7 (64 * f)) + (nI 8)) - (nI 1))).2)).2))).2))).2) 0 3 (((qCW (qTS f 32 (1 * 32) ((qCW (qTS f 32 (0 * 32) ((qCW ((qFT σ (((σ 7 (64 * f)) + (nI 8)) - (nI 1))).2)).2))).2))).2) 8 f)) 11 f ((-1))) i = σ i
            rw [mup_n _ _ _ (by omega), mup_n _ _ _ (by omega), qCW_n _ (by omega) (by omega), qTS_n _ _ _ _ (by omega), qCW_n _ (by omega) (by omega), qTS_n _ _ _ _ (by omega), qCW_n _ (by omega) (by omega), qFT_n _ _ (by omega) (by omega)]
          · show (mup ((qCW (qTS f 32 (1 * 32) ((qCW (qTS f 32 (0 * 32) ((qCW ((qFT σ (((σ 7 (64 * f)) + (nI 8)) - (nI 1))).2)).2))).2))).2) 0 3 (((qCW (qTS f 32 (1 * 32) ((qCW (qTS f 32 (0 * 32) ((qCW ((qFT σ (((σ 7 (64 * f)) + (nI 8)) - (nI 1))).2)).2))).2))).2) 8 f)) i = σ i
            rw [mup_n _ _ _ (by omega), qCW_n _ (by omega) (by omega), qTS_n _ _ _ _ (by omega), qCW_n _ (by omega) (by omega), qTS_n _ _ _ _ (by omega), qCW_n _ (by omega) (by omega), qFT_n _ _ (by omega) (by omega)]
theorem qFin_n (x : Nat × Mem) {i : Nat} (h2 : 2 < i) (h8 : i < 8) : (qFin x).2 i = x.2 i := by
  unfold qFin
  refine pi_n (pi_n ?_ ?_) (pi_n ?_ ?_)
  · exact mup_n _ _ _ (by omega)
  · exact mup_n _ _ _ (by omega)
  · show qWr _ _ i = _
    rw [qWr_n _ _ h2 h8, mup_n _ _ _ (by omega)]
  · show qWr _ _ i = _
    rw [qWr_n _ _ h2 h8, mup_n _ _ _ (by omega)]
theorem qFind_n (σ : Mem) {i : Nat} (h2 : 2 < i) (h8 : i < 8) : (qFind σ).2 i = σ i := by
  unfold qFind
  refine pi_n (pi_n rfl ?_) rfl
  rw [qFin_n _ h2 h8, qWh_n _ _ _ (by omega) (by omega)]
theorem qFix_n (σ : Mem) (pg : Nat) {i : Nat} (h2 : 2 < i) (h7 : i < 7) : (qFix σ pg).2 i = σ i := by
  unfold qFix qTail
  refine pi_n (pi_n ?_ ?_) ?_
  · exact qFind_n σ h2 (by omega)
  · show (mup _ _ _ _) i = _
    rw [mup_n _ _ _ (by omega), mup_n _ _ _ (by omega), qCp_n _ _ _ _ _ (by omega), mup_n _ _ _ (by omega), mup_n _ _ _ (by omega), qFind_n σ h2 (by omega)]
  · show (mup _ _ _ _) i = _
    rw [mup_n _ _ _ (by omega), mup_n _ _ _ (by omega)]
theorem qFix_in {σ : Mem} {pg : Nat} (hh : nat0 8 (σ 0 17)) : fr8 (qFix σ pg).1 := by
  unfold qFix qTail
  refine pi_fr (fun _ => pi_fr (fun _ => fr8_m1) (fun c2 => ?_)) (fun c1 => ?_)
  · exact fr8_nI (fr8_in (qFind_in hh) c2).1
  · exact fr8_nI (fr8_in (qFw_in σ (nI pg) 8 0 (-1) (by decide) fr8_m1) c1).1
def qAgain (σ : Mem) (x : Nat) : Int32 × Mem :=
  if ((qFix σ ((σ 3 (x / 8 % 8192)).toNatClampNeg)).1) = -1 then (nI 0, ((qFix σ ((σ 3 (x / 8 % 8192)).toNatClampNeg)).2))
  else if ((mup ((qFix σ ((σ 3 (x / 8 % 8192)).toNatClampNeg)).2) 9 ((qFix σ ((σ 3 (x / 8 % 8192)).toNatClampNeg)).1).toNatClampNeg ((((qFix σ ((σ 3 (x / 8 % 8192)).toNatClampNeg)).2) 9 ((qFix σ ((σ 3 (x / 8 % 8192)).toNatClampNeg)).1).toNatClampNeg) - (nI 1))) 7 (64 * ((qFix σ ((σ 3 (x / 8 % 8192)).toNatClampNeg)).1).toNatClampNeg)) ≤ (nI x) then (nI 1, (qPut (mup ((qFix σ ((σ 3 (x / 8 % 8192)).toNatClampNeg)).2) 9 ((qFix σ ((σ 3 (x / 8 % 8192)).toNatClampNeg)).1).toNatClampNeg ((((qFix σ ((σ 3 (x / 8 % 8192)).toNatClampNeg)).2) 9 ((qFix σ ((σ 3 (x / 8 % 8192)).toNatClampNeg)).1).toNatClampNeg) - (nI 1))) ((qFix σ ((σ 3 (x / 8 % 8192)).toNatClampNeg)).1).toNatClampNeg ((σ 4 (x / 8 % 8192)).toNatClampNeg) ((mup ((qFix σ ((σ 3 (x / 8 % 8192)).toNatClampNeg)).2) 9 ((qFix σ ((σ 3 (x / 8 % 8192)).toNatClampNeg)).1).toNatClampNeg ((((qFix σ ((σ 3 (x / 8 % 8192)).toNatClampNeg)).2) 9 ((qFix σ ((σ 3 (x / 8 % 8192)).toNatClampNeg)).1).toNatClampNeg) - (nI 1))) 5 (x / 8 % 8192)) (nI x)))
  else (nI 0, mup ((qFix σ ((σ 3 (x / 8 % 8192)).toNatClampNeg)).2) 9 ((qFix σ ((σ 3 (x / 8 % 8192)).toNatClampNeg)).1).toNatClampNeg ((((qFix σ ((σ 3 (x / 8 % 8192)).toNatClampNeg)).2) 9 ((qFix σ ((σ 3 (x / 8 % 8192)).toNatClampNeg)).1).toNatClampNeg) - (nI 1)))
set_option maxHeartbeats 4000000 in
set_option maxRecDepth 100000 in
theorem c_R_again (σ : Mem) (x : Nat) (hx9 : x < 2 ^ 30) (hh0 : nat0 8 (σ 0 17)) (hok0 : rOK σ) (hpo : nat0 256 (σ 3 (x / 8 % 8192))) (hwo : nat0 64 (σ 4 (x / 8 % 8192))) : KIR l D cI cF cZ cJ ad y_R_again b_R_again 4 (some .boolean) 7 190 [.ref (ad 0), .int (nI x)] σ (fun r σ' => r = (qAgain σ x).1 ∧ σ' = (qAgain σ x).2) := by
  refine KI.of (by decide) (Nat.le_of_ble_eq_true rfl) ?_
  intro p e s m args below meth c A ls F w hl hr hlk
  obtain ⟨hx, hb, hml, hown, hts⟩ := id F
  have hl : lv_has ls 4 [(0, .ref (ad 0)), (1, .int (nI x))] := hl
  refine lv_iload_n hx hb d_R_again_0 rfl (lv_at hl 1 rfl) ?_
  refine mr_callSi (As := [.int (nI x)]) F w hl.1 ((fun sz => by have h9 := c_R_rowOf (l := l) (D := D) (cI := cI) (cF := cF) (cZ := cZ) (cJ := cJ) (ad := ad) σ x (by omega) sz; exact h9)) (cwS 1 hts g_R_again_1 rfl rfl rfl (by decide +kernel) ⟨Nat.le_of_ble_eq_true rfl, Nat.le_of_ble_eq_true rfl⟩) rfl rfl (Nat.le_of_ble_eq_true rfl) d_R_again_1 ⟨Nat.zero_le _, Nat.zero_le _⟩ (fun r1 σ2 H locs e3 w => ?_)
  obtain ⟨rfl, hs9⟩ := e3
  rw [hs9] at w
  clear hs9
  refine lv_istore_n (lv' := [(2, .int (nI (x / 8 % 8192))), (0, .ref (ad 0)), (1, .int (nI x))]) hx hb d_R_again_4 rfl hl (by decide) rfl (fun ls hl => ?_)
  refine lv_aload_n hx hb d_R_again_5 rfl (lv_at hl 1 rfl) ?_
  refine lv_aload_n hx hb d_R_again_6 rfl (lv_at hl 1 rfl) ?_
  refine mr_get F w (kin in_R) 0 (by decide) rfl rfl 5 (by decide) (kws_in m_533) (fun _ h => h) rfl d_R_again_7 ?_
  refine lv_iload_n hx hb d_R_again_10 rfl (lv_at hl 0 rfl) ?_
  refine mr_iaN F w 3 0 (by decide) rfl rfl (x / 8 % 8192) (by omega) (by decide) rfl d_R_again_11 ?_
  refine nr_as (k := (σ 3 (x / 8 % 8192)).toNatClampNeg) (hpo.2) ?_
  refine mr_callVi (As := [.int (nI ((σ 3 (x / 8 % 8192)).toNatClampNeg))]) F w hl.1 (c_R_fixPage σ ((σ 3 (x / 8 % 8192)).toNatClampNeg) hpo.1 hh0 hok0 (fun h9 => stops _ hh0.1 h9)) (cwV 1 hts g_R_again_12 rfl rfl rfl (by decide +kernel) ⟨Nat.le_of_ble_eq_true rfl, Nat.le_of_ble_eq_true rfl⟩) rfl (by decide) rfl rfl rfl (Nat.le_of_ble_eq_true rfl) d_R_again_12 ⟨Nat.zero_le _, Nat.zero_le _⟩ (fun r4 σ5 H locs e6 w => ?_)
  have e6_r := e6.1.symm
  have e6_s := e6.2.symm
  clear e6
  rcases Classical.em (r4 = -1) with c7 | c7
  · rw [c7]
    refine lv_istore_n (lv' := [(3, .int ((-1))), (2, .int (nI (x / 8 % 8192))), (0, .ref (ad 0)), (1, .int (nI x))]) hx hb d_R_again_15 rfl hl (by decide) rfl (fun ls hl => ?_)
    refine lv_iload_n hx hb d_R_again_16 rfl (lv_at hl 0 rfl) ?_
    refine lv_if_ge (tgt := 22) hx hb d_R_again_17 (by decide) (fun c9 => absurd c9 (by decide)) (fun _ => ?_)
    refine lv_iconst (v := nI 0) hx hb d_R_again_20 (by decide) ?_
    exact mr_zret F w hr hlk (Or.inl rfl) (by subst e6_r e6_s; unfold qAgain; rw [if_pos c7]; exact ⟨rfl, rfl⟩) d_R_again_21
  · have hb8 : r4.toNatClampNeg < 8 := (fr8_in (by rw [← e6_r]; exact (qFix_in hh0)) c7).1
    rw [(fr8_in (R := r4) (by rw [← e6_r]; exact (qFix_in hh0)) c7).2]
    refine lv_istore_n (lv' := [(3, .int (nI r4.toNatClampNeg)), (2, .int (nI (x / 8 % 8192))), (0, .ref (ad 0)), (1, .int (nI x))]) hx hb d_R_again_15 rfl hl (by decide) rfl (fun ls hl => ?_)
    refine lv_iload_n hx hb d_R_again_16 rfl (lv_at hl 0 rfl) ?_
    refine lv_if_ge (tgt := 22) hx hb d_R_again_17 (by decide) (fun _ => ?_) (fun c10 => absurd (nI_pos' (by omega)) c10)
    refine lv_aload_n hx hb d_R_again_22 rfl (lv_at hl 2 rfl) ?_
    refine mr_get F w (kin in_R) 0 (by decide) rfl rfl 14 (by decide) (kws_in m_542) (fun _ h => h) rfl d_R_again_23 ?_
    refine lv_iload_n hx hb d_R_again_26 rfl (lv_at hl 0 rfl) ?_
    refine lv_dup2_11 hx hb d_R_again_27 rfl rfl ?_
    refine mr_iaN F w 9 0 (by decide) rfl rfl r4.toNatClampNeg (by omega) (by decide) rfl d_R_again_28 ?_
    refine lv_iconst (v := nI 1) hx hb d_R_again_29 (by decide) ?_
    refine lv_isub hx hb d_R_again_30 ?_
    refine mr_isN F w 9 0 (by decide) (fun _ => rfl) rfl r4.toNatClampNeg (by omega) (by decide) rfl d_R_again_31 (fun H locs w => ?_)
    refine lv_aload_n hx hb d_R_again_32 rfl (lv_at hl 2 rfl) ?_
    refine mr_get F w (kin in_R) 0 (by decide) rfl rfl 12 (by decide) (kws_in m_540) (fun _ h => h) rfl d_R_again_33 ?_
    refine lv_bipush (v := nI 64) hx hb d_R_again_36 (by decide) ?_
    refine lv_iload_n hx hb d_R_again_38 rfl (lv_at hl 0 rfl) ?_
    refine nr_imul hx hb d_R_again_39 ?_
    refine mr_iaN F w 7 0 (by decide) rfl rfl (64 * r4.toNatClampNeg) (by omega) (by decide) rfl d_R_again_40 ?_
    refine lv_iload_n hx hb d_R_again_41 rfl (lv_at hl 3 rfl) ?_
    refine lv_icmp_le (tgt := 47) hx hb d_R_again_42 (by decide) (fun c11 => ?_) (fun c11 => ?_)
    · refine lv_aload_n hx hb d_R_again_47 rfl (lv_at hl 2 rfl) ?_
      refine lv_iload_n hx hb d_R_again_48 rfl (lv_at hl 0 rfl) ?_
      refine lv_aload_n hx hb d_R_again_49 rfl (lv_at hl 2 rfl) ?_
      refine mr_get F w (kin in_R) 0 (by decide) rfl rfl 6 (by decide) (kws_in m_534) (fun _ h => h) rfl d_R_again_50 ?_
      refine lv_iload_n hx hb d_R_again_53 rfl (lv_at hl 1 rfl) ?_
      refine mr_iaN F w 4 0 (by decide) rfl rfl (x / 8 % 8192) (by omega) (by decide) rfl d_R_again_54 ?_
      refine nr_as (k := (σ 4 (x / 8 % 8192)).toNatClampNeg) (by subst e6_r e6_s; rw [mup_n _ _ _ (by decide), qFix_n _ _ (by decide) (by decide)]; exact hwo.2) ?_
      refine lv_aload_n hx hb d_R_again_55 rfl (lv_at hl 2 rfl) ?_
      refine mr_get F w (kin in_R) 0 (by decide) rfl rfl 7 (by decide) (kws_in m_535) (fun _ h => h) rfl d_R_again_56 ?_
      refine lv_iload_n hx hb d_R_again_59 rfl (lv_at hl 1 rfl) ?_
      refine mr_iaN F w 5 0 (by decide) rfl rfl (x / 8 % 8192) (by omega) (by decide) rfl d_R_again_60 ?_
      refine lv_iload_n hx hb d_R_again_61 rfl (lv_at hl 3 rfl) ?_
      refine mr_callVv (As := [.int (nI r4.toNatClampNeg), .int (nI ((σ 4 (x / 8 % 8192)).toNatClampNeg)), .int ((mup σ5 9 r4.toNatClampNeg ((σ5 9 r4.toNatClampNeg) - (nI 1))) 5 (x / 8 % 8192)), .int (nI x)]) F w hl.1 (c_R_put (mup σ5 9 r4.toNatClampNeg ((σ5 9 r4.toNatClampNeg) - (nI 1))) r4.toNatClampNeg ((σ 4 (x / 8 % 8192)).toNatClampNeg) (by omega) hwo.1 ((mup σ5 9 r4.toNatClampNeg ((σ5 9 r4.toNatClampNeg) - (nI 1))) 5 (x / 8 % 8192)) (nI x)) (cwV 4 hts g_R_again_62 rfl rfl rfl (by decide +kernel) ⟨Nat.le_of_ble_eq_true rfl, Nat.le_of_ble_eq_true rfl⟩) rfl (by decide) rfl rfl rfl (Nat.le_of_ble_eq_true rfl) d_R_again_62 ⟨Nat.zero_le _, Nat.zero_le _⟩ (fun σ13 H locs e14 w => ?_)
      replace e14 := Eq.symm e14
      refine lv_iconst (v := nI 1) hx hb d_R_again_65 (by decide) ?_
      exact mr_zret F w hr hlk (Or.inr rfl) (by subst e6_r e6_s e14; unfold qAgain; rw [if_neg c7, if_pos c11]; exact ⟨rfl, rfl⟩) d_R_again_66
    · refine lv_iconst (v := nI 0) hx hb d_R_again_45 (by decide) ?_
      exact mr_zret F w hr hlk (Or.inl rfl) (by subst e6_r e6_s; unfold qAgain; rw [if_neg c7, if_neg c11]; exact ⟨rfl, rfl⟩) d_R_again_46
end
