/-! The reference: write, flush, flushOldest -/
section
variable {l : Launch} {D : va_G} {cI cF cZ cJ : ClassId} {ad : Nat → Nat} {σ : Mem}
set_option maxRecDepth 20000 in
theorem m_659 : Cond.methodLink "PagePoolModel" 101 (⟨"PagePoolModel", "writeOwn", "(I)V"⟩ : MethodName) ∈ gt := gt_in 659 (by decide +kernel) (by decide +kernel)
set_option maxRecDepth 20000 in
theorem m_662 : Cond.code (⟨"PagePoolModel", "writeOwn", "(I)V"⟩ : MethodName) prog_7_method_17_code 3 none ∈ gt := gt_in 662 (by decide +kernel) (by decide +kernel)
set_option maxRecDepth 20000 in
theorem m_661 : Cond.instanceMethod (⟨"PagePoolModel", "writeOwn", "(I)V"⟩ : MethodName) ∈ gt := gt_in 661 (by decide +kernel) (by decide +kernel)
set_option maxRecDepth 20000 in
theorem ms_21 : Cond.selects "PagePoolModel" (⟨"PagePoolModel", "writeOwn", "(I)V"⟩ : MethodName) (⟨"PagePoolModel", "writeOwn", "(I)V"⟩ : MethodName) ∈ gt := gt_sel 21 (by decide +kernel) (by decide +kernel)
set_option maxRecDepth 20000 in
theorem m_531 : Cond.fieldLink "PagePoolModel" 16 "PagePoolModel" "spareOf" "I" ∈ gt := gt_in 531 (by decide +kernel) (by decide +kernel)
set_option maxRecDepth 20000 in
theorem m_655 : Cond.methodLink "PagePoolModel" 98 (⟨"PagePoolModel", "toSpare", "(II)V"⟩ : MethodName) ∈ gt := gt_in 655 (by decide +kernel) (by decide +kernel)
set_option maxRecDepth 20000 in
theorem m_658 : Cond.code (⟨"PagePoolModel", "toSpare", "(II)V"⟩ : MethodName) prog_7_method_15_code 4 none ∈ gt := gt_in 658 (by decide +kernel) (by decide +kernel)
set_option maxRecDepth 20000 in
theorem m_657 : Cond.instanceMethod (⟨"PagePoolModel", "toSpare", "(II)V"⟩ : MethodName) ∈ gt := gt_in 657 (by decide +kernel) (by decide +kernel)
set_option maxRecDepth 20000 in
theorem ms_20 : Cond.selects "PagePoolModel" (⟨"PagePoolModel", "toSpare", "(II)V"⟩ : MethodName) (⟨"PagePoolModel", "toSpare", "(II)V"⟩ : MethodName) ∈ gt := gt_sel 20 (by decide +kernel) (by decide +kernel)
theorem d_R_write_0 : decode b_R_write 0 = .ok (.aload_n 0, 1) := by decide +kernel
theorem d_R_write_1 : decode b_R_write 1 = .ok (.aload_n 0, 1) := by decide +kernel
theorem d_R_write_2 : decode b_R_write 2 = .ok (.getfield 36, 3) := by decide +kernel
theorem d_R_write_5 : decode b_R_write 5 = .ok (.bipush 64, 2) := by decide +kernel
theorem d_R_write_7 : decode b_R_write 7 = .ok (.iload_n 1, 1) := by decide +kernel
theorem d_R_write_8 : decode b_R_write 8 = .ok (.imul, 1) := by decide +kernel
theorem d_R_write_9 : decode b_R_write 9 = .ok (.iaload, 1) := by decide +kernel
theorem d_R_write_10 : decode b_R_write 10 = .ok (.bipush 8, 2) := by decide +kernel
theorem d_R_write_12 : decode b_R_write 12 = .ok (.iadd, 1) := by decide +kernel
theorem d_R_write_13 : decode b_R_write 13 = .ok (.iconst 1, 1) := by decide +kernel
theorem d_R_write_14 : decode b_R_write 14 = .ok (.isub, 1) := by decide +kernel
theorem d_R_write_15 : decode b_R_write 15 = .ok (.invokevirtual 90, 3) := by decide +kernel
theorem d_R_write_18 : decode b_R_write 18 = .ok (.pop, 1) := by decide +kernel
theorem d_R_write_19 : decode b_R_write 19 = .ok (.iconst 0, 1) := by decide +kernel
theorem d_R_write_20 : decode b_R_write 20 = .ok (.istore_n 2, 1) := by decide +kernel
theorem d_R_write_21 : decode b_R_write 21 = .ok (.iload_n 2, 1) := by decide +kernel
theorem d_R_write_22 : decode b_R_write 22 = .ok (.iconst 2, 1) := by decide +kernel
theorem d_R_write_23 : decode b_R_write 23 = .ok (.if_icmp .ge 22, 3) := by decide +kernel
theorem d_R_write_26 : decode b_R_write 26 = .ok (.aload_n 0, 1) := by decide +kernel
theorem d_R_write_27 : decode b_R_write 27 = .ok (.invokevirtual 86, 3) := by decide +kernel
theorem d_R_write_30 : decode b_R_write 30 = .ok (.ifCond .eq 15, 3) := by decide +kernel
theorem d_R_write_33 : decode b_R_write 33 = .ok (.aload_n 0, 1) := by decide +kernel
theorem d_R_write_34 : decode b_R_write 34 = .ok (.iload_n 1, 1) := by decide +kernel
theorem d_R_write_35 : decode b_R_write 35 = .ok (.iload_n 2, 1) := by decide +kernel
theorem d_R_write_36 : decode b_R_write 36 = .ok (.invokevirtual 98, 3) := by decide +kernel
theorem d_R_write_39 : decode b_R_write 39 = .ok (.iinc 2 1, 3) := by decide +kernel
theorem d_R_write_42 : decode b_R_write 42 = .ok (.goto (-21), 3) := by decide +kernel
theorem d_R_write_45 : decode b_R_write 45 = .ok (.aload_n 0, 1) := by decide +kernel
theorem d_R_write_46 : decode b_R_write 46 = .ok (.invokevirtual 86, 3) := by decide +kernel
theorem d_R_write_49 : decode b_R_write 49 = .ok (.ifCond .eq 13, 3) := by decide +kernel
theorem d_R_write_52 : decode b_R_write 52 = .ok (.aload_n 0, 1) := by decide +kernel
theorem d_R_write_53 : decode b_R_write 53 = .ok (.aload_n 0, 1) := by decide +kernel
theorem d_R_write_54 : decode b_R_write 54 = .ok (.getfield 39, 3) := by decide +kernel
theorem d_R_write_57 : decode b_R_write 57 = .ok (.iload_n 1, 1) := by decide +kernel
theorem d_R_write_58 : decode b_R_write 58 = .ok (.iaload, 1) := by decide +kernel
theorem d_R_write_59 : decode b_R_write 59 = .ok (.putfield 16, 3) := by decide +kernel
theorem d_R_write_62 : decode b_R_write 62 = .ok (.aload_n 0, 1) := by decide +kernel
theorem d_R_write_63 : decode b_R_write 63 = .ok (.getfield 73, 3) := by decide +kernel
theorem d_R_write_66 : decode b_R_write 66 = .ok (.ifCond .ne 13, 3) := by decide +kernel
theorem d_R_write_69 : decode b_R_write 69 = .ok (.aload_n 0, 1) := by decide +kernel
theorem d_R_write_70 : decode b_R_write 70 = .ok (.aload_n 0, 1) := by decide +kernel
theorem d_R_write_71 : decode b_R_write 71 = .ok (.getfield 39, 3) := by decide +kernel
theorem d_R_write_74 : decode b_R_write 74 = .ok (.iload_n 1, 1) := by decide +kernel
theorem d_R_write_75 : decode b_R_write 75 = .ok (.iaload, 1) := by decide +kernel
theorem d_R_write_76 : decode b_R_write 76 = .ok (.invokevirtual 101, 3) := by decide +kernel
theorem d_R_write_79 : decode b_R_write 79 = .ok (.aload_n 0, 1) := by decide +kernel
theorem d_R_write_80 : decode b_R_write 80 = .ok (.getfield 73, 3) := by decide +kernel
theorem d_R_write_83 : decode b_R_write 83 = .ok (.ifCond .ne 10, 3) := by decide +kernel
theorem d_R_write_86 : decode b_R_write 86 = .ok (.aload_n 0, 1) := by decide +kernel
theorem d_R_write_87 : decode b_R_write 87 = .ok (.getfield 48, 3) := by decide +kernel
theorem d_R_write_90 : decode b_R_write 90 = .ok (.iload_n 1, 1) := by decide +kernel
theorem d_R_write_91 : decode b_R_write 91 = .ok (.iconst (-1), 1) := by decide +kernel
theorem d_R_write_92 : decode b_R_write 92 = .ok (.iastore, 1) := by decide +kernel
theorem d_R_write_93 : decode b_R_write 93 = .ok (.return_, 1) := by decide +kernel
set_option maxRecDepth 20000 in
theorem g_R_write_15 : GoodIn (kws (y_R_write) b_R_write 3 none) (wsV R_R 90 R_R y_R_forceTo (kws (y_R_forceTo) b_R_forceTo 3 (some .int))) := kwV m_624 m_626 ms_14 m_6 m_627
set_option maxRecDepth 20000 in
theorem g_R_write_27 : GoodIn (kws (y_R_write) b_R_write 3 none) (wsV R_R 86 R_R y_R_canWrite (kws (y_R_canWrite) b_R_canWrite 1 (some .boolean))) := kwV m_628 m_630 ms_15 m_6 m_631
set_option maxRecDepth 20000 in
theorem g_R_write_46 : GoodIn (kws (y_R_write) b_R_write 3 none) (wsV R_R 86 R_R y_R_canWrite (kws (y_R_canWrite) b_R_canWrite 1 (some .boolean))) := kwV m_628 m_630 ms_15 m_6 m_631
set_option maxRecDepth 20000 in
theorem g_R_write_76 : GoodIn (kws (y_R_write) b_R_write 3 none) (wsV R_R 101 R_R y_R_writeOwn (kws (y_R_writeOwn) b_R_writeOwn 3 none)) := kwV m_659 m_661 ms_21 m_6 m_662
set_option maxRecDepth 20000 in
theorem g_R_write_36 : GoodIn (kws (y_R_write) b_R_write 3 none) (wsV R_R 98 R_R y_R_toSpare (kws (y_R_toSpare) b_R_toSpare 4 none)) := kwV m_655 m_657 ms_20 m_6 m_658
theorem qForgets_n' : ∀ (n f : Nat) (σ : Mem), qForgets n f σ 0 = σ 0 := fun n f σ => qForgets_n n f σ 0 (by decide)
theorem qFail_21 (σ : Mem) : qFail σ 0 21 = nI 1 := by
  unfold qFail qForget
  rw [mup_f _ _ _ _ (by decide), mup_f _ _ _ _ (by decide), qForgets_n', mup_f _ _ _ _ (by decide), mup_v]
/-- unless it failed: it hadn't failed before, and the frames' numbers stay -/
def okk (σ τ : Mem) : Prop := τ 0 21 = 0 → σ 0 21 = 0 ∧ ∀ i, 8 ≤ i → τ i = σ i
theorem okk_rf (σ : Mem) : okk σ σ := fun h => ⟨h, fun _ _ => rfl⟩
theorem okk_tr {a b d : Mem} (h1 : okk a b) (h2 : okk b d) : okk a d := fun h => ⟨(h1 (h2 h).1).1, fun i hi => ((h2 h).2 i hi).trans ((h1 (h2 h).1).2 i hi)⟩
theorem okk_m0 (σ : Mem) {k : Nat} (v : Int32) (hk : 21 ≠ k) : okk σ (mup σ 0 k v) := fun h => ⟨by rw [mup_f _ _ _ _ hk] at h; exact h, fun i hi => mup_n _ _ _ (by omega)⟩
theorem okk_mi (σ : Mem) {j : Nat} (k : Nat) (v : Int32) (h0 : 0 < j) (h8 : j < 8) : okk σ (mup σ j k v) := fun h => ⟨by rw [mup_n _ _ _ (by omega)] at h; exact h, fun i hi => mup_n _ _ _ (by omega)⟩
theorem okk_fail (σ : Mem) : okk σ (qFail σ) := fun h => by
  rw [qFail_21] at h
  exact absurd h (by decide)
theorem okk_CW (σ : Mem) : okk σ (qCW σ).2 := by
  unfold qCW
  repeat' split
  all_goals first | exact okk_fail σ | exact okk_rf σ | exact okk_tr (okk_m0 _ _ (by decide)) (okk_m0 _ _ (by decide))
theorem okk_Fo : ∀ (n : Nat) (k : Int32) (σ : Mem), okk σ (qFo n k σ).2
  | 0, _, σ => okk_rf σ
  | n + 1, k, σ => by
    unfold qFo
    split
    · exact okk_CW σ
    · exact okk_tr (okk_CW σ) (okk_tr (okk_m0 _ _ (by decide)) (okk_Fo n _ _))
theorem okk_FT (σ : Mem) (x : Int32) : okk σ (qFT σ x).2 := okk_Fo _ _ σ
theorem okk_TS (f : Nat) : ∀ (n i : Nat) (σ : Mem), okk σ (qTS f n i σ)
  | 0, _, σ => okk_rf σ
  | n + 1, i, σ => by
    unfold qTS
    exact okk_tr (okk_mi _ _ _ (by decide) (by decide)) (okk_TS f n _ _)
theorem okk_TO (pg : Nat) : ∀ (n i : Nat) (σ : Mem), okk σ (qTO pg n i σ)
  | 0, _, σ => okk_rf σ
  | n + 1, i, σ => by
    unfold qTO
    exact okk_tr (okk_mi _ _ _ (by decide) (by decide)) (okk_TO pg n _ _)
def qWr (σ : Mem) (f : Nat) : Mem :=
  if ((qCW ((qFT σ (((σ 7 (64 * f)) + (nI 8)) - (nI 1))).2)).1) = 0 then (if ((qCW ((qCW ((qFT σ (((σ 7 (64 * f)) + (nI 8)) - (nI 1))).2)).2)).1) = 0 then (if (((qCW ((qCW ((qFT σ (((σ 7 (64 * f)) + (nI 8)) - (nI 1))).2)).2)).2) 0 21) = 0 then (if ((qWO ((qCW ((qCW ((qFT σ (((σ 7 (64 * f)) + (nI 8)) - (nI 1))).2)).2)).2) ((σ 8 f).toNatClampNeg)) 0 21) = 0 then (mup (qWO ((qCW ((qCW ((qFT σ (((σ 7 (64 * f)) + (nI 8)) - (nI 1))).2)).2)).2) ((σ 8 f).toNatClampNeg)) 11 f ((-1)))
        else ((qWO ((qCW ((qCW ((qFT σ (((σ 7 (64 * f)) + (nI 8)) - (nI 1))).2)).2)).2) ((σ 8 f).toNatClampNeg))))
      else if (((qCW ((qCW ((qFT σ (((σ 7 (64 * f)) + (nI 8)) - (nI 1))).2)).2)).2) 0 21) = 0 then (mup ((qCW ((qCW ((qFT σ (((σ 7 (64 * f)) + (nI 8)) - (nI 1))).2)).2)).2) 11 f ((-1)))
      else (((qCW ((qCW ((qFT σ (((σ 7 (64 * f)) + (nI 8)) - (nI 1))).2)).2)).2)))
    else if ((mup ((qCW ((qCW ((qFT σ (((σ 7 (64 * f)) + (nI 8)) - (nI 1))).2)).2)).2) 0 3 (((qCW ((qCW ((qFT σ (((σ 7 (64 * f)) + (nI 8)) - (nI 1))).2)).2)).2) 8 f)) 0 21) = 0 then (if ((qWO (mup ((qCW ((qCW ((qFT σ (((σ 7 (64 * f)) + (nI 8)) - (nI 1))).2)).2)).2) 0 3 (((qCW ((qCW ((qFT σ (((σ 7 (64 * f)) + (nI 8)) - (nI 1))).2)).2)).2) 8 f)) ((σ 8 f).toNatClampNeg)) 0 21) = 0 then (mup (qWO (mup ((qCW ((qCW ((qFT σ (((σ 7 (64 * f)) + (nI 8)) - (nI 1))).2)).2)).2) 0 3 (((qCW ((qCW ((qFT σ (((σ 7 (64 * f)) + (nI 8)) - (nI 1))).2)).2)).2) 8 f)) ((σ 8 f).toNatClampNeg)) 11 f ((-1)))
      else ((qWO (mup ((qCW ((qCW ((qFT σ (((σ 7 (64 * f)) + (nI 8)) - (nI 1))).2)).2)).2) 0 3 (((qCW ((qCW ((qFT σ (((σ 7 (64 * f)) + (nI 8)) - (nI 1))).2)).2)).2) 8 f)) ((σ 8 f).toNatClampNeg))))
    else if ((mup ((qCW ((qCW ((qFT σ (((σ 7 (64 * f)) + (nI 8)) - (nI 1))).2)).2)).2) 0 3 (((qCW ((qCW ((qFT σ (((σ 7 (64 * f)) + (nI 8)) - (nI 1))).2)).2)).2) 8 f)) 0 21) = 0 then (mup (mup ((qCW ((qCW ((qFT σ (((σ 7 (64 * f)) + (nI 8)) - (nI 1))).2)).2)).2) 0 3 (((qCW ((qCW ((qFT σ (((σ 7 (64 * f)) + (nI 8)) - (nI 1))).2)).2)).2) 8 f)) 11 f ((-1)))
    else (mup ((qCW ((qCW ((qFT σ (((σ 7 (64 * f)) + (nI 8)) - (nI 1))).2)).2)).2) 0 3 (((qCW ((qCW ((qFT σ (((σ 7 (64 * f)) + (nI 8)) - (nI 1))).2)).2)).2) 8 f)))
  else if ((qCW (qTS f 32 (0 * 32) ((qCW ((qFT σ (((σ 7 (64 * f)) + (nI 8)) - (nI 1))).2)).2))).1) = 0 then (if ((qCW ((qCW (qTS f 32 (0 * 32) ((qCW ((qFT σ (((σ 7 (64 * f)) + (nI 8)) - (nI 1))).2)).2))).2)).1) = 0 then (if (((qCW ((qCW (qTS f 32 (0 * 32) ((qCW ((qFT σ (((σ 7 (64 * f)) + (nI 8)) - (nI 1))).2)).2))).2)).2) 0 21) = 0 then (if ((qWO ((qCW ((qCW (qTS f 32 (0 * 32) ((qCW ((qFT σ (((σ 7 (64 * f)) + (nI 8)) - (nI 1))).2)).2))).2)).2) ((σ 8 f).toNatClampNeg)) 0 21) = 0 then (mup (qWO ((qCW ((qCW (qTS f 32 (0 * 32) ((qCW ((qFT σ (((σ 7 (64 * f)) + (nI 8)) - (nI 1))).2)).2))).2)).2) ((σ 8 f).toNatClampNeg)) 11 f ((-1)))
        else ((qWO ((qCW ((qCW (qTS f 32 (0 * 32) ((qCW ((qFT σ (((σ 7 (64 * f)) + (nI 8)) - (nI 1))).2)).2))).2)).2) ((σ 8 f).toNatClampNeg))))
      else if (((qCW ((qCW (qTS f 32 (0 * 32) ((qCW ((qFT σ (((σ 7 (64 * f)) + (nI 8)) - (nI 1))).2)).2))).2)).2) 0 21) = 0 then (mup ((qCW ((qCW (qTS f 32 (0 * 32) ((qCW ((qFT σ (((σ 7 (64 * f)) + (nI 8)) - (nI 1))).2)).2))).2)).2) 11 f ((-1)))
      else (((qCW ((qCW (qTS f 32 (0 * 32) ((qCW ((qFT σ (((σ 7 (64 * f)) + (nI 8)) - (nI 1))).2)).2))).2)).2)))
    else if ((mup ((qCW ((qCW (qTS f 32 (0 * 32) ((qCW ((qFT σ (((σ 7 (64 * f)) + (nI 8)) - (nI 1))).2)).2))).2)).2) 0 3 (((qCW ((qCW (qTS f 32 (0 * 32) ((qCW ((qFT σ (((σ 7 (64 * f)) + (nI 8)) - (nI 1))).2)).2))).2)).2) 8 f)) 0 21) = 0 then (if ((qWO (mup ((qCW ((qCW (qTS f 32 (0 * 32) ((qCW ((qFT σ (((σ 7 (64 * f)) + (nI 8)) - (nI 1))).2)).2))).2)).2) 0 3 (((qCW ((qCW (qTS f 32 (0 * 32) ((qCW ((qFT σ (((σ 7 (64 * f)) + (nI 8)) - (nI 1))).2)).2))).2)).2) 8 f)) ((σ 8 f).toNatClampNeg)) 0 21) = 0 then (mup (qWO (mup ((qCW ((qCW (qTS f 32 (0 * 32) ((qCW ((qFT σ (((σ 7 (64 * f)) + (nI 8)) - (nI 1))).2)).2))).2)).2) 0 3 (((qCW ((qCW (qTS f 32 (0 * 32) ((qCW ((qFT σ (((σ 7 (64 * f)) + (nI 8)) - (nI 1))).2)).2))).2)).2) 8 f)) ((σ 8 f).toNatClampNeg)) 11 f ((-1)))
      else ((qWO (mup ((qCW ((qCW (qTS f 32 (0 * 32) ((qCW ((qFT σ (((σ 7 (64 * f)) + (nI 8)) - (nI 1))).2)).2))).2)).2) 0 3 (((qCW ((qCW (qTS f 32 (0 * 32) ((qCW ((qFT σ (((σ 7 (64 * f)) + (nI 8)) - (nI 1))).2)).2))).2)).2) 8 f)) ((σ 8 f).toNatClampNeg))))
    else if ((mup ((qCW ((qCW (qTS f 32 (0 * 32) ((qCW ((qFT σ (((σ 7 (64 * f)) + (nI 8)) - (nI 1))).2)).2))).2)).2) 0 3 (((qCW ((qCW (qTS f 32 (0 * 32) ((qCW ((qFT σ (((σ 7 (64 * f)) + (nI 8)) - (nI 1))).2)).2))).2)).2) 8 f)) 0 21) = 0 then (mup (mup ((qCW ((qCW (qTS f 32 (0 * 32) ((qCW ((qFT σ (((σ 7 (64 * f)) + (nI 8)) - (nI 1))).2)).2))).2)).2) 0 3 (((qCW ((qCW (qTS f 32 (0 * 32) ((qCW ((qFT σ (((σ 7 (64 * f)) + (nI 8)) - (nI 1))).2)).2))).2)).2) 8 f)) 11 f ((-1)))
    else (mup ((qCW ((qCW (qTS f 32 (0 * 32) ((qCW ((qFT σ (((σ 7 (64 * f)) + (nI 8)) - (nI 1))).2)).2))).2)).2) 0 3 (((qCW ((qCW (qTS f 32 (0 * 32) ((qCW ((qFT σ (((σ 7 (64 * f)) + (nI 8)) - (nI 1))).2)).2))).2)).2) 8 f)))
  else if ((qCW (qTS f 32 (1 * 32) ((qCW (qTS f 32 (0 * 32) ((qCW ((qFT σ (((σ 7 (64 * f)) + (nI 8)) - (nI 1))).2)).2))).2))).1) = 0 then (if (((qCW (qTS f 32 (1 * 32) ((qCW (qTS f 32 (0 * 32) ((qCW ((qFT σ (((σ 7 (64 * f)) + (nI 8)) - (nI 1))).2)).2))).2))).2) 0 21) = 0 then (if ((qWO ((qCW (qTS f 32 (1 * 32) ((qCW (qTS f 32 (0 * 32) ((qCW ((qFT σ (((σ 7 (64 * f)) + (nI 8)) - (nI 1))).2)).2))).2))).2) ((σ 8 f).toNatClampNeg)) 0 21) = 0 then (mup (qWO ((qCW (qTS f 32 (1 * 32) ((qCW (qTS f 32 (0 * 32) ((qCW ((qFT σ (((σ 7 (64 * f)) + (nI 8)) - (nI 1))).2)).2))).2))).2) ((σ 8 f).toNatClampNeg)) 11 f ((-1)))
      else ((qWO ((qCW (qTS f 32 (1 * 32) ((qCW (qTS f 32 (0 * 32) ((qCW ((qFT σ (((σ 7 (64 * f)) + (nI 8)) - (nI 1))).2)).2))).2))).2) ((σ 8 f).toNatClampNeg))))
    else if (((qCW (qTS f 32 (1 * 32) ((qCW (qTS f 32 (0 * 32) ((qCW ((qFT σ (((σ 7 (64 * f)) + (nI 8)) - (nI 1))).2)).2))).2))).2) 0 21) = 0 then (mup ((qCW (qTS f 32 (1 * 32) ((qCW (qTS f 32 (0 * 32) ((qCW ((qFT σ (((σ 7 (64 * f)) + (nI 8)) - (nI 1))).2)).2))).2))).2) 11 f ((-1)))
    else (((qCW (qTS f 32 (1 * 32) ((qCW (qTS f 32 (0 * 32) ((qCW ((qFT σ (((σ 7 (64 * f)) + (nI 8)) - (nI 1))).2)).2))).2))).2)))
  else if ((mup ((qCW (qTS f 32 (1 * 32) ((qCW (qTS f 32 (0 * 32) ((qCW ((qFT σ (((σ 7 (64 * f)) + (nI 8)) - (nI 1))).2)).2))).2))).2) 0 3 (((qCW (qTS f 32 (1 * 32) ((qCW (qTS f 32 (0 * 32) ((qCW ((qFT σ (((σ 7 (64 * f)) + (nI 8)) - (nI 1))).2)).2))).2))).2) 8 f)) 0 21) = 0 then (if ((qWO (mup ((qCW (qTS f 32 (1 * 32) ((qCW (qTS f 32 (0 * 32) ((qCW ((qFT σ (((σ 7 (64 * f)) + (nI 8)) - (nI 1))).2)).2))).2))).2) 0 3 (((qCW (qTS f 32 (1 * 32) ((qCW (qTS f 32 (0 * 32) ((qCW ((qFT σ (((σ 7 (64 * f)) + (nI 8)) - (nI 1))).2)).2))).2))).2) 8 f)) ((σ 8 f).toNatClampNeg)) 0 21) = 0 then (mup (qWO (mup ((qCW (qTS f 32 (1 * 32) ((qCW (qTS f 32 (0 * 32) ((qCW ((qFT σ (((σ 7 (64 * f)) + (nI 8)) - (nI 1))).2)).2))).2))).2) 0 3 (((qCW (qTS f 32 (1 * 32) ((qCW (qTS f 32 (0 * 32) ((qCW ((qFT σ (((σ 7 (64 * f)) + (nI 8)) - (nI 1))).2)).2))).2))).2) 8 f)) ((σ 8 f).toNatClampNeg)) 11 f ((-1)))
    else ((qWO (mup ((qCW (qTS f 32 (1 * 32) ((qCW (qTS f 32 (0 * 32) ((qCW ((qFT σ (((σ 7 (64 * f)) + (nI 8)) - (nI 1))).2)).2))).2))).2) 0 3 (((qCW (qTS f 32 (1 * 32) ((qCW (qTS f 32 (0 * 32) ((qCW ((qFT σ (((σ 7 (64 * f)) + (nI 8)) - (nI 1))).2)).2))).2))).2) 8 f)) ((σ 8 f).toNatClampNeg))))
  else if ((mup ((qCW (qTS f 32 (1 * 32) ((qCW (qTS f 32 (0 * 32) ((qCW ((qFT σ (((σ 7 (64 * f)) + (nI 8)) - (nI 1))).2)).2))).2))).2) 0 3 (((qCW (qTS f 32 (1 * 32) ((qCW (qTS f 32 (0 * 32) ((qCW ((qFT σ (((σ 7 (64 * f)) + (nI 8)) - (nI 1))).2)).2))).2))).2) 8 f)) 0 21) = 0 then (mup (mup ((qCW (qTS f 32 (1 * 32) ((qCW (qTS f 32 (0 * 32) ((qCW ((qFT σ (((σ 7 (64 * f)) + (nI 8)) - (nI 1))).2)).2))).2))).2) 0 3 (((qCW (qTS f 32 (1 * 32) ((qCW (qTS f 32 (0 * 32) ((qCW ((qFT σ (((σ 7 (64 * f)) + (nI 8)) - (nI 1))).2)).2))).2))).2) 8 f)) 11 f ((-1)))
  else (mup ((qCW (qTS f 32 (1 * 32) ((qCW (qTS f 32 (0 * 32) ((qCW ((qFT σ (((σ 7 (64 * f)) + (nI 8)) - (nI 1))).2)).2))).2))).2) 0 3 (((qCW (qTS f 32 (1 * 32) ((qCW (qTS f 32 (0 * 32) ((qCW ((qFT σ (((σ 7 (64 * f)) + (nI 8)) - (nI 1))).2)).2))).2))).2) 8 f))
set_option maxHeartbeats 4000000 in
set_option maxRecDepth 100000 in
theorem c_R_write (σ : Mem) (f : Nat) (hf : f < 8) (hp : nat0 256 (σ 8 f)) : KVR l D cI cF cZ cJ ad y_R_write b_R_write 3 4 110 [.ref (ad 0), .int (nI f)] σ (fun σ' => σ' = qWr σ f) := by
  refine KV.of (by decide) (Nat.le_of_ble_eq_true rfl) ?_
  intro p e s m args below meth c A ls F w hl hr hlk
  obtain ⟨hx, hb, hml, hown, hts⟩ := id F
  have hl : lv_has ls 3 [(0, .ref (ad 0)), (1, .int (nI f))] := hl
  refine lv_aload_n hx hb d_R_write_0 rfl (lv_at hl 0 rfl) ?_
  refine lv_aload_n hx hb d_R_write_1 rfl (lv_at hl 0 rfl) ?_
  refine mr_get F w (kin in_R) 0 (by decide) rfl rfl 12 (by decide) (kws_in m_540) (fun _ h => h) rfl d_R_write_2 ?_
  refine lv_bipush (v := nI 64) hx hb d_R_write_5 (by decide) ?_
  refine lv_iload_n hx hb d_R_write_7 rfl (lv_at hl 1 rfl) ?_
  refine nr_imul hx hb d_R_write_8 ?_
  refine mr_iaN F w 7 0 (by decide) rfl rfl (64 * f) (by omega) (by decide) rfl d_R_write_9 ?_
  refine lv_bipush (v := nI 8) hx hb d_R_write_10 (by decide) ?_
  refine lv_iadd hx hb d_R_write_12 ?_
  refine lv_iconst (v := nI 1) hx hb d_R_write_13 (by decide) ?_
  refine lv_isub hx hb d_R_write_14 ?_
  refine mr_callVi (As := [.int (((σ 7 (64 * f)) + (nI 8)) - (nI 1))]) F w hl.1 (c_R_forceTo σ (((σ 7 (64 * f)) + (nI 8)) - (nI 1))) (cwV 1 hts g_R_write_15 rfl rfl rfl (by decide +kernel) ⟨Nat.le_of_ble_eq_true rfl, Nat.le_of_ble_eq_true rfl⟩) rfl (by decide) rfl rfl rfl (Nat.le_of_ble_eq_true rfl) d_R_write_15 ⟨Nat.zero_le _, Nat.zero_le _⟩ (fun r1 σ2 H locs e3 w => ?_)
  have e3_r := e3.1.symm
  have e3_s := e3.2.symm
  clear e3
  refine lv_pop hx hb d_R_write_18 rfl ?_
  refine lv_iconst (v := nI 0) hx hb d_R_write_19 (by decide) ?_
  refine lv_istore_n (lv' := [(2, .int (nI 0)), (0, .ref (ad 0)), (1, .int (nI f))]) hx hb d_R_write_20 rfl hl (by decide) rfl (fun ls hl => ?_)
  refine lv_iload_n hx hb d_R_write_21 rfl (lv_at hl 0 rfl) ?_
  refine lv_iconst (v := nI 2) hx hb d_R_write_22 (by decide) ?_
  refine nr_icmp_ge (tgt := 45) hx hb d_R_write_23 (by decide) (by omega) (by omega) (fun c4 => absurd c4 (by omega)) (fun _ => ?_)
  refine lv_aload_n hx hb d_R_write_26 rfl (lv_at hl 1 rfl) ?_
  refine mr_callVi (As := []) F w hl.1 (c_R_canWrite σ2) (cwV 0 hts g_R_write_27 rfl rfl rfl (by decide +kernel) ⟨Nat.le_of_ble_eq_true rfl, Nat.le_of_ble_eq_true rfl⟩) rfl (by decide) rfl rfl rfl (Nat.le_of_ble_eq_true rfl) d_R_write_27 ⟨Nat.zero_le _, Nat.zero_le _⟩ (fun r5 σ6 H locs e7 w => ?_)
  have e7_r := e7.1.symm
  have e7_s := e7.2.symm
  clear e7
  refine lv_if_eq (tgt := 45) hx hb d_R_write_30 (by decide) (fun c8 => ?_) (fun c8 => ?_)
  · refine lv_aload_n hx hb d_R_write_45 rfl (lv_at hl 1 rfl) ?_
    refine mr_callVi (As := []) F w hl.1 (c_R_canWrite σ6) (cwV 0 hts g_R_write_46 rfl rfl rfl (by decide +kernel) ⟨Nat.le_of_ble_eq_true rfl, Nat.le_of_ble_eq_true rfl⟩) rfl (by decide) rfl rfl rfl (Nat.le_of_ble_eq_true rfl) d_R_write_46 ⟨Nat.zero_le _, Nat.zero_le _⟩ (fun r9 σ10 H locs e11 w => ?_)
    have e11_r := e11.1.symm
    have e11_s := e11.2.symm
    clear e11
    refine lv_if_eq (tgt := 62) hx hb d_R_write_49 (by decide) (fun c12 => ?_) (fun c12 => ?_)
    · refine lv_aload_n hx hb d_R_write_62 rfl (lv_at hl 1 rfl) ?_
      refine mr_get F w (kin in_R) 0 (by decide) rfl rfl 21 (by decide) (kws_in m_549) (fun _ h => h) rfl d_R_write_63 ?_
      refine lv_if_ne (tgt := 79) hx hb d_R_write_66 (by decide) (fun c13 => ?_) (fun c13 => ?_)
      · refine lv_aload_n hx hb d_R_write_79 rfl (lv_at hl 1 rfl) ?_
        refine mr_get F w (kin in_R) 0 (by decide) rfl rfl 21 (by decide) (kws_in m_549) (fun _ h => h) rfl d_R_write_80 ?_
        refine lv_if_ne (tgt := 93) hx hb d_R_write_83 (by decide) (fun c14 => ?_) (fun c14 => ?_)
        · exact mr_vret F w hr hlk (by subst e3_r e3_s e7_r e7_s e11_r e11_s; unfold qWr; rw [if_pos c8, if_pos c12, if_neg c13, if_neg c14]; try rfl) d_R_write_93
        · refine lv_aload_n hx hb d_R_write_86 rfl (lv_at hl 1 rfl) ?_
          refine mr_get F w (kin in_R) 0 (by decide) rfl rfl 16 (by decide) (kws_in m_544) (fun _ h => h) rfl d_R_write_87 ?_
          refine lv_iload_n hx hb d_R_write_90 rfl (lv_at hl 2 rfl) ?_
          refine lv_iconst (v := -1) hx hb d_R_write_91 (by decide) ?_
          refine mr_isN F w 11 0 (by decide) (fun _ => rfl) rfl f (by omega) (by decide) rfl d_R_write_92 (fun H locs w => ?_)
          exact mr_vret F w hr hlk (by subst e3_r e3_s e7_r e7_s e11_r e11_s; unfold qWr; rw [if_pos c8, if_pos c12, if_neg c13, if_pos c14]; try rfl) d_R_write_93
      · refine lv_aload_n hx hb d_R_write_69 rfl (lv_at hl 1 rfl) ?_
        refine lv_aload_n hx hb d_R_write_70 rfl (lv_at hl 1 rfl) ?_
        refine mr_get F w (kin in_R) 0 (by decide) rfl rfl 13 (by decide) (kws_in m_541) (fun _ h => h) rfl d_R_write_71 ?_
        refine lv_iload_n hx hb d_R_write_74 rfl (lv_at hl 2 rfl) ?_
        refine mr_iaN F w 8 0 (by decide) rfl rfl f (by omega) (by decide) rfl d_R_write_75 ?_
        refine nr_as (k := (σ 8 f).toNatClampNeg) (by subst e3_r e3_s e7_r e7_s e11_r e11_s; have h9 := (okk_tr (okk_tr (okk_tr (okk_rf σ) (okk_FT _ _)) (okk_CW _)) (okk_CW _)) c13; rw [h9.2 8 (by decide)]; exact hp.2) ?_
        refine mr_callVv (As := [.int (nI ((σ 8 f).toNatClampNeg))]) F w hl.1 (c_R_writeOwn σ10 ((σ 8 f).toNatClampNeg) hp.1) (cwV 1 hts g_R_write_76 rfl rfl rfl (by decide +kernel) ⟨Nat.le_of_ble_eq_true rfl, Nat.le_of_ble_eq_true rfl⟩) rfl (by decide) rfl rfl rfl (Nat.le_of_ble_eq_true rfl) d_R_write_76 ⟨Nat.zero_le _, Nat.zero_le _⟩ (fun σ16 H locs e17 w => ?_)
        replace e17 := Eq.symm e17
        refine lv_aload_n hx hb d_R_write_79 rfl (lv_at hl 1 rfl) ?_
        refine mr_get F w (kin in_R) 0 (by decide) rfl rfl 21 (by decide) (kws_in m_549) (fun _ h => h) rfl d_R_write_80 ?_
        refine lv_if_ne (tgt := 93) hx hb d_R_write_83 (by decide) (fun c18 => ?_) (fun c18 => ?_)
        · exact mr_vret F w hr hlk (by subst e3_r e3_s e7_r e7_s e11_r e11_s e17; unfold qWr; rw [if_pos c8, if_pos c12, if_pos c13, if_neg c18]; try rfl) d_R_write_93
        · refine lv_aload_n hx hb d_R_write_86 rfl (lv_at hl 1 rfl) ?_
          refine mr_get F w (kin in_R) 0 (by decide) rfl rfl 16 (by decide) (kws_in m_544) (fun _ h => h) rfl d_R_write_87 ?_
          refine lv_iload_n hx hb d_R_write_90 rfl (lv_at hl 2 rfl) ?_
          refine lv_iconst (v := -1) hx hb d_R_write_91 (by decide) ?_
          refine mr_isN F w 11 0 (by decide) (fun _ => rfl) rfl f (by omega) (by decide) rfl d_R_write_92 (fun H locs w => ?_)
          exact mr_vret F w hr hlk (by subst e3_r e3_s e7_r e7_s e11_r e11_s e17; unfold qWr; rw [if_pos c8, if_pos c12, if_pos c13, if_pos c18]; try rfl) d_R_write_93
    · refine lv_aload_n hx hb d_R_write_52 rfl (lv_at hl 1 rfl) ?_
      refine lv_aload_n hx hb d_R_write_53 rfl (lv_at hl 1 rfl) ?_
      refine mr_get F w (kin in_R) 0 (by decide) rfl rfl 13 (by decide) (kws_in m_541) (fun _ h => h) rfl d_R_write_54 ?_
      refine lv_iload_n hx hb d_R_write_57 rfl (lv_at hl 2 rfl) ?_
      refine mr_iaN F w 8 0 (by decide) rfl rfl f (by omega) (by decide) rfl d_R_write_58 ?_
      refine mr_put F w (kin in_R) t_R t_R_ok n_R 0 (by decide) rfl rfl 3 (by decide) (kws_in m_531) (fun _ h => h) rfl rfl rfl (Nat.le_of_ble_eq_true rfl) rfl d_R_write_59 (fun H locs w => ?_)
      refine lv_aload_n hx hb d_R_write_62 rfl (lv_at hl 1 rfl) ?_
      refine mr_get F w (kin in_R) 0 (by decide) rfl rfl 21 (by decide) (kws_in m_549) (fun _ h => h) rfl d_R_write_63 ?_
      refine lv_if_ne (tgt := 79) hx hb d_R_write_66 (by decide) (fun c19 => ?_) (fun c19 => ?_)
      · refine lv_aload_n hx hb d_R_write_79 rfl (lv_at hl 1 rfl) ?_
        refine mr_get F w (kin in_R) 0 (by decide) rfl rfl 21 (by decide) (kws_in m_549) (fun _ h => h) rfl d_R_write_80 ?_
        refine lv_if_ne (tgt := 93) hx hb d_R_write_83 (by decide) (fun c20 => ?_) (fun c20 => ?_)
        · exact mr_vret F w hr hlk (by subst e3_r e3_s e7_r e7_s e11_r e11_s; unfold qWr; rw [if_pos c8, if_neg c12, if_neg c19, if_neg c20]; try rfl) d_R_write_93
        · refine lv_aload_n hx hb d_R_write_86 rfl (lv_at hl 1 rfl) ?_
          refine mr_get F w (kin in_R) 0 (by decide) rfl rfl 16 (by decide) (kws_in m_544) (fun _ h => h) rfl d_R_write_87 ?_
          refine lv_iload_n hx hb d_R_write_90 rfl (lv_at hl 2 rfl) ?_
          refine lv_iconst (v := -1) hx hb d_R_write_91 (by decide) ?_
          refine mr_isN F w 11 0 (by decide) (fun _ => rfl) rfl f (by omega) (by decide) rfl d_R_write_92 (fun H locs w => ?_)
          exact mr_vret F w hr hlk (by subst e3_r e3_s e7_r e7_s e11_r e11_s; unfold qWr; rw [if_pos c8, if_neg c12, if_neg c19, if_pos c20]; try rfl) d_R_write_93
      · refine lv_aload_n hx hb d_R_write_69 rfl (lv_at hl 1 rfl) ?_
        refine lv_aload_n hx hb d_R_write_70 rfl (lv_at hl 1 rfl) ?_
        refine mr_get F w (kin in_R) 0 (by decide) rfl rfl 13 (by decide) (kws_in m_541) (fun _ h => h) rfl d_R_write_71 ?_
        refine lv_iload_n hx hb d_R_write_74 rfl (lv_at hl 2 rfl) ?_
        refine mr_iaN F w 8 0 (by decide) rfl rfl f (by omega) (by decide) rfl d_R_write_75 ?_
        refine nr_as (k := (σ 8 f).toNatClampNeg) (by subst e3_r e3_s e7_r e7_s e11_r e11_s; have h9 := (okk_tr (okk_tr (okk_tr (okk_tr (okk_rf σ) (okk_FT _ _)) (okk_CW _)) (okk_CW _)) (okk_m0 _ _ (by decide))) c19; rw [h9.2 8 (by decide)]; exact hp.2) ?_
        refine mr_callVv (As := [.int (nI ((σ 8 f).toNatClampNeg))]) F w hl.1 (c_R_writeOwn (mup σ10 0 3 (σ10 8 f)) ((σ 8 f).toNatClampNeg) hp.1) (cwV 1 hts g_R_write_76 rfl rfl rfl (by decide +kernel) ⟨Nat.le_of_ble_eq_true rfl, Nat.le_of_ble_eq_true rfl⟩) rfl (by decide) rfl rfl rfl (Nat.le_of_ble_eq_true rfl) d_R_write_76 ⟨Nat.zero_le _, Nat.zero_le _⟩ (fun σ22 H locs e23 w => ?_)
        replace e23 := Eq.symm e23
        refine lv_aload_n hx hb d_R_write_79 rfl (lv_at hl 1 rfl) ?_
        refine mr_get F w (kin in_R) 0 (by decide) rfl rfl 21 (by decide) (kws_in m_549) (fun _ h => h) rfl d_R_write_80 ?_
        refine lv_if_ne (tgt := 93) hx hb d_R_write_83 (by decide) (fun c24 => ?_) (fun c24 => ?_)
        · exact mr_vret F w hr hlk (by subst e3_r e3_s e7_r e7_s e11_r e11_s e23; unfold qWr; rw [if_pos c8, if_neg c12, if_pos c19, if_neg c24]; try rfl) d_R_write_93
        · refine lv_aload_n hx hb d_R_write_86 rfl (lv_at hl 1 rfl) ?_
          refine mr_get F w (kin in_R) 0 (by decide) rfl rfl 16 (by decide) (kws_in m_544) (fun _ h => h) rfl d_R_write_87 ?_
          refine lv_iload_n hx hb d_R_write_90 rfl (lv_at hl 2 rfl) ?_
          refine lv_iconst (v := -1) hx hb d_R_write_91 (by decide) ?_
          refine mr_isN F w 11 0 (by decide) (fun _ => rfl) rfl f (by omega) (by decide) rfl d_R_write_92 (fun H locs w => ?_)
          exact mr_vret F w hr hlk (by subst e3_r e3_s e7_r e7_s e11_r e11_s e23; unfold qWr; rw [if_pos c8, if_neg c12, if_pos c19, if_pos c24]; try rfl) d_R_write_93
  · refine lv_aload_n hx hb d_R_write_33 rfl (lv_at hl 1 rfl) ?_
    refine lv_iload_n hx hb d_R_write_34 rfl (lv_at hl 2 rfl) ?_
    refine lv_iload_n hx hb d_R_write_35 rfl (lv_at hl 0 rfl) ?_
    refine mr_callVv (As := [.int (nI f), .int (nI 0)]) F w hl.1 (c_R_toSpare σ6 f 0 hf (by decide)) (cwV 2 hts g_R_write_36 rfl rfl rfl (by decide +kernel) ⟨Nat.le_of_ble_eq_true rfl, Nat.le_of_ble_eq_true rfl⟩) rfl (by decide) rfl rfl rfl (Nat.le_of_ble_eq_true rfl) d_R_write_36 ⟨Nat.zero_le _, Nat.zero_le _⟩ (fun σ26 H locs e27 w => ?_)
    replace e27 := Eq.symm e27
    refine lv_iinc (v := nI 1) (lv' := [(2, .int (nI 1)), (0, .ref (ad 0)), (1, .int (nI f))]) hx hb d_R_write_39 hl (k := 0) rfl (nI_add _ 1) (by decide) rfl (fun ls hl => ?_)
    refine lv_goto (tgt := 21) hx hb d_R_write_42 (by decide) ?_
    refine lv_iload_n hx hb d_R_write_21 rfl (lv_at hl 0 rfl) ?_
    refine lv_iconst (v := nI 2) hx hb d_R_write_22 (by decide) ?_
    refine nr_icmp_ge (tgt := 45) hx hb d_R_write_23 (by decide) (by omega) (by omega) (fun c28 => absurd c28 (by omega)) (fun _ => ?_)
    refine lv_aload_n hx hb d_R_write_26 rfl (lv_at hl 1 rfl) ?_
    refine mr_callVi (As := []) F w hl.1 (c_R_canWrite σ26) (cwV 0 hts g_R_write_27 rfl rfl rfl (by decide +kernel) ⟨Nat.le_of_ble_eq_true rfl, Nat.le_of_ble_eq_true rfl⟩) rfl (by decide) rfl rfl rfl (Nat.le_of_ble_eq_true rfl) d_R_write_27 ⟨Nat.zero_le _, Nat.zero_le _⟩ (fun r29 σ30 H locs e31 w => ?_)
    have e31_r := e31.1.symm
    have e31_s := e31.2.symm
    clear e31
    refine lv_if_eq (tgt := 45) hx hb d_R_write_30 (by decide) (fun c32 => ?_) (fun c32 => ?_)
    · refine lv_aload_n hx hb d_R_write_45 rfl (lv_at hl 1 rfl) ?_
      refine mr_callVi (As := []) F w hl.1 (c_R_canWrite σ30) (cwV 0 hts g_R_write_46 rfl rfl rfl (by decide +kernel) ⟨Nat.le_of_ble_eq_true rfl, Nat.le_of_ble_eq_true rfl⟩) rfl (by decide) rfl rfl rfl (Nat.le_of_ble_eq_true rfl) d_R_write_46 ⟨Nat.zero_le _, Nat.zero_le _⟩ (fun r33 σ34 H locs e35 w => ?_)
      have e35_r := e35.1.symm
      have e35_s := e35.2.symm
      clear e35
      refine lv_if_eq (tgt := 62) hx hb d_R_write_49 (by decide) (fun c36 => ?_) (fun c36 => ?_)
      · refine lv_aload_n hx hb d_R_write_62 rfl (lv_at hl 1 rfl) ?_
        refine mr_get F w (kin in_R) 0 (by decide) rfl rfl 21 (by decide) (kws_in m_549) (fun _ h => h) rfl d_R_write_63 ?_
        refine lv_if_ne (tgt := 79) hx hb d_R_write_66 (by decide) (fun c37 => ?_) (fun c37 => ?_)
        · refine lv_aload_n hx hb d_R_write_79 rfl (lv_at hl 1 rfl) ?_
          refine mr_get F w (kin in_R) 0 (by decide) rfl rfl 21 (by decide) (kws_in m_549) (fun _ h => h) rfl d_R_write_80 ?_
          refine lv_if_ne (tgt := 93) hx hb d_R_write_83 (by decide) (fun c38 => ?_) (fun c38 => ?_)
          · exact mr_vret F w hr hlk (by subst e3_r e3_s e7_r e7_s e27 e31_r e31_s e35_r e35_s; unfold qWr; rw [if_neg c8, if_pos c32, if_pos c36, if_neg c37, if_neg c38]; try rfl) d_R_write_93
          · refine lv_aload_n hx hb d_R_write_86 rfl (lv_at hl 1 rfl) ?_
            refine mr_get F w (kin in_R) 0 (by decide) rfl rfl 16 (by decide) (kws_in m_544) (fun _ h => h) rfl d_R_write_87 ?_
            refine lv_iload_n hx hb d_R_write_90 rfl (lv_at hl 2 rfl) ?_
            refine lv_iconst (v := -1) hx hb d_R_write_91 (by decide) ?_
            refine mr_isN F w 11 0 (by decide) (fun _ => rfl) rfl f (by omega) (by decide) rfl d_R_write_92 (fun H locs w => ?_)
            exact mr_vret F w hr hlk (by subst e3_r e3_s e7_r e7_s e27 e31_r e31_s e35_r e35_s; unfold qWr; rw [if_neg c8, if_pos c32, if_pos c36, if_neg c37, if_pos c38]; try rfl) d_R_write_93
        · refine lv_aload_n hx hb d_R_write_69 rfl (lv_at hl 1 rfl) ?_
          refine lv_aload_n hx hb d_R_write_70 rfl (lv_at hl 1 rfl) ?_
          refine mr_get F w (kin in_R) 0 (by decide) rfl rfl 13 (by decide) (kws_in m_541) (fun _ h => h) rfl d_R_write_71 ?_
          refine lv_iload_n hx hb d_R_write_74 rfl (lv_at hl 2 rfl) ?_
          refine mr_iaN F w 8 0 (by decide) rfl rfl f (by omega) (by decide) rfl d_R_write_75 ?_
          refine nr_as (k := (σ 8 f).toNatClampNeg) (by subst e3_r e3_s e7_r e7_s e27 e31_r e31_s e35_r e35_s; have h9 := (okk_tr (okk_tr (okk_tr (okk_tr (okk_tr (okk_rf σ) (okk_FT _ _)) (okk_CW _)) (okk_TS _ _ _ _)) (okk_CW _)) (okk_CW _)) c37; rw [h9.2 8 (by decide)]; exact hp.2) ?_
          refine mr_callVv (As := [.int (nI ((σ 8 f).toNatClampNeg))]) F w hl.1 (c_R_writeOwn σ34 ((σ 8 f).toNatClampNeg) hp.1) (cwV 1 hts g_R_write_76 rfl rfl rfl (by decide +kernel) ⟨Nat.le_of_ble_eq_true rfl, Nat.le_of_ble_eq_true rfl⟩) rfl (by decide) rfl rfl rfl (Nat.le_of_ble_eq_true rfl) d_R_write_76 ⟨Nat.zero_le _, Nat.zero_le _⟩ (fun σ40 H locs e41 w => ?_)
          replace e41 := Eq.symm e41
          refine lv_aload_n hx hb d_R_write_79 rfl (lv_at hl 1 rfl) ?_
          refine mr_get F w (kin in_R) 0 (by decide) rfl rfl 21 (by decide) (kws_in m_549) (fun _ h => h) rfl d_R_write_80 ?_
          refine lv_if_ne (tgt := 93) hx hb d_R_write_83 (by decide) (fun c42 => ?_) (fun c42 => ?_)
          · exact mr_vret F w hr hlk (by subst e3_r e3_s e7_r e7_s e27 e31_r e31_s e35_r e35_s e41; unfold qWr; rw [if_neg c8, if_pos c32, if_pos c36, if_pos c37, if_neg c42]; try rfl) d_R_write_93
          · refine lv_aload_n hx hb d_R_write_86 rfl (lv_at hl 1 rfl) ?_
            refine mr_get F w (kin in_R) 0 (by decide) rfl rfl 16 (by decide) (kws_in m_544) (fun _ h => h) rfl d_R_write_87 ?_
            refine lv_iload_n hx hb d_R_write_90 rfl (lv_at hl 2 rfl) ?_
            refine lv_iconst (v := -1) hx hb d_R_write_91 (by decide) ?_
            refine mr_isN F w 11 0 (by decide) (fun _ => rfl) rfl f (by omega) (by decide) rfl d_R_write_92 (fun H locs w => ?_)
            exact mr_vret F w hr hlk (by subst e3_r e3_s e7_r e7_s e27 e31_r e31_s e35_r e35_s e41; unfold qWr; rw [if_neg c8, if_pos c32, if_pos c36, if_pos c37, if_pos c42]; try rfl) d_R_write_93
      · refine lv_aload_n hx hb d_R_write_52 rfl (lv_at hl 1 rfl) ?_
        refine lv_aload_n hx hb d_R_write_53 rfl (lv_at hl 1 rfl) ?_
        refine mr_get F w (kin in_R) 0 (by decide) rfl rfl 13 (by decide) (kws_in m_541) (fun _ h => h) rfl d_R_write_54 ?_
        refine lv_iload_n hx hb d_R_write_57 rfl (lv_at hl 2 rfl) ?_
        refine mr_iaN F w 8 0 (by decide) rfl rfl f (by omega) (by decide) rfl d_R_write_58 ?_
        refine mr_put F w (kin in_R) t_R t_R_ok n_R 0 (by decide) rfl rfl 3 (by decide) (kws_in m_531) (fun _ h => h) rfl rfl rfl (Nat.le_of_ble_eq_true rfl) rfl d_R_write_59 (fun H locs w => ?_)
        refine lv_aload_n hx hb d_R_write_62 rfl (lv_at hl 1 rfl) ?_
        refine mr_get F w (kin in_R) 0 (by decide) rfl rfl 21 (by decide) (kws_in m_549) (fun _ h => h) rfl d_R_write_63 ?_
        refine lv_if_ne (tgt := 79) hx hb d_R_write_66 (by decide) (fun c43 => ?_) (fun c43 => ?_)
        · refine lv_aload_n hx hb d_R_write_79 rfl (lv_at hl 1 rfl) ?_
          refine mr_get F w (kin in_R) 0 (by decide) rfl rfl 21 (by decide) (kws_in m_549) (fun _ h => h) rfl d_R_write_80 ?_
          refine lv_if_ne (tgt := 93) hx hb d_R_write_83 (by decide) (fun c44 => ?_) (fun c44 => ?_)
          · exact mr_vret F w hr hlk (by subst e3_r e3_s e7_r e7_s e27 e31_r e31_s e35_r e35_s; unfold qWr; rw [if_neg c8, if_pos c32, if_neg c36, if_neg c43, if_neg c44]; try rfl) d_R_write_93
          · refine lv_aload_n hx hb d_R_write_86 rfl (lv_at hl 1 rfl) ?_
            refine mr_get F w (kin in_R) 0 (by decide) rfl rfl 16 (by decide) (kws_in m_544) (fun _ h => h) rfl d_R_write_87 ?_
            refine lv_iload_n hx hb d_R_write_90 rfl (lv_at hl 2 rfl) ?_
            refine lv_iconst (v := -1) hx hb d_R_write_91 (by decide) ?_
            refine mr_isN F w 11 0 (by decide) (fun _ => rfl) rfl f (by omega) (by decide) rfl d_R_write_92 (fun H locs w => ?_)
            exact mr_vret F w hr hlk (by subst e3_r e3_s e7_r e7_s e27 e31_r e31_s e35_r e35_s; unfold qWr; rw [if_neg c8, if_pos c32, if_neg c36, if_neg c43, if_pos c44]; try rfl) d_R_write_93
        · refine lv_aload_n hx hb d_R_write_69 rfl (lv_at hl 1 rfl) ?_
          refine lv_aload_n hx hb d_R_write_70 rfl (lv_at hl 1 rfl) ?_
          refine mr_get F w (kin in_R) 0 (by decide) rfl rfl 13 (by decide) (kws_in m_541) (fun _ h => h) rfl d_R_write_71 ?_
          refine lv_iload_n hx hb d_R_write_74 rfl (lv_at hl 2 rfl) ?_
          refine mr_iaN F w 8 0 (by decide) rfl rfl f (by omega) (by decide) rfl d_R_write_75 ?_
          refine nr_as (k := (σ 8 f).toNatClampNeg) (by subst e3_r e3_s e7_r e7_s e27 e31_r e31_s e35_r e35_s; have h9 := (okk_tr (okk_tr (okk_tr (okk_tr (okk_tr (okk_tr (okk_rf σ) (okk_FT _ _)) (okk_CW _)) (okk_TS _ _ _ _)) (okk_CW _)) (okk_CW _)) (okk_m0 _ _ (by decide))) c43; rw [h9.2 8 (by decide)]; exact hp.2) ?_
          refine mr_callVv (As := [.int (nI ((σ 8 f).toNatClampNeg))]) F w hl.1 (c_R_writeOwn (mup σ34 0 3 (σ34 8 f)) ((σ 8 f).toNatClampNeg) hp.1) (cwV 1 hts g_R_write_76 rfl rfl rfl (by decide +kernel) ⟨Nat.le_of_ble_eq_true rfl, Nat.le_of_ble_eq_true rfl⟩) rfl (by decide) rfl rfl rfl (Nat.le_of_ble_eq_true rfl) d_R_write_76 ⟨Nat.zero_le _, Nat.zero_le _⟩ (fun σ46 H locs e47 w => ?_)
          replace e47 := Eq.symm e47
          refine lv_aload_n hx hb d_R_write_79 rfl (lv_at hl 1 rfl) ?_
          refine mr_get F w (kin in_R) 0 (by decide) rfl rfl 21 (by decide) (kws_in m_549) (fun _ h => h) rfl d_R_write_80 ?_
          refine lv_if_ne (tgt := 93) hx hb d_R_write_83 (by decide) (fun c48 => ?_) (fun c48 => ?_)
          · exact mr_vret F w hr hlk (by subst e3_r e3_s e7_r e7_s e27 e31_r e31_s e35_r e35_s e47; unfold qWr; rw [if_neg c8, if_pos c32, if_neg c36, if_pos c43, if_neg c48]; try rfl) d_R_write_93
          · refine lv_aload_n hx hb d_R_write_86 rfl (lv_at hl 1 rfl) ?_
            refine mr_get F w (kin in_R) 0 (by decide) rfl rfl 16 (by decide) (kws_in m_544) (fun _ h => h) rfl d_R_write_87 ?_
            refine lv_iload_n hx hb d_R_write_90 rfl (lv_at hl 2 rfl) ?_
            refine lv_iconst (v := -1) hx hb d_R_write_91 (by decide) ?_
            refine mr_isN F w 11 0 (by decide) (fun _ => rfl) rfl f (by omega) (by decide) rfl d_R_write_92 (fun H locs w => ?_)
            exact mr_vret F w hr hlk (by subst e3_r e3_s e7_r e7_s e27 e31_r e31_s e35_r e35_s e47; unfold qWr; rw [if_neg c8, if_pos c32, if_neg c36, if_pos c43, if_pos c48]; try rfl) d_R_write_93
    · refine lv_aload_n hx hb d_R_write_33 rfl (lv_at hl 1 rfl) ?_
      refine lv_iload_n hx hb d_R_write_34 rfl (lv_at hl 2 rfl) ?_
      refine lv_iload_n hx hb d_R_write_35 rfl (lv_at hl 0 rfl) ?_
      refine mr_callVv (As := [.int (nI f), .int (nI 1)]) F w hl.1 (c_R_toSpare σ30 f 1 hf (by decide)) (cwV 2 hts g_R_write_36 rfl rfl rfl (by decide +kernel) ⟨Nat.le_of_ble_eq_true rfl, Nat.le_of_ble_eq_true rfl⟩) rfl (by decide) rfl rfl rfl (Nat.le_of_ble_eq_true rfl) d_R_write_36 ⟨Nat.zero_le _, Nat.zero_le _⟩ (fun σ50 H locs e51 w => ?_)
      replace e51 := Eq.symm e51
      refine lv_iinc (v := nI 2) (lv' := [(2, .int (nI 2)), (0, .ref (ad 0)), (1, .int (nI f))]) hx hb d_R_write_39 hl (k := 0) rfl (nI_add _ 1) (by decide) rfl (fun ls hl => ?_)
      refine lv_goto (tgt := 21) hx hb d_R_write_42 (by decide) ?_
      refine lv_iload_n hx hb d_R_write_21 rfl (lv_at hl 0 rfl) ?_
      refine lv_iconst (v := nI 2) hx hb d_R_write_22 (by decide) ?_
      refine nr_icmp_ge (tgt := 45) hx hb d_R_write_23 (by decide) (by omega) (by omega) (fun _ => ?_) (fun c52 => absurd c52 (by omega))
      refine lv_aload_n hx hb d_R_write_45 rfl (lv_at hl 1 rfl) ?_
      refine mr_callVi (As := []) F w hl.1 (c_R_canWrite σ50) (cwV 0 hts g_R_write_46 rfl rfl rfl (by decide +kernel) ⟨Nat.le_of_ble_eq_true rfl, Nat.le_of_ble_eq_true rfl⟩) rfl (by decide) rfl rfl rfl (Nat.le_of_ble_eq_true rfl) d_R_write_46 ⟨Nat.zero_le _, Nat.zero_le _⟩ (fun r53 σ54 H locs e55 w => ?_)
      have e55_r := e55.1.symm
      have e55_s := e55.2.symm
      clear e55
      refine lv_if_eq (tgt := 62) hx hb d_R_write_49 (by decide) (fun c56 => ?_) (fun c56 => ?_)
      · refine lv_aload_n hx hb d_R_write_62 rfl (lv_at hl 1 rfl) ?_
        refine mr_get F w (kin in_R) 0 (by decide) rfl rfl 21 (by decide) (kws_in m_549) (fun _ h => h) rfl d_R_write_63 ?_
        refine lv_if_ne (tgt := 79) hx hb d_R_write_66 (by decide) (fun c57 => ?_) (fun c57 => ?_)
        · refine lv_aload_n hx hb d_R_write_79 rfl (lv_at hl 1 rfl) ?_
          refine mr_get F w (kin in_R) 0 (by decide) rfl rfl 21 (by decide) (kws_in m_549) (fun _ h => h) rfl d_R_write_80 ?_
          refine lv_if_ne (tgt := 93) hx hb d_R_write_83 (by decide) (fun c58 => ?_) (fun c58 => ?_)
          · exact mr_vret F w hr hlk (by subst e3_r e3_s e7_r e7_s e27 e31_r e31_s e51 e55_r e55_s; unfold qWr; rw [if_neg c8, if_neg c32, if_pos c56, if_neg c57, if_neg c58]; try rfl) d_R_write_93
          · refine lv_aload_n hx hb d_R_write_86 rfl (lv_at hl 1 rfl) ?_
            refine mr_get F w (kin in_R) 0 (by decide) rfl rfl 16 (by decide) (kws_in m_544) (fun _ h => h) rfl d_R_write_87 ?_
            refine lv_iload_n hx hb d_R_write_90 rfl (lv_at hl 2 rfl) ?_
            refine lv_iconst (v := -1) hx hb d_R_write_91 (by decide) ?_
            refine mr_isN F w 11 0 (by decide) (fun _ => rfl) rfl f (by omega) (by decide) rfl d_R_write_92 (fun H locs w => ?_)
            exact mr_vret F w hr hlk (by subst e3_r e3_s e7_r e7_s e27 e31_r e31_s e51 e55_r e55_s; unfold qWr; rw [if_neg c8, if_neg c32, if_pos c56, if_neg c57, if_pos c58]; try rfl) d_R_write_93
        · refine lv_aload_n hx hb d_R_write_69 rfl (lv_at hl 1 rfl) ?_
          refine lv_aload_n hx hb d_R_write_70 rfl (lv_at hl 1 rfl) ?_
          refine mr_get F w (kin in_R) 0 (by decide) rfl rfl 13 (by decide) (kws_in m_541) (fun _ h => h) rfl d_R_write_71 ?_
          refine lv_iload_n hx hb d_R_write_74 rfl (lv_at hl 2 rfl) ?_
          refine mr_iaN F w 8 0 (by decide) rfl rfl f (by omega) (by decide) rfl d_R_write_75 ?_
          refine nr_as (k := (σ 8 f).toNatClampNeg) (by subst e3_r e3_s e7_r e7_s e27 e31_r e31_s e51 e55_r e55_s; have h9 := (okk_tr (okk_tr (okk_tr (okk_tr (okk_tr (okk_tr (okk_rf σ) (okk_FT _ _)) (okk_CW _)) (okk_TS _ _ _ _)) (okk_CW _)) (okk_TS _ _ _ _)) (okk_CW _)) c57; rw [h9.2 8 (by decide)]; exact hp.2) ?_
          refine mr_callVv (As := [.int (nI ((σ 8 f).toNatClampNeg))]) F w hl.1 (c_R_writeOwn σ54 ((σ 8 f).toNatClampNeg) hp.1) (cwV 1 hts g_R_write_76 rfl rfl rfl (by decide +kernel) ⟨Nat.le_of_ble_eq_true rfl, Nat.le_of_ble_eq_true rfl⟩) rfl (by decide) rfl rfl rfl (Nat.le_of_ble_eq_true rfl) d_R_write_76 ⟨Nat.zero_le _, Nat.zero_le _⟩ (fun σ60 H locs e61 w => ?_)
          replace e61 := Eq.symm e61
          refine lv_aload_n hx hb d_R_write_79 rfl (lv_at hl 1 rfl) ?_
          refine mr_get F w (kin in_R) 0 (by decide) rfl rfl 21 (by decide) (kws_in m_549) (fun _ h => h) rfl d_R_write_80 ?_
          refine lv_if_ne (tgt := 93) hx hb d_R_write_83 (by decide) (fun c62 => ?_) (fun c62 => ?_)
          · exact mr_vret F w hr hlk (by subst e3_r e3_s e7_r e7_s e27 e31_r e31_s e51 e55_r e55_s e61; unfold qWr; rw [if_neg c8, if_neg c32, if_pos c56, if_pos c57, if_neg c62]; try rfl) d_R_write_93
          · refine lv_aload_n hx hb d_R_write_86 rfl (lv_at hl 1 rfl) ?_
            refine mr_get F w (kin in_R) 0 (by decide) rfl rfl 16 (by decide) (kws_in m_544) (fun _ h => h) rfl d_R_write_87 ?_
            refine lv_iload_n hx hb d_R_write_90 rfl (lv_at hl 2 rfl) ?_
            refine lv_iconst (v := -1) hx hb d_R_write_91 (by decide) ?_
            refine mr_isN F w 11 0 (by decide) (fun _ => rfl) rfl f (by omega) (by decide) rfl d_R_write_92 (fun H locs w => ?_)
            exact mr_vret F w hr hlk (by subst e3_r e3_s e7_r e7_s e27 e31_r e31_s e51 e55_r e55_s e61; unfold qWr; rw [if_neg c8, if_neg c32, if_pos c56, if_pos c57, if_pos c62]; try rfl) d_R_write_93
      · refine lv_aload_n hx hb d_R_write_52 rfl (lv_at hl 1 rfl) ?_
        refine lv_aload_n hx hb d_R_write_53 rfl (lv_at hl 1 rfl) ?_
        refine mr_get F w (kin in_R) 0 (by decide) rfl rfl 13 (by decide) (kws_in m_541) (fun _ h => h) rfl d_R_write_54 ?_
        refine lv_iload_n hx hb d_R_write_57 rfl (lv_at hl 2 rfl) ?_
        refine mr_iaN F w 8 0 (by decide) rfl rfl f (by omega) (by decide) rfl d_R_write_58 ?_
        refine mr_put F w (kin in_R) t_R t_R_ok n_R 0 (by decide) rfl rfl 3 (by decide) (kws_in m_531) (fun _ h => h) rfl rfl rfl (Nat.le_of_ble_eq_true rfl) rfl d_R_write_59 (fun H locs w => ?_)
        refine lv_aload_n hx hb d_R_write_62 rfl (lv_at hl 1 rfl) ?_
        refine mr_get F w (kin in_R) 0 (by decide) rfl rfl 21 (by decide) (kws_in m_549) (fun _ h => h) rfl d_R_write_63 ?_
        refine lv_if_ne (tgt := 79) hx hb d_R_write_66 (by decide) (fun c63 => ?_) (fun c63 => ?_)
        · refine lv_aload_n hx hb d_R_write_79 rfl (lv_at hl 1 rfl) ?_
          refine mr_get F w (kin in_R) 0 (by decide) rfl rfl 21 (by decide) (kws_in m_549) (fun _ h => h) rfl d_R_write_80 ?_
          refine lv_if_ne (tgt := 93) hx hb d_R_write_83 (by decide) (fun c64 => ?_) (fun c64 => ?_)
          · exact mr_vret F w hr hlk (by subst e3_r e3_s e7_r e7_s e27 e31_r e31_s e51 e55_r e55_s; unfold qWr; rw [if_neg c8, if_neg c32, if_neg c56, if_neg c63, if_neg c64]; try rfl) d_R_write_93
          · refine lv_aload_n hx hb d_R_write_86 rfl (lv_at hl 1 rfl) ?_
            refine mr_get F w (kin in_R) 0 (by decide) rfl rfl 16 (by decide) (kws_in m_544) (fun _ h => h) rfl d_R_write_87 ?_
            refine lv_iload_n hx hb d_R_write_90 rfl (lv_at hl 2 rfl) ?_
            refine lv_iconst (v := -1) hx hb d_R_write_91 (by decide) ?_
            refine mr_isN F w 11 0 (by decide) (fun _ => rfl) rfl f (by omega) (by decide) rfl d_R_write_92 (fun H locs w => ?_)
            exact mr_vret F w hr hlk (by subst e3_r e3_s e7_r e7_s e27 e31_r e31_s e51 e55_r e55_s; unfold qWr; rw [if_neg c8, if_neg c32, if_neg c56, if_neg c63, if_pos c64]; try rfl) d_R_write_93
        · refine lv_aload_n hx hb d_R_write_69 rfl (lv_at hl 1 rfl) ?_
          refine lv_aload_n hx hb d_R_write_70 rfl (lv_at hl 1 rfl) ?_
          refine mr_get F w (kin in_R) 0 (by decide) rfl rfl 13 (by decide) (kws_in m_541) (fun _ h => h) rfl d_R_write_71 ?_
          refine lv_iload_n hx hb d_R_write_74 rfl (lv_at hl 2 rfl) ?_
          refine mr_iaN F w 8 0 (by decide) rfl rfl f (by omega) (by decide) rfl d_R_write_75 ?_
          refine nr_as (k := (σ 8 f).toNatClampNeg) (by subst e3_r e3_s e7_r e7_s e27 e31_r e31_s e51 e55_r e55_s; have h9 := (okk_tr (okk_tr (okk_tr (okk_tr (okk_tr (okk_tr (okk_tr (okk_rf σ) (okk_FT _ _)) (okk_CW _)) (okk_TS _ _ _ _)) (okk_CW _)) (okk_TS _ _ _ _)) (okk_CW _)) (okk_m0 _ _ (by decide))) c63; rw [h9.2 8 (by decide)]; exact hp.2) ?_
          refine mr_callVv (As := [.int (nI ((σ 8 f).toNatClampNeg))]) F w hl.1 (c_R_writeOwn (mup σ54 0 3 (σ54 8 f)) ((σ 8 f).toNatClampNeg) hp.1) (cwV 1 hts g_R_write_76 rfl rfl rfl (by decide +kernel) ⟨Nat.le_of_ble_eq_true rfl, Nat.le_of_ble_eq_true rfl⟩) rfl (by decide) rfl rfl rfl (Nat.le_of_ble_eq_true rfl) d_R_write_76 ⟨Nat.zero_le _, Nat.zero_le _⟩ (fun σ66 H locs e67 w => ?_)
          replace e67 := Eq.symm e67
          refine lv_aload_n hx hb d_R_write_79 rfl (lv_at hl 1 rfl) ?_
          refine mr_get F w (kin in_R) 0 (by decide) rfl rfl 21 (by decide) (kws_in m_549) (fun _ h => h) rfl d_R_write_80 ?_
          refine lv_if_ne (tgt := 93) hx hb d_R_write_83 (by decide) (fun c68 => ?_) (fun c68 => ?_)
          · exact mr_vret F w hr hlk (by subst e3_r e3_s e7_r e7_s e27 e31_r e31_s e51 e55_r e55_s e67; unfold qWr; rw [if_neg c8, if_neg c32, if_neg c56, if_pos c63, if_neg c68]; try rfl) d_R_write_93
          · refine lv_aload_n hx hb d_R_write_86 rfl (lv_at hl 1 rfl) ?_
            refine mr_get F w (kin in_R) 0 (by decide) rfl rfl 16 (by decide) (kws_in m_544) (fun _ h => h) rfl d_R_write_87 ?_
            refine lv_iload_n hx hb d_R_write_90 rfl (lv_at hl 2 rfl) ?_
            refine lv_iconst (v := -1) hx hb d_R_write_91 (by decide) ?_
            refine mr_isN F w 11 0 (by decide) (fun _ => rfl) rfl f (by omega) (by decide) rfl d_R_write_92 (fun H locs w => ?_)
            exact mr_vret F w hr hlk (by subst e3_r e3_s e7_r e7_s e27 e31_r e31_s e51 e55_r e55_s e67; unfold qWr; rw [if_neg c8, if_neg c32, if_neg c56, if_pos c63, if_pos c68]; try rfl) d_R_write_93
end
