/-! The reference: rowOf, put, frameWith, kth, changed, oldest, write -/
section
variable {l : Launch} {D : va_G} {cI cF cZ cJ : ClassId} {ad : Nat → Nat} {σ : Mem}
theorem d_R_rowOf_0 : decode b_R_rowOf 0 = .ok (.iload_n 0, 1) := by decide +kernel
theorem d_R_rowOf_1 : decode b_R_rowOf 1 = .ok (.bipush 8, 2) := by decide +kernel
theorem d_R_rowOf_3 : decode b_R_rowOf 3 = .ok (.idiv, 1) := by decide +kernel
theorem d_R_rowOf_4 : decode b_R_rowOf 4 = .ok (.sipush 8192, 3) := by decide +kernel
theorem d_R_rowOf_7 : decode b_R_rowOf 7 = .ok (.irem, 1) := by decide +kernel
theorem d_R_rowOf_8 : decode b_R_rowOf 8 = .ok (.ireturn, 1) := by decide +kernel
theorem d_R_put_0 : decode b_R_put 0 = .ok (.aload_n 0, 1) := by decide +kernel
theorem d_R_put_1 : decode b_R_put 1 = .ok (.getfield 36, 3) := by decide +kernel
theorem d_R_put_4 : decode b_R_put 4 = .ok (.bipush 64, 2) := by decide +kernel
theorem d_R_put_6 : decode b_R_put 6 = .ok (.iload_n 1, 1) := by decide +kernel
theorem d_R_put_7 : decode b_R_put 7 = .ok (.imul, 1) := by decide +kernel
theorem d_R_put_8 : decode b_R_put 8 = .ok (.iload_n 2, 1) := by decide +kernel
theorem d_R_put_9 : decode b_R_put 9 = .ok (.iadd, 1) := by decide +kernel
theorem d_R_put_10 : decode b_R_put 10 = .ok (.iload_n 3, 1) := by decide +kernel
theorem d_R_put_11 : decode b_R_put 11 = .ok (.iastore, 1) := by decide +kernel
theorem d_R_put_12 : decode b_R_put 12 = .ok (.aload_n 0, 1) := by decide +kernel
theorem d_R_put_13 : decode b_R_put 13 = .ok (.getfield 36, 3) := by decide +kernel
theorem d_R_put_16 : decode b_R_put 16 = .ok (.bipush 64, 2) := by decide +kernel
theorem d_R_put_18 : decode b_R_put 18 = .ok (.iload_n 1, 1) := by decide +kernel
theorem d_R_put_19 : decode b_R_put 19 = .ok (.imul, 1) := by decide +kernel
theorem d_R_put_20 : decode b_R_put 20 = .ok (.iload 4, 2) := by decide +kernel
theorem d_R_put_22 : decode b_R_put 22 = .ok (.iconst 1, 1) := by decide +kernel
theorem d_R_put_23 : decode b_R_put 23 = .ok (.iadd, 1) := by decide +kernel
theorem d_R_put_24 : decode b_R_put 24 = .ok (.iastore, 1) := by decide +kernel
theorem d_R_put_25 : decode b_R_put 25 = .ok (.aload_n 0, 1) := by decide +kernel
theorem d_R_put_26 : decode b_R_put 26 = .ok (.getfield 48, 3) := by decide +kernel
theorem d_R_put_29 : decode b_R_put 29 = .ok (.iload_n 1, 1) := by decide +kernel
theorem d_R_put_30 : decode b_R_put 30 = .ok (.aload_n 0, 1) := by decide +kernel
theorem d_R_put_31 : decode b_R_put 31 = .ok (.getfield 48, 3) := by decide +kernel
theorem d_R_put_34 : decode b_R_put 34 = .ok (.iload_n 1, 1) := by decide +kernel
theorem d_R_put_35 : decode b_R_put 35 = .ok (.iaload, 1) := by decide +kernel
theorem d_R_put_36 : decode b_R_put 36 = .ok (.ifCond .ge 8, 3) := by decide +kernel
theorem d_R_put_39 : decode b_R_put 39 = .ok (.iload 4, 2) := by decide +kernel
theorem d_R_put_41 : decode b_R_put 41 = .ok (.goto 9, 3) := by decide +kernel
theorem d_R_put_44 : decode b_R_put 44 = .ok (.aload_n 0, 1) := by decide +kernel
theorem d_R_put_45 : decode b_R_put 45 = .ok (.getfield 48, 3) := by decide +kernel
theorem d_R_put_48 : decode b_R_put 48 = .ok (.iload_n 1, 1) := by decide +kernel
theorem d_R_put_49 : decode b_R_put 49 = .ok (.iaload, 1) := by decide +kernel
theorem d_R_put_50 : decode b_R_put 50 = .ok (.iastore, 1) := by decide +kernel
theorem d_R_put_51 : decode b_R_put 51 = .ok (.return_, 1) := by decide +kernel
theorem d_R_frameWith_0 : decode b_R_frameWith 0 = .ok (.iconst (-1), 1) := by decide +kernel
theorem d_R_frameWith_1 : decode b_R_frameWith 1 = .ok (.istore_n 2, 1) := by decide +kernel
theorem d_R_frameWith_2 : decode b_R_frameWith 2 = .ok (.iconst 0, 1) := by decide +kernel
theorem d_R_frameWith_3 : decode b_R_frameWith 3 = .ok (.istore_n 3, 1) := by decide +kernel
theorem d_R_frameWith_4 : decode b_R_frameWith 4 = .ok (.iload_n 3, 1) := by decide +kernel
theorem d_R_frameWith_5 : decode b_R_frameWith 5 = .ok (.bipush 8, 2) := by decide +kernel
theorem d_R_frameWith_7 : decode b_R_frameWith 7 = .ok (.if_icmp .ge 25, 3) := by decide +kernel
theorem d_R_frameWith_10 : decode b_R_frameWith 10 = .ok (.aload_n 0, 1) := by decide +kernel
theorem d_R_frameWith_11 : decode b_R_frameWith 11 = .ok (.getfield 39, 3) := by decide +kernel
theorem d_R_frameWith_14 : decode b_R_frameWith 14 = .ok (.iload_n 3, 1) := by decide +kernel
theorem d_R_frameWith_15 : decode b_R_frameWith 15 = .ok (.iaload, 1) := by decide +kernel
theorem d_R_frameWith_16 : decode b_R_frameWith 16 = .ok (.iload_n 1, 1) := by decide +kernel
theorem d_R_frameWith_17 : decode b_R_frameWith 17 = .ok (.if_icmp .ne 7, 3) := by decide +kernel
theorem d_R_frameWith_20 : decode b_R_frameWith 20 = .ok (.iload_n 3, 1) := by decide +kernel
theorem d_R_frameWith_21 : decode b_R_frameWith 21 = .ok (.goto 4, 3) := by decide +kernel
theorem d_R_frameWith_24 : decode b_R_frameWith 24 = .ok (.iload_n 2, 1) := by decide +kernel
theorem d_R_frameWith_25 : decode b_R_frameWith 25 = .ok (.istore_n 2, 1) := by decide +kernel
theorem d_R_frameWith_26 : decode b_R_frameWith 26 = .ok (.iinc 3 1, 3) := by decide +kernel
theorem d_R_frameWith_29 : decode b_R_frameWith 29 = .ok (.goto (-25), 3) := by decide +kernel
theorem d_R_frameWith_32 : decode b_R_frameWith 32 = .ok (.iload_n 2, 1) := by decide +kernel
theorem d_R_frameWith_33 : decode b_R_frameWith 33 = .ok (.ireturn, 1) := by decide +kernel
theorem d_R_changed_0 : decode b_R_changed 0 = .ok (.aload_n 0, 1) := by decide +kernel
theorem d_R_changed_1 : decode b_R_changed 1 = .ok (.iconst 0, 1) := by decide +kernel
theorem d_R_changed_2 : decode b_R_changed 2 = .ok (.putfield 57, 3) := by decide +kernel
theorem d_R_changed_5 : decode b_R_changed 5 = .ok (.iconst 0, 1) := by decide +kernel
theorem d_R_changed_6 : decode b_R_changed 6 = .ok (.istore_n 1, 1) := by decide +kernel
theorem d_R_changed_7 : decode b_R_changed 7 = .ok (.iconst 0, 1) := by decide +kernel
theorem d_R_changed_8 : decode b_R_changed 8 = .ok (.istore_n 2, 1) := by decide +kernel
theorem d_R_changed_9 : decode b_R_changed 9 = .ok (.iload_n 2, 1) := by decide +kernel
theorem d_R_changed_10 : decode b_R_changed 10 = .ok (.bipush 8, 2) := by decide +kernel
theorem d_R_changed_12 : decode b_R_changed 12 = .ok (.if_icmp .ge 26, 3) := by decide +kernel
theorem d_R_changed_15 : decode b_R_changed 15 = .ok (.aload_n 0, 1) := by decide +kernel
theorem d_R_changed_16 : decode b_R_changed 16 = .ok (.getfield 48, 3) := by decide +kernel
theorem d_R_changed_19 : decode b_R_changed 19 = .ok (.iload_n 2, 1) := by decide +kernel
theorem d_R_changed_20 : decode b_R_changed 20 = .ok (.iaload, 1) := by decide +kernel
theorem d_R_changed_21 : decode b_R_changed 21 = .ok (.ifCond .lt 9, 3) := by decide +kernel
theorem d_R_changed_24 : decode b_R_changed 24 = .ok (.iload_n 1, 1) := by decide +kernel
theorem d_R_changed_25 : decode b_R_changed 25 = .ok (.iconst 1, 1) := by decide +kernel
theorem d_R_changed_26 : decode b_R_changed 26 = .ok (.iadd, 1) := by decide +kernel
theorem d_R_changed_27 : decode b_R_changed 27 = .ok (.goto 4, 3) := by decide +kernel
theorem d_R_changed_30 : decode b_R_changed 30 = .ok (.iload_n 1, 1) := by decide +kernel
theorem d_R_changed_31 : decode b_R_changed 31 = .ok (.istore_n 1, 1) := by decide +kernel
theorem d_R_changed_32 : decode b_R_changed 32 = .ok (.iinc 2 1, 3) := by decide +kernel
theorem d_R_changed_35 : decode b_R_changed 35 = .ok (.goto (-26), 3) := by decide +kernel
theorem d_R_changed_38 : decode b_R_changed 38 = .ok (.iload_n 1, 1) := by decide +kernel
theorem d_R_changed_39 : decode b_R_changed 39 = .ok (.ireturn, 1) := by decide +kernel
theorem d_R_kth_0 : decode b_R_kth 0 = .ok (.iconst (-1), 1) := by decide +kernel
theorem d_R_kth_1 : decode b_R_kth 1 = .ok (.istore_n 2, 1) := by decide +kernel
theorem d_R_kth_2 : decode b_R_kth 2 = .ok (.iconst 0, 1) := by decide +kernel
theorem d_R_kth_3 : decode b_R_kth 3 = .ok (.istore_n 3, 1) := by decide +kernel
theorem d_R_kth_4 : decode b_R_kth 4 = .ok (.iload_n 3, 1) := by decide +kernel
theorem d_R_kth_5 : decode b_R_kth 5 = .ok (.bipush 8, 2) := by decide +kernel
theorem d_R_kth_7 : decode b_R_kth 7 = .ok (.if_icmp .ge 86, 3) := by decide +kernel
theorem d_R_kth_10 : decode b_R_kth 10 = .ok (.iconst 0, 1) := by decide +kernel
theorem d_R_kth_11 : decode b_R_kth 11 = .ok (.istore 4, 2) := by decide +kernel
theorem d_R_kth_13 : decode b_R_kth 13 = .ok (.iconst 0, 1) := by decide +kernel
theorem d_R_kth_14 : decode b_R_kth 14 = .ok (.istore 5, 2) := by decide +kernel
theorem d_R_kth_16 : decode b_R_kth 16 = .ok (.iload 5, 2) := by decide +kernel
theorem d_R_kth_18 : decode b_R_kth 18 = .ok (.bipush 8, 2) := by decide +kernel
theorem d_R_kth_20 : decode b_R_kth 20 = .ok (.if_icmp .ge 46, 3) := by decide +kernel
theorem d_R_kth_23 : decode b_R_kth 23 = .ok (.aload_n 0, 1) := by decide +kernel
theorem d_R_kth_24 : decode b_R_kth 24 = .ok (.getfield 48, 3) := by decide +kernel
theorem d_R_kth_27 : decode b_R_kth 27 = .ok (.iload 5, 2) := by decide +kernel
theorem d_R_kth_29 : decode b_R_kth 29 = .ok (.iaload, 1) := by decide +kernel
theorem d_R_kth_30 : decode b_R_kth 30 = .ok (.ifCond .lt 26, 3) := by decide +kernel
theorem d_R_kth_33 : decode b_R_kth 33 = .ok (.aload_n 0, 1) := by decide +kernel
theorem d_R_kth_34 : decode b_R_kth 34 = .ok (.getfield 48, 3) := by decide +kernel
theorem d_R_kth_37 : decode b_R_kth 37 = .ok (.iload 5, 2) := by decide +kernel
theorem d_R_kth_39 : decode b_R_kth 39 = .ok (.iaload, 1) := by decide +kernel
theorem d_R_kth_40 : decode b_R_kth 40 = .ok (.aload_n 0, 1) := by decide +kernel
theorem d_R_kth_41 : decode b_R_kth 41 = .ok (.getfield 48, 3) := by decide +kernel
theorem d_R_kth_44 : decode b_R_kth 44 = .ok (.iload_n 3, 1) := by decide +kernel
theorem d_R_kth_45 : decode b_R_kth 45 = .ok (.iaload, 1) := by decide +kernel
theorem d_R_kth_46 : decode b_R_kth 46 = .ok (.if_icmp .ge 10, 3) := by decide +kernel
theorem d_R_kth_49 : decode b_R_kth 49 = .ok (.iload 4, 2) := by decide +kernel
theorem d_R_kth_51 : decode b_R_kth 51 = .ok (.iconst 1, 1) := by decide +kernel
theorem d_R_kth_52 : decode b_R_kth 52 = .ok (.iadd, 1) := by decide +kernel
theorem d_R_kth_53 : decode b_R_kth 53 = .ok (.goto 5, 3) := by decide +kernel
theorem d_R_kth_56 : decode b_R_kth 56 = .ok (.iload 4, 2) := by decide +kernel
theorem d_R_kth_58 : decode b_R_kth 58 = .ok (.istore 4, 2) := by decide +kernel
theorem d_R_kth_60 : decode b_R_kth 60 = .ok (.iinc 5 1, 3) := by decide +kernel
theorem d_R_kth_63 : decode b_R_kth 63 = .ok (.goto (-47), 3) := by decide +kernel
theorem d_R_kth_66 : decode b_R_kth 66 = .ok (.aload_n 0, 1) := by decide +kernel
theorem d_R_kth_67 : decode b_R_kth 67 = .ok (.getfield 48, 3) := by decide +kernel
theorem d_R_kth_70 : decode b_R_kth 70 = .ok (.iload_n 3, 1) := by decide +kernel
theorem d_R_kth_71 : decode b_R_kth 71 = .ok (.iaload, 1) := by decide +kernel
theorem d_R_kth_72 : decode b_R_kth 72 = .ok (.ifCond .lt 13, 3) := by decide +kernel
theorem d_R_kth_75 : decode b_R_kth 75 = .ok (.iload 4, 2) := by decide +kernel
theorem d_R_kth_77 : decode b_R_kth 77 = .ok (.iload_n 1, 1) := by decide +kernel
theorem d_R_kth_78 : decode b_R_kth 78 = .ok (.if_icmp .ne 7, 3) := by decide +kernel
theorem d_R_kth_81 : decode b_R_kth 81 = .ok (.iload_n 3, 1) := by decide +kernel
theorem d_R_kth_82 : decode b_R_kth 82 = .ok (.goto 4, 3) := by decide +kernel
theorem d_R_kth_85 : decode b_R_kth 85 = .ok (.iload_n 2, 1) := by decide +kernel
theorem d_R_kth_86 : decode b_R_kth 86 = .ok (.istore_n 2, 1) := by decide +kernel
theorem d_R_kth_87 : decode b_R_kth 87 = .ok (.iinc 3 1, 3) := by decide +kernel
theorem d_R_kth_90 : decode b_R_kth 90 = .ok (.goto (-86), 3) := by decide +kernel
theorem d_R_kth_93 : decode b_R_kth 93 = .ok (.iload_n 2, 1) := by decide +kernel
theorem d_R_kth_94 : decode b_R_kth 94 = .ok (.ireturn, 1) := by decide +kernel
def qRow (σ : Mem) (n : Nat) : Int32 × Mem :=
  (nI ((n / 8) % 8192), σ)
set_option maxHeartbeats 4000000 in
set_option maxRecDepth 100000 in
theorem c_R_rowOf (σ : Mem) (n : Nat) (hn : n < 2 ^ 31) : KIR l D cI cF cZ cJ ad y_R_rowOf b_R_rowOf 1 (some .int) 0 0 [.int (nI n)] σ (fun r σ' => r = (qRow σ n).1 ∧ σ' = (qRow σ n).2) := by
  refine KI.of (by decide) (Nat.le_of_ble_eq_true rfl) ?_
  intro p e s m args below meth c A ls F w hl hr hlk
  obtain ⟨hx, hb, hml, hown, hts⟩ := id F
  have hl : lv_has ls 1 [(0, .int (nI n))] := hl
  refine lv_iload_n hx hb d_R_rowOf_0 rfl (lv_at hl 0 rfl) ?_
  refine lv_bipush (v := nI 8) hx hb d_R_rowOf_1 (by decide) ?_
  refine nr_idiv hx hb d_R_rowOf_3 (by omega) (by omega) (by omega) ?_
  refine lv_sipush (v := nI 8192) hx hb d_R_rowOf_4 (by decide) ?_
  refine nr_irem hx hb d_R_rowOf_7 (by omega) (by omega) (by omega) ?_
  exact mr_iret F w hr hlk (by unfold qRow; exact ⟨rfl, rfl⟩) d_R_rowOf_8
def qPut (σ : Mem) (f i : Nat) (v x : Int32) : Mem :=
  if 0 ≤ ((mup (mup σ 7 ((64 * f) + i) v) 7 (64 * f) (x + (nI 1))) 11 f) then (mup (mup (mup σ 7 ((64 * f) + i) v) 7 (64 * f) (x + (nI 1))) 11 f ((mup (mup σ 7 ((64 * f) + i) v) 7 (64 * f) (x + (nI 1))) 11 f))
  else (mup (mup (mup σ 7 ((64 * f) + i) v) 7 (64 * f) (x + (nI 1))) 11 f x)
set_option maxHeartbeats 4000000 in
set_option maxRecDepth 100000 in
theorem c_R_put (σ : Mem) (f i : Nat) (hf : f < 8) (hi : i < 64) (v x : Int32) : KVR l D cI cF cZ cJ ad y_R_put b_R_put 5 0 0 [.ref (ad 0), .int (nI f), .int (nI i), .int v, .int x] σ (fun σ' => σ' = qPut σ f i v x) := by
  refine KV.of (by decide) (Nat.le_of_ble_eq_true rfl) ?_
  intro p e s m args below meth c A ls F w hl hr hlk
  obtain ⟨hx, hb, hml, hown, hts⟩ := id F
  have hl : lv_has ls 5 [(0, .ref (ad 0)), (1, .int (nI f)), (2, .int (nI i)), (3, .int v), (4, .int x)] := hl
  refine lv_aload_n hx hb d_R_put_0 rfl (lv_at hl 0 rfl) ?_
  refine mr_get F w (kin in_R) 0 (by decide) rfl rfl 12 (by decide) (kws_in m_540) (fun _ h => h) rfl d_R_put_1 ?_
  refine lv_bipush (v := nI 64) hx hb d_R_put_4 (by decide) ?_
  refine lv_iload_n hx hb d_R_put_6 rfl (lv_at hl 1 rfl) ?_
  refine nr_imul hx hb d_R_put_7 ?_
  refine lv_iload_n hx hb d_R_put_8 rfl (lv_at hl 2 rfl) ?_
  refine nr_iadd hx hb d_R_put_9 ?_
  refine lv_iload_n hx hb d_R_put_10 rfl (lv_at hl 3 rfl) ?_
  refine mr_isN F w 7 0 (by decide) (fun _ => rfl) rfl ((64 * f) + i) (by omega) (by decide) rfl d_R_put_11 (fun H locs w => ?_)
  refine lv_aload_n hx hb d_R_put_12 rfl (lv_at hl 0 rfl) ?_
  refine mr_get F w (kin in_R) 0 (by decide) rfl rfl 12 (by decide) (kws_in m_540) (fun _ h => h) rfl d_R_put_13 ?_
  refine lv_bipush (v := nI 64) hx hb d_R_put_16 (by decide) ?_
  refine lv_iload_n hx hb d_R_put_18 rfl (lv_at hl 1 rfl) ?_
  refine nr_imul hx hb d_R_put_19 ?_
  refine lv_iload hx hb d_R_put_20 (lv_at hl 4 rfl) ?_
  refine lv_iconst (v := nI 1) hx hb d_R_put_22 (by decide) ?_
  refine lv_iadd hx hb d_R_put_23 ?_
  refine mr_isN F w 7 0 (by decide) (fun _ => rfl) rfl (64 * f) (by omega) (by decide) rfl d_R_put_24 (fun H locs w => ?_)
  refine lv_aload_n hx hb d_R_put_25 rfl (lv_at hl 0 rfl) ?_
  refine mr_get F w (kin in_R) 0 (by decide) rfl rfl 16 (by decide) (kws_in m_544) (fun _ h => h) rfl d_R_put_26 ?_
  refine lv_iload_n hx hb d_R_put_29 rfl (lv_at hl 1 rfl) ?_
  refine lv_aload_n hx hb d_R_put_30 rfl (lv_at hl 0 rfl) ?_
  refine mr_get F w (kin in_R) 0 (by decide) rfl rfl 16 (by decide) (kws_in m_544) (fun _ h => h) rfl d_R_put_31 ?_
  refine lv_iload_n hx hb d_R_put_34 rfl (lv_at hl 1 rfl) ?_
  refine mr_iaN F w 11 0 (by decide) rfl rfl f (by omega) (by decide) rfl d_R_put_35 ?_
  refine lv_if_ge (tgt := 44) hx hb d_R_put_36 (by decide) (fun c1 => ?_) (fun c1 => ?_)
  · refine lv_aload_n hx hb d_R_put_44 rfl (lv_at hl 0 rfl) ?_
    refine mr_get F w (kin in_R) 0 (by decide) rfl rfl 16 (by decide) (kws_in m_544) (fun _ h => h) rfl d_R_put_45 ?_
    refine lv_iload_n hx hb d_R_put_48 rfl (lv_at hl 1 rfl) ?_
    refine mr_iaN F w 11 0 (by decide) rfl rfl f (by omega) (by decide) rfl d_R_put_49 ?_
    refine mr_isN F w 11 0 (by decide) (fun _ => rfl) rfl f (by omega) (by decide) rfl d_R_put_50 (fun H locs w => ?_)
    exact mr_vret F w hr hlk (by unfold qPut; rw [if_pos c1]; try rfl) d_R_put_51
  · refine lv_iload hx hb d_R_put_39 (lv_at hl 4 rfl) ?_
    refine lv_goto (tgt := 50) hx hb d_R_put_41 (by decide) ?_
    refine mr_isN F w 11 0 (by decide) (fun _ => rfl) rfl f (by omega) (by decide) rfl d_R_put_50 (fun H locs w => ?_)
    exact mr_vret F w hr hlk (by unfold qPut; rw [if_neg c1]; try rfl) d_R_put_51
def qFw (σ : Mem) (pg : Int32) : Nat → Nat → Int32 → Int32
  | 0, _, k => k
  | n + 1, f, k => if σ 8 f = pg then qFw σ pg n (f + 1) (nI f) else qFw σ pg n (f + 1) k
theorem qFw_in (σ : Mem) (pg : Int32) : ∀ (n f : Nat) (k : Int32), f + n ≤ 8 → fr8 k → fr8 (qFw σ pg n f k)
  | 0, _, _, _, h => h
  | n + 1, f, k, hn, h => by
    unfold qFw
    split
    · exact qFw_in σ pg n (f + 1) _ (by omega) (fr8_nI (by omega))
    · exact qFw_in σ pg n (f + 1) _ (by omega) h
def qBef (σ : Mem) (f : Nat) : Nat → Nat → Nat → Nat
  | 0, _, k => k
  | n + 1, g, k => if σ 11 g < 0 then qBef σ f n (g + 1) k else if σ 11 f ≤ σ 11 g then qBef σ f n (g + 1) k else qBef σ f n (g + 1) (k + 1)
def qKth (σ : Mem) (x : Int32) : Nat → Nat → Int32 → Int32
  | 0, _, k => k
  | n + 1, f, k => if σ 11 f < 0 then qKth σ x n (f + 1) k else if nI (qBef σ f 8 0 0) = x then qKth σ x n (f + 1) (nI f) else qKth σ x n (f + 1) k
theorem qKth_in (σ : Mem) (x : Int32) : ∀ (n f : Nat) (k : Int32), f + n ≤ 8 → fr8 k → fr8 (qKth σ x n f k)
  | 0, _, _, _, h => h
  | n + 1, f, k, hn, h => by
    unfold qKth
    split
    · exact qKth_in σ x n (f + 1) _ (by omega) h
    · split
      · exact qKth_in σ x n (f + 1) _ (by omega) (fr8_nI (by omega))
      · exact qKth_in σ x n (f + 1) _ (by omega) h
def qChg (σ : Mem) : Nat → Nat → Nat → Nat
  | 0, _, k => k
  | n + 1, f, k => if σ 11 f < 0 then qChg σ n (f + 1) k else qChg σ n (f + 1) (k + 1)
set_option maxHeartbeats 4000000 in
set_option maxRecDepth 100000 in
theorem c_R_frameWith (σ : Mem) (pg : Int32) : KIR l D cI cF cZ cJ ad y_R_frameWith b_R_frameWith 4 (some .int) 0 0 [.ref (ad 0), .int pg] σ (fun r σ' => r = qFw σ pg 8 0 (-1) ∧ σ' = σ) := by
  refine KI.of (by decide) (Nat.le_of_ble_eq_true rfl) ?_
  intro p e s m args below meth c A ls F w hl hr hlk
  obtain ⟨hx, hb, hml, hown, hts⟩ := id F
  have hl : lv_has ls 4 [(0, .ref (ad 0)), (1, .int pg)] := hl
  have loop : ∀ (n : Nat) (f : Nat) (k : Int32) (hn : f + n = 8) (hk : qFw σ pg n f k = qFw σ pg 8 0 (-1)) (H : Heap) (locs : List Loc) (ls : Array Slot), mW D clP (tyP cI cF cZ cJ) 12 (eR cI cZ ad) ad σ s A s.heap H locs → lv_has ls 4 [(3, .int (nI f)), (2, .int k), (0, .ref (ad 0)), (1, .int pg)] → W p l e { frames := 0, cells := 0, slots := 0, locals := 0 } s m args below meth c H locs 0 0 (MQ below (va_Qi (fun r σ' => r = qFw σ pg 8 0 (-1) ∧ σ' = σ) (KB D clP (tyP cI cF cZ cJ) 12 (eR cI cZ ad) ad) A) args s 0 0 A) (F0 m 4 ls []) := by
    intro n
    induction n with
    | zero =>
      intro f k hn hk H locs ls w hl
      refine lv_iload_n hx hb d_R_frameWith_4 rfl (lv_at hl 0 rfl) ?_
      refine lv_bipush (v := nI 8) hx hb d_R_frameWith_5 (by decide) ?_
      refine nr_icmp_ge (tgt := 32) hx hb d_R_frameWith_7 (by decide) (by omega) (by omega) (fun c1 => ?_) (fun c1 => absurd (by omega) c1)
      refine lv_iload_n hx hb d_R_frameWith_32 rfl (lv_at hl 1 rfl) ?_
      exact mr_iret F w hr hlk (⟨by rw [← hk]; first | rfl | (simp only [qFw]; done) | (simp only [qFw]; rfl), rfl⟩) d_R_frameWith_33
    | succ n ih =>
      intro f k hn hk H locs ls w hl
      refine lv_iload_n hx hb d_R_frameWith_4 rfl (lv_at hl 0 rfl) ?_
      refine lv_bipush (v := nI 8) hx hb d_R_frameWith_5 (by decide) ?_
      refine nr_icmp_ge (tgt := 32) hx hb d_R_frameWith_7 (by decide) (by omega) (by omega) (fun c2 => absurd c2 (by omega)) (fun c2 => ?_)
      refine lv_aload_n hx hb d_R_frameWith_10 rfl (lv_at hl 2 rfl) ?_
      refine mr_get F w (kin in_R) 0 (by decide) rfl rfl 13 (by decide) (kws_in m_541) (fun _ h => h) rfl d_R_frameWith_11 ?_
      refine lv_iload_n hx hb d_R_frameWith_14 rfl (lv_at hl 0 rfl) ?_
      refine mr_iaN F w 8 0 (by decide) rfl rfl f (by omega) (by decide) rfl d_R_frameWith_15 ?_
      refine lv_iload_n hx hb d_R_frameWith_16 rfl (lv_at hl 3 rfl) ?_
      refine lv_icmp_ne (tgt := 24) hx hb d_R_frameWith_17 (by decide) (fun c3 => ?_) (fun c3 => ?_)
      · refine lv_iload_n hx hb d_R_frameWith_24 rfl (lv_at hl 1 rfl) ?_
        refine lv_istore_n (lv' := [(2, .int k), (3, .int (nI f)), (0, .ref (ad 0)), (1, .int pg)]) hx hb d_R_frameWith_25 rfl hl (by decide) rfl (fun ls hl => ?_)
        refine lv_iinc (v := nI (f + 1)) (lv' := [(3, .int (nI (f + 1))), (2, .int k), (0, .ref (ad 0)), (1, .int pg)]) hx hb d_R_frameWith_26 hl (k := 1) rfl (nI_1 _) (by decide) rfl (fun ls hl => ?_)
        refine lv_goto (tgt := 4) hx hb d_R_frameWith_29 (by decide) ?_
        exact ih (f + 1) k (by omega) (by rw [← hk]; simp only [qFw, if_neg c3]) _ _ ls w (lv_sub hl [0, 1, 2, 3] rfl)
      · refine lv_iload_n hx hb d_R_frameWith_20 rfl (lv_at hl 0 rfl) ?_
        refine lv_goto (tgt := 25) hx hb d_R_frameWith_21 (by decide) ?_
        refine lv_istore_n (lv' := [(2, .int (nI f)), (3, .int (nI f)), (0, .ref (ad 0)), (1, .int pg)]) hx hb d_R_frameWith_25 rfl hl (by decide) rfl (fun ls hl => ?_)
        refine lv_iinc (v := nI (f + 1)) (lv' := [(3, .int (nI (f + 1))), (2, .int (nI f)), (0, .ref (ad 0)), (1, .int pg)]) hx hb d_R_frameWith_26 hl (k := 1) rfl (nI_1 _) (by decide) rfl (fun ls hl => ?_)
        refine lv_goto (tgt := 4) hx hb d_R_frameWith_29 (by decide) ?_
        exact ih (f + 1) (nI f) (by omega) (by rw [← hk]; simp only [qFw, if_pos c3]) _ _ ls w (lv_sub hl [0, 1, 2, 3] rfl)
  refine lv_iconst (v := -1) hx hb d_R_frameWith_0 (by decide) ?_
  refine lv_istore_n (lv' := [(2, .int ((-1))), (0, .ref (ad 0)), (1, .int pg)]) hx hb d_R_frameWith_1 rfl hl (by decide) rfl (fun ls hl => ?_)
  refine lv_iconst (v := nI 0) hx hb d_R_frameWith_2 (by decide) ?_
  refine lv_istore_n (lv' := [(3, .int (nI 0)), (2, .int ((-1))), (0, .ref (ad 0)), (1, .int pg)]) hx hb d_R_frameWith_3 rfl hl (by decide) rfl (fun ls hl => ?_)
  exact loop 8 0 (-1) rfl rfl _ _ ls w (lv_sub hl [0, 1, 2, 3] rfl)
set_option maxHeartbeats 4000000 in
set_option maxRecDepth 100000 in
theorem c_R_changed (σ : Mem) : KIR l D cI cF cZ cJ ad y_R_changed b_R_changed 3 (some .int) 0 0 [.ref (ad 0)] σ (fun r σ' => r = nI (qChg (mup σ 0 0 (nI 0)) 8 0 0) ∧ σ' = mup σ 0 0 (nI 0)) := by
  refine KI.of (by decide) (Nat.le_of_ble_eq_true rfl) ?_
  intro p e s m args below meth c A ls F w hl hr hlk
  obtain ⟨hx, hb, hml, hown, hts⟩ := id F
  have hl : lv_has ls 3 [(0, .ref (ad 0))] := hl
  have loop : ∀ (n : Nat) (f k : Nat) (hn : f + n = 8) (hk : qChg (mup σ 0 0 (nI 0)) n f k = qChg (mup σ 0 0 (nI 0)) 8 0 0) (H : Heap) (locs : List Loc) (ls : Array Slot), mW D clP (tyP cI cF cZ cJ) 12 (eR cI cZ ad) ad (mup σ 0 0 (nI 0)) s A s.heap H locs → lv_has ls 3 [(2, .int (nI f)), (1, .int (nI k)), (0, .ref (ad 0))] → W p l e { frames := 0, cells := 0, slots := 0, locals := 0 } s m args below meth c H locs 0 0 (MQ below (va_Qi (fun r σ' => r = nI (qChg (mup σ 0 0 (nI 0)) 8 0 0) ∧ σ' = mup σ 0 0 (nI 0)) (KB D clP (tyP cI cF cZ cJ) 12 (eR cI cZ ad) ad) A) args s 0 0 A) (F0 m 9 ls []) := by
    intro n
    induction n with
    | zero =>
      intro f k hn hk H locs ls w hl
      refine lv_iload_n hx hb d_R_changed_9 rfl (lv_at hl 0 rfl) ?_
      refine lv_bipush (v := nI 8) hx hb d_R_changed_10 (by decide) ?_
      refine nr_icmp_ge (tgt := 38) hx hb d_R_changed_12 (by decide) (by omega) (by omega) (fun c1 => ?_) (fun c1 => absurd (by omega) c1)
      refine lv_iload_n hx hb d_R_changed_38 rfl (lv_at hl 1 rfl) ?_
      exact mr_iret F w hr hlk (⟨by rw [← hk]; first | rfl | (simp only [qChg]; done) | (simp only [qChg]; rfl), rfl⟩) d_R_changed_39
    | succ n ih =>
      intro f k hn hk H locs ls w hl
      refine lv_iload_n hx hb d_R_changed_9 rfl (lv_at hl 0 rfl) ?_
      refine lv_bipush (v := nI 8) hx hb d_R_changed_10 (by decide) ?_
      refine nr_icmp_ge (tgt := 38) hx hb d_R_changed_12 (by decide) (by omega) (by omega) (fun c2 => absurd c2 (by omega)) (fun c2 => ?_)
      refine lv_aload_n hx hb d_R_changed_15 rfl (lv_at hl 2 rfl) ?_
      refine mr_get F w (kin in_R) 0 (by decide) rfl rfl 16 (by decide) (kws_in m_544) (fun _ h => h) rfl d_R_changed_16 ?_
      refine lv_iload_n hx hb d_R_changed_19 rfl (lv_at hl 0 rfl) ?_
      refine mr_iaN F w 11 0 (by decide) rfl rfl f (by omega) (by decide) rfl d_R_changed_20 ?_
      refine lv_if_lt (tgt := 30) hx hb d_R_changed_21 (by decide) (fun c3 => ?_) (fun c3 => ?_)
      · refine lv_iload_n hx hb d_R_changed_30 rfl (lv_at hl 1 rfl) ?_
        refine lv_istore_n (lv' := [(1, .int (nI k)), (2, .int (nI f)), (0, .ref (ad 0))]) hx hb d_R_changed_31 rfl hl (by decide) rfl (fun ls hl => ?_)
        refine lv_iinc (v := nI (f + 1)) (lv' := [(2, .int (nI (f + 1))), (1, .int (nI k)), (0, .ref (ad 0))]) hx hb d_R_changed_32 hl (k := 1) rfl (nI_1 _) (by decide) rfl (fun ls hl => ?_)
        refine lv_goto (tgt := 9) hx hb d_R_changed_35 (by decide) ?_
        exact ih (f + 1) k (by omega) (by rw [← hk]; simp only [qChg, if_pos c3]) _ _ ls w (lv_sub hl [0, 1, 2] rfl)
      · refine lv_iload_n hx hb d_R_changed_24 rfl (lv_at hl 1 rfl) ?_
        refine lv_iconst (v := nI 1) hx hb d_R_changed_25 (by decide) ?_
        refine nr_iadd hx hb d_R_changed_26 ?_
        refine lv_goto (tgt := 31) hx hb d_R_changed_27 (by decide) ?_
        refine lv_istore_n (lv' := [(1, .int (nI (k + 1))), (2, .int (nI f)), (0, .ref (ad 0))]) hx hb d_R_changed_31 rfl hl (by decide) rfl (fun ls hl => ?_)
        refine lv_iinc (v := nI (f + 1)) (lv' := [(2, .int (nI (f + 1))), (1, .int (nI (k + 1))), (0, .ref (ad 0))]) hx hb d_R_changed_32 hl (k := 1) rfl (nI_1 _) (by decide) rfl (fun ls hl => ?_)
        refine lv_goto (tgt := 9) hx hb d_R_changed_35 (by decide) ?_
        exact ih (f + 1) (k + 1) (by omega) (by rw [← hk]; simp only [qChg, if_neg c3]) _ _ ls w (lv_sub hl [0, 1, 2] rfl)
  refine lv_aload_n hx hb d_R_changed_0 rfl (lv_at hl 0 rfl) ?_
  refine lv_iconst (v := nI 0) hx hb d_R_changed_1 (by decide) ?_
  refine mr_put F w (kin in_R) t_R t_R_ok n_R 0 (by decide) rfl rfl 0 (by decide) (kws_in m_528) (fun _ h => h) rfl rfl rfl (Nat.le_of_ble_eq_true rfl) rfl d_R_changed_2 (fun H locs w => ?_)
  refine lv_iconst (v := nI 0) hx hb d_R_changed_5 (by decide) ?_
  refine lv_istore_n (lv' := [(1, .int (nI 0)), (0, .ref (ad 0))]) hx hb d_R_changed_6 rfl hl (by decide) rfl (fun ls hl => ?_)
  refine lv_iconst (v := nI 0) hx hb d_R_changed_7 (by decide) ?_
  refine lv_istore_n (lv' := [(2, .int (nI 0)), (1, .int (nI 0)), (0, .ref (ad 0))]) hx hb d_R_changed_8 rfl hl (by decide) rfl (fun ls hl => ?_)
  exact loop 8 0 0 rfl rfl _ _ ls w (lv_sub hl [0, 1, 2] rfl)
set_option maxHeartbeats 4000000 in
set_option maxRecDepth 100000 in
theorem c_R_kth (σ : Mem) (x : Int32) : KIR l D cI cF cZ cJ ad y_R_kth b_R_kth 6 (some .int) 0 0 [.ref (ad 0), .int x] σ (fun r σ' => r = qKth σ x 8 0 (-1) ∧ σ' = σ) := by
  refine KI.of (by decide) (Nat.le_of_ble_eq_true rfl) ?_
  intro p e s m args below meth c A ls F w hl hr hlk
  obtain ⟨hx, hb, hml, hown, hts⟩ := id F
  have hl : lv_has ls 6 [(0, .ref (ad 0)), (1, .int x)] := hl
  have loop : ∀ (n : Nat) (f : Nat) (k : Int32) (hn : f + n = 8) (hk : qKth σ x n f k = qKth σ x 8 0 (-1)) (H : Heap) (locs : List Loc) (ls : Array Slot), mW D clP (tyP cI cF cZ cJ) 12 (eR cI cZ ad) ad σ s A s.heap H locs → lv_has ls 6 [(3, .int (nI f)), (2, .int k), (0, .ref (ad 0)), (1, .int x)] → W p l e { frames := 0, cells := 0, slots := 0, locals := 0 } s m args below meth c H locs 0 0 (MQ below (va_Qi (fun r σ' => r = qKth σ x 8 0 (-1) ∧ σ' = σ) (KB D clP (tyP cI cF cZ cJ) 12 (eR cI cZ ad) ad) A) args s 0 0 A) (F0 m 4 ls []) := by
    intro n
    induction n with
    | zero =>
      intro f k hn hk H locs ls w hl
      refine lv_iload_n hx hb d_R_kth_4 rfl (lv_at hl 0 rfl) ?_
      refine lv_bipush (v := nI 8) hx hb d_R_kth_5 (by decide) ?_
      refine nr_icmp_ge (tgt := 93) hx hb d_R_kth_7 (by decide) (by omega) (by omega) (fun c1 => ?_) (fun c1 => absurd (by omega) c1)
      refine lv_iload_n hx hb d_R_kth_93 rfl (lv_at hl 1 rfl) ?_
      exact mr_iret F w hr hlk (⟨by rw [← hk]; first | rfl | (simp only [qKth]; done) | (simp only [qKth]; rfl), rfl⟩) d_R_kth_94
    | succ n ih =>
      intro f k hn hk H locs ls w hl
      have loop2 : ∀ (n2 : Nat) (g b : Nat) (hn2 : g + n2 = 8) (hk2 : qBef σ f n2 g b = qBef σ f 8 0 0) (H : Heap) (locs : List Loc) (ls : Array Slot), mW D clP (tyP cI cF cZ cJ) 12 (eR cI cZ ad) ad σ s A s.heap H locs → lv_has ls 6 [(5, .int (nI g)), (4, .int (nI b)), (3, .int (nI f)), (2, .int k), (0, .ref (ad 0)), (1, .int x)] → W p l e { frames := 0, cells := 0, slots := 0, locals := 0 } s m args below meth c H locs 0 0 (MQ below (va_Qi (fun r σ' => r = qKth σ x 8 0 (-1) ∧ σ' = σ) (KB D clP (tyP cI cF cZ cJ) 12 (eR cI cZ ad) ad) A) args s 0 0 A) (F0 m 16 ls []) := by
        intro n2
        induction n2 with
        | zero =>
          intro g b hn2 hk2 H locs ls w hl
          rw [show b = qBef σ f 8 0 0 from hk2] at hl
          refine lv_iload hx hb d_R_kth_16 (lv_at hl 0 rfl) ?_
          refine lv_bipush (v := nI 8) hx hb d_R_kth_18 (by decide) ?_
          refine nr_icmp_ge (tgt := 66) hx hb d_R_kth_20 (by decide) (by omega) (by omega) (fun c2 => ?_) (fun c2 => absurd (by omega) c2)
          refine lv_aload_n hx hb d_R_kth_66 rfl (lv_at hl 4 rfl) ?_
          refine mr_get F w (kin in_R) 0 (by decide) rfl rfl 16 (by decide) (kws_in m_544) (fun _ h => h) rfl d_R_kth_67 ?_
          refine lv_iload_n hx hb d_R_kth_70 rfl (lv_at hl 2 rfl) ?_
          refine mr_iaN F w 11 0 (by decide) rfl rfl f (by omega) (by decide) rfl d_R_kth_71 ?_
          refine lv_if_lt (tgt := 85) hx hb d_R_kth_72 (by decide) (fun c3 => ?_) (fun c3 => ?_)
          · refine lv_iload_n hx hb d_R_kth_85 rfl (lv_at hl 3 rfl) ?_
            refine lv_istore_n (lv' := [(2, .int k), (5, .int (nI g)), (4, .int (nI (qBef σ f 8 0 0))), (3, .int (nI f)), (0, .ref (ad 0)), (1, .int x)]) hx hb d_R_kth_86 rfl hl (by decide) rfl (fun ls hl => ?_)
            refine lv_iinc (v := nI (f + 1)) (lv' := [(3, .int (nI (f + 1))), (2, .int k), (5, .int (nI g)), (4, .int (nI (qBef σ f 8 0 0))), (0, .ref (ad 0)), (1, .int x)]) hx hb d_R_kth_87 hl (k := 3) rfl (nI_1 _) (by decide) rfl (fun ls hl => ?_)
            refine lv_goto (tgt := 4) hx hb d_R_kth_90 (by decide) ?_
            exact ih (f + 1) k (by omega) (by rw [← hk]; simp only [qKth, if_pos c3]) _ _ ls w (lv_sub hl [0, 1, 4, 5] rfl)
          · refine lv_iload hx hb d_R_kth_75 (lv_at hl 1 rfl) ?_
            refine lv_iload_n hx hb d_R_kth_77 rfl (lv_at hl 5 rfl) ?_
            refine lv_icmp_ne (tgt := 85) hx hb d_R_kth_78 (by decide) (fun c4 => ?_) (fun c4 => ?_)
            · refine lv_iload_n hx hb d_R_kth_85 rfl (lv_at hl 3 rfl) ?_
              refine lv_istore_n (lv' := [(2, .int k), (5, .int (nI g)), (4, .int (nI (qBef σ f 8 0 0))), (3, .int (nI f)), (0, .ref (ad 0)), (1, .int x)]) hx hb d_R_kth_86 rfl hl (by decide) rfl (fun ls hl => ?_)
              refine lv_iinc (v := nI (f + 1)) (lv' := [(3, .int (nI (f + 1))), (2, .int k), (5, .int (nI g)), (4, .int (nI (qBef σ f 8 0 0))), (0, .ref (ad 0)), (1, .int x)]) hx hb d_R_kth_87 hl (k := 3) rfl (nI_1 _) (by decide) rfl (fun ls hl => ?_)
              refine lv_goto (tgt := 4) hx hb d_R_kth_90 (by decide) ?_
              exact ih (f + 1) k (by omega) (by rw [← hk]; simp only [qKth, if_neg c3, if_neg c4]) _ _ ls w (lv_sub hl [0, 1, 4, 5] rfl)
            · refine lv_iload_n hx hb d_R_kth_81 rfl (lv_at hl 2 rfl) ?_
              refine lv_goto (tgt := 86) hx hb d_R_kth_82 (by decide) ?_
              refine lv_istore_n (lv' := [(2, .int (nI f)), (5, .int (nI g)), (4, .int (nI (qBef σ f 8 0 0))), (3, .int (nI f)), (0, .ref (ad 0)), (1, .int x)]) hx hb d_R_kth_86 rfl hl (by decide) rfl (fun ls hl => ?_)
              refine lv_iinc (v := nI (f + 1)) (lv' := [(3, .int (nI (f + 1))), (2, .int (nI f)), (5, .int (nI g)), (4, .int (nI (qBef σ f 8 0 0))), (0, .ref (ad 0)), (1, .int x)]) hx hb d_R_kth_87 hl (k := 3) rfl (nI_1 _) (by decide) rfl (fun ls hl => ?_)
              refine lv_goto (tgt := 4) hx hb d_R_kth_90 (by decide) ?_
              exact ih (f + 1) (nI f) (by omega) (by rw [← hk]; simp only [qKth, if_neg c3, if_pos c4]) _ _ ls w (lv_sub hl [0, 1, 4, 5] rfl)
        | succ n2 ih2 =>
          intro g b hn2 hk2 H locs ls w hl
          skip
          refine lv_iload hx hb d_R_kth_16 (lv_at hl 0 rfl) ?_
          refine lv_bipush (v := nI 8) hx hb d_R_kth_18 (by decide) ?_
          refine nr_icmp_ge (tgt := 66) hx hb d_R_kth_20 (by decide) (by omega) (by omega) (fun c5 => absurd c5 (by omega)) (fun c5 => ?_)
          refine lv_aload_n hx hb d_R_kth_23 rfl (lv_at hl 4 rfl) ?_
          refine mr_get F w (kin in_R) 0 (by decide) rfl rfl 16 (by decide) (kws_in m_544) (fun _ h => h) rfl d_R_kth_24 ?_
          refine lv_iload hx hb d_R_kth_27 (lv_at hl 0 rfl) ?_
          refine mr_iaN F w 11 0 (by decide) rfl rfl g (by omega) (by decide) rfl d_R_kth_29 ?_
          refine lv_if_lt (tgt := 56) hx hb d_R_kth_30 (by decide) (fun c6 => ?_) (fun c6 => ?_)
          · refine lv_iload hx hb d_R_kth_56 (lv_at hl 1 rfl) ?_
            refine lv_istore (lv' := [(4, .int (nI b)), (5, .int (nI g)), (3, .int (nI f)), (2, .int k), (0, .ref (ad 0)), (1, .int x)]) hx hb d_R_kth_58 hl (by decide) rfl (fun ls hl => ?_)
            refine lv_iinc (v := nI (g + 1)) (lv' := [(5, .int (nI (g + 1))), (4, .int (nI b)), (3, .int (nI f)), (2, .int k), (0, .ref (ad 0)), (1, .int x)]) hx hb d_R_kth_60 hl (k := 1) rfl (nI_1 _) (by decide) rfl (fun ls hl => ?_)
            refine lv_goto (tgt := 16) hx hb d_R_kth_63 (by decide) ?_
            exact ih2 (g + 1) b (by omega) (by rw [← hk2]; simp only [qBef, if_pos c6]) _ _ ls w (lv_sub hl [0, 1, 2, 3, 4, 5] rfl)
          · refine lv_aload_n hx hb d_R_kth_33 rfl (lv_at hl 4 rfl) ?_
            refine mr_get F w (kin in_R) 0 (by decide) rfl rfl 16 (by decide) (kws_in m_544) (fun _ h => h) rfl d_R_kth_34 ?_
            refine lv_iload hx hb d_R_kth_37 (lv_at hl 0 rfl) ?_
            refine mr_iaN F w 11 0 (by decide) rfl rfl g (by omega) (by decide) rfl d_R_kth_39 ?_
            refine lv_aload_n hx hb d_R_kth_40 rfl (lv_at hl 4 rfl) ?_
            refine mr_get F w (kin in_R) 0 (by decide) rfl rfl 16 (by decide) (kws_in m_544) (fun _ h => h) rfl d_R_kth_41 ?_
            refine lv_iload_n hx hb d_R_kth_44 rfl (lv_at hl 2 rfl) ?_
            refine mr_iaN F w 11 0 (by decide) rfl rfl f (by omega) (by decide) rfl d_R_kth_45 ?_
            refine lv_icmp_ge (tgt := 56) hx hb d_R_kth_46 (by decide) (fun c7 => ?_) (fun c7 => ?_)
            · refine lv_iload hx hb d_R_kth_56 (lv_at hl 1 rfl) ?_
              refine lv_istore (lv' := [(4, .int (nI b)), (5, .int (nI g)), (3, .int (nI f)), (2, .int k), (0, .ref (ad 0)), (1, .int x)]) hx hb d_R_kth_58 hl (by decide) rfl (fun ls hl => ?_)
              refine lv_iinc (v := nI (g + 1)) (lv' := [(5, .int (nI (g + 1))), (4, .int (nI b)), (3, .int (nI f)), (2, .int k), (0, .ref (ad 0)), (1, .int x)]) hx hb d_R_kth_60 hl (k := 1) rfl (nI_1 _) (by decide) rfl (fun ls hl => ?_)
              refine lv_goto (tgt := 16) hx hb d_R_kth_63 (by decide) ?_
              exact ih2 (g + 1) b (by omega) (by rw [← hk2]; simp only [qBef, if_neg c6, if_pos c7]) _ _ ls w (lv_sub hl [0, 1, 2, 3, 4, 5] rfl)
            · refine lv_iload hx hb d_R_kth_49 (lv_at hl 1 rfl) ?_
              refine lv_iconst (v := nI 1) hx hb d_R_kth_51 (by decide) ?_
              refine nr_iadd hx hb d_R_kth_52 ?_
              refine lv_goto (tgt := 58) hx hb d_R_kth_53 (by decide) ?_
              refine lv_istore (lv' := [(4, .int (nI (b + 1))), (5, .int (nI g)), (3, .int (nI f)), (2, .int k), (0, .ref (ad 0)), (1, .int x)]) hx hb d_R_kth_58 hl (by decide) rfl (fun ls hl => ?_)
              refine lv_iinc (v := nI (g + 1)) (lv' := [(5, .int (nI (g + 1))), (4, .int (nI (b + 1))), (3, .int (nI f)), (2, .int k), (0, .ref (ad 0)), (1, .int x)]) hx hb d_R_kth_60 hl (k := 1) rfl (nI_1 _) (by decide) rfl (fun ls hl => ?_)
              refine lv_goto (tgt := 16) hx hb d_R_kth_63 (by decide) ?_
              exact ih2 (g + 1) (b + 1) (by omega) (by rw [← hk2]; simp only [qBef, if_neg c6, if_neg c7]) _ _ ls w (lv_sub hl [0, 1, 2, 3, 4, 5] rfl)
      refine lv_iload_n hx hb d_R_kth_4 rfl (lv_at hl 0 rfl) ?_
      refine lv_bipush (v := nI 8) hx hb d_R_kth_5 (by decide) ?_
      refine nr_icmp_ge (tgt := 93) hx hb d_R_kth_7 (by decide) (by omega) (by omega) (fun c8 => absurd c8 (by omega)) (fun c8 => ?_)
      refine lv_iconst (v := nI 0) hx hb d_R_kth_10 (by decide) ?_
      refine lv_istore (lv' := [(4, .int (nI 0)), (3, .int (nI f)), (2, .int k), (0, .ref (ad 0)), (1, .int x)]) hx hb d_R_kth_11 hl (by decide) rfl (fun ls hl => ?_)
      refine lv_iconst (v := nI 0) hx hb d_R_kth_13 (by decide) ?_
      refine lv_istore (lv' := [(5, .int (nI 0)), (4, .int (nI 0)), (3, .int (nI f)), (2, .int k), (0, .ref (ad 0)), (1, .int x)]) hx hb d_R_kth_14 hl (by decide) rfl (fun ls hl => ?_)
      exact loop2 8 0 0 rfl rfl _ _ ls w (lv_sub hl [0, 1, 2, 3, 4, 5] rfl)
  refine lv_iconst (v := -1) hx hb d_R_kth_0 (by decide) ?_
  refine lv_istore_n (lv' := [(2, .int ((-1))), (0, .ref (ad 0)), (1, .int x)]) hx hb d_R_kth_1 rfl hl (by decide) rfl (fun ls hl => ?_)
  refine lv_iconst (v := nI 0) hx hb d_R_kth_2 (by decide) ?_
  refine lv_istore_n (lv' := [(3, .int (nI 0)), (2, .int ((-1))), (0, .ref (ad 0)), (1, .int x)]) hx hb d_R_kth_3 rfl hl (by decide) rfl (fun ls hl => ?_)
  exact loop 8 0 (-1) rfl rfl _ _ ls w (lv_sub hl [0, 1, 2, 3] rfl)
end
