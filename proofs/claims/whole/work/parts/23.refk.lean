/-! The reference: rowOf, put, frameWith, kth, changed, oldest, write -/
section
variable {l : Launch} {D : va_G} {cI cF cZ cJ : ClassId} {ad : Nat → Nat} {σ : Mem}
theorem d_R_rowOf_0 : decode b_R_rowOf 0 = .ok (.iload_n 0, 1) := by decide +kernel
theorem d_R_rowOf_1 : decode b_R_rowOf 1 = .ok (.bipush 8, 2) := by decide +kernel
theorem d_R_rowOf_3 : decode b_R_rowOf 3 = .ok (.idiv, 1) := by decide +kernel
theorem d_R_rowOf_4 : decode b_R_rowOf 4 = .ok (.sipush 8192, 3) := by decide +kernel
theorem d_R_rowOf_7 : decode b_R_rowOf 7 = .ok (.irem, 1) := by decide +kernel
theorem d_R_rowOf_8 : decode b_R_rowOf 8 = .ok (.ireturn, 1) := by decide +kernel
theorem d_R_put_0 : decode b_R_put 0 = .ok (.aload_n 0, 1) := by decide +kernel
theorem d_R_put_1 : decode b_R_put 1 = .ok (.getfield 36, 3) := by decide +kernel
theorem d_R_put_4 : decode b_R_put 4 = .ok (.bipush 64, 2) := by decide +kernel
theorem d_R_put_6 : decode b_R_put 6 = .ok (.iload_n 1, 1) := by decide +kernel
theorem d_R_put_7 : decode b_R_put 7 = .ok (.imul, 1) := by decide +kernel
theorem d_R_put_8 : decode b_R_put 8 = .ok (.iload_n 2, 1) := by decide +kernel
theorem d_R_put_9 : decode b_R_put 9 = .ok (.iadd, 1) := by decide +kernel
theorem d_R_put_10 : decode b_R_put 10 = .ok (.iload_n 3, 1) := by decide +kernel
theorem d_R_put_11 : decode b_R_put 11 = .ok (.iastore, 1) := by decide +kernel
theorem d_R_put_12 : decode b_R_put 12 = .ok (.aload_n 0, 1) := by decide +kernel
theorem d_R_put_13 : decode b_R_put 13 = .ok (.getfield 36, 3) := by decide +kernel
theorem d_R_put_16 : decode b_R_put 16 = .ok (.bipush 64, 2) := by decide +kernel
theorem d_R_put_18 : decode b_R_put 18 = .ok (.iload_n 1, 1) := by decide +kernel
theorem d_R_put_19 : decode b_R_put 19 = .ok (.imul, 1) := by decide +kernel
theorem d_R_put_20 : decode b_R_put 20 = .ok (.iload 4, 2) := by decide +kernel
theorem d_R_put_22 : decode b_R_put 22 = .ok (.iconst 1, 1) := by decide +kernel
theorem d_R_put_23 : decode b_R_put 23 = .ok (.iadd, 1) := by decide +kernel
theorem d_R_put_24 : decode b_R_put 24 = .ok (.iastore, 1) := by decide +kernel
theorem d_R_put_25 : decode b_R_put 25 = .ok (.aload_n 0, 1) := by decide +kernel
theorem d_R_put_26 : decode b_R_put 26 = .ok (.getfield 48, 3) := by decide +kernel
theorem d_R_put_29 : decode b_R_put 29 = .ok (.iload_n 1, 1) := by decide +kernel
theorem d_R_put_30 : decode b_R_put 30 = .ok (.aload_n 0, 1) := by decide +kernel
theorem d_R_put_31 : decode b_R_put 31 = .ok (.getfield 48, 3) := by decide +kernel
theorem d_R_put_34 : decode b_R_put 34 = .ok (.iload_n 1, 1) := by decide +kernel
theorem d_R_put_35 : decode b_R_put 35 = .ok (.iaload, 1) := by decide +kernel
theorem d_R_put_36 : decode b_R_put 36 = .ok (.ifCond .ge 8, 3) := by decide +kernel
theorem d_R_put_39 : decode b_R_put 39 = .ok (.iload 4, 2) := by decide +kernel
theorem d_R_put_41 : decode b_R_put 41 = .ok (.goto 9, 3) := by decide +kernel
theorem d_R_put_44 : decode b_R_put 44 = .ok (.aload_n 0, 1) := by decide +kernel
theorem d_R_put_45 : decode b_R_put 45 = .ok (.getfield 48, 3) := by decide +kernel
theorem d_R_put_48 : decode b_R_put 48 = .ok (.iload_n 1, 1) := by decide +kernel
theorem d_R_put_49 : decode b_R_put 49 = .ok (.iaload, 1) := by decide +kernel
theorem d_R_put_50 : decode b_R_put 50 = .ok (.iastore, 1) := by decide +kernel
theorem d_R_put_51 : decode b_R_put 51 = .ok (.return_, 1) := by decide +kernel
theorem d_R_frameWith_0 : decode b_R_frameWith 0 = .ok (.iconst (-1), 1) := by decide +kernel
theorem d_R_frameWith_1 : decode b_R_frameWith 1 = .ok (.istore_n 2, 1) := by decide +kernel
theorem d_R_frameWith_2 : decode b_R_frameWith 2 = .ok (.iconst 0, 1) := by decide +kernel
theorem d_R_frameWith_3 : decode b_R_frameWith 3 = .ok (.istore_n 3, 1) := by decide +kernel
theorem d_R_frameWith_4 : decode b_R_frameWith 4 = .ok (.iload_n 3, 1) := by decide +kernel
theorem d_R_frameWith_5 : decode b_R_frameWith 5 = .ok (.bipush 8, 2) := by decide +kernel
theorem d_R_frameWith_7 : decode b_R_frameWith 7 = .ok (.if_icmp .ge 25, 3) := by decide +kernel
theorem d_R_frameWith_10 : decode b_R_frameWith 10 = .ok (.aload_n 0, 1) := by decide +kernel
theorem d_R_frameWith_11 : decode b_R_frameWith 11 = .ok (.getfield 39, 3) := by decide +kernel
theorem d_R_frameWith_14 : decode b_R_frameWith 14 = .ok (.iload_n 3, 1) := by decide +kernel
theorem d_R_frameWith_15 : decode b_R_frameWith 15 = .ok (.iaload, 1) := by decide +kernel
theorem d_R_frameWith_16 : decode b_R_frameWith 16 = .ok (.iload_n 1, 1) := by decide +kernel
theorem d_R_frameWith_17 : decode b_R_frameWith 17 = .ok (.if_icmp .ne 7, 3) := by decide +kernel
theorem d_R_frameWith_20 : decode b_R_frameWith 20 = .ok (.iload_n 3, 1) := by decide +kernel
theorem d_R_frameWith_21 : decode b_R_frameWith 21 = .ok (.goto 4, 3) := by decide +kernel
theorem d_R_frameWith_24 : decode b_R_frameWith 24 = .ok (.iload_n 2, 1) := by decide +kernel
theorem d_R_frameWith_25 : decode b_R_frameWith 25 = .ok (.istore_n 2, 1) := by decide +kernel
theorem d_R_frameWith_26 : decode b_R_frameWith 26 = .ok (.iinc 3 1, 3) := by decide +kernel
theorem d_R_frameWith_29 : decode b_R_frameWith 29 = .ok (.goto (-25), 3) := by decide +kernel
theorem d_R_frameWith_32 : decode b_R_frameWith 32 = .ok (.iload_n 2, 1) := by decide +kernel
theorem d_R_frameWith_33 : decode b_R_frameWith 33 = .ok (.ireturn, 1) := by decide +kernel
theorem d_R_changed_0 : decode b_R_changed 0 = .ok (.aload_n 0, 1) := by decide +kernel
theorem d_R_changed_1 : decode b_R_changed 1 = .ok (.iconst 0, 1) := by decide +kernel
theorem d_R_changed_2 : decode b_R_changed 2 = .ok (.putfield 57, 3) := by decide +kernel
theorem d_R_changed_5 : decode b_R_changed 5 = .ok (.iconst 0, 1) := by decide +kernel
theorem d_R_changed_6 : decode b_R_changed 6 = .ok (.istore_n 1, 1) := by decide +kernel
theorem d_R_changed_7 : decode b_R_changed 7 = .ok (.iconst 0, 1) := by decide +kernel
theorem d_R_changed_8 : decode b_R_changed 8 = .ok (.istore_n 2, 1) := by decide +kernel
theorem d_R_changed_9 : decode b_R_changed 9 = .ok (.iload_n 2, 1) := by decide +kernel
theorem d_R_changed_10 : decode b_R_changed 10 = .ok (.bipush 8, 2) := by decide +kernel
theorem d_R_changed_12 : decode b_R_changed 12 = .ok (.if_icmp .ge 26, 3) := by decide +kernel
theorem d_R_changed_15 : decode b_R_changed 15 = .ok (.aload_n 0, 1) := by decide +kernel
theorem d_R_changed_16 : decode b_R_changed 16 = .ok (.getfield 48, 3) := by decide +kernel
theorem d_R_changed_19 : decode b_R_changed 19 = .ok (.iload_n 2, 1) := by decide +kernel
theorem d_R_changed_20 : decode b_R_changed 20 = .ok (.iaload, 1) := by decide +kernel
theorem d_R_changed_21 : decode b_R_changed 21 = .ok (.ifCond .lt 9, 3) := by decide +kernel
theorem d_R_changed_24 : decode b_R_changed 24 = .ok (.iload_n 1, 1) := by decide +kernel
theorem d_R_changed_25 : decode b_R_changed 25 = .ok (.iconst 1, 1) := by decide +kernel
theorem d_R_changed_26 : decode b_R_changed 26 = .ok (.iadd, 1) := by decide +kernel
theorem d_R_changed_27 : decode b_R_changed 27 = .ok (.goto 4, 3) := by decide +kernel
theorem d_R_changed_30 : decode b_R_changed 30 = .ok (.iload_n 1, 1) := by decide +kernel
theorem d_R_changed_31 : decode b_R_changed 31 = .ok (.istore_n 1, 1) := by decide +kernel
theorem d_R_changed_32 : decode b_R_changed 32 = .ok (.iinc 2 1, 3) := by decide +kernel
theorem d_R_changed_35 : decode b_R_changed 35 = .ok (.goto (-26), 3) := by decide +kernel
theorem d_R_changed_38 : decode b_R_changed 38 = .ok (.iload_n 1, 1) := by decide +kernel
theorem d_R_changed_39 : decode b_R_changed 39 = .ok (.ireturn, 1) := by decide +kernel
def qRow (σ : Mem) (n : Nat) : Int32 × Mem :=
  (nI ((n / 8) % 8192), σ)
set_option maxHeartbeats 4000000 in
set_option maxRecDepth 100000 in
theorem c_R_rowOf (σ : Mem) (n : Nat) (hn : n < 2 ^ 31) : KIR l D cI cF cZ cJ ad y_R_rowOf b_R_rowOf 1 (some .int) 0 0 [.int (nI n)] σ (fun r σ' => r = (qRow σ n).1 ∧ σ' = (qRow σ n).2) := by
  refine KI.of (by decide) (Nat.le_of_ble_eq_true rfl) ?_
  intro p e s m args below meth c A ls F w hl hr hlk
  obtain ⟨hx, hb, hml, hown, hts⟩ := id F
  have hl : lv_has ls 1 [(0, .int (nI n))] := hl
  refine lv_iload_n hx hb d_R_rowOf_0 rfl (lv_at hl 0 rfl) ?_
  refine lv_bipush (v := nI 8) hx hb d_R_rowOf_1 (by decide) ?_
  refine nr_idiv hx hb d_R_rowOf_3 (by omega) (by omega) (by omega) ?_
  refine lv_sipush (v := nI 8192) hx hb d_R_rowOf_4 (by decide) ?_
  refine nr_irem hx hb d_R_rowOf_7 (by omega) (by omega) (by omega) ?_
  exact mr_iret F w hr hlk (by unfold qRow; exact ⟨rfl, rfl⟩) d_R_rowOf_8
def qPut (σ : Mem) (f i : Nat) (v x : Int32) : Mem :=
  if 0 ≤ ((mup (mup σ 7 ((64 * f) + i) v) 7 (64 * f) (x + (nI 1))) 11 f) then (mup (mup (mup σ 7 ((64 * f) + i) v) 7 (64 * f) (x + (nI 1))) 11 f ((mup (mup σ 7 ((64 * f) + i) v) 7 (64 * f) (x + (nI 1))) 11 f))
  else (mup (mup (mup σ 7 ((64 * f) + i) v) 7 (64 * f) (x + (nI 1))) 11 f x)
set_option maxHeartbeats 4000000 in
set_option maxRecDepth 100000 in
theorem c_R_put (σ : Mem) (f i : Nat) (hf : f < 8) (hi : i < 64) (v x : Int32) : KVR l D cI cF cZ cJ ad y_R_put b_R_put 5 0 0 [.ref (ad 0), .int (nI f), .int (nI i), .int v, .int x] σ (fun σ' => σ' = qPut σ f i v x) := by
  refine KV.of (by decide) (Nat.le_of_ble_eq_true rfl) ?_
  intro p e s m args below meth c A ls F w hl hr hlk
  obtain ⟨hx, hb, hml, hown, hts⟩ := id F
  have hl : lv_has ls 5 [(0, .ref (ad 0)), (1, .int (nI f)), (2, .int (nI i)), (3, .int v), (4, .int x)] := hl
  refine lv_aload_n hx hb d_R_put_0 rfl (lv_at hl 0 rfl) ?_
  refine mr_get F w (kin in_R) 0 (by decide) rfl rfl 12 (by decide) (kws_in m_540) (fun _ h => h) rfl d_R_put_1 ?_
  refine lv_bipush (v := nI 64) hx hb d_R_put_4 (by decide) ?_
  refine lv_iload_n hx hb d_R_put_6 rfl (lv_at hl 1 rfl) ?_
  refine nr_imul hx hb d_R_put_7 ?_
  refine lv_iload_n hx hb d_R_put_8 rfl (lv_at hl 2 rfl) ?_
  refine nr_iadd hx hb d_R_put_9 ?_
  refine lv_iload_n hx hb d_R_put_10 rfl (lv_at hl 3 rfl) ?_
  refine mr_isN F w 7 0 (by decide) (fun _ => rfl) rfl ((64 * f) + i) (by omega) (by decide) rfl d_R_put_11 (fun H locs w => ?_)
  refine lv_aload_n hx hb d_R_put_12 rfl (lv_at hl 0 rfl) ?_
  refine mr_get F w (kin in_R) 0 (by decide) rfl rfl 12 (by decide) (kws_in m_540) (fun _ h => h) rfl d_R_put_13 ?_
  refine lv_bipush (v := nI 64) hx hb d_R_put_16 (by decide) ?_
  refine lv_iload_n hx hb d_R_put_18 rfl (lv_at hl 1 rfl) ?_
  refine nr_imul hx hb d_R_put_19 ?_
  refine lv_iload hx hb d_R_put_20 (lv_at hl 4 rfl) ?_
  refine lv_iconst (v := nI 1) hx hb d_R_put_22 (by decide) ?_
  refine lv_iadd hx hb d_R_put_23 ?_
  refine mr_isN F w 7 0 (by decide) (fun _ => rfl) rfl (64 * f) (by omega) (by decide) rfl d_R_put_24 (fun H locs w => ?_)
  refine lv_aload_n hx hb d_R_put_25 rfl (lv_at hl 0 rfl) ?_
  refine mr_get F w (kin in_R) 0 (by decide) rfl rfl 16 (by decide) (kws_in m_544) (fun _ h => h) rfl d_R_put_26 ?_
  refine lv_iload_n hx hb d_R_put_29 rfl (lv_at hl 1 rfl) ?_
  refine lv_aload_n hx hb d_R_put_30 rfl (lv_at hl 0 rfl) ?_
  refine mr_get F w (kin in_R) 0 (by decide) rfl rfl 16 (by decide) (kws_in m_544) (fun _ h => h) rfl d_R_put_31 ?_
  refine lv_iload_n hx hb d_R_put_34 rfl (lv_at hl 1 rfl) ?_
  refine mr_iaN F w 11 0 (by decide) rfl rfl f (by omega) (by decide) rfl d_R_put_35 ?_
  refine lv_if_ge (tgt := 44) hx hb d_R_put_36 (by decide) (fun c1 => ?_) (fun c1 => ?_)
  · refine lv_aload_n hx hb d_R_put_44 rfl (lv_at hl 0 rfl) ?_
    refine mr_get F w (kin in_R) 0 (by decide) rfl rfl 16 (by decide) (kws_in m_544) (fun _ h => h) rfl d_R_put_45 ?_
    refine lv_iload_n hx hb d_R_put_48 rfl (lv_at hl 1 rfl) ?_
    refine mr_iaN F w 11 0 (by decide) rfl rfl f (by omega) (by decide) rfl d_R_put_49 ?_
    refine mr_isN F w 11 0 (by decide) (fun _ => rfl) rfl f (by omega) (by decide) rfl d_R_put_50 (fun H locs w => ?_)
    exact mr_vret F w hr hlk (by unfold qPut; rw [if_pos c1]; try rfl) d_R_put_51
  · refine lv_iload hx hb d_R_put_39 (lv_at hl 4 rfl) ?_
    refine lv_goto (tgt := 50) hx hb d_R_put_41 (by decide) ?_
    refine mr_isN F w 11 0 (by decide) (fun _ => rfl) rfl f (by omega) (by decide) rfl d_R_put_50 (fun H locs w => ?_)
    exact mr_vret F w hr hlk (by unfold qPut; rw [if_neg c1]; try rfl) d_R_put_51
def qFw (σ : Mem) (pg : Int32) : Nat → Nat → Int32 → Int32
  | 0, _, k => k
  | n + 1, f, k => if σ 8 f = pg then qFw σ pg n (f + 1) (nI f) else qFw σ pg n (f + 1) k
theorem qFw_in (σ : Mem) (pg : Int32) : ∀ (n f : Nat) (k : Int32), f + n ≤ 8 → fr8 k → fr8 (qFw σ pg n f k)
  | 0, _, _, _, h => h
  | n + 1, f, k, hn, h => by
    unfold qFw
    split
    · exact qFw_in σ pg n (f + 1) _ (by omega) (fr8_nI (by omega))
    · exact qFw_in σ pg n (f + 1) _ (by omega) h
def qBef (σ : Mem) (f : Nat) : Nat → Nat → Nat → Nat
  | 0, _, k => k
  | n + 1, g, k => if σ 11 g < 0 then qBef σ f n (g + 1) k else if σ 11 f ≤ σ 11 g then qBef σ f n (g + 1) k else qBef σ f n (g + 1) (k + 1)
def qKth (σ : Mem) (x : Int32) : Nat → Nat → Int32 → Int32
  | 0, _, k => k
  | n + 1, f, k => if σ 11 f < 0 then qKth σ x n (f + 1) k else if nI (qBef σ f 8 0 0) = x then qKth σ x n (f + 1) (nI f) else qKth σ x n (f + 1) k
theorem qKth_in (σ : Mem) (x : Int32) : ∀ (n f : Nat) (k : Int32), f + n ≤ 8 → fr8 k → fr8 (qKth σ x n f k)
  | 0, _, _, _, h => h
  | n + 1, f, k, hn, h => by
    unfold qKth
    split
    · exact qKth_in σ x n (f + 1) _ (by omega) h
    · split
      · exact qKth_in σ x n (f + 1) _ (by omega) (fr8_nI (by omega))
      · exact qKth_in σ x n (f + 1) _ (by omega) h
def qChg (σ : Mem) : Nat → Nat → Nat → Nat
  | 0, _, k => k
  | n + 1, f, k => if σ 11 f < 0 then qChg σ n (f + 1) k else qChg σ n (f + 1) (k + 1)
set_option maxHeartbeats 4000000 in
set_option maxRecDepth 100000 in
theorem c_R_frameWith (σ : Mem) (pg : Int32) : KIR l D cI cF cZ cJ ad y_R_frameWith b_R_frameWith 4 (some .int) 0 0 [.ref (ad 0), .int pg] σ (fun r σ' => r = qFw σ pg 8 0 (-1) ∧ σ' = σ) := by
  refine KI.of (by decide) (Nat.le_of_ble_eq_true rfl) ?_
  intro p e s m args below meth c A ls F w hl hr hlk
  obtain ⟨hx, hb, hml, hown, hts⟩ := id F
  have hl : lv_has ls 4 [(0, .ref (ad 0)), (1, .int pg)] := hl
  have loop : ∀ (n : Nat) (f : Nat) (k : Int32) (hn : f + n = 8) (hk : qFw σ pg n f k = qFw σ pg 8 0 (-1)) (H : Heap) (locs : List Loc) (ls : Array Slot), mW D clP (tyP cI cF cZ cJ) 12 (eR cI cZ ad) ad σ s A s.heap H locs → lv_has ls 4 [(3, .int (nI f)), (2, .int k), (0, .ref (ad 0)), (1, .int pg)] → W p l e { frames := 0, cells := 0, slots := 0, locals := 0 } s m args below meth c H locs 0 0 (MQ below (va_Qi (fun r σ' => r = qFw σ pg 8 0 (-1) ∧ σ' = σ) (KB D clP (tyP cI cF cZ cJ) 12 (eR cI cZ ad) ad) A) args s 0 0 A) (F0 m 4 ls []) := by
    intro n
    induction n with
    | zero =>
      intro f k hn hk H locs ls w hl
      refine lv_iload_n hx hb d_R_frameWith_4 rfl (lv_at hl 0 rfl) ?_
      refine lv_bipush (v := nI 8) hx hb d_R_frameWith_5 (by decide) ?_
      refine nr_icmp_ge (tgt := 32) hx hb d_R_frameWith_7 (by decide) (by omega) (by omega) (fun c1 => ?_) (fun c1 => absurd (by omega) c1)
      refine lv_iload_n hx hb d_R_frameWith_32 rfl (lv_at hl 1 rfl) ?_
      exact mr_iret F w hr hlk (⟨by rw [← hk]; first | rfl | (simp only [qFw]; done) | (simp only [qFw]; rfl), rfl⟩) d_R_frameWith_33
    | succ n ih =>
      intro f k hn hk H locs ls w hl
      refine lv_iload_n hx hb d_R_frameWith_4 rfl (lv_at hl 0 rfl) ?_
      refine lv_bipush (v := nI 8) hx hb d_R_frameWith_5 (by decide) ?_
      refine nr_icmp_ge (tgt := 32) hx hb d_R_frameWith_7 (by decide) (by omega) (by omega) (fun c2 => absurd c2 (by omega)) (fun c2 => ?_)
      refine lv_aload_n hx hb d_R_frameWith_10 rfl (lv_at hl 2 rfl) ?_
      refine mr_get F w (kin in_R) 0 (by decide) rfl rfl 13 (by decide) (kws_in m_541) (fun _ h => h) rfl d_R_frameWith_11 ?_
      refine lv_iload_n hx hb d_R_frameWith_14 rfl (lv_at hl 0 rfl) ?_
      refine mr_iaN F w 8 0 (by decide) rfl rfl f (by omega) (by decide) rfl d_R_frameWith_15 ?_
      refine lv_iload_n hx hb d_R_frameWith_16 rfl (lv_at hl 3 rfl) ?_
      refine lv_icmp_ne (tgt := 24) hx hb d_R_frameWith_17 (by decide) (fun c3 => ?_) (fun c3 => ?_)
      · refine lv_iload_n hx hb d_R_frameWith_24 rfl (lv_at hl 1 rfl) ?_
        refine lv_istore_n (lv' := [(2, .int k), (3, .int (nI f)), (0, .ref (ad 0)), (1, .int pg)]) hx hb d_R_frameWith_25 rfl hl (by decide) rfl (fun ls hl => ?_)
        refine lv_iinc (v := nI (f + 1)) (lv' := [(3, .int (nI (f + 1))), (2, .int k), (0, .ref (ad 0)), (1, .int pg)]) hx hb d_R_frameWith_26 hl (k := 1) rfl (nI_1 _) (by decide) rfl (fun ls hl => ?_)
        refine lv_goto (tgt := 4) hx hb d_R_frameWith_29 (by decide) ?_
        exact ih (f + 1) k (by omega) (by rw [← hk]; simp only [qFw, if_neg c3]) _ _ ls w (lv_sub hl [0, 1, 2, 3] rfl)
      · refine lv_iload_n hx hb d_R_frameWith_20 rfl (lv_at hl 0 rfl) ?_
        refine lv_goto (tgt := 25) hx hb d_R_frameWith_21 (by decide) ?_
        refine lv_istore_n (lv' := [(2, .int (nI f)), (3, .int (nI f)), (0, .ref (ad 0)), (1, .int pg)]) hx hb d_R_frameWith_25 rfl hl (by decide) rfl (fun ls hl => ?_)
        refine lv_iinc (v := nI (f + 1)) (lv' := [(3, .int (nI (f + 1))), (2, .int (nI f)), (0, .ref (ad 0)), (1, .int pg)]) hx hb d_R_frameWith_26 hl (k := 1) rfl (nI_1 _) (by decide) rfl (fun ls hl => ?_)
        refine lv_goto (tgt := 4) hx hb d_R_frameWith_29 (by decide) ?_
        exact ih (f + 1) (nI f) (by omega) (by rw [← hk]; simp only [qFw, if_pos c3]) _ _ ls w (lv_sub hl [0, 1, 2, 3] rfl)
  refine lv_iconst (v := -1) hx hb d_R_frameWith_0 (by decide) ?_
  refine lv_istore_n (lv' := [(2, .int ((-1))), (0, .ref (ad 0)), (1, .int pg)]) hx hb d_R_frameWith_1 rfl hl (by decide) rfl (fun ls hl => ?_)
  refine lv_iconst (v := nI 0) hx hb d_R_frameWith_2 (by decide) ?_
  refine lv_istore_n (lv' := [(3, .int (nI 0)), (2, .int ((-1))), (0, .ref (ad 0)), (1, .int pg)]) hx hb d_R_frameWith_3 rfl hl (by decide) rfl (fun ls hl => ?_)
  exact loop 8 0 (-1) rfl rfl _ _ ls w (lv_sub hl [0, 1, 2, 3] rfl)
set_option maxHeartbeats 4000000 in
set_option maxRecDepth 100000 in
theorem c_R_changed (σ : Mem) : KIR l D cI cF cZ cJ ad y_R_changed b_R_changed 3 (some .int) 0 0 [.ref (ad 0)] σ (fun r σ' => r = nI (qChg (mup σ 0 0 (nI 0)) 8 0 0) ∧ σ' = mup σ 0 0 (nI 0)) := by
  refine KI.of (by decide) (Nat.le_of_ble_eq_true rfl) ?_
  intro p e s m args below meth c A ls F w hl hr hlk
  obtain ⟨hx, hb, hml, hown, hts⟩ := id F
  have hl : lv_has ls 3 [(0, .ref (ad 0))] := hl
  have loop : ∀ (n : Nat) (f k : Nat) (hn : f + n = 8) (hk : qChg (mup σ 0 0 (nI 0)) n f k = qChg (mup σ 0 0 (nI 0)) 8 0 0) (H : Heap) (locs : List Loc) (ls : Array Slot), mW D clP (tyP cI cF cZ cJ) 12 (eR cI cZ ad) ad (mup σ 0 0 (nI 0)) s A s.heap H locs → lv_has ls 3 [(2, .int (nI f)), (1, .int (nI k)), (0, .ref (ad 0))] → W p l e { frames := 0, cells := 0, slots := 0, locals := 0 } s m args below meth c H locs 0 0 (MQ below (va_Qi (fun r σ' => r = nI (qChg (mup σ 0 0 (nI 0)) 8 0 0) ∧ σ' = mup σ 0 0 (nI 0)) (KB D clP (tyP cI cF cZ cJ) 12 (eR cI cZ ad) ad) A) args s 0 0 A) (F0 m 9 ls []) := by
    intro n
    induction n with
    | zero =>
      intro f k hn hk H locs ls w hl
      refine lv_iload_n hx hb d_R_changed_9 rfl (lv_at hl 0 rfl) ?_
      refine lv_bipush (v := nI 8) hx hb d_R_changed_10 (by decide) ?_
      refine nr_icmp_ge (tgt := 38) hx hb d_R_changed_12 (by decide) (by omega) (by omega) (fun c1 => ?_) (fun c1 => absurd (by omega) c1)
      refine lv_iload_n hx hb d_R_changed_38 rfl (lv_at hl 1 rfl) ?_
      exact mr_iret F w hr hlk (⟨by rw [← hk]; first | rfl | (simp only [qChg]; done) | (simp only [qChg]; rfl), rfl⟩) d_R_changed_39
    | succ n ih =>
      intro f k hn hk H locs ls w hl
      refine lv_iload_n hx hb d_R_changed_9 rfl (lv_at hl 0 rfl) ?_
      refine lv_bipush (v := nI 8) hx hb d_R_changed_10 (by decide) ?_
      refine nr_icmp_ge (tgt := 38) hx hb d_R_changed_12 (by decide) (by omega) (by omega) (fun c2 => absurd c2 (by omega)) (fun c2 => ?_)
      refine lv_aload_n hx hb d_R_changed_15 rfl (lv_at hl 2 rfl) ?_
      refine mr_get F w (kin in_R) 0 (by decide) rfl rfl 16 (by decide) (kws_in m_544) (fun _ h => h) rfl d_R_changed_16 ?_
      refine lv_iload_n hx hb d_R_changed_19 rfl (lv_at hl 0 rfl) ?_
      refine mr_iaN F w 11 0 (by decide) rfl rfl f (by omega) (by decide) rfl d_R_changed_20 ?_
      refine lv_if_lt (tgt := 30) hx hb d_R_changed_21 (by decide) (fun c3 => ?_) (fun c3 => ?_)
      · refine lv_iload_n hx hb d_R_changed_30 rfl (lv_at hl 1 rfl) ?_
        refine lv_istore_n (lv' := [(1, .int (nI k)), (2, .int (nI f)), (0, .ref (ad 0))]) hx hb d_R_changed_31 rfl hl (by decide) rfl (fun ls hl => ?_)
        refine lv_iinc (v := nI (f + 1)) (lv' := [(2, .int (nI (f + 1))), (1, .int (nI k)), (0, .ref (ad 0))]) hx hb d_R_changed_32 hl (k := 1) rfl (nI_1 _) (by decide) rfl (fun ls hl => ?_)
        refine lv_goto (tgt := 9) hx hb d_R_changed_35 (by decide) ?_
        exact ih (f + 1) k (by omega) (by rw [← hk]; simp only [qChg, if_pos c3]) _ _ ls w (lv_sub hl [0, 1, 2] rfl)
      · refine lv_iload_n hx hb d_R_changed_24 rfl (lv_at hl 1 rfl) ?_
        refine lv_iconst (v := nI 1) hx hb d_R_changed_25 (by decide) ?_
        refine nr_iadd hx hb d_R_changed_26 ?_
        refine lv_goto (tgt := 31) hx hb d_R_changed_27 (by decide) ?_
        refine lv_istore_n (lv' := [(1, .int (nI (k + 1))), (2, .int (nI f)), (0, .ref (ad 0))]) hx hb d_R_changed_31 rfl hl (by decide) rfl (fun ls hl => ?_)
        refine lv_iinc (v := nI (f + 1)) (lv' := [(2, .int (nI (f + 1))), (1, .int (nI (k + 1))), (0, .ref (ad 0))]) hx hb d_R_changed_32 hl (k := 1) rfl (nI_1 _) (by decide) rfl (fun ls hl => ?_)
        refine lv_goto (tgt := 9) hx hb d_R_changed_35 (by decide) ?_
        exact ih (f + 1) (k + 1) (by omega) (by rw [← hk]; simp only [qChg, if_neg c3]) _ _ ls w (lv_sub hl [0, 1, 2] rfl)
  refine lv_aload_n hx hb d_R_changed_0 rfl (lv_at hl 0 rfl) ?_
  refine lv_iconst (v := nI 0) hx hb d_R_changed_1 (by decide) ?_
  refine mr_put F w (kin in_R) t_R t_R_ok n_R 0 (by decide) rfl rfl 0 (by decide) (kws_in m_528) (fun _ h => h) rfl rfl rfl (Nat.le_of_ble_eq_true rfl) rfl d_R_changed_2 (fun H locs w => ?_)
  refine lv_iconst (v := nI 0) hx hb d_R_changed_5 (by decide) ?_
  refine lv_istore_n (lv' := [(1, .int (nI 0)), (0, .ref (ad 0))]) hx hb d_R_changed_6 rfl hl (by decide) rfl (fun ls hl => ?_)
  refine lv_iconst (v := nI 0) hx hb d_R_changed_7 (by decide) ?_
  refine lv_istore_n (lv' := [(2, .int (nI 0)), (1, .int (nI 0)), (0, .ref (ad 0))]) hx hb d_R_changed_8 rfl hl (by decide) rfl (fun ls hl => ?_)
  exact loop 8 0 0 rfl rfl _ _ ls w (lv_sub hl [0, 1, 2] rfl)
end
