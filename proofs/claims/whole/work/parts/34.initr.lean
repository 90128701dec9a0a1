/-! new PagePoolModel() -/
section
variable {l : Launch} {D : va_G} {cI cF cZ cJ : ClassId} {ad : Nat → Nat} {σ : Mem}
set_option maxRecDepth 20000 in
theorem m_523 : Cond.methodLink "PagePoolModel" 1 (⟨"java/lang/Object", "<init>", "()V"⟩ : MethodName) ∈ gt := gt_in 523 (by decide +kernel) (by decide +kernel)
set_option maxRecDepth 20000 in
theorem m_595 : Cond.arrayClass .boolean ∈ gt := gt_in 595 (by decide +kernel) (by decide +kernel)
theorem d_R_init_0 : decode b_R_init 0 = .ok (.aload_n 0, 1) := by decide +kernel
theorem d_R_init_1 : decode b_R_init 1 = .ok (.invokespecial 1, 3) := by decide +kernel
theorem d_R_init_4 : decode b_R_init 4 = .ok (.aload_n 0, 1) := by decide +kernel
theorem d_R_init_5 : decode b_R_init 5 = .ok (.sipush 16384, 3) := by decide +kernel
theorem d_R_init_8 : decode b_R_init 8 = .ok (.newarray .int, 2) := by decide +kernel
theorem d_R_init_10 : decode b_R_init 10 = .ok (.putfield 7, 3) := by decide +kernel
theorem d_R_init_13 : decode b_R_init 13 = .ok (.aload_n 0, 1) := by decide +kernel
theorem d_R_init_14 : decode b_R_init 14 = .ok (.bipush 64, 2) := by decide +kernel
theorem d_R_init_16 : decode b_R_init 16 = .ok (.newarray .int, 2) := by decide +kernel
theorem d_R_init_18 : decode b_R_init 18 = .ok (.putfield 13, 3) := by decide +kernel
theorem d_R_init_21 : decode b_R_init 21 = .ok (.aload_n 0, 1) := by decide +kernel
theorem d_R_init_22 : decode b_R_init 22 = .ok (.iconst (-1), 1) := by decide +kernel
theorem d_R_init_23 : decode b_R_init 23 = .ok (.putfield 16, 3) := by decide +kernel
theorem d_R_init_26 : decode b_R_init 26 = .ok (.aload_n 0, 1) := by decide +kernel
theorem d_R_init_27 : decode b_R_init 27 = .ok (.iconst (-1), 1) := by decide +kernel
theorem d_R_init_28 : decode b_R_init 28 = .ok (.putfield 20, 3) := by decide +kernel
theorem d_R_init_31 : decode b_R_init 31 = .ok (.aload_n 0, 1) := by decide +kernel
theorem d_R_init_32 : decode b_R_init 32 = .ok (.sipush 8192, 3) := by decide +kernel
theorem d_R_init_35 : decode b_R_init 35 = .ok (.newarray .int, 2) := by decide +kernel
theorem d_R_init_37 : decode b_R_init 37 = .ok (.putfield 23, 3) := by decide +kernel
theorem d_R_init_40 : decode b_R_init 40 = .ok (.aload_n 0, 1) := by decide +kernel
theorem d_R_init_41 : decode b_R_init 41 = .ok (.sipush 8192, 3) := by decide +kernel
theorem d_R_init_44 : decode b_R_init 44 = .ok (.newarray .int, 2) := by decide +kernel
theorem d_R_init_46 : decode b_R_init 46 = .ok (.putfield 26, 3) := by decide +kernel
theorem d_R_init_49 : decode b_R_init 49 = .ok (.aload_n 0, 1) := by decide +kernel
theorem d_R_init_50 : decode b_R_init 50 = .ok (.sipush 8192, 3) := by decide +kernel
theorem d_R_init_53 : decode b_R_init 53 = .ok (.newarray .int, 2) := by decide +kernel
theorem d_R_init_55 : decode b_R_init 55 = .ok (.putfield 29, 3) := by decide +kernel
theorem d_R_init_58 : decode b_R_init 58 = .ok (.aload_n 0, 1) := by decide +kernel
theorem d_R_init_59 : decode b_R_init 59 = .ok (.sipush 8192, 3) := by decide +kernel
theorem d_R_init_62 : decode b_R_init 62 = .ok (.newarray .boolean, 2) := by decide +kernel
theorem d_R_init_64 : decode b_R_init 64 = .ok (.putfield 32, 3) := by decide +kernel
theorem d_R_init_67 : decode b_R_init 67 = .ok (.aload_n 0, 1) := by decide +kernel
theorem d_R_init_68 : decode b_R_init 68 = .ok (.sipush 512, 3) := by decide +kernel
theorem d_R_init_71 : decode b_R_init 71 = .ok (.newarray .int, 2) := by decide +kernel
theorem d_R_init_73 : decode b_R_init 73 = .ok (.putfield 36, 3) := by decide +kernel
theorem d_R_init_76 : decode b_R_init 76 = .ok (.aload_n 0, 1) := by decide +kernel
theorem d_R_init_77 : decode b_R_init 77 = .ok (.bipush 8, 2) := by decide +kernel
theorem d_R_init_79 : decode b_R_init 79 = .ok (.newarray .int, 2) := by decide +kernel
theorem d_R_init_81 : decode b_R_init 81 = .ok (.putfield 39, 3) := by decide +kernel
theorem d_R_init_84 : decode b_R_init 84 = .ok (.aload_n 0, 1) := by decide +kernel
theorem d_R_init_85 : decode b_R_init 85 = .ok (.bipush 8, 2) := by decide +kernel
theorem d_R_init_87 : decode b_R_init 87 = .ok (.newarray .int, 2) := by decide +kernel
theorem d_R_init_89 : decode b_R_init 89 = .ok (.putfield 42, 3) := by decide +kernel
theorem d_R_init_92 : decode b_R_init 92 = .ok (.aload_n 0, 1) := by decide +kernel
theorem d_R_init_93 : decode b_R_init 93 = .ok (.bipush 8, 2) := by decide +kernel
theorem d_R_init_95 : decode b_R_init 95 = .ok (.newarray .boolean, 2) := by decide +kernel
theorem d_R_init_97 : decode b_R_init 97 = .ok (.putfield 45, 3) := by decide +kernel
theorem d_R_init_100 : decode b_R_init 100 = .ok (.aload_n 0, 1) := by decide +kernel
theorem d_R_init_101 : decode b_R_init 101 = .ok (.bipush 8, 2) := by decide +kernel
theorem d_R_init_103 : decode b_R_init 103 = .ok (.newarray .int, 2) := by decide +kernel
theorem d_R_init_105 : decode b_R_init 105 = .ok (.putfield 48, 3) := by decide +kernel
theorem d_R_init_108 : decode b_R_init 108 = .ok (.aload_n 0, 1) := by decide +kernel
theorem d_R_init_109 : decode b_R_init 109 = .ok (.iconst (-1), 1) := by decide +kernel
theorem d_R_init_110 : decode b_R_init 110 = .ok (.putfield 51, 3) := by decide +kernel
theorem d_R_init_113 : decode b_R_init 113 = .ok (.aload_n 0, 1) := by decide +kernel
theorem d_R_init_114 : decode b_R_init 114 = .ok (.invokevirtual 54, 3) := by decide +kernel
theorem d_R_init_117 : decode b_R_init 117 = .ok (.return_, 1) := by decide +kernel
set_option maxRecDepth 20000 in
theorem g_R_init_114 : GoodIn (kws (y_R_init) b_R_init 1 none) (wsV R_R 54 R_R y_R_forget (kws (y_R_forget) b_R_forget 2 none)) := kwV m_524 m_526 ms_11 m_6 m_527
set_option maxHeartbeats 4000000 in
set_option maxRecDepth 100000 in
/-- new PagePoolModel() -/
theorem c_R_init (h0 : Nat) : LI l D clP (tyP cI cF cZ cJ) y_R_init b_R_init 1 { frames := 2, cells := 11, slots := 49760, locals := 50 } [.ref h0] [(h0, .inr (5, [.int 0, .null, .null, .int 0, .int 0, .null, .null, .null, .null, .int 0, .int 0, .int 0, .null, .null, .null, .null, .null, .int 0, .int 0, .int 0, .int 0, .int 0]))] (fun _ => True) (fun ad : Nat → Nat => ad 0 = h0) (fun ad => mw 12 (eR cI cZ ad) ad (qForget mR0)) := by
  refine LI.of (by decide) rfl (Nat.le_of_ble_eq_true rfl) ?_
  intro p e s m args below meth c A ls F w hl hr hlk hini hX
  obtain ⟨hx, hb, hml, hown, hts⟩ := id F
  have hl : lv_has ls 1 [(0, .ref h0)] := hl
  refine lv_aload_n hx hb d_R_init_0 rfl (lv_at hl 0 rfl) ?_
  refine li_obj F hl.1 (kws_in m_523) (kws_in m_21) (kws_in m_22) (by decide) (Nat.le_of_ble_eq_true rfl) (Nat.le_of_ble_eq_true rfl) d_R_init_1 ?_
  refine lv_aload_n hx hb d_R_init_4 rfl (lv_at hl 0 rfl) ?_
  refine lv_sipush (v := nI 16384) hx hb d_R_init_5 (by decide) ?_
  refine li_newa (atype := .int) (ty := .int) (N := 16384) (a0 := (16384, .inl (fun _ => 0))) F w (kws_in m_66) rfl 0 rfl (fun _ _ => rfl) (fun _ => rfl) rfl (by decide) (by decide) (Nat.le_of_ble_eq_true rfl) (Nat.le_of_ble_eq_true rfl) d_R_init_8 (fun q1 H w => ?_)
  have w : lW D clP (tyP cI cF cZ cJ) [(h0, .inr (5, [.int 0, .null, .null, .int 0, .int 0, .null, .null, .null, .null, .int 0, .int 0, .int 0, .null, .null, .null, .null, .null, .int 0, .int 0, .int 0, .int 0, .int 0])), (q1, .inl (cI, 16384, .inl (fun _ => 0)))] s A s.heap H _ := w
  refine li_putF F w hini (kin in_R) t_R t_R_ok n_R 0 rfl rfl 1 (by decide) (kws_in m_529) (fun _ h => h) rfl rfl rfl rfl (Nat.le_of_ble_eq_true rfl) d_R_init_10 (fun H locs w => ?_)
  have w : lW D clP (tyP cI cF cZ cJ) [(h0, .inr (5, [.int 0, .ref q1, .null, .int 0, .int 0, .null, .null, .null, .null, .int 0, .int 0, .int 0, .null, .null, .null, .null, .null, .int 0, .int 0, .int 0, .int 0, .int 0])), (q1, .inl (cI, 16384, .inl (fun _ => 0)))] s A s.heap H _ := w
  refine lv_aload_n hx hb d_R_init_13 rfl (lv_at hl 0 rfl) ?_
  refine lv_bipush (v := nI 64) hx hb d_R_init_14 (by decide) ?_
  refine li_newa (atype := .int) (ty := .int) (N := 64) (a0 := (64, .inl (fun _ => 0))) F w (kws_in m_66) rfl 0 rfl (fun _ _ => rfl) (fun _ => rfl) rfl (by decide) (by decide) (Nat.le_of_ble_eq_true rfl) (Nat.le_of_ble_eq_true rfl) d_R_init_16 (fun q2 H w => ?_)
  have w : lW D clP (tyP cI cF cZ cJ) [(h0, .inr (5, [.int 0, .ref q1, .null, .int 0, .int 0, .null, .null, .null, .null, .int 0, .int 0, .int 0, .null, .null, .null, .null, .null, .int 0, .int 0, .int 0, .int 0, .int 0])), (q1, .inl (cI, 16384, .inl (fun _ => 0))), (q2, .inl (cI, 64, .inl (fun _ => 0)))] s A s.heap H _ := w
  refine li_putF F w hini (kin in_R) t_R t_R_ok n_R 0 rfl rfl 2 (by decide) (kws_in m_530) (fun _ h => h) rfl rfl rfl rfl (Nat.le_of_ble_eq_true rfl) d_R_init_18 (fun H locs w => ?_)
  have w : lW D clP (tyP cI cF cZ cJ) [(h0, .inr (5, [.int 0, .ref q1, .ref q2, .int 0, .int 0, .null, .null, .null, .null, .int 0, .int 0, .int 0, .null, .null, .null, .null, .null, .int 0, .int 0, .int 0, .int 0, .int 0])), (q1, .inl (cI, 16384, .inl (fun _ => 0))), (q2, .inl (cI, 64, .inl (fun _ => 0)))] s A s.heap H _ := w
  refine lv_aload_n hx hb d_R_init_21 rfl (lv_at hl 0 rfl) ?_
  refine lv_iconst (v := -1) hx hb d_R_init_22 (by decide) ?_
  refine li_put F w (kin in_R) t_R t_R_ok n_R 0 rfl rfl 3 (by decide) (kws_in m_531) (fun _ h => h) rfl rfl rfl (Nat.le_of_ble_eq_true rfl) d_R_init_23 (fun H locs w => ?_)
  have w : lW D clP (tyP cI cF cZ cJ) [(h0, .inr (5, [.int 0, .ref q1, .ref q2, .int (-1), .int 0, .null, .null, .null, .null, .int 0, .int 0, .int 0, .null, .null, .null, .null, .null, .int 0, .int 0, .int 0, .int 0, .int 0])), (q1, .inl (cI, 16384, .inl (fun _ => 0))), (q2, .inl (cI, 64, .inl (fun _ => 0)))] s A s.heap H _ := w
  refine lv_aload_n hx hb d_R_init_26 rfl (lv_at hl 0 rfl) ?_
  refine lv_iconst (v := -1) hx hb d_R_init_27 (by decide) ?_
  refine li_put F w (kin in_R) t_R t_R_ok n_R 0 rfl rfl 4 (by decide) (kws_in m_532) (fun _ h => h) rfl rfl rfl (Nat.le_of_ble_eq_true rfl) d_R_init_28 (fun H locs w => ?_)
  have w : lW D clP (tyP cI cF cZ cJ) [(h0, .inr (5, [.int 0, .ref q1, .ref q2, .int (-1), .int (-1), .null, .null, .null, .null, .int 0, .int 0, .int 0, .null, .null, .null, .null, .null, .int 0, .int 0, .int 0, .int 0, .int 0])), (q1, .inl (cI, 16384, .inl (fun _ => 0))), (q2, .inl (cI, 64, .inl (fun _ => 0)))] s A s.heap H _ := w
  refine lv_aload_n hx hb d_R_init_31 rfl (lv_at hl 0 rfl) ?_
  refine lv_sipush (v := nI 8192) hx hb d_R_init_32 (by decide) ?_
  refine li_newa (atype := .int) (ty := .int) (N := 8192) (a0 := (8192, .inl (fun _ => 0))) F w (kws_in m_66) rfl 0 rfl (fun _ _ => rfl) (fun _ => rfl) rfl (by decide) (by decide) (Nat.le_of_ble_eq_true rfl) (Nat.le_of_ble_eq_true rfl) d_R_init_35 (fun q3 H w => ?_)
  have w : lW D clP (tyP cI cF cZ cJ) [(h0, .inr (5, [.int 0, .ref q1, .ref q2, .int (-1), .int (-1), .null, .null, .null, .null, .int 0, .int 0, .int 0, .null, .null, .null, .null, .null, .int 0, .int 0, .int 0, .int 0, .int 0])), (q1, .inl (cI, 16384, .inl (fun _ => 0))), (q2, .inl (cI, 64, .inl (fun _ => 0))), (q3, .inl (cI, 8192, .inl (fun _ => 0)))] s A s.heap H _ := w
  refine li_putF F w hini (kin in_R) t_R t_R_ok n_R 0 rfl rfl 5 (by decide) (kws_in m_533) (fun _ h => h) rfl rfl rfl rfl (Nat.le_of_ble_eq_true rfl) d_R_init_37 (fun H locs w => ?_)
  have w : lW D clP (tyP cI cF cZ cJ) [(h0, .inr (5, [.int 0, .ref q1, .ref q2, .int (-1), .int (-1), .ref q3, .null, .null, .null, .int 0, .int 0, .int 0, .null, .null, .null, .null, .null, .int 0, .int 0, .int 0, .int 0, .int 0])), (q1, .inl (cI, 16384, .inl (fun _ => 0))), (q2, .inl (cI, 64, .inl (fun _ => 0))), (q3, .inl (cI, 8192, .inl (fun _ => 0)))] s A s.heap H _ := w
  refine lv_aload_n hx hb d_R_init_40 rfl (lv_at hl 0 rfl) ?_
  refine lv_sipush (v := nI 8192) hx hb d_R_init_41 (by decide) ?_
  refine li_newa (atype := .int) (ty := .int) (N := 8192) (a0 := (8192, .inl (fun _ => 0))) F w (kws_in m_66) rfl 0 rfl (fun _ _ => rfl) (fun _ => rfl) rfl (by decide) (by decide) (Nat.le_of_ble_eq_true rfl) (Nat.le_of_ble_eq_true rfl) d_R_init_44 (fun q4 H w => ?_)
  have w : lW D clP (tyP cI cF cZ cJ) [(h0, .inr (5, [.int 0, .ref q1, .ref q2, .int (-1), .int (-1), .ref q3, .null, .null, .null, .int 0, .int 0, .int 0, .null, .null, .null, .null, .null, .int 0, .int 0, .int 0, .int 0, .int 0])), (q1, .inl (cI, 16384, .inl (fun _ => 0))), (q2, .inl (cI, 64, .inl (fun _ => 0))), (q3, .inl (cI, 8192, .inl (fun _ => 0))), (q4, .inl (cI, 8192, .inl (fun _ => 0)))] s A s.heap H _ := w
  refine li_putF F w hini (kin in_R) t_R t_R_ok n_R 0 rfl rfl 6 (by decide) (kws_in m_534) (fun _ h => h) rfl rfl rfl rfl (Nat.le_of_ble_eq_true rfl) d_R_init_46 (fun H locs w => ?_)
  have w : lW D clP (tyP cI cF cZ cJ) [(h0, .inr (5, [.int 0, .ref q1, .ref q2, .int (-1), .int (-1), .ref q3, .ref q4, .null, .null, .int 0, .int 0, .int 0, .null, .null, .null, .null, .null, .int 0, .int 0, .int 0, .int 0, .int 0])), (q1, .inl (cI, 16384, .inl (fun _ => 0))), (q2, .inl (cI, 64, .inl (fun _ => 0))), (q3, .inl (cI, 8192, .inl (fun _ => 0))), (q4, .inl (cI, 8192, .inl (fun _ => 0)))] s A s.heap H _ := w
  refine lv_aload_n hx hb d_R_init_49 rfl (lv_at hl 0 rfl) ?_
  refine lv_sipush (v := nI 8192) hx hb d_R_init_50 (by decide) ?_
  refine li_newa (atype := .int) (ty := .int) (N := 8192) (a0 := (8192, .inl (fun _ => 0))) F w (kws_in m_66) rfl 0 rfl (fun _ _ => rfl) (fun _ => rfl) rfl (by decide) (by decide) (Nat.le_of_ble_eq_true rfl) (Nat.le_of_ble_eq_true rfl) d_R_init_53 (fun q5 H w => ?_)
  have w : lW D clP (tyP cI cF cZ cJ) [(h0, .inr (5, [.int 0, .ref q1, .ref q2, .int (-1), .int (-1), .ref q3, .ref q4, .null, .null, .int 0, .int 0, .int 0, .null, .null, .null, .null, .null, .int 0, .int 0, .int 0, .int 0, .int 0])), (q1, .inl (cI, 16384, .inl (fun _ => 0))), (q2, .inl (cI, 64, .inl (fun _ => 0))), (q3, .inl (cI, 8192, .inl (fun _ => 0))), (q4, .inl (cI, 8192, .inl (fun _ => 0))), (q5, .inl (cI, 8192, .inl (fun _ => 0)))] s A s.heap H _ := w
  refine li_putF F w hini (kin in_R) t_R t_R_ok n_R 0 rfl rfl 7 (by decide) (kws_in m_535) (fun _ h => h) rfl rfl rfl rfl (Nat.le_of_ble_eq_true rfl) d_R_init_55 (fun H locs w => ?_)
  have w : lW D clP (tyP cI cF cZ cJ) [(h0, .inr (5, [.int 0, .ref q1, .ref q2, .int (-1), .int (-1), .ref q3, .ref q4, .ref q5, .null, .int 0, .int 0, .int 0, .null, .null, .null, .null, .null, .int 0, .int 0, .int 0, .int 0, .int 0])), (q1, .inl (cI, 16384, .inl (fun _ => 0))), (q2, .inl (cI, 64, .inl (fun _ => 0))), (q3, .inl (cI, 8192, .inl (fun _ => 0))), (q4, .inl (cI, 8192, .inl (fun _ => 0))), (q5, .inl (cI, 8192, .inl (fun _ => 0)))] s A s.heap H _ := w
  refine lv_aload_n hx hb d_R_init_58 rfl (lv_at hl 0 rfl) ?_
  refine lv_sipush (v := nI 8192) hx hb d_R_init_59 (by decide) ?_
  refine li_newa (atype := .boolean) (ty := .boolean) (N := 8192) (a0 := (8192, .inl (fun _ => 0))) F w (kws_in m_595) rfl 2 rfl (fun _ _ => rfl) (fun _ => rfl) rfl (by decide) (by decide) (Nat.le_of_ble_eq_true rfl) (Nat.le_of_ble_eq_true rfl) d_R_init_62 (fun q6 H w => ?_)
  have w : lW D clP (tyP cI cF cZ cJ) [(h0, .inr (5, [.int 0, .ref q1, .ref q2, .int (-1), .int (-1), .ref q3, .ref q4, .ref q5, .null, .int 0, .int 0, .int 0, .null, .null, .null, .null, .null, .int 0, .int 0, .int 0, .int 0, .int 0])), (q1, .inl (cI, 16384, .inl (fun _ => 0))), (q2, .inl (cI, 64, .inl (fun _ => 0))), (q3, .inl (cI, 8192, .inl (fun _ => 0))), (q4, .inl (cI, 8192, .inl (fun _ => 0))), (q5, .inl (cI, 8192, .inl (fun _ => 0))), (q6, .inl (cZ, 8192, .inl (fun _ => 0)))] s A s.heap H _ := w
  refine li_putF F w hini (kin in_R) t_R t_R_ok n_R 0 rfl rfl 8 (by decide) (kws_in m_536) (fun _ h => h) rfl rfl rfl rfl (Nat.le_of_ble_eq_true rfl) d_R_init_64 (fun H locs w => ?_)
  have w : lW D clP (tyP cI cF cZ cJ) [(h0, .inr (5, [.int 0, .ref q1, .ref q2, .int (-1), .int (-1), .ref q3, .ref q4, .ref q5, .ref q6, .int 0, .int 0, .int 0, .null, .null, .null, .null, .null, .int 0, .int 0, .int 0, .int 0, .int 0])), (q1, .inl (cI, 16384, .inl (fun _ => 0))), (q2, .inl (cI, 64, .inl (fun _ => 0))), (q3, .inl (cI, 8192, .inl (fun _ => 0))), (q4, .inl (cI, 8192, .inl (fun _ => 0))), (q5, .inl (cI, 8192, .inl (fun _ => 0))), (q6, .inl (cZ, 8192, .inl (fun _ => 0)))] s A s.heap H _ := w
  refine lv_aload_n hx hb d_R_init_67 rfl (lv_at hl 0 rfl) ?_
  refine lv_sipush (v := nI 512) hx hb d_R_init_68 (by decide) ?_
  refine li_newa (atype := .int) (ty := .int) (N := 512) (a0 := (512, .inl (fun _ => 0))) F w (kws_in m_66) rfl 0 rfl (fun _ _ => rfl) (fun _ => rfl) rfl (by decide) (by decide) (Nat.le_of_ble_eq_true rfl) (Nat.le_of_ble_eq_true rfl) d_R_init_71 (fun q7 H w => ?_)
  have w : lW D clP (tyP cI cF cZ cJ) [(h0, .inr (5, [.int 0, .ref q1, .ref q2, .int (-1), .int (-1), .ref q3, .ref q4, .ref q5, .ref q6, .int 0, .int 0, .int 0, .null, .null, .null, .null, .null, .int 0, .int 0, .int 0, .int 0, .int 0])), (q1, .inl (cI, 16384, .inl (fun _ => 0))), (q2, .inl (cI, 64, .inl (fun _ => 0))), (q3, .inl (cI, 8192, .inl (fun _ => 0))), (q4, .inl (cI, 8192, .inl (fun _ => 0))), (q5, .inl (cI, 8192, .inl (fun _ => 0))), (q6, .inl (cZ, 8192, .inl (fun _ => 0))), (q7, .inl (cI, 512, .inl (fun _ => 0)))] s A s.heap H _ := w
  refine li_putF F w hini (kin in_R) t_R t_R_ok n_R 0 rfl rfl 12 (by decide) (kws_in m_540) (fun _ h => h) rfl rfl rfl rfl (Nat.le_of_ble_eq_true rfl) d_R_init_73 (fun H locs w => ?_)
  have w : lW D clP (tyP cI cF cZ cJ) [(h0, .inr (5, [.int 0, .ref q1, .ref q2, .int (-1), .int (-1), .ref q3, .ref q4, .ref q5, .ref q6, .int 0, .int 0, .int 0, .ref q7, .null, .null, .null, .null, .int 0, .int 0, .int 0, .int 0, .int 0])), (q1, .inl (cI, 16384, .inl (fun _ => 0))), (q2, .inl (cI, 64, .inl (fun _ => 0))), (q3, .inl (cI, 8192, .inl (fun _ => 0))), (q4, .inl (cI, 8192, .inl (fun _ => 0))), (q5, .inl (cI, 8192, .inl (fun _ => 0))), (q6, .inl (cZ, 8192, .inl (fun _ => 0))), (q7, .inl (cI, 512, .inl (fun _ => 0)))] s A s.heap H _ := w
  refine lv_aload_n hx hb d_R_init_76 rfl (lv_at hl 0 rfl) ?_
  refine lv_bipush (v := nI 8) hx hb d_R_init_77 (by decide) ?_
  refine li_newa (atype := .int) (ty := .int) (N := 8) (a0 := (8, .inl (fun _ => 0))) F w (kws_in m_66) rfl 0 rfl (fun _ _ => rfl) (fun _ => rfl) rfl (by decide) (by decide) (Nat.le_of_ble_eq_true rfl) (Nat.le_of_ble_eq_true rfl) d_R_init_79 (fun q8 H w => ?_)
  have w : lW D clP (tyP cI cF cZ cJ) [(h0, .inr (5, [.int 0, .ref q1, .ref q2, .int (-1), .int (-1), .ref q3, .ref q4, .ref q5, .ref q6, .int 0, .int 0, .int 0, .ref q7, .null, .null, .null, .null, .int 0, .int 0, .int 0, .int 0, .int 0])), (q1, .inl (cI, 16384, .inl (fun _ => 0))), (q2, .inl (cI, 64, .inl (fun _ => 0))), (q3, .inl (cI, 8192, .inl (fun _ => 0))), (q4, .inl (cI, 8192, .inl (fun _ => 0))), (q5, .inl (cI, 8192, .inl (fun _ => 0))), (q6, .inl (cZ, 8192, .inl (fun _ => 0))), (q7, .inl (cI, 512, .inl (fun _ => 0))), (q8, .inl (cI, 8, .inl (fun _ => 0)))] s A s.heap H _ := w
  refine li_putF F w hini (kin in_R) t_R t_R_ok n_R 0 rfl rfl 13 (by decide) (kws_in m_541) (fun _ h => h) rfl rfl rfl rfl (Nat.le_of_ble_eq_true rfl) d_R_init_81 (fun H locs w => ?_)
  have w : lW D clP (tyP cI cF cZ cJ) [(h0, .inr (5, [.int 0, .ref q1, .ref q2, .int (-1), .int (-1), .ref q3, .ref q4, .ref q5, .ref q6, .int 0, .int 0, .int 0, .ref q7, .ref q8, .null, .null, .null, .int 0, .int 0, .int 0, .int 0, .int 0])), (q1, .inl (cI, 16384, .inl (fun _ => 0))), (q2, .inl (cI, 64, .inl (fun _ => 0))), (q3, .inl (cI, 8192, .inl (fun _ => 0))), (q4, .inl (cI, 8192, .inl (fun _ => 0))), (q5, .inl (cI, 8192, .inl (fun _ => 0))), (q6, .inl (cZ, 8192, .inl (fun _ => 0))), (q7, .inl (cI, 512, .inl (fun _ => 0))), (q8, .inl (cI, 8, .inl (fun _ => 0)))] s A s.heap H _ := w
  refine lv_aload_n hx hb d_R_init_84 rfl (lv_at hl 0 rfl) ?_
  refine lv_bipush (v := nI 8) hx hb d_R_init_85 (by decide) ?_
  refine li_newa (atype := .int) (ty := .int) (N := 8) (a0 := (8, .inl (fun _ => 0))) F w (kws_in m_66) rfl 0 rfl (fun _ _ => rfl) (fun _ => rfl) rfl (by decide) (by decide) (Nat.le_of_ble_eq_true rfl) (Nat.le_of_ble_eq_true rfl) d_R_init_87 (fun q9 H w => ?_)
  have w : lW D clP (tyP cI cF cZ cJ) [(h0, .inr (5, [.int 0, .ref q1, .ref q2, .int (-1), .int (-1), .ref q3, .ref q4, .ref q5, .ref q6, .int 0, .int 0, .int 0, .ref q7, .ref q8, .null, .null, .null, .int 0, .int 0, .int 0, .int 0, .int 0])), (q1, .inl (cI, 16384, .inl (fun _ => 0))), (q2, .inl (cI, 64, .inl (fun _ => 0))), (q3, .inl (cI, 8192, .inl (fun _ => 0))), (q4, .inl (cI, 8192, .inl (fun _ => 0))), (q5, .inl (cI, 8192, .inl (fun _ => 0))), (q6, .inl (cZ, 8192, .inl (fun _ => 0))), (q7, .inl (cI, 512, .inl (fun _ => 0))), (q8, .inl (cI, 8, .inl (fun _ => 0))), (q9, .inl (cI, 8, .inl (fun _ => 0)))] s A s.heap H _ := w
  refine li_putF F w hini (kin in_R) t_R t_R_ok n_R 0 rfl rfl 14 (by decide) (kws_in m_542) (fun _ h => h) rfl rfl rfl rfl (Nat.le_of_ble_eq_true rfl) d_R_init_89 (fun H locs w => ?_)
  have w : lW D clP (tyP cI cF cZ cJ) [(h0, .inr (5, [.int 0, .ref q1, .ref q2, .int (-1), .int (-1), .ref q3, .ref q4, .ref q5, .ref q6, .int 0, .int 0, .int 0, .ref q7, .ref q8, .ref q9, .null, .null, .int 0, .int 0, .int 0, .int 0, .int 0])), (q1, .inl (cI, 16384, .inl (fun _ => 0))), (q2, .inl (cI, 64, .inl (fun _ => 0))), (q3, .inl (cI, 8192, .inl (fun _ => 0))), (q4, .inl (cI, 8192, .inl (fun _ => 0))), (q5, .inl (cI, 8192, .inl (fun _ => 0))), (q6, .inl (cZ, 8192, .inl (fun _ => 0))), (q7, .inl (cI, 512, .inl (fun _ => 0))), (q8, .inl (cI, 8, .inl (fun _ => 0))), (q9, .inl (cI, 8, .inl (fun _ => 0)))] s A s.heap H _ := w
  refine lv_aload_n hx hb d_R_init_92 rfl (lv_at hl 0 rfl) ?_
  refine lv_bipush (v := nI 8) hx hb d_R_init_93 (by decide) ?_
  refine li_newa (atype := .boolean) (ty := .boolean) (N := 8) (a0 := (8, .inl (fun _ => 0))) F w (kws_in m_595) rfl 2 rfl (fun _ _ => rfl) (fun _ => rfl) rfl (by decide) (by decide) (Nat.le_of_ble_eq_true rfl) (Nat.le_of_ble_eq_true rfl) d_R_init_95 (fun q10 H w => ?_)
  have w : lW D clP (tyP cI cF cZ cJ) [(h0, .inr (5, [.int 0, .ref q1, .ref q2, .int (-1), .int (-1), .ref q3, .ref q4, .ref q5, .ref q6, .int 0, .int 0, .int 0, .ref q7, .ref q8, .ref q9, .null, .null, .int 0, .int 0, .int 0, .int 0, .int 0])), (q1, .inl (cI, 16384, .inl (fun _ => 0))), (q2, .inl (cI, 64, .inl (fun _ => 0))), (q3, .inl (cI, 8192, .inl (fun _ => 0))), (q4, .inl (cI, 8192, .inl (fun _ => 0))), (q5, .inl (cI, 8192, .inl (fun _ => 0))), (q6, .inl (cZ, 8192, .inl (fun _ => 0))), (q7, .inl (cI, 512, .inl (fun _ => 0))), (q8, .inl (cI, 8, .inl (fun _ => 0))), (q9, .inl (cI, 8, .inl (fun _ => 0))), (q10, .inl (cZ, 8, .inl (fun _ => 0)))] s A s.heap H _ := w
  refine li_putF F w hini (kin in_R) t_R t_R_ok n_R 0 rfl rfl 15 (by decide) (kws_in m_543) (fun _ h => h) rfl rfl rfl rfl (Nat.le_of_ble_eq_true rfl) d_R_init_97 (fun H locs w => ?_)
  have w : lW D clP (tyP cI cF cZ cJ) [(h0, .inr (5, [.int 0, .ref q1, .ref q2, .int (-1), .int (-1), .ref q3, .ref q4, .ref q5, .ref q6, .int 0, .int 0, .int 0, .ref q7, .ref q8, .ref q9, .ref q10, .null, .int 0, .int 0, .int 0, .int 0, .int 0])), (q1, .inl (cI, 16384, .inl (fun _ => 0))), (q2, .inl (cI, 64, .inl (fun _ => 0))), (q3, .inl (cI, 8192, .inl (fun _ => 0))), (q4, .inl (cI, 8192, .inl (fun _ => 0))), (q5, .inl (cI, 8192, .inl (fun _ => 0))), (q6, .inl (cZ, 8192, .inl (fun _ => 0))), (q7, .inl (cI, 512, .inl (fun _ => 0))), (q8, .inl (cI, 8, .inl (fun _ => 0))), (q9, .inl (cI, 8, .inl (fun _ => 0))), (q10, .inl (cZ, 8, .inl (fun _ => 0)))] s A s.heap H _ := w
  refine lv_aload_n hx hb d_R_init_100 rfl (lv_at hl 0 rfl) ?_
  refine lv_bipush (v := nI 8) hx hb d_R_init_101 (by decide) ?_
  refine li_newa (atype := .int) (ty := .int) (N := 8) (a0 := (8, .inl (fun _ => 0))) F w (kws_in m_66) rfl 0 rfl (fun _ _ => rfl) (fun _ => rfl) rfl (by decide) (by decide) (Nat.le_of_ble_eq_true rfl) (Nat.le_of_ble_eq_true rfl) d_R_init_103 (fun q11 H w => ?_)
  have w : lW D clP (tyP cI cF cZ cJ) [(h0, .inr (5, [.int 0, .ref q1, .ref q2, .int (-1), .int (-1), .ref q3, .ref q4, .ref q5, .ref q6, .int 0, .int 0, .int 0, .ref q7, .ref q8, .ref q9, .ref q10, .null, .int 0, .int 0, .int 0, .int 0, .int 0])), (q1, .inl (cI, 16384, .inl (fun _ => 0))), (q2, .inl (cI, 64, .inl (fun _ => 0))), (q3, .inl (cI, 8192, .inl (fun _ => 0))), (q4, .inl (cI, 8192, .inl (fun _ => 0))), (q5, .inl (cI, 8192, .inl (fun _ => 0))), (q6, .inl (cZ, 8192, .inl (fun _ => 0))), (q7, .inl (cI, 512, .inl (fun _ => 0))), (q8, .inl (cI, 8, .inl (fun _ => 0))), (q9, .inl (cI, 8, .inl (fun _ => 0))), (q10, .inl (cZ, 8, .inl (fun _ => 0))), (q11, .inl (cI, 8, .inl (fun _ => 0)))] s A s.heap H _ := w
  refine li_putF F w hini (kin in_R) t_R t_R_ok n_R 0 rfl rfl 16 (by decide) (kws_in m_544) (fun _ h => h) rfl rfl rfl rfl (Nat.le_of_ble_eq_true rfl) d_R_init_105 (fun H locs w => ?_)
  have w : lW D clP (tyP cI cF cZ cJ) [(h0, .inr (5, [.int 0, .ref q1, .ref q2, .int (-1), .int (-1), .ref q3, .ref q4, .ref q5, .ref q6, .int 0, .int 0, .int 0, .ref q7, .ref q8, .ref q9, .ref q10, .ref q11, .int 0, .int 0, .int 0, .int 0, .int 0])), (q1, .inl (cI, 16384, .inl (fun _ => 0))), (q2, .inl (cI, 64, .inl (fun _ => 0))), (q3, .inl (cI, 8192, .inl (fun _ => 0))), (q4, .inl (cI, 8192, .inl (fun _ => 0))), (q5, .inl (cI, 8192, .inl (fun _ => 0))), (q6, .inl (cZ, 8192, .inl (fun _ => 0))), (q7, .inl (cI, 512, .inl (fun _ => 0))), (q8, .inl (cI, 8, .inl (fun _ => 0))), (q9, .inl (cI, 8, .inl (fun _ => 0))), (q10, .inl (cZ, 8, .inl (fun _ => 0))), (q11, .inl (cI, 8, .inl (fun _ => 0)))] s A s.heap H _ := w
  refine lv_aload_n hx hb d_R_init_108 rfl (lv_at hl 0 rfl) ?_
  refine lv_iconst (v := -1) hx hb d_R_init_109 (by decide) ?_
  refine li_put F w (kin in_R) t_R t_R_ok n_R 0 rfl rfl 19 (by decide) (kws_in m_547) (fun _ h => h) rfl rfl rfl (Nat.le_of_ble_eq_true rfl) d_R_init_110 (fun H locs w => ?_)
  have w : lW D clP (tyP cI cF cZ cJ) [(h0, .inr (5, [.int 0, .ref q1, .ref q2, .int (-1), .int (-1), .ref q3, .ref q4, .ref q5, .ref q6, .int 0, .int 0, .int 0, .ref q7, .ref q8, .ref q9, .ref q10, .ref q11, .int 0, .int 0, .int (-1), .int 0, .int 0])), (q1, .inl (cI, 16384, .inl (fun _ => 0))), (q2, .inl (cI, 64, .inl (fun _ => 0))), (q3, .inl (cI, 8192, .inl (fun _ => 0))), (q4, .inl (cI, 8192, .inl (fun _ => 0))), (q5, .inl (cI, 8192, .inl (fun _ => 0))), (q6, .inl (cZ, 8192, .inl (fun _ => 0))), (q7, .inl (cI, 512, .inl (fun _ => 0))), (q8, .inl (cI, 8, .inl (fun _ => 0))), (q9, .inl (cI, 8, .inl (fun _ => 0))), (q10, .inl (cZ, 8, .inl (fun _ => 0))), (q11, .inl (cI, 8, .inl (fun _ => 0)))] s A s.heap H _ := w
  refine lv_aload_n hx hb d_R_init_113 rfl (lv_at hl 0 rfl) ?_
  have w2 : mW D clP (tyP cI cF cZ cJ) 12 (eR cI cZ (fun k => [h0, q1, q2, q3, q4, q5, q6, q7, q8, q9, q10, q11].getD k 0)) (fun k => [h0, q1, q2, q3, q4, q5, q6, q7, q8, q9, q10, q11].getD k 0) mR0 s A s.heap H _ := w
  refine mr_callVv (As := []) F w2 hl.1 (c_R_forget mR0) (cwV 0 hts g_R_init_114 rfl rfl rfl (by decide +kernel) ⟨(Nat.le_of_ble_eq_true rfl), (Nat.le_of_ble_eq_true rfl)⟩) rfl (by decide) rfl rfl rfl (Nat.le_of_ble_eq_true rfl) d_R_init_114 ⟨(Nat.le_of_ble_eq_true rfl), (Nat.le_of_ble_eq_true rfl)⟩ (fun σ9 H locs e9 w => ?_)
  subst e9
  exact li_ret F (fun k => [h0, q1, q2, q3, q4, q5, q6, q7, q8, q9, q10, q11].getD k 0) w rfl rfl hr hlk (Nat.le_of_ble_eq_true rfl) (Nat.le_of_ble_eq_true rfl) d_R_init_117
end
