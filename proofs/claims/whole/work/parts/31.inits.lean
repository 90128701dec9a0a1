/-! Constructors of the parts -/
section
variable {l : Launch} {D : va_G} {cI cF cZ cJ : ClassId} {ad : Nat → Nat} {σ : Mem}
set_option maxRecDepth 20000 in
theorem m_28 : Cond.methodLink "PagePool$Power" 3 (⟨"java/lang/Object", "<init>", "()V"⟩ : MethodName) ∈ gt := gt_in 28 (by decide +kernel) (by decide +kernel)
set_option maxRecDepth 20000 in
theorem m_21 : Cond.instanceMethod (⟨"java/lang/Object", "<init>", "()V"⟩ : MethodName) ∈ gt := gt_in 21 (by decide +kernel) (by decide +kernel)
set_option maxRecDepth 20000 in
theorem m_22 : Cond.code (⟨"java/lang/Object", "<init>", "()V"⟩ : MethodName) object_method_1_code 1 none ∈ gt := gt_in 22 (by decide +kernel) (by decide +kernel)
set_option maxRecDepth 20000 in
theorem m_101 : Cond.methodLink "PagePool$Frame" 3 (⟨"java/lang/Object", "<init>", "()V"⟩ : MethodName) ∈ gt := gt_in 101 (by decide +kernel) (by decide +kernel)
set_option maxRecDepth 20000 in
theorem m_66 : Cond.arrayClass .int ∈ gt := gt_in 66 (by decide +kernel) (by decide +kernel)
set_option maxRecDepth 20000 in
theorem m_47 : Cond.methodLink "PagePool$Medium" 3 (⟨"java/lang/Object", "<init>", "()V"⟩ : MethodName) ∈ gt := gt_in 47 (by decide +kernel) (by decide +kernel)
set_option maxRecDepth 20000 in
theorem m_72 : Cond.methodLink "PagePool$ChangeLog" 5 (⟨"java/lang/Object", "<init>", "()V"⟩ : MethodName) ∈ gt := gt_in 72 (by decide +kernel) (by decide +kernel)
theorem d_W_init_0 : decode b_W_init 0 = .ok (.aload_n 0, 1) := by decide +kernel
theorem d_W_init_1 : decode b_W_init 1 = .ok (.invokespecial 3, 3) := by decide +kernel
theorem d_W_init_4 : decode b_W_init 4 = .ok (.aload_n 0, 1) := by decide +kernel
theorem d_W_init_5 : decode b_W_init 5 = .ok (.iconst 1, 1) := by decide +kernel
theorem d_W_init_6 : decode b_W_init 6 = .ok (.putfield 9, 3) := by decide +kernel
theorem d_W_init_9 : decode b_W_init 9 = .ok (.aload_n 0, 1) := by decide +kernel
theorem d_W_init_10 : decode b_W_init 10 = .ok (.iconst (-1), 1) := by decide +kernel
theorem d_W_init_11 : decode b_W_init 11 = .ok (.putfield 15, 3) := by decide +kernel
theorem d_W_init_14 : decode b_W_init 14 = .ok (.aload_n 0, 1) := by decide +kernel
theorem d_W_init_15 : decode b_W_init 15 = .ok (.iconst 0, 1) := by decide +kernel
theorem d_W_init_16 : decode b_W_init 16 = .ok (.putfield 19, 3) := by decide +kernel
theorem d_W_init_19 : decode b_W_init 19 = .ok (.return_, 1) := by decide +kernel
theorem d_F_init_0 : decode b_F_init 0 = .ok (.aload_n 0, 1) := by decide +kernel
theorem d_F_init_1 : decode b_F_init 1 = .ok (.invokespecial 3, 3) := by decide +kernel
theorem d_F_init_4 : decode b_F_init 4 = .ok (.aload_n 0, 1) := by decide +kernel
theorem d_F_init_5 : decode b_F_init 5 = .ok (.bipush 64, 2) := by decide +kernel
theorem d_F_init_7 : decode b_F_init 7 = .ok (.newarray .int, 2) := by decide +kernel
theorem d_F_init_9 : decode b_F_init 9 = .ok (.putfield 9, 3) := by decide +kernel
theorem d_F_init_12 : decode b_F_init 12 = .ok (.aload_n 0, 1) := by decide +kernel
theorem d_F_init_13 : decode b_F_init 13 = .ok (.iconst (-1), 1) := by decide +kernel
theorem d_F_init_14 : decode b_F_init 14 = .ok (.putfield 15, 3) := by decide +kernel
theorem d_F_init_17 : decode b_F_init 17 = .ok (.aload_n 0, 1) := by decide +kernel
theorem d_F_init_18 : decode b_F_init 18 = .ok (.iconst 0, 1) := by decide +kernel
theorem d_F_init_19 : decode b_F_init 19 = .ok (.putfield 19, 3) := by decide +kernel
theorem d_F_init_22 : decode b_F_init 22 = .ok (.aload_n 0, 1) := by decide +kernel
theorem d_F_init_23 : decode b_F_init 23 = .ok (.iconst 0, 1) := by decide +kernel
theorem d_F_init_24 : decode b_F_init 24 = .ok (.putfield 22, 3) := by decide +kernel
theorem d_F_init_27 : decode b_F_init 27 = .ok (.aload_n 0, 1) := by decide +kernel
theorem d_F_init_28 : decode b_F_init 28 = .ok (.iconst (-1), 1) := by decide +kernel
theorem d_F_init_29 : decode b_F_init 29 = .ok (.putfield 26, 3) := by decide +kernel
theorem d_F_init_32 : decode b_F_init 32 = .ok (.return_, 1) := by decide +kernel
theorem d_M_init_0 : decode b_M_init 0 = .ok (.aload_n 0, 1) := by decide +kernel
theorem d_M_init_1 : decode b_M_init 1 = .ok (.invokespecial 3, 3) := by decide +kernel
theorem d_M_init_4 : decode b_M_init 4 = .ok (.aload_n 0, 1) := by decide +kernel
theorem d_M_init_5 : decode b_M_init 5 = .ok (.aload_n 1, 1) := by decide +kernel
theorem d_M_init_6 : decode b_M_init 6 = .ok (.putfield 9, 3) := by decide +kernel
theorem d_M_init_9 : decode b_M_init 9 = .ok (.aload_n 0, 1) := by decide +kernel
theorem d_M_init_10 : decode b_M_init 10 = .ok (.sipush 16384, 3) := by decide +kernel
theorem d_M_init_13 : decode b_M_init 13 = .ok (.newarray .int, 2) := by decide +kernel
theorem d_M_init_15 : decode b_M_init 15 = .ok (.putfield 15, 3) := by decide +kernel
theorem d_M_init_18 : decode b_M_init 18 = .ok (.aload_n 0, 1) := by decide +kernel
theorem d_M_init_19 : decode b_M_init 19 = .ok (.bipush 64, 2) := by decide +kernel
theorem d_M_init_21 : decode b_M_init 21 = .ok (.newarray .int, 2) := by decide +kernel
theorem d_M_init_23 : decode b_M_init 23 = .ok (.putfield 19, 3) := by decide +kernel
theorem d_M_init_26 : decode b_M_init 26 = .ok (.aload_n 0, 1) := by decide +kernel
theorem d_M_init_27 : decode b_M_init 27 = .ok (.iconst 0, 1) := by decide +kernel
theorem d_M_init_28 : decode b_M_init 28 = .ok (.putfield 22, 3) := by decide +kernel
theorem d_M_init_31 : decode b_M_init 31 = .ok (.aload_n 0, 1) := by decide +kernel
theorem d_M_init_32 : decode b_M_init 32 = .ok (.iconst 0, 1) := by decide +kernel
theorem d_M_init_33 : decode b_M_init 33 = .ok (.putfield 26, 3) := by decide +kernel
theorem d_M_init_36 : decode b_M_init 36 = .ok (.return_, 1) := by decide +kernel
theorem d_C_init_0 : decode b_C_init 0 = .ok (.aload_n 0, 1) := by decide +kernel
theorem d_C_init_1 : decode b_C_init 1 = .ok (.invokespecial 5, 3) := by decide +kernel
theorem d_C_init_4 : decode b_C_init 4 = .ok (.aload_n 0, 1) := by decide +kernel
theorem d_C_init_5 : decode b_C_init 5 = .ok (.aload_n 1, 1) := by decide +kernel
theorem d_C_init_6 : decode b_C_init 6 = .ok (.putfield 11, 3) := by decide +kernel
theorem d_C_init_9 : decode b_C_init 9 = .ok (.aload_n 0, 1) := by decide +kernel
theorem d_C_init_10 : decode b_C_init 10 = .ok (.sipush 8192, 3) := by decide +kernel
theorem d_C_init_13 : decode b_C_init 13 = .ok (.newarray .int, 2) := by decide +kernel
theorem d_C_init_15 : decode b_C_init 15 = .ok (.putfield 15, 3) := by decide +kernel
theorem d_C_init_18 : decode b_C_init 18 = .ok (.aload_n 0, 1) := by decide +kernel
theorem d_C_init_19 : decode b_C_init 19 = .ok (.sipush 8192, 3) := by decide +kernel
theorem d_C_init_22 : decode b_C_init 22 = .ok (.newarray .int, 2) := by decide +kernel
theorem d_C_init_24 : decode b_C_init 24 = .ok (.putfield 19, 3) := by decide +kernel
theorem d_C_init_27 : decode b_C_init 27 = .ok (.aload_n 0, 1) := by decide +kernel
theorem d_C_init_28 : decode b_C_init 28 = .ok (.iconst 0, 1) := by decide +kernel
theorem d_C_init_29 : decode b_C_init 29 = .ok (.putfield 22, 3) := by decide +kernel
theorem d_C_init_32 : decode b_C_init 32 = .ok (.aload_n 0, 1) := by decide +kernel
theorem d_C_init_33 : decode b_C_init 33 = .ok (.iconst 0, 1) := by decide +kernel
theorem d_C_init_34 : decode b_C_init 34 = .ok (.putfield 26, 3) := by decide +kernel
theorem d_C_init_37 : decode b_C_init 37 = .ok (.aload_n 0, 1) := by decide +kernel
theorem d_C_init_38 : decode b_C_init 38 = .ok (.iconst 0, 1) := by decide +kernel
theorem d_C_init_39 : decode b_C_init 39 = .ok (.putfield 29, 3) := by decide +kernel
theorem d_C_init_42 : decode b_C_init 42 = .ok (.return_, 1) := by decide +kernel
theorem kws_good0 {y0 y : MethodName} {cc0 cc : ByteArray} {L0 maxL : Nat} {r0 ret : Option FieldType} (hc : Cond.code y cc maxL ret ∈ gt) : GoodIn (kws y0 cc0 L0 r0) (kws y cc maxL ret) := kws_good (ex := []) hc (fun w hw => by cases hw)
set_option maxHeartbeats 4000000 in
set_option maxRecDepth 100000 in
/-- new Power() -/
theorem c_W_init (h0 : Nat) : LI l D clP (tyP cI cF cZ cJ) y_W_init b_W_init 1 { frames := 1, cells := 0, slots := 0, locals := 20 } [.ref h0] [(h0, .inr (3, [.int 0, .int 0, .int 0]))] (fun _ => True) (fun _ : Unit => True) (fun u => [(h0, .inr (3, [.int (nI 1), .int (-1), .int (nI 0)]))]) := by
  refine LI.of (by decide) rfl (Nat.le_of_ble_eq_true rfl) ?_
  intro p e s m args below meth c A ls F w hl hr hlk hini hX
  obtain ⟨hx, hb, hml, hown, hts⟩ := id F
  have hl : lv_has ls 1 [(0, .ref h0)] := hl
  refine lv_aload_n hx hb d_W_init_0 rfl (lv_at hl 0 rfl) ?_
  refine li_obj F hl.1 (kws_in m_28) (kws_in m_21) (kws_in m_22) (by decide) (Nat.le_of_ble_eq_true rfl) (Nat.le_of_ble_eq_true rfl) d_W_init_1 ?_
  refine lv_aload_n hx hb d_W_init_4 rfl (lv_at hl 0 rfl) ?_
  refine lv_iconst (v := nI 1) hx hb d_W_init_5 (by decide) ?_
  refine li_put F w (kin in_W) t_W t_W_ok n_W 0 rfl rfl 0 (by decide) (kws_in m_29) (fun _ h => h) rfl rfl rfl (Nat.le_of_ble_eq_true rfl) d_W_init_6 (fun H locs w => ?_)
  have w : lW D clP (tyP cI cF cZ cJ) [(h0, .inr (3, [.int (nI 1), .int 0, .int 0]))] s A s.heap H _ := w
  refine lv_aload_n hx hb d_W_init_9 rfl (lv_at hl 0 rfl) ?_
  refine lv_iconst (v := -1) hx hb d_W_init_10 (by decide) ?_
  refine li_put F w (kin in_W) t_W t_W_ok n_W 0 rfl rfl 1 (by decide) (kws_in m_31) (fun _ h => h) rfl rfl rfl (Nat.le_of_ble_eq_true rfl) d_W_init_11 (fun H locs w => ?_)
  have w : lW D clP (tyP cI cF cZ cJ) [(h0, .inr (3, [.int (nI 1), .int (-1), .int 0]))] s A s.heap H _ := w
  refine lv_aload_n hx hb d_W_init_14 rfl (lv_at hl 0 rfl) ?_
  refine lv_iconst (v := nI 0) hx hb d_W_init_15 (by decide) ?_
  refine li_put F w (kin in_W) t_W t_W_ok n_W 0 rfl rfl 2 (by decide) (kws_in m_33) (fun _ h => h) rfl rfl rfl (Nat.le_of_ble_eq_true rfl) d_W_init_16 (fun H locs w => ?_)
  have w : lW D clP (tyP cI cF cZ cJ) [(h0, .inr (3, [.int (nI 1), .int (-1), .int (nI 0)]))] s A s.heap H _ := w
  exact li_ret F () w rfl trivial hr hlk (Nat.le_of_ble_eq_true rfl) (Nat.le_of_ble_eq_true rfl) d_W_init_19
set_option maxHeartbeats 4000000 in
set_option maxRecDepth 100000 in
/-- new Frame() -/
theorem c_F_init (h0 : Nat) : LI l D clP (tyP cI cF cZ cJ) y_F_init b_F_init 1 { frames := 1, cells := 1, slots := 64, locals := 20 } [.ref h0] [(h0, .inr (1, [.null, .int 0, .int 0, .int 0, .int 0]))] (fun _ => True) (fun _ : Nat => True) (fun u => [(h0, .inr (1, [.ref u, .int (-1), .int (nI 0), .int (nI 0), .int (-1)])), (u, .inl (cI, 64, .inl (fun _ => 0)))]) := by
  refine LI.of (by decide) rfl (Nat.le_of_ble_eq_true rfl) ?_
  intro p e s m args below meth c A ls F w hl hr hlk hini hX
  obtain ⟨hx, hb, hml, hown, hts⟩ := id F
  have hl : lv_has ls 1 [(0, .ref h0)] := hl
  refine lv_aload_n hx hb d_F_init_0 rfl (lv_at hl 0 rfl) ?_
  refine li_obj F hl.1 (kws_in m_101) (kws_in m_21) (kws_in m_22) (by decide) (Nat.le_of_ble_eq_true rfl) (Nat.le_of_ble_eq_true rfl) d_F_init_1 ?_
  refine lv_aload_n hx hb d_F_init_4 rfl (lv_at hl 0 rfl) ?_
  refine lv_bipush (v := nI 64) hx hb d_F_init_5 (by decide) ?_
  refine li_newa (atype := .int) (ty := .int) (N := 64) (a0 := (64, .inl (fun _ => 0))) F w (kws_in m_66) rfl 0 rfl (fun _ _ => rfl) (fun _ => rfl) rfl (by decide) (by decide) (Nat.le_of_ble_eq_true rfl) (Nat.le_of_ble_eq_true rfl) d_F_init_7 (fun q1 H w => ?_)
  have w : lW D clP (tyP cI cF cZ cJ) [(h0, .inr (1, [.null, .int 0, .int 0, .int 0, .int 0])), (q1, .inl (cI, 64, .inl (fun _ => 0)))] s A s.heap H _ := w
  refine li_putF F w hini (kin in_F) t_F t_F_ok n_F 0 rfl rfl 0 (by decide) (kws_in m_102) (fun _ h => h) rfl rfl rfl rfl (Nat.le_of_ble_eq_true rfl) d_F_init_9 (fun H locs w => ?_)
  have w : lW D clP (tyP cI cF cZ cJ) [(h0, .inr (1, [.ref q1, .int 0, .int 0, .int 0, .int 0])), (q1, .inl (cI, 64, .inl (fun _ => 0)))] s A s.heap H _ := w
  refine lv_aload_n hx hb d_F_init_12 rfl (lv_at hl 0 rfl) ?_
  refine lv_iconst (v := -1) hx hb d_F_init_13 (by decide) ?_
  refine li_put F w (kin in_F) t_F t_F_ok n_F 0 rfl rfl 1 (by decide) (kws_in m_104) (fun _ h => h) rfl rfl rfl (Nat.le_of_ble_eq_true rfl) d_F_init_14 (fun H locs w => ?_)
  have w : lW D clP (tyP cI cF cZ cJ) [(h0, .inr (1, [.ref q1, .int (-1), .int 0, .int 0, .int 0])), (q1, .inl (cI, 64, .inl (fun _ => 0)))] s A s.heap H _ := w
  refine lv_aload_n hx hb d_F_init_17 rfl (lv_at hl 0 rfl) ?_
  refine lv_iconst (v := nI 0) hx hb d_F_init_18 (by decide) ?_
  refine li_put F w (kin in_F) t_F t_F_ok n_F 0 rfl rfl 2 (by decide) (kws_in m_106) (fun _ h => h) rfl rfl rfl (Nat.le_of_ble_eq_true rfl) d_F_init_19 (fun H locs w => ?_)
  have w : lW D clP (tyP cI cF cZ cJ) [(h0, .inr (1, [.ref q1, .int (-1), .int (nI 0), .int 0, .int 0])), (q1, .inl (cI, 64, .inl (fun _ => 0)))] s A s.heap H _ := w
  refine lv_aload_n hx hb d_F_init_22 rfl (lv_at hl 0 rfl) ?_
  refine lv_iconst (v := nI 0) hx hb d_F_init_23 (by decide) ?_
  refine li_put F w (kin in_F) t_F t_F_ok n_F 0 rfl rfl 3 (by decide) (kws_in m_108) (fun _ h => h) rfl rfl rfl (Nat.le_of_ble_eq_true rfl) d_F_init_24 (fun H locs w => ?_)
  have w : lW D clP (tyP cI cF cZ cJ) [(h0, .inr (1, [.ref q1, .int (-1), .int (nI 0), .int (nI 0), .int 0])), (q1, .inl (cI, 64, .inl (fun _ => 0)))] s A s.heap H _ := w
  refine lv_aload_n hx hb d_F_init_27 rfl (lv_at hl 0 rfl) ?_
  refine lv_iconst (v := -1) hx hb d_F_init_28 (by decide) ?_
  refine li_put F w (kin in_F) t_F t_F_ok n_F 0 rfl rfl 4 (by decide) (kws_in m_110) (fun _ h => h) rfl rfl rfl (Nat.le_of_ble_eq_true rfl) d_F_init_29 (fun H locs w => ?_)
  have w : lW D clP (tyP cI cF cZ cJ) [(h0, .inr (1, [.ref q1, .int (-1), .int (nI 0), .int (nI 0), .int (-1)])), (q1, .inl (cI, 64, .inl (fun _ => 0)))] s A s.heap H _ := w
  exact li_ret F q1 w rfl trivial hr hlk (Nat.le_of_ble_eq_true rfl) (Nat.le_of_ble_eq_true rfl) d_F_init_32
set_option maxHeartbeats 4000000 in
set_option maxRecDepth 100000 in
/-- new Medium(power) -/
theorem c_M_init (h0 pw : Nat) : LI l D clP (tyP cI cF cZ cJ) y_M_init b_M_init 2 { frames := 1, cells := 2, slots := 16448, locals := 20 } [.ref h0, .ref pw] [(h0, .inr (2, [.null, .null, .null, .int 0, .int 0]))] (fun _ => True) (fun _ : Nat × Nat => True) (fun u => [(h0, .inr (2, [.ref pw, .ref u.1, .ref u.2, .int (nI 0), .int (nI 0)])), (u.1, .inl (cI, 16384, .inl (fun _ => 0))), (u.2, .inl (cI, 64, .inl (fun _ => 0)))]) := by
  refine LI.of (by decide) rfl (Nat.le_of_ble_eq_true rfl) ?_
  intro p e s m args below meth c A ls F w hl hr hlk hini hX
  obtain ⟨hx, hb, hml, hown, hts⟩ := id F
  have hl : lv_has ls 2 [(0, .ref h0), (1, .ref pw)] := hl
  refine lv_aload_n hx hb d_M_init_0 rfl (lv_at hl 0 rfl) ?_
  refine li_obj F hl.1 (kws_in m_47) (kws_in m_21) (kws_in m_22) (by decide) (Nat.le_of_ble_eq_true rfl) (Nat.le_of_ble_eq_true rfl) d_M_init_1 ?_
  refine lv_aload_n hx hb d_M_init_4 rfl (lv_at hl 0 rfl) ?_
  refine lv_aload_n hx hb d_M_init_5 rfl (lv_at hl 1 rfl) ?_
  refine li_putF F w hini (kin in_M) t_M t_M_ok n_M 0 rfl rfl 0 (by decide) (kws_in m_48) (fun _ h => h) rfl rfl rfl rfl (Nat.le_of_ble_eq_true rfl) d_M_init_6 (fun H locs w => ?_)
  have w : lW D clP (tyP cI cF cZ cJ) [(h0, .inr (2, [.ref pw, .null, .null, .int 0, .int 0]))] s A s.heap H _ := w
  refine lv_aload_n hx hb d_M_init_9 rfl (lv_at hl 0 rfl) ?_
  refine lv_sipush (v := nI 16384) hx hb d_M_init_10 (by decide) ?_
  refine li_newa (atype := .int) (ty := .int) (N := 16384) (a0 := (16384, .inl (fun _ => 0))) F w (kws_in m_66) rfl 0 rfl (fun _ _ => rfl) (fun _ => rfl) rfl (by decide) (by decide) (Nat.le_of_ble_eq_true rfl) (Nat.le_of_ble_eq_true rfl) d_M_init_13 (fun q1 H w => ?_)
  have w : lW D clP (tyP cI cF cZ cJ) [(h0, .inr (2, [.ref pw, .null, .null, .int 0, .int 0])), (q1, .inl (cI, 16384, .inl (fun _ => 0)))] s A s.heap H _ := w
  refine li_putF F w hini (kin in_M) t_M t_M_ok n_M 0 rfl rfl 1 (by decide) (kws_in m_49) (fun _ h => h) rfl rfl rfl rfl (Nat.le_of_ble_eq_true rfl) d_M_init_15 (fun H locs w => ?_)
  have w : lW D clP (tyP cI cF cZ cJ) [(h0, .inr (2, [.ref pw, .ref q1, .null, .int 0, .int 0])), (q1, .inl (cI, 16384, .inl (fun _ => 0)))] s A s.heap H _ := w
  refine lv_aload_n hx hb d_M_init_18 rfl (lv_at hl 0 rfl) ?_
  refine lv_bipush (v := nI 64) hx hb d_M_init_19 (by decide) ?_
  refine li_newa (atype := .int) (ty := .int) (N := 64) (a0 := (64, .inl (fun _ => 0))) F w (kws_in m_66) rfl 0 rfl (fun _ _ => rfl) (fun _ => rfl) rfl (by decide) (by decide) (Nat.le_of_ble_eq_true rfl) (Nat.le_of_ble_eq_true rfl) d_M_init_21 (fun q2 H w => ?_)
  have w : lW D clP (tyP cI cF cZ cJ) [(h0, .inr (2, [.ref pw, .ref q1, .null, .int 0, .int 0])), (q1, .inl (cI, 16384, .inl (fun _ => 0))), (q2, .inl (cI, 64, .inl (fun _ => 0)))] s A s.heap H _ := w
  refine li_putF F w hini (kin in_M) t_M t_M_ok n_M 0 rfl rfl 2 (by decide) (kws_in m_51) (fun _ h => h) rfl rfl rfl rfl (Nat.le_of_ble_eq_true rfl) d_M_init_23 (fun H locs w => ?_)
  have w : lW D clP (tyP cI cF cZ cJ) [(h0, .inr (2, [.ref pw, .ref q1, .ref q2, .int 0, .int 0])), (q1, .inl (cI, 16384, .inl (fun _ => 0))), (q2, .inl (cI, 64, .inl (fun _ => 0)))] s A s.heap H _ := w
  refine lv_aload_n hx hb d_M_init_26 rfl (lv_at hl 0 rfl) ?_
  refine lv_iconst (v := nI 0) hx hb d_M_init_27 (by decide) ?_
  refine li_put F w (kin in_M) t_M t_M_ok n_M 0 rfl rfl 3 (by decide) (kws_in m_52) (fun _ h => h) rfl rfl rfl (Nat.le_of_ble_eq_true rfl) d_M_init_28 (fun H locs w => ?_)
  have w : lW D clP (tyP cI cF cZ cJ) [(h0, .inr (2, [.ref pw, .ref q1, .ref q2, .int (nI 0), .int 0])), (q1, .inl (cI, 16384, .inl (fun _ => 0))), (q2, .inl (cI, 64, .inl (fun _ => 0)))] s A s.heap H _ := w
  refine lv_aload_n hx hb d_M_init_31 rfl (lv_at hl 0 rfl) ?_
  refine lv_iconst (v := nI 0) hx hb d_M_init_32 (by decide) ?_
  refine li_put F w (kin in_M) t_M t_M_ok n_M 0 rfl rfl 4 (by decide) (kws_in m_53) (fun _ h => h) rfl rfl rfl (Nat.le_of_ble_eq_true rfl) d_M_init_33 (fun H locs w => ?_)
  have w : lW D clP (tyP cI cF cZ cJ) [(h0, .inr (2, [.ref pw, .ref q1, .ref q2, .int (nI 0), .int (nI 0)])), (q1, .inl (cI, 16384, .inl (fun _ => 0))), (q2, .inl (cI, 64, .inl (fun _ => 0)))] s A s.heap H _ := w
  exact li_ret F (q1, q2) w rfl trivial hr hlk (Nat.le_of_ble_eq_true rfl) (Nat.le_of_ble_eq_true rfl) d_M_init_36
set_option maxHeartbeats 4000000 in
set_option maxRecDepth 100000 in
/-- new ChangeLog(power) -/
theorem c_C_init (h0 pw : Nat) : LI l D clP (tyP cI cF cZ cJ) y_C_init b_C_init 2 { frames := 1, cells := 2, slots := 16384, locals := 20 } [.ref h0, .ref pw] [(h0, .inr (0, [.null, .null, .null, .int 0, .int 0, .int 0]))] (fun _ => True) (fun _ : Nat × Nat => True) (fun u => [(h0, .inr (0, [.ref pw, .ref u.1, .ref u.2, .int (nI 0), .int (nI 0), .int (nI 0)])), (u.1, .inl (cI, 8192, .inl (fun _ => 0))), (u.2, .inl (cI, 8192, .inl (fun _ => 0)))]) := by
  refine LI.of (by decide) rfl (Nat.le_of_ble_eq_true rfl) ?_
  intro p e s m args below meth c A ls F w hl hr hlk hini hX
  obtain ⟨hx, hb, hml, hown, hts⟩ := id F
  have hl : lv_has ls 2 [(0, .ref h0), (1, .ref pw)] := hl
  refine lv_aload_n hx hb d_C_init_0 rfl (lv_at hl 0 rfl) ?_
  refine li_obj F hl.1 (kws_in m_72) (kws_in m_21) (kws_in m_22) (by decide) (Nat.le_of_ble_eq_true rfl) (Nat.le_of_ble_eq_true rfl) d_C_init_1 ?_
  refine lv_aload_n hx hb d_C_init_4 rfl (lv_at hl 0 rfl) ?_
  refine lv_aload_n hx hb d_C_init_5 rfl (lv_at hl 1 rfl) ?_
  refine li_putF F w hini (kin in_C) t_C t_C_ok n_C 0 rfl rfl 0 (by decide) (kws_in m_73) (fun _ h => h) rfl rfl rfl rfl (Nat.le_of_ble_eq_true rfl) d_C_init_6 (fun H locs w => ?_)
  have w : lW D clP (tyP cI cF cZ cJ) [(h0, .inr (0, [.ref pw, .null, .null, .int 0, .int 0, .int 0]))] s A s.heap H _ := w
  refine lv_aload_n hx hb d_C_init_9 rfl (lv_at hl 0 rfl) ?_
  refine lv_sipush (v := nI 8192) hx hb d_C_init_10 (by decide) ?_
  refine li_newa (atype := .int) (ty := .int) (N := 8192) (a0 := (8192, .inl (fun _ => 0))) F w (kws_in m_66) rfl 0 rfl (fun _ _ => rfl) (fun _ => rfl) rfl (by decide) (by decide) (Nat.le_of_ble_eq_true rfl) (Nat.le_of_ble_eq_true rfl) d_C_init_13 (fun q1 H w => ?_)
  have w : lW D clP (tyP cI cF cZ cJ) [(h0, .inr (0, [.ref pw, .null, .null, .int 0, .int 0, .int 0])), (q1, .inl (cI, 8192, .inl (fun _ => 0)))] s A s.heap H _ := w
  refine li_putF F w hini (kin in_C) t_C t_C_ok n_C 0 rfl rfl 1 (by decide) (kws_in m_74) (fun _ h => h) rfl rfl rfl rfl (Nat.le_of_ble_eq_true rfl) d_C_init_15 (fun H locs w => ?_)
  have w : lW D clP (tyP cI cF cZ cJ) [(h0, .inr (0, [.ref pw, .ref q1, .null, .int 0, .int 0, .int 0])), (q1, .inl (cI, 8192, .inl (fun _ => 0)))] s A s.heap H _ := w
  refine lv_aload_n hx hb d_C_init_18 rfl (lv_at hl 0 rfl) ?_
  refine lv_sipush (v := nI 8192) hx hb d_C_init_19 (by decide) ?_
  refine li_newa (atype := .int) (ty := .int) (N := 8192) (a0 := (8192, .inl (fun _ => 0))) F w (kws_in m_66) rfl 0 rfl (fun _ _ => rfl) (fun _ => rfl) rfl (by decide) (by decide) (Nat.le_of_ble_eq_true rfl) (Nat.le_of_ble_eq_true rfl) d_C_init_22 (fun q2 H w => ?_)
  have w : lW D clP (tyP cI cF cZ cJ) [(h0, .inr (0, [.ref pw, .ref q1, .null, .int 0, .int 0, .int 0])), (q1, .inl (cI, 8192, .inl (fun _ => 0))), (q2, .inl (cI, 8192, .inl (fun _ => 0)))] s A s.heap H _ := w
  refine li_putF F w hini (kin in_C) t_C t_C_ok n_C 0 rfl rfl 2 (by decide) (kws_in m_75) (fun _ h => h) rfl rfl rfl rfl (Nat.le_of_ble_eq_true rfl) d_C_init_24 (fun H locs w => ?_)
  have w : lW D clP (tyP cI cF cZ cJ) [(h0, .inr (0, [.ref pw, .ref q1, .ref q2, .int 0, .int 0, .int 0])), (q1, .inl (cI, 8192, .inl (fun _ => 0))), (q2, .inl (cI, 8192, .inl (fun _ => 0)))] s A s.heap H _ := w
  refine lv_aload_n hx hb d_C_init_27 rfl (lv_at hl 0 rfl) ?_
  refine lv_iconst (v := nI 0) hx hb d_C_init_28 (by decide) ?_
  refine li_put F w (kin in_C) t_C t_C_ok n_C 0 rfl rfl 3 (by decide) (kws_in m_76) (fun _ h => h) rfl rfl rfl (Nat.le_of_ble_eq_true rfl) d_C_init_29 (fun H locs w => ?_)
  have w : lW D clP (tyP cI cF cZ cJ) [(h0, .inr (0, [.ref pw, .ref q1, .ref q2, .int (nI 0), .int 0, .int 0])), (q1, .inl (cI, 8192, .inl (fun _ => 0))), (q2, .inl (cI, 8192, .inl (fun _ => 0)))] s A s.heap H _ := w
  refine lv_aload_n hx hb d_C_init_32 rfl (lv_at hl 0 rfl) ?_
  refine lv_iconst (v := nI 0) hx hb d_C_init_33 (by decide) ?_
  refine li_put F w (kin in_C) t_C t_C_ok n_C 0 rfl rfl 4 (by decide) (kws_in m_78) (fun _ h => h) rfl rfl rfl (Nat.le_of_ble_eq_true rfl) d_C_init_34 (fun H locs w => ?_)
  have w : lW D clP (tyP cI cF cZ cJ) [(h0, .inr (0, [.ref pw, .ref q1, .ref q2, .int (nI 0), .int (nI 0), .int 0])), (q1, .inl (cI, 8192, .inl (fun _ => 0))), (q2, .inl (cI, 8192, .inl (fun _ => 0)))] s A s.heap H _ := w
  refine lv_aload_n hx hb d_C_init_37 rfl (lv_at hl 0 rfl) ?_
  refine lv_iconst (v := nI 0) hx hb d_C_init_38 (by decide) ?_
  refine li_put F w (kin in_C) t_C t_C_ok n_C 0 rfl rfl 5 (by decide) (kws_in m_80) (fun _ h => h) rfl rfl rfl (Nat.le_of_ble_eq_true rfl) d_C_init_39 (fun H locs w => ?_)
  have w : lW D clP (tyP cI cF cZ cJ) [(h0, .inr (0, [.ref pw, .ref q1, .ref q2, .int (nI 0), .int (nI 0), .int (nI 0)])), (q1, .inl (cI, 8192, .inl (fun _ => 0))), (q2, .inl (cI, 8192, .inl (fun _ => 0)))] s A s.heap H _ := w
  exact li_ret F (q1, q2) w rfl trivial hr hlk (Nat.le_of_ble_eq_true rfl) (Nat.le_of_ble_eq_true rfl) d_C_init_42
end
