/-! THE CLAIM OUT OF ONE WALK OF THE LAW'S BODY. Your part is whole_start (and what it stands on); all else here is the same for every law, but numbers. -/
def lw_P (b : Addr) (xs : List Int32) (args : Array Value) (s : State) : Prop := args = #[.ref b] ∧ s.IntsAt b xs ∧ xs.length ≤ 2048 ∧ (Jvm.Cond.and given_1 narrow_1).before args s = true
def lw_Q (_ : Array Value) (s : State) (o : Outcome) (t : State) : Prop := o = .returned (some (.int 1)) ∧ Framed s o t [] 601024 7293034
def lw_Z (below : List Frame) (a : Array Value) (s : State) : State → Prop := fun t => ∃ o, t.status = .running ∧ Ended t below o ∧ lw_Q a s o t
/-- the law's own end, with 1 on the stack, nothing written that was there before, its room as the claim has it -/
theorem lw_ret {p : Program} {l : Launch} {e : Env} {s : State} {m : MethodId} {below : List Frame} {meth : Method} {c : Code} {b : Nat} (hx : p.tables.exec = Jvm.exec) (hb : c.code = code) (hr : meth.sig.returnType = ret) (hlocks : meth.locks = false) {pc : Nat} {H : Heap} {ls : Array Slot} (hdg : decode code pc = .ok (.ireturn, 1)) : W p l e room_1 s m #[Value.ref b] below meth c H [] 601024 7293034 (lw_Z below #[Value.ref b] s) (F0 m pc ls [.int 1]) := by
  intro T hT X
  obtain ⟨fs, hret, hrun, hended, hW, hframe⟩ := X.leave (v := some (.int 1)) (hlocks := hlocks) (fun h => by rw [hr] at h; cases h)
  have hmeth' : T.vm.method? m = some meth := X.method'
  refine ⟨T.setFrames fs, ?_, .returned (some (.int 1)), hrun, hended, rfl, ⟨_, rfl⟩, hW, hframe⟩
  jvm_step X.here [X.here.top, hx, hb, hdg, hmeth', hr, ret, narrow_b1]
  (try refine ⟨rfl, ?_⟩); (try refine ⟨rfl, ?_⟩)
  first | (intro acts; rw [hret _ acts rfl rfl rfl]) | rw [hret _ _ rfl rfl rfl]
  exact Steps.refl _
/-- what holds at the law's entry: the machine, the code, the tables' words (any of lw_tbl by 'hts w (by decide +kernel)'), the script of L ints xs at the cell b, what the Statement gives of the start (any of its parts by flat_of_before) -/
def lw_At (p : Program) (s : State) (m : MethodId) (meth : Method) (c : Code) (b L : Nat) (xs : Nat → Int32) : Prop :=
  p.tables.exec = Jvm.exec ∧ c.code = code ∧ meth.sig.returnType = ret ∧ c.maxLocals = 7 ∧ s.vm.findClass R_law = some m.cls ∧ (∀ w ∈ lw_tbl, w.before #[Value.ref b] s = true) ∧ va_X b L xs s s.heap ∧ b < s.heap.size ∧ meth.locks = false ∧ (Jvm.Cond.and given_1 narrow_1).before #[Value.ref b] s = true
set_option maxRecDepth 20000 in
theorem m_16 : Cond.instantiable "PagePool" 5 ∈ gt := gt_in 16 (by decide +kernel) (by decide +kernel)
set_option maxRecDepth 20000 in
theorem m_519 : Cond.instantiable "PagePoolModel" 22 ∈ gt := gt_in 519 (by decide +kernel) (by decide +kernel)
set_option maxRecDepth 20000 in
theorem m_15 : Cond.classLink "PagePoolLaw" 8 "PagePool" ∈ gt := gt_in 15 (by decide +kernel) (by decide +kernel)
set_option maxRecDepth 20000 in
theorem m_518 : Cond.classLink "PagePoolLaw" 60 "PagePoolModel" ∈ gt := gt_in 518 (by decide +kernel) (by decide +kernel)
set_option maxRecDepth 20000 in
theorem m_17 : Cond.methodLink "PagePoolLaw" 59 (⟨"PagePool", "<init>", "()V"⟩ : MethodName) ∈ gt := gt_in 17 (by decide +kernel) (by decide +kernel)
set_option maxRecDepth 20000 in
theorem m_520 : Cond.methodLink "PagePoolLaw" 62 (⟨"PagePoolModel", "<init>", "()V"⟩ : MethodName) ∈ gt := gt_in 520 (by decide +kernel) (by decide +kernel)
set_option maxRecDepth 20000 in
theorem m_18 : Cond.instanceMethod (⟨"PagePool", "<init>", "()V"⟩ : MethodName) ∈ gt := gt_in 18 (by decide +kernel) (by decide +kernel)
set_option maxRecDepth 20000 in
theorem m_521 : Cond.instanceMethod (⟨"PagePoolModel", "<init>", "()V"⟩ : MethodName) ∈ gt := gt_in 521 (by decide +kernel) (by decide +kernel)
set_option maxRecDepth 20000 in
theorem m_19 : Cond.code (⟨"PagePool", "<init>", "()V"⟩ : MethodName) prog_1_method_1_code 3 none ∈ gt := gt_in 19 (by decide +kernel) (by decide +kernel)
set_option maxRecDepth 20000 in
theorem m_522 : Cond.code (⟨"PagePoolModel", "<init>", "()V"⟩ : MethodName) prog_7_method_1_code 1 none ∈ gt := gt_in 522 (by decide +kernel) (by decide +kernel)
set_option maxRecDepth 20000 in
theorem m_742 : Cond.arrayClass .long ∈ gt := gt_in 742 (by decide +kernel) (by decide +kernel)
theorem tb_in {w : Cond} (i : Nat) (h : tables_1[i]? = some w) : w ∈ lw_tbl := List.mem_append_right _ (List.mem_of_getElem? h)
set_option maxRecDepth 20000 in
theorem st_in : ∀ q ∈ strsP, Cond.stringRef R_P q.1 q.2 ∈ lw_tbl := by decide +kernel
set_option maxRecDepth 20000 in
theorem tx_in : ∀ w ∈ tXw, w ∈ lw_tbl := by decide +kernel
set_option maxRecDepth 20000 in
theorem st_ex : ∀ q ∈ strsP, Cond.exactly (.string R_P q.1) "java/lang/String" ∈ flatC (Jvm.Cond.and given_1 narrow_1) := by decide +kernel
/-- the classes and the arrays' classes, at the start -/
theorem cls_start {s : State} {args : Array Value} (hts : ∀ w ∈ lw_tbl, w.before args s = true) : ∃ (D : va_G) (cI cF cZ cJ : ClassId), va_K D clP (tyP cI cF cZ cJ) s := by
  have hg : ∀ w ∈ gt, w.before args s = true := fun w hw => hts w (List.mem_filter.mp hw).1
  obtain ⟨c0, i0, k0⟩ := u_known (C := R_C) (T := F_C) (N := 6) (n := 6) hg in_C (hg _ m_68)
  obtain ⟨c1, i1, k1⟩ := u_known (C := R_F) (T := F_F) (N := 5) (n := 5) hg in_F (hg _ m_97)
  obtain ⟨c2, i2, k2⟩ := u_known (C := R_M) (T := F_M) (N := 5) (n := 5) hg in_M (hg _ m_43)
  obtain ⟨c3, i3, k3⟩ := u_known (C := R_W) (T := F_W) (N := 3) (n := 3) hg in_W (hg _ m_24)
  obtain ⟨c4, i4, k4⟩ := u_known (C := R_P) (T := F_P) (N := 5) (n := 5) hg in_P (hg _ m_16)
  obtain ⟨c5, i5, k5⟩ := u_known (C := R_R) (T := F_R) (N := 22) (n := 22) hg in_R (hg _ m_519)
  obtain ⟨cI, kI, pI, a1, a2, a3⟩ := Cond.arrayClass_spec (hts (.arrayClass .int) (tb_in 66 (by decide +kernel)))
  obtain ⟨cZ, kZ, pZ, z1, z2, z3⟩ := Cond.arrayClass_spec (hts (.arrayClass .boolean) (tb_in 595 (by decide +kernel)))
  obtain ⟨cJ, kJ, pJ, j1, j2, j3⟩ := Cond.arrayClass_spec (hts (.arrayClass .long) (tb_in 742 (by decide +kernel)))
  obtain ⟨cm, cF, kF9, b1, -, b3, b4, b5⟩ := Cond.arrayOver_spec (hts (.arrayOver (.object R_F)) (tb_in 96 (by decide +kernel)))
  refine ⟨(fun k => if k = 0 then c0 else if k = 1 then c1 else if k = 2 then c2 else if k = 3 then c3 else if k = 4 then c4 else c5, fun k => if k = 0 then i0 else if k = 1 then i1 else if k = 2 then i2 else if k = 3 then i3 else if k = 4 then i4 else i5), cI, cF, cZ, cJ, ?_, ?_⟩
  · intro k q hq
    match k, hq with
    | 0, hq => cases hq; exact k0
    | 1, hq => cases hq; exact k1
    | 2, hq => cases hq; exact k2
    | 3, hq => cases hq; exact k3
    | 4, hq => cases hq; exact k4
    | 5, hq => cases hq; exact k5
    | k + 6, hq => simp at hq
  · intro k q hq
    match k, hq with
    | 0, hq => cases hq; exact ⟨fun N z => ⟨(fun k h => by cases h), kI, a2, pI, a3⟩, a1⟩
    | 1, hq => cases hq; exact ⟨fun N z => ⟨(fun k h => by cases h), kF9, b3, cm, b4⟩, kF9, cm, b3, b4, b1, b5⟩
    | 2, hq => cases hq; exact ⟨fun N z => ⟨(fun k h => by cases h), kZ, z2, pZ, z3⟩, z1⟩
    | 3, hq => cases hq; exact ⟨fun N z => ⟨(fun k h => by cases h), kJ, j2, pJ, j3⟩, j1⟩
    | k + 4, hq => simp at hq
theorem t_start {s : State} {b : Nat} (hts : ∀ w ∈ lw_tbl, w.before #[Value.ref b] s = true) (hgv : (Jvm.Cond.and given_1 narrow_1).before #[Value.ref b] s = true) : tF (fun q : Nat => s.heap.size ≤ q) s s.heap ∧ nC s := by
  have hs := flat_of_before _ hgv
  refine ⟨⟨vx_Zqof (hts _ (tb_in 223 (by decide +kernel))) (hts _ (tb_in 7 (by decide +kernel))) (hs _ (by decide +kernel)) (fun a h => Nat.not_le.mpr h), vx_Zqof (hts _ (tb_in 225 (by decide +kernel))) (hts _ (tb_in 7 (by decide +kernel))) (hs _ (by decide +kernel)) (fun a h => Nat.not_le.mpr h), fun q hq => ?_, fun w hw => ?_⟩, va_Nc.of (hs (Cond.not (.castable cIOB cISE)) (by decide +kernel))⟩
  · have h1 := hts _ (st_in q hq)
    obtain ⟨a, _, _, _, ha, -⟩ := Cond.exactly_spec (hs _ (st_ex q hq))
    exact ⟨a, vk_R.of h1 ha⟩
  · exact va_tabs (u := s) (U := s) (tXw_ok w hw).1 rfl (hts w (tx_in w hw))
theorem va_Dsplit {A : Nat → Prop} {a b : va_W} (h : va_D A (a ++ b)) : va_D A a ∧ va_D A b ∧ ∀ p ∈ a, ∀ q ∈ b, p.1 ≠ q.1 := by
  have la : ∀ {i : Nat} {p : Nat × va_E}, a[i]? = some p → (a ++ b)[i]? = some p := fun {i p} hi => by
    rw [List.getElem?_append_left (List.getElem?_eq_some_iff.mp hi).1]; exact hi
  have lb : ∀ {i : Nat} {p : Nat × va_E}, b[i]? = some p → (a ++ b)[a.length + i]? = some p := fun {i p} hi => by
    rw [List.getElem?_append_right (by omega), Nat.add_sub_cancel_left]; exact hi
  refine ⟨⟨fun i j p q hi hj e => h.1 i j p q (la hi) (la hj) e, fun k q hk => h.2 k q (la hk)⟩, ⟨fun i j p q hi hj e => ?_, fun k q hk => h.2 _ q (lb hk)⟩, fun p hp q hq e => ?_⟩
  · have := h.1 _ _ p q (lb hi) (lb hj) e
    omega
  · obtain ⟨i, hi⟩ := List.getElem?_of_mem hp
    obtain ⟨j, hj⟩ := List.getElem?_of_mem hq
    have h1 := h.1 _ _ p q (la hi) (lb hj) e
    have h2 := (List.getElem?_eq_some_iff.mp hi).1
    omega
theorem gW.of {D : va_G} {cI cF cZ cJ : ClassId} {ad ad2 : Nat → Nat} {o : Nat} {σ τ : Mem} {f : Nat → Int64} {s : State} {H : Heap} {locs : List Loc} (w : lW D clP (tyP cI cF cZ cJ) ((mw 25 (eP cI cF ad) ad σ ++ mw 12 (eR cI cZ ad2) ad2 τ) ++ oC cJ o f) s (fun q : Nat => s.heap.size ≤ q) s.heap H locs) : gW D cI cF cZ cJ ad ad2 o σ τ f s H locs := by
  obtain ⟨hK, hP, hD, hS, hA⟩ := w
  obtain ⟨hP1, hO⟩ := va_Papp.mp hP
  obtain ⟨hP2, hR⟩ := va_Papp.mp hP1
  obtain ⟨hD1, hDo, n1⟩ := va_Dsplit hD
  obtain ⟨hD2, hDR, n2⟩ := va_Dsplit hD1
  have hAo : s.heap.size ≤ o := hDo.2 0 (o, .inl (cJ, 1, .inr (.inl f))) rfl
  have m1 : ∀ i, i < 25 → (ad i, eP cI cF ad i (σ i)) ∈ mw 25 (eP cI cF ad) ad σ := fun i hi => List.mem_of_getElem? (mw_at hi)
  have m2 : ∀ i, i < 12 → (ad2 i, eR cI cZ ad2 i (τ i)) ∈ mw 12 (eR cI cZ ad2) ad2 τ := fun i hi => List.mem_of_getElem? (mw_at hi)
  have m3 : (o, .inl (cJ, 1, .inr (.inl f))) ∈ oC cJ o f := List.mem_singleton.mpr rfl
  exact ⟨⟨⟨hK, hP2, hD2, hS, hA⟩, hO, hAo, fun i hi => n1 _ (List.mem_append_left _ (m1 i hi)) _ m3⟩, hR, hDR, fun i hi j hj => n2 _ (m1 i hi) _ (m2 j hj), fun j hj => n1 _ (List.mem_append_right _ (m2 j hj)) _ m3⟩
theorem gt_end {L i : Nat} (hL : L ≤ 2048) (hi : i ≤ 4096) : (nI L - nI 4 < nI i) ↔ L < i + 4 := by
  rw [Int32.lt_iff_toInt_lt, pk_sub_toInt (by omega) (by omega), nI_toInt (by omega)]
  omega
set_option maxHeartbeats 4000000 in
set_option maxRecDepth 100000 in
/-- THE LAW'S LOOP: k calls are done -/
theorem law_loop {p : Program} {l : Launch} {e : Env} {s : State} {m : MethodId} {below : List Frame} {meth : Method} {c : Code} {D : va_G} {cI cF cZ cJ : ClassId} {ad ad2 : Nat → Nat} {o b L : Nat} {xs : Nat → Int32} (hl9 : l.stackTraces = false) (hL : L ≤ 2048) (C0 : lw_At p s m meth c b L xs) (F : CallFix p m c b_L_law 7 s #[Value.ref b] gt R_L) (hT : tF (fun q : Nat => s.heap.size ≤ q) s s.heap) (hN : nC s) :
    ∀ (n k i : Nat), i = 4 * k → L + 4 ≤ i + 4 * n → i ≤ L → ∀ (σ τ : Mem) (f : Nat → Int64) (H : Heap) (locs : List Loc) (ls : Array Slot), J (16 * k + 16) σ τ → gW D cI cF cZ cJ ad ad2 o σ τ f s H locs → lv_has ls 7 [(0, .ref b), (1, .ref (ad 0)), (2, .ref (ad2 0)), (3, .ref o), (4, .int (nI i))] → W p l e room_1 s m #[Value.ref b] below meth c H locs (40 + 5 * k) (90000 + 30 * k) (lw_Z below #[Value.ref b] s) (F0 m 23 ls []) := by
  obtain ⟨hx, hb, hr, hml, hown, hts, hX, hbl, hlocks, hgv⟩ := C0
  intro n
  induction n with
  | zero =>
    intro k i hk hn hi
    exact absurd hn (by omega)
  | succ n ih =>
    intro k i hk hn hi σ τ f H locs ls hJ w hl
    refine lv_iload hx hb d_L_law_23 (lv_at hl 4 rfl) ?_
    refine lv_aload_n hx hb d_L_law_25 rfl (lv_at hl 0 rfl) ?_
    refine va_slen hx hb hX hbl (Nat.not_le.mpr hbl) w.1.1.2.2.2.1 d_L_law_26 ?_
    refine lv_iconst (v := nI 4) hx hb d_L_law_27 (by decide) ?_
    refine lv_isub hx hb d_L_law_28 ?_
    refine lv_icmp_gt (tgt := 944) hx hb d_L_law_29 (by decide) (fun c9 => ?_) (fun c9 => ?_)
    · refine lv_iconst (v := 1) hx hb d_L_law_944 (by decide) ?_
      refine va_forget (fun q hq => w.1.1.2.2.2.1.2.2 q hq) ?_
      refine W.widen (k := 601024) (n := 7293034) (by omega) (by omega) ?_
      exact lw_ret hx hb hr hlocks d_L_law_945
    · have hi4 : i + 4 ≤ L := Nat.not_lt.mp (fun q => c9 ((gt_end hL (by omega)).mpr q))
      have hc : 40 + 5 * k + 5 ≤ room_1.cells := by show _ ≤ 601024; omega
      have hs : 90000 + 30 * k + 30 ≤ room_1.slots := by show _ ≤ 7293034; omega
      have hB : 16 * k + 16 + 16 < 2 ^ 30 := by omega
      have tl : ∀ (σ1 τ1 : Mem) (f1 : Nat → Int64) (H1 : Heap) (locs1 : List Loc) (ls1 : Array Slot), J (16 * k + 16 + 16) σ1 τ1 → gW D cI cF cZ cJ ad ad2 o σ1 τ1 f1 s H1 locs1 → lv_has ls1 7 [(0, .ref b), (1, .ref (ad 0)), (2, .ref (ad2 0)), (3, .ref o), (4, .int (nI i))] → W p l e room_1 s m #[Value.ref b] below meth c H1 locs1 (40 + 5 * k + 5) (90000 + 30 * k + 30) (lw_Z below #[Value.ref b] s) (F0 m 938 ls1 []) := by
        intro σ1 τ1 f1 H1 locs1 ls1 hJ1 w1 hl1
        refine lv_iinc (v := nI (i + 4)) (lv' := [(4, .int (nI (i + 4))), (0, .ref b), (1, .ref (ad 0)), (2, .ref (ad2 0)), (3, .ref o)]) hx hb d_L_law_938 hl1 (k := 4) rfl (nI_add i 4) (by decide) rfl (fun ls2 hl2 => ?_)
        refine lv_goto (tgt := 23) hx hb d_L_law_941 (by decide) ?_
        exact ih (k + 1) (i + 4) (by omega) (by omega) hi4 σ1 τ1 f1 H1 locs1 ls2 hJ1 w1 (lv_sub hl2 [1, 2, 3, 4, 0] rfl)
      refine lv_aload_n hx hb d_L_law_32 rfl (lv_at hl 0 rfl) ?_
      refine lv_iload hx hb d_L_law_33 (lv_at hl 4 rfl) ?_
      refine lr_arg F w hX hbl (show i < L by omega) hL d_L_law_35 ?_
      refine lv_bipush (v := nI 31) hx hb d_L_law_36 (by decide) ?_
      refine lv_iand hx hb d_L_law_38 ?_
      obtain ⟨j, hj, ej⟩ := pk_andE (xs i) (m := nI 31) 5 (by decide)
      rw [ej]
      have hj : j < 32 := hj
      by_cases h18 : j ≤ 18
      · rcases (show j = 0 ∨ j = 1 ∨ j = 2 ∨ j = 3 ∨ j = 4 ∨ j = 5 ∨ j = 6 ∨ j = 7 ∨ j = 8 ∨ j = 9 ∨ j = 10 ∨ j = 11 ∨ j = 12 ∨ j = 13 ∨ j = 14 ∨ j = 15 ∨ j = 16 ∨ j = 17 ∨ j = 18 by omega) with rfl | rfl | rfl | rfl | rfl | rfl | rfl | rfl | rfl | rfl | rfl | rfl | rfl | rfl | rfl | rfl | rfl | rfl | rfl
        · refine nr_tabIn (tgt := 128) (k := 0) (off := 89) hx hb d_L_law_39 rfl (by decide) (by decide) (by decide) (by decide) ?_
          exact k_fix hl9 F w hT hN hX hbl hL hi4 hJ hB hc hs hl tl
        · refine nr_tabIn (tgt := 184) (k := 1) (off := 145) hx hb d_L_law_39 rfl (by decide) (by decide) (by decide) (by decide) ?_
          exact k_unfix hl9 F w hT hN hX hbl hL hi4 hJ hB hc hs hl tl
        · refine nr_tabIn (tgt := 240) (k := 2) (off := 201) hx hb d_L_law_39 rfl (by decide) (by decide) (by decide) (by decide) ?_
          exact k_change hl9 F w hT hN hX hbl hL hi4 hJ hB hc hs hl tl
        · refine nr_tabIn (tgt := 320) (k := 3) (off := 281) hx hb d_L_law_39 rfl (by decide) (by decide) (by decide) (by decide) ?_
          exact k_word hl9 F w hT hN hX hbl hL hi4 hJ hB hc hs hl tl
        · refine nr_tabIn (tgt := 388) (k := 4) (off := 349) hx hb d_L_law_39 rfl (by decide) (by decide) (by decide) (by decide) ?_
          exact k_frame hl9 F w hT hN hX hbl hL hi4 hJ hB hc hs hl tl
        · refine nr_tabIn (tgt := 456) (k := 5) (off := 417) hx hb d_L_law_39 rfl (by decide) (by decide) (by decide) (by decide) ?_
          exact k_flush hl9 F w hT hN hX hbl hL hi4 hJ hB hc hs hl tl
        · refine nr_tabIn (tgt := 512) (k := 6) (off := 473) hx hb d_L_law_39 rfl (by decide) (by decide) (by decide) (by decide) ?_
          exact k_flushOldest hl9 F w hT hN hX hbl hL hi4 hJ hB hc hs hl tl
        · refine nr_tabIn (tgt := 556) (k := 7) (off := 517) hx hb d_L_law_39 rfl (by decide) (by decide) (by decide) (by decide) ?_
          exact k_force hl9 F w hT hN hX hbl hL hi4 hJ hB hc hs hl tl
        · refine nr_tabIn (tgt := 600) (k := 8) (off := 561) hx hb d_L_law_39 rfl (by decide) (by decide) (by decide) (by decide) ?_
          exact k_trim hl9 F w hT hN hX hbl hL hi4 hJ hB hc hs hl tl
        · refine nr_tabIn (tgt := 644) (k := 9) (off := 605) hx hb d_L_law_39 rfl (by decide) (by decide) (by decide) (by decide) ?_
          exact k_changed hl9 F w hT hN hX hbl hL hi4 hJ hB hc hs hl tl
        · refine nr_tabIn (tgt := 657) (k := 10) (off := 618) hx hb d_L_law_39 rfl (by decide) (by decide) (by decide) (by decide) ?_
          exact k_oldest hl9 F w hT hN hX hbl hL hi4 hJ hB hc hs hl tl
        · refine nr_tabIn (tgt := 682) (k := 11) (off := 643) hx hb d_L_law_39 rfl (by decide) (by decide) (by decide) (by decide) ?_
          exact k_log hl9 F w hT hN hX hbl hL hi4 hJ hB hc hs hl tl
        · refine nr_tabIn (tgt := 738) (k := 12) (off := 699) hx hb d_L_law_39 rfl (by decide) (by decide) (by decide) (by decide) ?_
          exact k_onMedium hl9 F w hT hN hX hbl hL hi4 hJ hB hc hs hl tl
        · refine nr_tabIn (tgt := 806) (k := 13) (off := 767) hx hb d_L_law_39 rfl (by decide) (by decide) (by decide) (by decide) ?_
          exact k_torn hl9 F w hT hN hX hbl hL hi4 hJ hB hc hs hl tl
        · refine nr_tabIn (tgt := 819) (k := 14) (off := 780) hx hb d_L_law_39 rfl (by decide) (by decide) (by decide) (by decide) ?_
          exact k_writes hl9 F w hT hN hX hbl hL hi4 hJ hB hc hs hl tl
        · refine nr_tabIn (tgt := 832) (k := 15) (off := 793) hx hb d_L_law_39 rfl (by decide) (by decide) (by decide) (by decide) ?_
          exact k_cutAfter hl9 F w hT hN hX hbl hL hi4 hJ hB hc hs hl tl
        · refine nr_tabIn (tgt := 868) (k := 16) (off := 829) hx hb d_L_law_39 rfl (by decide) (by decide) (by decide) (by decide) ?_
          exact k_cut hl9 F w hT hN hX hbl hL hi4 hJ hB hc hs hl tl
        · refine nr_tabIn (tgt := 881) (k := 17) (off := 842) hx hb d_L_law_39 rfl (by decide) (by decide) (by decide) (by decide) ?_
          exact k_start hl9 F w hT hN hX hbl hL hi4 hJ hB hc hs hl tl
        · refine nr_tabIn (tgt := 925) (k := 18) (off := 886) hx hb d_L_law_39 rfl (by decide) (by decide) (by decide) (by decide) ?_
          exact k_isOn hl9 F w hT hN hX hbl hL hi4 hJ hB hc hs hl tl
      · refine lv_tableOut (tgt := 938) hx hb d_L_law_39 (Or.inr (by rw [nI_toInt (by omega)]; omega)) (by decide) ?_
        refine W.widen (k := 40 + 5 * k + 5) (n := 90000 + 30 * k + 30) (by omega) (by omega) ?_
        exact tl σ τ f H locs ls (hJ.mono (by omega)) w hl
set_option maxHeartbeats 4000000 in
set_option maxRecDepth 100000 in
/-- THE LAW, from its entry -/
theorem whole_start {p : Program} {e : Env} {s : State} {m : MethodId} {below : List Frame} {meth : Method} {c : Code} (l : Launch) (hl9 : l.stackTraces = false) {b L : Nat} {xs : Nat → Int32} (hL : L ≤ 2048) (C0 : lw_At p s m meth c b L xs) : W p l e room_1 s m #[Value.ref b] below meth c s.heap [] 0 0 (lw_Z below #[Value.ref b] s) (entryFrame m ([Value.ref b] : List Value).toArray 7) := by
  obtain ⟨hx, hb, hr, hml, hown, htsA, hX, hbl, hlocks, hgv⟩ := id C0
  obtain ⟨hT, hN⟩ := t_start htsA hgv
  obtain ⟨D, cI, cF, cZ, cJ, hK⟩ := cls_start htsA
  have hts : ∀ w ∈ gt, w.before #[Value.ref b] s = true := fun w hw => htsA w (List.mem_filter.mp hw).1
  have F : CallFix p m c b_L_law 7 s #[Value.ref b] gt R_L := ⟨hx, hb, hml, hown, hts⟩
  have hAO : va_AO R_F s := va_AO.of (htsA (.arrayOver (.object R_F)) (tb_in 96 (by decide +kernel)))
  have w : lW D clP (tyP cI cF cZ cJ) [] s (fun q : Nat => s.heap.size ≤ q) s.heap s.heap [] := ⟨hK, fun k q h => by simp at h, ⟨fun i j p q h => by simp at h, fun k q h => by simp at h⟩, va_S.rf, fun _ h => h⟩
  have hl := lv_entry ([.ref b]) (n := 7) (Nat.le_of_ble_eq_true rfl)
  rw [lg_entry_eq]
  generalize (lg_sl ([.ref b]) ++ List.replicate (7 - (lg_sl ([.ref b])).length) Slot.unset).toArray = ls at hl ⊢
  have hl : lv_has ls 7 [(0, .ref b)] := hl
  refine li_new (ci := 4) (fs := [.null, .null, .null, .null, .int 0]) F w in_P t_P t_P_ok m_15 m_16 m_1 rfl (fun j hj => by rcases (show j = 0 ∨ j = 1 ∨ j = 2 ∨ j = 3 ∨ j = 4 by omega) with rfl | rfl | rfl | rfl | rfl <;> rfl) (Nat.le_of_ble_eq_true rfl) (Nat.le_of_ble_eq_true rfl) d_L_law_0 (fun h0 Ha wa => ?_)
  refine lv_dup hx hb d_L_law_3 rfl ?_
  refine li_init (As := []) (rest := [.ref h0]) (wr := []) (X := fun U => va_AO R_F U) F wa hl.1 (fun U V hal h => va_AO.moved hal h) (fun U hW => va_AO.moved hW.alike hAO) (c_P_init h0) (cwI 0 hts (gd_gt m_19 (kws_good0 m_19)) rfl rfl rfl (hts _ m_1) (hts _ m_17) (hts _ m_18) rfl (by decide +kernel) ⟨Nat.le_of_ble_eq_true rfl, Nat.le_of_ble_eq_true rfl⟩) rfl rfl (Nat.le_of_ble_eq_true rfl) d_L_law_4 ⟨Nat.le_of_ble_eq_true rfl, Nat.le_of_ble_eq_true rfl⟩ [0] [] rfl rfl (by decide) (by decide) (by decide) (fun ad Hb lb had wb => ?_)
  have had : ad 0 = h0 := had
  subst had
  refine W.widen (k := 25) (n := 33411) (Nat.le_of_ble_eq_true rfl) (Nat.le_of_ble_eq_true rfl) ?_
  refine lv_astore_n (lv' := [(1, .ref (ad 0)), (0, .ref b)]) hx hb d_L_law_7 rfl hl (by decide) rfl (fun ls hl => ?_)
  have wb : lW D clP (tyP cI cF cZ cJ) (mw 25 (eP cI cF ad) ad mP0) s (fun q : Nat => s.heap.size ≤ q) s.heap Hb lb := wb
  refine li_new (cl := clP) (ci := 5) (fs := [.int 0, .null, .null, .int 0, .int 0, .null, .null, .null, .null, .int 0, .int 0, .int 0, .null, .null, .null, .null, .null, .int 0, .int 0, .int 0, .int 0, .int 0]) F wb in_R t_R t_R_ok m_518 m_519 m_6 rfl (fun j hj => by rcases (show j = 0 ∨ j = 1 ∨ j = 2 ∨ j = 3 ∨ j = 4 ∨ j = 5 ∨ j = 6 ∨ j = 7 ∨ j = 8 ∨ j = 9 ∨ j = 10 ∨ j = 11 ∨ j = 12 ∨ j = 13 ∨ j = 14 ∨ j = 15 ∨ j = 16 ∨ j = 17 ∨ j = 18 ∨ j = 19 ∨ j = 20 ∨ j = 21 by omega) with rfl | rfl | rfl | rfl | rfl | rfl | rfl | rfl | rfl | rfl | rfl | rfl | rfl | rfl | rfl | rfl | rfl | rfl | rfl | rfl | rfl | rfl <;> rfl) (Nat.le_of_ble_eq_true rfl) (Nat.le_of_ble_eq_true rfl) d_L_law_8 (fun h1 Hc wc => ?_)
  refine lv_dup hx hb d_L_law_11 rfl ?_
  refine li_init (As := []) (rest := [.ref h1]) (wr := mw 25 (eP cI cF ad) ad mP0) (X := fun _ => True) F wc hl.1 (fun _ _ _ h => h) (fun _ _ => trivial) (c_R_init h1) (cwI 0 hts (gd_gt m_522 (kws_good0 m_522)) rfl rfl rfl (hts _ m_6) (hts _ m_520) (hts _ m_521) rfl (by decide +kernel) ⟨Nat.le_of_ble_eq_true rfl, Nat.le_of_ble_eq_true rfl⟩) rfl rfl (Nat.le_of_ble_eq_true rfl) d_L_law_12 ⟨Nat.le_of_ble_eq_true rfl, Nat.le_of_ble_eq_true rfl⟩ [25] [0, 1, 2, 3, 4, 5, 6, 7, 8, 9, 10, 11, 12, 13, 14, 15, 16, 17, 18, 19, 20, 21, 22, 23, 24] rfl rfl (by decide) (by decide) (by decide) (fun ad2 Hd ld had wd => ?_)
  have had : ad2 0 = h1 := had
  subst had
  refine W.widen (k := 37) (n := 83193) (Nat.le_of_ble_eq_true rfl) (Nat.le_of_ble_eq_true rfl) ?_
  refine lv_astore_n (lv' := [(2, .ref (ad2 0)), (1, .ref (ad 0)), (0, .ref b)]) hx hb d_L_law_15 rfl hl (by decide) rfl (fun ls hl => ?_)
  refine lv_iconst (v := nI 1) hx hb d_L_law_16 (by decide) ?_
  refine li_newa (atype := .long) (ty := .long) (N := 1) (a0 := (1, .inr (.inl (fun _ => 0)))) F wd m_742 rfl 3 rfl (fun _ _ => rfl) (fun _ => rfl) rfl (by decide) (by decide) (Nat.le_of_ble_eq_true rfl) (Nat.le_of_ble_eq_true rfl) d_L_law_17 (fun o He we => ?_)
  refine lv_astore_n (lv' := [(3, .ref o), (2, .ref (ad2 0)), (1, .ref (ad 0)), (0, .ref b)]) hx hb d_L_law_19 rfl hl (by decide) rfl (fun ls hl => ?_)
  refine lv_iconst (v := nI 0) hx hb d_L_law_20 (by decide) ?_
  refine lv_istore (lv' := [(4, .int (nI 0)), (3, .ref o), (2, .ref (ad2 0)), (1, .ref (ad 0)), (0, .ref b)]) hx hb d_L_law_21 hl (by decide) rfl (fun ls hl => ?_)
  refine W.widen (k := 40 + 5 * 0) (n := 90000 + 30 * 0) (Nat.le_of_ble_eq_true rfl) (Nat.le_of_ble_eq_true rfl) ?_
  exact law_loop hl9 hL C0 F hT hN (L + 1) 0 0 rfl (by omega) (Nat.zero_le _) _ _ _ He ld ls j_init (gW.of we) (lv_sub hl [4, 3, 2, 1, 0] rfl)
