/-! The class's memory: what its cells are -/
def eP (cI cF : ClassId) (ad : Nat → Nat) (i : Nat) (f : Nat → Int32) : va_E := match i with
  | 0 => .inr (4, [.ref (ad 1), .ref (ad 2), .ref (ad 5), .ref (ad 8), .int (f 4)])
  | 1 => .inr (3, [.int (f 0), .int (f 1), .int (f 2)])
  | 2 => .inr (2, [.ref (ad 1), .ref (ad 3), .ref (ad 4), .int (f 3), .int (f 4)])
  | 3 => .inl (cI, 16384, .inl f)
  | 4 => .inl (cI, 64, .inl f)
  | 5 => .inr (0, [.ref (ad 1), .ref (ad 6), .ref (ad 7), .int (f 3), .int (f 4), .int (f 5)])
  | 6 => .inl (cI, 8192, .inl f)
  | 7 => .inl (cI, 8192, .inl f)
  | 8 => .inl (cF, 8, .inr (.inr (.inr (.inr (fun j => some (ad (j + 9)))))))
  | k + 9 => if k < 8 then .inr (1, [.ref (ad (k + 17)), .int (f 1), .int (f 2), .int (f 3), .int (f 4)]) else .inl (cI, 64, .inl f)
theorem eP_F {cI cF : ClassId} {ad : Nat → Nat} {k : Nat} (h : k < 8) (f : Nat → Int32) : eP cI cF ad (k + 9) f = .inr (1, [.ref (ad (k + 17)), .int (f 1), .int (f 2), .int (f 3), .int (f 4)]) := by
  simp [eP, h]
theorem eP_V {cI cF : ClassId} {ad : Nat → Nat} {k : Nat} (f : Nat → Int32) : eP cI cF ad (k + 17) f = .inl (cI, 64, .inl f) := by
  show eP cI cF ad ((k + 8) + 9) f = _
  have h : ¬ k + 8 < 8 := by omega
  simp [eP, h]
abbrev tyP (cI cF cZ cJ : ClassId) : List (ClassId × FieldType) := [(cI, .int), (cF, .object R_F), (cZ, .boolean), (cJ, .long)]
abbrev KIP (l : Launch) (D : va_G) (cI cF cZ cJ : ClassId) (ad : Nat → Nat) (y : MethodName) (b : ByteArray) (maxL : Nat) (ret : Option FieldType) (nf nl : Nat) (av : List Value) (σ : Mem) (P : Int32 → Mem → Prop) : Prop :=
  KI l D clP (tyP cI cF cZ cJ) 25 (eP cI cF ad) ad y b maxL ret { frames := nf, cells := 0, slots := 0, locals := nl } av σ P
abbrev KVP (l : Launch) (D : va_G) (cI cF cZ cJ : ClassId) (ad : Nat → Nat) (y : MethodName) (b : ByteArray) (maxL : Nat) (nf nl : Nat) (av : List Value) (σ : Mem) (P : Mem → Prop) : Prop :=
  KV l D clP (tyP cI cF cZ cJ) 25 (eP cI cF ad) ad y b maxL { frames := nf, cells := 0, slots := 0, locals := nl } av σ P
set_option maxRecDepth 20000 in
theorem in_C : ∀ w ∈ u_ws R_C F_C 6, w ∈ gt := by decide +kernel
set_option maxRecDepth 20000 in
theorem in_F : ∀ w ∈ u_ws R_F F_F 5, w ∈ gt := by decide +kernel
set_option maxRecDepth 20000 in
theorem in_M : ∀ w ∈ u_ws R_M F_M 5, w ∈ gt := by decide +kernel
set_option maxRecDepth 20000 in
theorem in_W : ∀ w ∈ u_ws R_W F_W 3, w ∈ gt := by decide +kernel
set_option maxRecDepth 20000 in
theorem in_P : ∀ w ∈ u_ws R_P F_P 5, w ∈ gt := by decide +kernel
set_option maxRecDepth 20000 in
theorem in_R : ∀ w ∈ u_ws R_R F_R 22, w ∈ gt := by decide +kernel
theorem kin {y : MethodName} {cc : ByteArray} {maxL : Nat} {ret : Option FieldType} {L : List Cond} (h : ∀ w ∈ L, w ∈ gt) : ∀ w ∈ L, w ∈ kws y cc maxL ret := fun w hw => kws_in (h w hw)
theorem kwV {y0 y : MethodName} {cc0 cc : ByteArray} {L0 maxL idx : Nat} {r0 ret : Option FieldType} {own C : String} (h1 : Cond.methodLink own idx y ∈ gt) (h2 : Cond.instanceMethod y ∈ gt) (h3 : Cond.selects C y y ∈ gt) (h4 : Cond.initialized C ∈ gt) (hc : Cond.code y cc maxL ret ∈ gt) : GoodIn (kws y0 cc0 L0 r0) (wsV own idx C y (kws y cc maxL ret)) := by
  unfold wsV
  refine kws_good hc (fun w hw => ?_)
  simp only [List.mem_cons, List.mem_nil_iff, or_false] at hw
  rcases hw with rfl | rfl | rfl | rfl
  · exact h1
  · exact h2
  · exact h3
  · exact h4
theorem kwS {y0 y : MethodName} {cc0 cc : ByteArray} {L0 maxL idx : Nat} {r0 ret : Option FieldType} {own : String} (h1 : Cond.methodLink own idx y ∈ gt) (h2 : Cond.static y ∈ gt) (h4 : Cond.initialized own ∈ gt) (hc : Cond.code y cc maxL ret ∈ gt) : GoodIn (kws y0 cc0 L0 r0) (wsS own idx y (kws y cc maxL ret)) := by
  unfold wsS
  refine kws_good hc (fun w hw => ?_)
  simp only [List.mem_cons, List.mem_nil_iff, or_false] at hw
  rcases hw with rfl | rfl | rfl
  · exact h1
  · exact h2
  · exact h4
