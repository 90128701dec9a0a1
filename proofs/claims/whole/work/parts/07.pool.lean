/-! The class's memory: what its cells are -/
def eP (cI cF : ClassId) (ad : Nat → Nat) (i : Nat) (f : Nat → Int32) : va_E := match i with
  | 0 => .inr (4, [.ref (ad 1), .ref (ad 2), .ref (ad 5), .ref (ad 8), .int (f 4)])
  | 1 => .inr (3, [.int (f 0), .int (f 1), .int (f 2)])
  | 2 => .inr (2, [.ref (ad 1), .ref (ad 3), .ref (ad 4), .int (f 3), .int (f 4)])
  | 3 => .inl (cI, 16384, .inl f)
  | 4 => .inl (cI, 64, .inl f)
  | 5 => .inr (0, [.ref (ad 1), .ref (ad 6), .ref (ad 7), .int (f 3), .int (f 4), .int (f 5)])
  | 6 => .inl (cI, 8192, .inl f)
  | 7 => .inl (cI, 8192, .inl f)
  | 8 => .inl (cF, 8, .inr (.inr (.inr (.inr (fun j => some (ad (j + 9)))))))
  | k + 9 => if k < 8 then .inr (1, [.ref (ad (k + 17)), .int (f 1), .int (f 2), .int (f 3), .int (f 4)]) else .inl (cI, 64, .inl f)
theorem eP_F {cI cF : ClassId} {ad : Nat → Nat} {k : Nat} (h : k < 8) (f : Nat → Int32) : eP cI cF ad (k + 9) f = .inr (1, [.ref (ad (k + 17)), .int (f 1), .int (f 2), .int (f 3), .int (f 4)]) := by
  simp [eP, h]
theorem eP_V {cI cF : ClassId} {ad : Nat → Nat} {k : Nat} (f : Nat → Int32) : eP cI cF ad (k + 17) f = .inl (cI, 64, .inl f) := by
  show eP cI cF ad ((k + 8) + 9) f = _
  have h : ¬ k + 8 < 8 := by omega
  simp [eP, h]
abbrev tyP (cI cF cZ cJ : ClassId) : List (ClassId × FieldType) := [(cI, .int), (cF, .object R_F), (cZ, .boolean), (cJ, .long)]
abbrev KIP (l : Launch) (D : va_G) (cI cF cZ cJ : ClassId) (ad : Nat → Nat) (y : MethodName) (b : ByteArray) (maxL : Nat) (ret : Option FieldType) (nf nl : Nat) (av : List Value) (σ : Mem) (P : Int32 → Mem → Prop) : Prop :=
  KI l D clP (tyP cI cF cZ cJ) 25 (eP cI cF ad) ad y b maxL ret { frames := nf, cells := 0, slots := 0, locals := nl } av σ P
abbrev KVP (l : Launch) (D : va_G) (cI cF cZ cJ : ClassId) (ad : Nat → Nat) (y : MethodName) (b : ByteArray) (maxL : Nat) (nf nl : Nat) (av : List Value) (σ : Mem) (P : Mem → Prop) : Prop :=
  KV l D clP (tyP cI cF cZ cJ) 25 (eP cI cF ad) ad y b maxL { frames := nf, cells := 0, slots := 0, locals := nl } av σ P
set_option maxRecDepth 20000 in
theorem in_C : ∀ w ∈ u_ws R_C F_C 6, w ∈ gt := by decide +kernel
set_option maxRecDepth 20000 in
theorem in_F : ∀ w ∈ u_ws R_F F_F 5, w ∈ gt := by decide +kernel
set_option maxRecDepth 20000 in
theorem in_M : ∀ w ∈ u_ws R_M F_M 5, w ∈ gt := by decide +kernel
set_option maxRecDepth 20000 in
theorem in_W : ∀ w ∈ u_ws R_W F_W 3, w ∈ gt := by decide +kernel
set_option maxRecDepth 20000 in
theorem in_P : ∀ w ∈ u_ws R_P F_P 5, w ∈ gt := by decide +kernel
set_option maxRecDepth 20000 in
theorem in_R : ∀ w ∈ u_ws R_R F_R 22, w ∈ gt := by decide +kernel
theorem kin {y : MethodName} {cc : ByteArray} {maxL : Nat} {ret : Option FieldType} {L : List Cond} (h : ∀ w ∈ L, w ∈ gt) : ∀ w ∈ L, w ∈ kws y cc maxL ret := fun w hw => kws_in (h w hw)
