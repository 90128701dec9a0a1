/-! The reference's memory: cell 0 its object (0 thrown, 3 spareOf, 4 tornPage, 9 first, 10 forced, 11 end, 17 hand, 18 off, 19 left, 20 made, 21 failed); 1 pages, 2 spare, 3 pageOf, 4 wordOf, 5 valueOf, 6 isVoid, 7 frames, 8 framePage, 9 pins, 10 used, 11 firsts -/
def eR (cI cZ : ClassId) (ad : Nat → Nat) (i : Nat) (f : Nat → Int32) : va_E := match i with
  | 0 => .inr (5, [.int (f 0), .ref (ad 1), .ref (ad 2), .int (f 3), .int (f 4), .ref (ad 3), .ref (ad 4), .ref (ad 5), .ref (ad 6), .int (f 9), .int (f 10), .int (f 11), .ref (ad 7), .ref (ad 8), .ref (ad 9), .ref (ad 10), .ref (ad 11), .int (f 17), .int (f 18), .int (f 19), .int (f 20), .int (f 21)])
  | 1 => .inl (cI, 16384, .inl f)
  | 2 => .inl (cI, 64, .inl f)
  | 3 => .inl (cI, 8192, .inl f)
  | 4 => .inl (cI, 8192, .inl f)
  | 5 => .inl (cI, 8192, .inl f)
  | 6 => .inl (cZ, 8192, .inl f)
  | 7 => .inl (cI, 512, .inl f)
  | 8 => .inl (cI, 8, .inl f)
  | 9 => .inl (cI, 8, .inl f)
  | 10 => .inl (cZ, 8, .inl f)
  | _ => .inl (cI, 8, .inl f)
abbrev KIR (l : Launch) (D : va_G) (cI cF cZ cJ : ClassId) (ad : Nat → Nat) (y : MethodName) (b : ByteArray) (maxL : Nat) (ret : Option FieldType) (nf nl : Nat) (av : List Value) (σ : Mem) (P : Int32 → Mem → Prop) : Prop :=
  KI l D clP (tyP cI cF cZ cJ) 12 (eR cI cZ ad) ad y b maxL ret { frames := nf, cells := 0, slots := 0, locals := nl } av σ P
abbrev KVR (l : Launch) (D : va_G) (cI cF cZ cJ : ClassId) (ad : Nat → Nat) (y : MethodName) (b : ByteArray) (maxL : Nat) (nf nl : Nat) (av : List Value) (σ : Mem) (P : Mem → Prop) : Prop :=
  KV l D clP (tyP cI cF cZ cJ) 12 (eR cI cZ ad) ad y b maxL { frames := nf, cells := 0, slots := 0, locals := nl } av σ P
