/-! the worlds' cells -/
abbrev rmF (f q mc ms : Nat) : Room := { frames := f, cells := mc, slots := ms, locals := q }
abbrev tyL (cI cZ cL cS cW : ClassId) : List (ClassId × FieldType) := [(cI, .int), (cZ, .boolean), (cL, .long), (cS, .object "ShadowArchive$Shelf"), (cW, .object "ShadowArchive$Worksheet")]
abbrev inA (cI : ClassId) (n : Nat) (f : Nat → Int32) : va_E := .inl (cI, n, .inl f)
abbrev rfA (cS : ClassId) (n : Nat) (f : Nat → Option Nat) : va_E := .inl (cS, n, .inr (.inr (.inr (.inr f))))
abbrev ShT : Type := Bool × Bool × Int × Int × Int × Int
abbrev shE (a : Nat) (t : ShT) : va_E := .inr (1, [.int (bI t.1), .int (bI t.2.1), .int (iI t.2.2.1), .int (iI t.2.2.2.1), .int (iI t.2.2.2.2.1), .int (iI t.2.2.2.2.2), .ref a])
abbrev wsE (ct lo : Int) (a1 a2 a3 : Nat) : va_E := .inr (2, [.int (iI ct), .int (iI lo), .ref a1, .ref a2, .ref a3])
