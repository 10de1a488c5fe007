/-- the reference's cells -/
def wM (ad : Nat → Nat) (cI cJ cZ : ClassId) (th : Int) (td : Nat) (pr up dn : Int) (dv : Nat → Int) (n : Nat) (K St Ex Am Ov Bi As BL AL He Co Ca : Nat → Int) (mo sh co sd : Int) (Cz Ab : Nat → Int) (be : Int) : va_W := [(ad 0, .inr (5, [.int (iI th), .int (iI (td : Int)), .int (iI pr), .int (iI up), .int (iI dn), .ref (ad 1), .int (iI (n : Int)), .ref (ad 2), .ref (ad 3), .ref (ad 4), .ref (ad 5), .ref (ad 6), .ref (ad 7), .ref (ad 8), .ref (ad 9), .ref (ad 10), .ref (ad 11), .ref (ad 12), .ref (ad 13), .int (iI mo), .int (iI sh), .int (iI co), .long (lI sd), .ref (ad 14), .ref (ad 15), .long (lI be)])), (ad 1, .inl (cI, 201, .inl (iA dv))), (ad 2, .inl (cI, 12, .inl (iA K))), (ad 3, .inl (cI, 12, .inl (iA St))), (ad 4, .inl (cI, 12, .inl (iA Ex))), (ad 5, .inl (cZ, 12, .inl (iA Am))), (ad 6, .inl (cZ, 12, .inl (iA Ov))), (ad 7, .inl (cI, 12, .inl (iA Bi))), (ad 8, .inl (cI, 12, .inl (iA As))), (ad 9, .inl (cI, 12, .inl (iA BL))), (ad 10, .inl (cI, 12, .inl (iA AL))), (ad 11, .inl (cI, 84, .inl (iA He))), (ad 12, .inl (cZ, 84, .inl (iA Co))), (ad 13, .inl (cJ, 7, .inr (.inl (lA Ca)))), (ad 14, .inl (cJ, 6, .inr (.inl (lA Cz)))), (ad 15, .inl (cJ, 11, .inr (.inl (lA Ab))))]
section MM
variable {EV : (Nat → Prop) → State → Heap → Prop} {l : Launch} {dC : Nat → ClassId} {dI : Nat → Nat → Nat} {cI cJ cZ cO : ClassId} {E : va_W} {ad : Nat → Nat} {ws : va_W} {th : Int} {td : Nat} {pr up dn : Int} {dv : Nat → Int} {n : Nat} {K St Ex Am Ov Bi As BL AL He Co Ca : Nat → Int} {mo sh co sd : Int} {Cz Ab : Nat → Int} {be : Int}











end MM
