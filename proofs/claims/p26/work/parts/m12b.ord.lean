section
variable {l : Launch} {D : va_G} {cI cC : ClassId}

def w_ordb (cI cC : ClassId) (h0 : Nat) (h1 : Nat) (gh : Nat) (a : Nat → Nat) (sg : Nat → Int32) (oL : Int32) (oA : Int32) (oC : Int32) (oF : Int32) (oS : Int32) (oD : Int32) (oP : Int32) (oR : Int32) (oU : Int32) (g : Gr) : va_W := [(h0, .inr (4, [.ref h1, .int oL, .int oA, .int oC, .int oF, .int oS, .int oD, .int oP, .int oR, .int oU])), (h1, .inl (cC, 60, .inl sg))] ++ w_gr cI cC gh a g
end
