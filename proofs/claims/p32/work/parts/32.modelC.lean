/-- whether the picture of a state may be -/
def alD (d : SD) : Bool := decide (fltB (sTe d) (sTo d) (sLo d) (sHe d) 0 (sSe d) = 0)
section
variable (th sv ln at9 pt nm op : Int32) (kp : Bool) (hs : Int64) (s tx bg tm : Nat → Int32)
end
section
variable (th ln at9 pt nm op : Int32) (kp : Bool) (hs : Int64) (s tx bg tm : Nat → Int32) (v : Nat)
end

