/-- numbers mixed into a hash, one after the other -/
def foldN (f : Nat → Int32) : Nat → Int64 → Int64
  | 0, h => h
  | k + 1, h => 31 * foldN f k h + (f k).toInt64
section
variable (fsn ftx fpf frm : Value) (kp : Bool) (n : Int32) (d : SD) (t : WD)
/-- the share of allowed pictures, the mean height -/
def shD (d : SD) : UInt64 := FP.ddiv (FP.i2d (sumA d (rN (sTe d) (sLo d) 5))) (FP.i2d (nI (rN (sTe d) (sLo d) 5)))
def mnD (d : SD) : UInt32 := FP.fdiv (FP.i2f (sumH d)) 1084227584
end

