/-- a state as it may be -/
def SOk (d : SD) : Prop := whOk (sTe d) (sTo d) ∧ ∃ c : Nat, c ≤ 6 ∧ sSc d = nI c
section
variable (th sv ln at9 pt nm op : Int32) (kp : Bool) (hs : Int64) (s tx bg tm : Nat → Int32)
end

