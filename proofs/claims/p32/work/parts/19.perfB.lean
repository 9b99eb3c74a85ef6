abbrev sTe (d : SD) := d.1
abbrev sTo (d : SD) := d.2.1
abbrev sLo (d : SD) := d.2.2.1
abbrev sCra (d : SD) := d.2.2.2.1
abbrev sHa (d : SD) := d.2.2.2.2.1
abbrev sHe (d : SD) := d.2.2.2.2.2.1
abbrev sSt (d : SD) := d.2.2.2.2.2.2.1
abbrev sScn (d : SD) := d.2.2.2.2.2.2.2.1
abbrev sSc (d : SD) := d.2.2.2.2.2.2.2.2.1
abbrev sCr (d : SD) := d.2.2.2.2.2.2.2.2.2.1
abbrev sLi (d : SD) := d.2.2.2.2.2.2.2.2.2.2.1
abbrev sSf (d : SD) := d.2.2.2.2.2.2.2.2.2.2.2.1
abbrev sSb (d : SD) := d.2.2.2.2.2.2.2.2.2.2.2.2.1
abbrev sSe (d : SD) := d.2.2.2.2.2.2.2.2.2.2.2.2.2.1
abbrev sLa (d : SD) := d.2.2.2.2.2.2.2.2.2.2.2.2.2.2
/-- why a step of a State can not be made -/
def whyD (d : SD) (x : Int32) : Int32 := whyS (fltB (sTe d) (sTo d) (sLo d) (sHe d) x (sSe d)) (cau (sSt d) (sCr d) (sLi d)) (sCr d) x
/-- a step made -/
def stepD (d : SD) (x : Int32) : SD := (sTe d, tLk (sTe d) (sTo d) (sLo d) x, sLo d, cLk (sLo d) (sCra d) x, sHa d, sHe d, sSt d, sScn d, sSc d, sCr d + x, false, (if 0 < x then sSf d + 1 else sSf d), (if 0 < x then sSb d else sSb d + 1), sSe d, sLa d)
/-- the lock of a wheel turned over -/
def kD (d : SD) (w : Nat) : SD := (sTe d, sTo d, va_up (sLo d) w (!(sLo d) w), sCra d, sHa d, sHe d, sSt d, sScn d, sSc d, sCr d, sLi d, sSf d, sSb d, sSe d, sLa d)
def liD (d : SD) (b : Bool) : SD := (sTe d, sTo d, sLo d, sCra d, sHa d, sHe d, sSt d, sScn d, sSc d, sCr d, b, sSf d, sSb d, sSe d, sLa d)
def laD (d : SD) (x : Int32) : SD := (sTe d, sTo d, sLo d, sCra d, sHa d, sHe d, sSt d, sScn d, sSc d, sCr d, sLi d, sSf d, sSb d, sSe d, x)
