/-! letterOf: the texts of the commands -/
def gWd (x : Int32) : Nat := if x = 0 then 0 else if x = 1 then 1 else if x = 2 then 2 else if x = 3 then 3 else if x = 4 then 4 else if x = 5 then 5 else 6
def gChr (w : Nat) (k : Nat) : Int32 := (gByt.getD w []).getD k 0
def m_letterOf (p1 p2 : Int32) : Option Int32 := if p2 < nI (gLen.getD (gWd p1) 0) then (if p2 < 0 then none else some (gChr (gWd p1) p2.toNatClampNeg)) else some 0
theorem k_X9_letterOf : gKS yX9_letterOf cX9_letterOf 3 (some .int) 2 := sorry
theorem c_m_letterOf (l : Launch) (D : va_G) (dA : Nat → ClassId) (zp : Nat → Nat) (p1 p2 : Int32) (v : Int32) (h : m_letterOf p1 p2 = some v) : Met l yX9_letterOf (gw yX9_letterOf cX9_letterOf 3 (some .int)) ({ frames := 3, cells := 0, slots := 0, locals := 60 } : Room) (va_Pc [.int p1, .int p2] (gPre D dA zp [])) (vp_Si (fun r => r = v)) 0 0 (fun _ => False) := sorry
