/-! what a rehearsal notes of an answer -/
def ntD (dn v : Int32) : Int32 := if v ≤ -1000001 then dn else dn + 1
def ntR (rs v : Int32) : Int32 := if v ≤ -1000001 then 2 else rs
def ntC (ca v : Int32) : Int32 := if v ≤ -1000001 then v else ca
