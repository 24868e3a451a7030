/-! sheet -/
def nar (k : Nat) (v : Int32) : Int32 := if k = 0 then v.toInt8.toInt32 else if k = 1 then v.toInt16.toInt32 else v
def clm (v : Int32) : Int32 := if (0 : Int32) < (if (9 : Int32) > v then v else (9 : Int32)) then (if (9 : Int32) > v then v else (9 : Int32)) else (0 : Int32)
theorem nar_0 (v : Int32) : nar 0 v = v.toInt8.toInt32 := if_pos rfl
theorem nar_1 (v : Int32) : nar 1 v = v.toInt16.toInt32 := (if_neg (by decide)).trans (if_pos rfl)
theorem nar_2 (v : Int32) : nar 2 v = v := (if_neg (by decide)).trans (if_neg (by decide))
