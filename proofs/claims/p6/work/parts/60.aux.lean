def lbu (b : Int32) : Int32 := if b = 1 then 1 else 0
