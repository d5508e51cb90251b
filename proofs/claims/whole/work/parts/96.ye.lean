/-! the class's parser: signs, faults, the loop -/
def lea (x : Int32) : Int32 := if rkk x < 1 then 1 else rkk x
