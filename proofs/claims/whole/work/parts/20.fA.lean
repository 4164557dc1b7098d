def f_J9_floorMod_7cf53   (x0 : Int32) (x1 : Int32) : Int32 := (nm (x0 - x0 / x1 * x1) (fun (v2 : Int32) => (if 0 ≤ (x0 ^^^ x1) then v2 else (if v2 = 0 then v2 else (v2 + x1)))))
def ok_J9_floorMod_7cf53   (x0 : Int32) (x1 : Int32) : Prop := (¬ x1 = 0)
def f_X6_isIn   (x0 : Int32) (x1 : Int32) (x2 : Int32) : Int32 := (if x0 < x1 then 0 else (if x2 < x0 then 0 else 1))
