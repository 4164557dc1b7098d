def f_X3_endDaysFault (p : Nat) (B : StB) (x0 : Int32) : Int32 := (nm (f_X6_isIn x0 1 60) (fun (r1 : Int32) => (if r1 = 0 then 2 else 0)))
