def f_X4_formOf   (x0 : Int32) : Nat := (if x0 = 0 then 2 else (if x0 = 1 then 3 else (if x0 = 2 then 4 else (if x0 = 3 then 5 else (if x0 = 4 then 6 else (if x0 = 5 then 7 else 8))))))
theorem f_X4_formOf_lt (x0 : Int32) : f_X4_formOf x0 < 10 := by
  unfold f_X4_formOf
  repeat (first | decide | split)
