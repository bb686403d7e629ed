theorem xadd_z (x : Int32) : x + (0 : Int32) = x := Int32.add_zero x
theorem xsub_z (x : Int32) : x - (0 : Int32) = x := Int32.sub_zero x
