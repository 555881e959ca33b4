def abI (v : Int32) : Int32 := if v < 0 then -v else v
