theorem gset_len0 (z : Int32) (l : List Int32) : (gadvI z l l.length).length = l.length := gadvI_len z l.length l
