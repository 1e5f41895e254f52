def yWt (w : Nat → Int32) (n : Nat) : Int32 := itr (fun i x => x + w (6 + i) * (2 + nI i)) 0 n
