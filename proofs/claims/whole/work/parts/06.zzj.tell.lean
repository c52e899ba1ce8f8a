/-! what the class tells of the turns -/
def tl (o : Nat → Int32) (L : List (Nat × Nat)) (v3 : Int32) : Int32 := match L with
  | [] => if v3 = 0 then 0 else if v3 = 1 then 0 else if v3 = 2 then 0 else -1
  | [(f, v)] => if v3 = 0 then 1 else if v3 = 1 then 1 <<< (nI f &&& 31) else if v3 = 2 then (if 0 ≤ nI v - o f then nI v - o f else 0 - (nI v - o f)) else if v3 = 3 then nI v else -1
  | (f, v) :: (k, u) :: _ => if v3 = 0 then 2 else if v3 = 1 then (1 <<< (nI f &&& 31)) ||| (1 <<< (nI k &&& 31)) else if v3 = 2 then (if 0 ≤ nI v - o f then nI v - o f else 0 - (nI v - o f)) + (if 0 ≤ nI u - o k then nI u - o k else 0 - (nI u - o k)) else if v3 = 3 then nI v else nI u
