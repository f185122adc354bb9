/-- static arrays that are read by their own owner: their names -/
def am_sn (j : Nat) : String := if j == 16 then "SET_LEAST" else if j == 17 then "SET_MOST" else if j == 30 then "SEARCH_FROM" else ""
def am_xst (j : Nat) : Bool := j == 16 || j == 17
