/-! the two objects made -/
def hZ : eH := ((999, []) : eC) :: (eSv.map fun l => ((100, l.map fun z => (.inl z : eV)) : eC)) ++ [pzC]
def dzB : List (List Int) := [[0, 0, 0, 0, 0, 0, 36, 12], [80, 2, 2, 0], [], [0, 0, 0, -5], [], [-1], [-1], [-1], [-1], [-1], [-1], [-1], [], [], [], [], [], [], [], []]
def dzR : List Int := [0, 36, 12, 80, 2, 2, 0, 0, -5, 0, 0, -5, 0, 0, 0, 0, -5, 0, 0, 0, 0, -5, 0, 0, 0, 0, -5, 0, 0, 0, 0, -5, 0, 0, 0, 0, -5]
def dzL : List (List Int) := [[], [], [], [], [], [], [], [], []] ++ dzB ++ dzB ++ dzB ++ [[-1], [], []] ++ dzB ++ dzB ++ dzB ++ dzB ++ [[], [], [], [], [], [], [], dzR]
def Dz : eD := fun k j => (dzL.getD k []).getD j 0
def hq (n : Nat) : eH := (List.range n).map fun k => if k = 7 then pzC else ceF [] Dz k
theorem k67 : ex 3000 67 0 (eLoc 67 [.inr 8]) [] (hZ ++ [(7, eDv.getD 7 [])]) = some (none, hq 158) := by decide +kernel
theorem k98 : ex 3000 98 0 (eLoc 98 [.inr 158]) [] (hq 158 ++ [(8, eDv.getD 8 [])]) = some (none, hq 165) := by decide +kernel
