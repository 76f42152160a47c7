/-! the check's own acts over the whole heap: 158 the object, 159 its row -/
theorem rec_159 {D : eD} : recD D 159 = D 159 := by unfold recD; rw [setA_ne (by decide), setA_ne (by decide)]
theorem rec_162 {D : eD} : recD D 162 = D 162 := by unfold recD; rw [setA_ne (by decide), setA_ne (by decide)]
def loS (w : Int) : Int := if w = 0 then 75 else if w = 3 then 0 else 1
def hiS (w : Int) : Int := if w = 0 then 99 else if w = 3 then 1 else 5
def m130 (D : eD) (w v : Int) : Int × eD :=
  if 0 ≤ w ∧ w ≤ 3 then (if loS w ≤ v ∧ v ≤ hiS w then (if D 159 (3 + w).toNat = v then (-5, D) else (D 159 (3 + w).toNat, setA (recD D) 159 (fu (D 159) (3 + w).toNat v))) else (-2, D)) else (-1, D)
def m131 (D : eD) (a b : Int) : Int × eD :=
  if 0 ≤ a ∧ a ≤ 47 then (if 0 ≤ b ∧ b ≤ 47 then (if a = b then (-2, D) else if D 159 1 = a ∧ D 159 2 = b then (-5, D) else ((b - a + 48) % 48, setA (recD D) 159 (fu (fu (D 159) 1 a) 2 b))) else (-2, D)) else (-2, D)
def m133 (D : eD) (s a b : Int) : Int × eD :=
  if 0 ≤ s ∧ s ≤ 5 then (if 0 ≤ a ∧ a ≤ 2 then (if 50 ≤ b ∧ b ≤ 150 then (if D 159 (lx s 0) = -5 then (lfF (comF (D 159) s a b) s, setA (recD D) 159 (comF (D 159) s a b)) else (-4, D)) else (-2, D)) else (-2, D)) else (-1, D)
def m134 (D : eD) (s : Int) : Int × eD :=
  if 0 ≤ s ∧ s ≤ 5 then (if D 159 (lx s 0) = -5 then (-4, D) else if D 159 10 = 1 ∧ s = D 159 7 then (-4, D) else (D 159 (lx s 2), setA (recD D) 159 (fu (D 159) (lx s 0) (-5)))) else (-1, D)
def m135 (D : eD) (s : Int) : Int × eD :=
  if 0 ≤ s ∧ s ≤ 5 then (if D 159 8 = -5 then (if s = D 159 7 then (-5, D) else (turF (D 159) s 9, setA (recD D) 159 (turF (D 159) s))) else (-4, D)) else (-1, D)
def m136 (D : eD) (a b : Int) : Int × eD :=
  if 0 ≤ a ∧ a ≤ 2 then (if 1 ≤ b ∧ b ≤ 6 then (if 99 < D 159 (41 + a).toNat + b then (-3, D) else (D 159 (41 + a).toNat + b, setA (recD D) 159 (fu (D 159) (41 + a).toNat (D 159 (41 + a).toNat + b)))) else (-2, D)) else (-2, D)
section SPEC33
variable {S : List Int} {D : eD} {h : eH} {Q : Option eV → eH → Prop} {v w x s p : Int} {r : Nat}
end SPEC33
