/-! the check's own acts, on -/
section SPEC34
variable {S : List Int} {D : eD} {h : eH} {Q : Option eV → eH → Prop} {v w x s p : Int} {r : Nat}
def m162 (D : eD) (w : Int) : Int := if 0 ≤ w ∧ w ≤ 3 then D 159 (3 + w).toNat else -1
def m158 (D : eD) (p w : Int) : Int := if p < 0 then -2 else if 0 ≤ w ∧ w ≤ 2 then (if p < D 159 49 then D 159 (50 + 3 * p + w).toNat else -5) else -2
def m159 (D : eD) (p w : Int) : Int := if p < 0 then -2 else if 0 ≤ w ∧ w ≤ 2 then (if p < D 159 80 then D 159 (81 + 3 * (D 159 80 - 1 - p) + w).toNat else -5) else -2
end SPEC34
