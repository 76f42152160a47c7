/-! what the check's own beacon tells -/
def m152 (D : eD) (s w : Int) : Int :=
  if 0 ≤ s ∧ s ≤ 5 then (if 0 ≤ w ∧ w ≤ 7 then (if D 159 (lx s 0) = -5 then -5 else if w = 3 then lfF (D 159) s else if w = 4 then cuF (D 159) s else if w = 5 then D 159 (lx s 3) else if w = 6 then b2i (lfF (D 159) s ≤ D 159 (lx s 2)) else if w = 7 then D 159 (lx s 4) else D 159 (lx s w)) else -2) else -1
def m153 (D : eD) (w : Int) : Int := if w = 0 then D 159 7 else if w = 1 then D 159 8 else if w = 2 then (if D 159 8 = -5 then 0 else D 159 9) else if w = 3 then D 159 10 else if w = 4 then b2i (nigF (D 159)) else if w = 5 then nxtF (D 159) else if w = 6 then D 159 1 else if w = 7 then D 159 2 else -2
section SPEC35
variable {S : List Int} {D : eD} {h : eH} {Q : Option eV → eH → Prop} {v w x s p : Int} {r : Nat}
/-- how many lamps of a sort -/
abbrev sortF (F : eRow) (w s : Int) : Prop := ¬ F (lx s 0) = -5 ∧ (w = 1 ∨ (w = 2 ∧ lfF F s ≤ F (lx s 2)) ∨ ((¬ w = 1 ∧ ¬ w = 2) ∧ F (lx s 3) = 1 ∧ ¬ lfF F s ≤ F (lx s 2)))
def cntF (F : eRow) (w : Int) : Nat → Int → Int
  | 0, _ => 0
  | n + 1, k => b2i (sortF F w k) + cntF F w n (k + 1)
end SPEC35
