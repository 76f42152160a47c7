/-! the check's own ranks and counts -/
def leF (F : eRow) (s : Int) : Int := lfF F s - F (lx s 2)
abbrev ahdF (F : eRow) (k j : Int) : Prop := goF F j 0 ∧ (leF F k < leF F j ∨ (leF F j = leF F k ∧ j < k))
def aheF (F : eRow) (k : Int) : Nat → Int → Int
  | 0, _ => 0
  | n + 1, j => b2i (ahdF F k j) + aheF F k n (j + 1)
def rkF (F : eRow) (p : Int) : Nat → Int → Int
  | 0, _ => -5
  | n + 1, k => if goF F k 0 ∧ aheF F k 6 0 = p then k else rkF F p n (k + 1)
def m157 (D : eD) (p : Int) : Int := if p < 0 then -2 else rkF (D 159) p 6 0
def m161 (D : eD) (w : Int) : Int :=
  if w = 0 then D 159 0 else if w = 1 then cntF (D 159) w 6 0 else if w = 2 then cntF (D 159) w 6 0 else if w = 3 then cntF (D 159) w 6 0 else if w = 4 then D 159 41 else if w = 5 then D 159 42 else if w = 6 then D 159 43 else if w = 7 then D 159 44 else if w = 8 then D 159 46 else if w = 9 then D 159 47 else if w = 10 then D 159 48 else if w = 11 then D 159 49 else if w = 12 then D 158 3 else if w = 13 then D 158 7 else -2
section SPEC38
variable {S : List Int} {D : eD} {h : eH} {Q : Option eV → eH → Prop} {v w x s p t a b k : Int} {r : Nat} {F : eRow}
end SPEC38
