/-! the check's own beacon: what its methods do to a row -/
def fndF (F : eRow) (fr : Int) : Nat → Int → Int
  | 0, _ => -5
  | n + 1, k => if goF F ((F 7 + k) % 6) fr then (F 7 + k) % 6 else fndF F fr n (k + 1)
def nxtF (F : eRow) : Int := if fndF F 1 6 1 = -5 then fndF F 0 6 1 else fndF F 1 6 1
def shK (F : eRow) (k : Int) : eRow := fun j => if 81 ≤ j ∧ (j : Int) < k then F (j + 3) else F j
def hapA (F : eRow) (what who : Int) : eRow := fu (fu (fu (fu (fu F (81 + 3 * F 80).toNat what) (82 + 3 * F 80).toNat who) (83 + 3 * F 80).toNat (F 0)) 80 (F 80 + 1)) 47 (F 47 + (if what < 4 then 1 else 0))
def hapF (F : eRow) (what who : Int) : eRow := if F 80 = 10 then hapA (fu (shK F 108) 80 9) what who else hapA F what who
def turF (F : eRow) (s : Int) : eRow := fu (fu (fu F 8 s) 9 ((s - F 7 + 6) % 6 * F 5)) 10 0
abbrev nigF (F : eRow) : Prop := (F 0 % 48 - F 1 + 48) % 48 < (F 2 - F 1 + 48) % 48
section SPEC23
variable {S : List Int} {D : eD} {h : eH} {Q : Option eV → eH → Prop} {r : Nat} {s p v x fr : Int} {F : eRow}
theorem shK_0 : shK F 81 = F := by
  funext j
  unfold shK
  rw [if_neg (by omega)]
theorem shK_s {k : Int} (h1 : 81 ≤ k) : fu (shK F k) k.toNat (shK F k (k + 3).toNat) = shK F (k + 1) := by
  funext j
  unfold fu shK
  by_cases h2 : j = k.toNat
  · subst h2
    rw [if_pos rfl, if_neg (by omega), if_pos (by omega)]
    congr 1
    omega
  · rw [if_neg h2]
    by_cases h3 : 81 ≤ j ∧ (j : Int) < k
    · rw [if_pos h3, if_pos (by omega)]
    · rw [if_neg h3, if_neg (by omega)]
theorem shK_lo {k : Int} {j : Nat} (h : j < 81) : shK F k j = F j := by
  unfold shK
  rw [if_neg (by omega)]
end SPEC23
