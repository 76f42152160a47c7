/-! the check's own history and snapshot: 158 the object (3 saved, 5 isShot), 159 s, 160 trial, 161 past, 162 shot -/
def shI : Nat → Nat → eRow → eRow
  | 0, _, P => P
  | n + 1, k, P => shI n (k + 1) (fu P k (P (k + 111)))
def shA (P : eRow) : eRow := fun j => if j < 333 then P (j + 111) else P j
theorem shI_eq (n : Nat) : ∀ (k : Nat) (P : eRow) (j : Nat), shI n k P j = if k ≤ j ∧ j < k + n then P (j + 111) else P j := by
  induction n with
  | zero =>
    intro k P j
    unfold shI
    rw [if_neg (by omega)]
  | succ n ih =>
    intro k P j
    unfold shI
    rw [ih]
    by_cases h1 : j = k
    · subst h1
      rw [if_neg (by omega), fu_eq, if_pos (by omega)]
    · by_cases h2 : k + 1 ≤ j ∧ j < k + 1 + n
      · rw [if_pos h2, if_pos (by omega), fu_ne (by omega)]
      · rw [if_neg h2, if_neg (by omega), fu_ne h1]
theorem shI_all {P : eRow} : shI 333 0 P = shA P := by
  funext j
  rw [shI_eq]
  unfold shA
  by_cases h : j < 333
  · rw [if_pos (by omega), if_pos h]
  · rw [if_neg (by omega), if_neg h]
def recP (P F : eRow) (s : Int) : eRow := if s = 4 then cpA (shA P) F 333 0 111 else cpA P F (111 * s).toNat 0 111
def recD (D : eD) : eD := setA (setA D 158 (fu (D 158) 3 (if D 158 3 = 4 then 4 else D 158 3 + 1))) 161 (recP (D 161) (D 159) (D 158 3))
def undD (D : eD) : eD := setA (setA D 158 (fu (D 158) 3 (D 158 3 - 1))) 159 (cpA (D 159) (D 161) 0 (111 * (D 158 3 - 1)).toNat 111)
def keeD (D : eD) : eD := setA (setA D 162 (cpA (D 162) (D 159) 0 0 111)) 158 (fu (D 158) 5 1)
def resD (D : eD) : eD := setA (recD D) 159 (cpA (D 159) (D 162) 0 0 111)
theorem setA_comm {D : eD} {a b : Nat} {F G : eRow} (h : a ≠ b) : setA (setA D a F) b G = setA (setA D b G) a F := by
  funext k
  unfold setA
  by_cases h1 : k = a
  · subst h1
    rw [if_neg h, if_pos rfl, if_pos rfl]
  · rw [if_neg h1]
    by_cases h2 : k = b
    · simp only [if_pos h2]; rw [if_neg h1]
    · simp only [if_neg h2, if_neg h1]
theorem fu_fu {F : eRow} {j : Nat} {v w : Int} : fu (fu F j v) j w = fu F j w := by
  funext i
  unfold fu
  split <;> rfl
theorem cpA_at {G F : eRow} {j : Nat} (h : j < 111) : cpA G F 0 0 111 j = F j := by
  unfold cpA
  rw [if_pos (by omega)]
  congr 1; omega
section SPEC32
variable {S : List Int} {D : eD} {h : eH} {Q : Option eV → eH → Prop} {v x : Int} {F G P : eRow}
theorem up_as2 {r j : Nat} : up D r j v = setA D r (fu (D r) j v) := up_as
end SPEC32
