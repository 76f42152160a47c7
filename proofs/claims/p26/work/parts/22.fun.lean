/-! a Beacon's state in one row of numbers, as the check has it: 0 tick, 1 dusk, 2 dawn, 3.. settings, 7 front, 8 aim, 9 to go, 10 burns, 11.. six lamps of five (kind, strength, wear, tired, below), 41.. stock, 44 dark, 45 dark now, 46 dark most, 47 happened, 48 came, 49 boats, 50.. ten boats of three, 80 events, 81.. ten events of three -/
abbrev eRow : Type := Nat → Int
def fu (F : eRow) (j : Nat) (v : Int) : eRow := fun i => if i = j then v else F i
def setA (D : eD) (r : Nat) (F : eRow) : eD := fun k => if k = r then F else D k
theorem fu_eq {F : eRow} {j : Nat} {v : Int} : fu F j v j = v := by simp [fu]
theorem fu_ne {F : eRow} {j i : Nat} {v : Int} (h : i ≠ j) : fu F j v i = F i := by simp [fu, h]
theorem setA_eq {D : eD} {r : Nat} {F : eRow} : setA D r F r = F := by simp [setA]
theorem setA_ne {D : eD} {r k : Nat} {F : eRow} (h : k ≠ r) : setA D r F k = D k := by simp [setA, h]
theorem up_as {D : eD} {r j : Nat} {v : Int} : up D r j v = setA D r (fu (D r) j v) := by
  funext k i
  unfold up setA fu
  by_cases hk : k = r
  · subst hk; by_cases hi : i = j <;> simp [hi]
  · simp [hk]
theorem up_setA {D : eD} {r j : Nat} {F : eRow} {v : Int} : up (setA D r F) r j v = setA D r (fu F j v) := by
  rw [up_as, setA_eq]
  funext k
  unfold setA
  by_cases hk : k = r <;> simp [hk]
theorem setA_setA {D : eD} {r : Nat} {F G : eRow} : setA (setA D r F) r G = setA D r G := by
  funext k
  unfold setA
  by_cases hk : k = r <;> simp [hk]
theorem setA_self {D : eD} {r : Nat} : setA D r (D r) = D := by
  funext k
  unfold setA
  split
  · next h => rw [h]
  · rfl
/-- a lamp's number in the row -/
def lx (s p : Int) : Nat := (11 + 5 * s + p).toNat
def Arr (S : List Int) (r : Nat) : Prop := tg r = 100 ∧ ln S r = 111 ∧ 8 ≤ r
abbrev thF (F : eRow) (s : Int) : Prop := ¬ F (lx s 0) = -5
def lfF (F : eRow) (s : Int) : Int := lifeF (F (lx s 0)) (F (lx s 1))
def nmF (F : eRow) (s : Int) : Int := by3 (F (lx s 0)) 1000 1400 700
abbrev outF (F : eRow) (s : Int) : Prop := lfF F s ≤ F (lx s 2)
def cuF (F : eRow) (s : Int) : Int := curF (nmF F s) (lfF F s) (F (lx s 2))
abbrev bwF (F : eRow) (s : Int) : Prop := 100 * cuF F s < F 3 * nmF F s
abbrev goF (F : eRow) (s fr : Int) : Prop := (¬ F (lx s 0) = -5 ∧ F (lx s 2) < lfF F s) ∧ ¬ (fr = 1 ∧ F (lx s 3) = 1)
/-- a lamp's numbers within their bounds -/
def LmA (F : eRow) (s : Int) : Prop := 0 ≤ F (lx s 1) ∧ F (lx s 1) ≤ 150 ∧ 0 ≤ F (lx s 2) ∧ F (lx s 2) ≤ 2000 ∧ (F (lx s 3) = 0 ∨ F (lx s 3) = 1) ∧ 0 ≤ F (lx s 4) ∧ F (lx s 4) ≤ 2000 ∧ (F (lx s 0) = -5 ∨ (0 ≤ F (lx s 0) ∧ F (lx s 0) ≤ 2 ∧ 50 ≤ F (lx s 1)))
theorem lifeF_b0 {kind str : Int} (h1 : 0 ≤ str) (h2 : str ≤ 150) : 0 ≤ lifeF kind str ∧ lifeF kind str ≤ 1050 := by
  unfold lifeF
  rcases @by3_cases kind 400 700 200 with e | e | e <;> rw [e] <;> omega
section SPEC22
variable {S : List Int} {D : eD} {h : eH} {Q : Option eV → eH → Prop} {r : Nat} {F : eRow} {s p v x : Int}
def comF (F : eRow) (s kind str : Int) : eRow := fu (fu (fu (fu (fu F (lx s 0) kind) (lx s 1) str) (lx s 2) 0) (lx s 3) 0) (lx s 4) 0
theorem curF_b {nom life wear : Int} (h1 : 0 ≤ nom) (h2 : nom ≤ 1400) (h3 : 0 ≤ wear) (h4 : 1 ≤ life) : 0 ≤ curF nom life wear ∧ curF nom life wear ≤ 1400 := by
  unfold curF
  split
  · omega
  · next h5 =>
    have : nom * wear / (4 * life) ≤ nom := by
      apply Int.ediv_le_of_le_mul (by omega)
      exact Int.mul_le_mul_of_nonneg_left (by omega) h1
    have : 0 ≤ nom * wear / (4 * life) := Int.ediv_nonneg (Int.mul_nonneg h1 h3) (by omega)
    omega
theorem nm_b {F : eRow} {s : Int} : 700 ≤ nmF F s ∧ nmF F s ≤ 1400 := by
  unfold nmF
  rcases @by3_cases (F (lx s 0)) 1000 1400 700 with e | e | e <;> rw [e] <;> omega
end SPEC22
