/-! the check's own plan, and its counts -/
def plcF (F : eRow) (t : Int) : Nat → Int → Int
  | 0, k => k
  | n + 1, k => if k < F 49 ∧ F (50 + 3 * k).toNat < t then plcF F t n (k + 1) else k
theorem plc_b {F : eRow} {t : Int} (n : Nat) : ∀ k : Int, 0 ≤ k → k ≤ F 49 → k ≤ plcF F t n k ∧ plcF F t n k ≤ F 49 := by
  induction n with
  | zero => exact fun k h1 h2 => ⟨Int.le_refl _, h2⟩
  | succ n ih =>
    intro k h1 h2
    unfold plcF
    split
    · next h =>
      obtain ⟨i1, i2⟩ := ih (k + 1) (by omega) (by omega)
      exact ⟨by omega, i2⟩
    · exact ⟨Int.le_refl _, h2⟩
abbrev pldF (F : eRow) (t : Int) : Prop := plcF F t 10 0 < F 49 ∧ F (50 + 3 * plcF F t 10 0).toNat = t
def rsI (q : Nat) : Nat → eRow → eRow
  | 0, F => F
  | n + 1, F => rsI q n (fu F (q + n + 3) (F (q + n)))
theorem rsI_eq {q : Nat} (n : Nat) : ∀ (F : eRow) (j : Nat), rsI q n F j = if q + 3 ≤ j ∧ j < q + 3 + n then F (j - 3) else F j := by
  induction n with
  | zero =>
    intro F j
    unfold rsI
    rw [if_neg (by omega)]
  | succ n ih =>
    intro F j
    unfold rsI
    rw [ih]
    by_cases h1 : j = q + n + 3
    · rw [if_neg (by omega), if_pos (by omega), h1, fu_eq]
      congr 1
    · by_cases h2 : q + 3 ≤ j ∧ j < q + 3 + n
      · rw [if_pos h2, if_pos (by omega), fu_ne (by omega)]
      · rw [if_neg h2, if_neg (by omega), fu_ne h1]
def plnF (F : eRow) (t a b : Int) : eRow :=
  fu (fu (fu (if pldF F t then F else fu (rsI (50 + 3 * plcF F t 10 0).toNat (3 * (F 49 - plcF F t 10 0)).toNat F) 49 (F 49 + 1)) (50 + 3 * plcF F t 10 0).toNat t) (50 + 3 * plcF F t 10 0 + 1).toNat a) (50 + 3 * plcF F t 10 0 + 2).toNat b
def m140 (D : eD) (t a b : Int) : Int × eD :=
  if 0 ≤ t ∧ t ≤ 9999 then (if 0 ≤ a ∧ a ≤ 2 then (if 1 ≤ b ∧ b ≤ 6 then (if D 159 49 = 10 ∧ ¬ pldF (D 159) t then (-3, D) else (plnF (D 159) t a b 49, setA (recD D) 159 (plnF (D 159) t a b))) else (-2, D)) else (-2, D)) else (-2, D)
section SPEC36
variable {S : List Int} {D : eD} {h : eH} {Q : Option eV → eH → Prop} {v w x s p t a b : Int} {r : Nat} {F : eRow}
end SPEC36
