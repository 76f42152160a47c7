/-! the check's own history and snapshot: 158 the object (3 saved, 5 isShot), 159 s, 160 trial, 161 past, 162 shot -/
def shI : Nat → Nat → eRow → eRow
  | 0, _, P => P
  | n + 1, k, P => shI n (k + 1) (fu P k (P (k + 111)))
def shA (P : eRow) : eRow := fun j => if j < 333 then P (j + 111) else P j
theorem shI_eq (n : Nat) : ∀ (k : Nat) (P : eRow) (j : Nat), shI n k P j = if k ≤ j ∧ j < k + n then P (j + 111) else P j := by
  induction n with
  | zero =>
    intro k P j
    unfold shI
    rw [if_neg (by omega)]
  | succ n ih =>
    intro k P j
    unfold shI
    rw [ih]
    by_cases h1 : j = k
    · subst h1
      rw [if_neg (by omega), fu_eq, if_pos (by omega)]
    · by_cases h2 : k + 1 ≤ j ∧ j < k + 1 + n
      · rw [if_pos h2, if_pos (by omega), fu_ne (by omega)]
      · rw [if_neg h2, if_neg (by omega), fu_ne h1]
theorem shI_all {P : eRow} : shI 333 0 P = shA P := by
  funext j
  rw [shI_eq]
  unfold shA
  by_cases h : j < 333
  · rw [if_pos (by omega), if_pos h]
  · rw [if_neg (by omega), if_neg h]
def recP (P F : eRow) (s : Int) : eRow := if s = 4 then cpA (shA P) F 333 0 111 else cpA P F (111 * s).toNat 0 111
def recD (D : eD) : eD := setA (setA D 158 (fu (D 158) 3 (if D 158 3 = 4 then 4 else D 158 3 + 1))) 161 (recP (D 161) (D 159) (D 158 3))
def undD (D : eD) : eD := setA (setA D 158 (fu (D 158) 3 (D 158 3 - 1))) 159 (cpA (D 159) (D 161) 0 (111 * (D 158 3 - 1)).toNat 111)
def keeD (D : eD) : eD := setA (setA D 162 (cpA (D 162) (D 159) 0 0 111)) 158 (fu (D 158) 5 1)
def resD (D : eD) : eD := setA (recD D) 159 (cpA (D 159) (D 162) 0 0 111)
theorem setA_comm {D : eD} {a b : Nat} {F G : eRow} (h : a ≠ b) : setA (setA D a F) b G = setA (setA D b G) a F := by
  funext k
  unfold setA
  by_cases h1 : k = a
  · subst h1
    rw [if_neg h, if_pos rfl, if_pos rfl]
  · rw [if_neg h1]
    by_cases h2 : k = b
    · simp only [if_pos h2]; rw [if_neg h1]
    · simp only [if_neg h2, if_neg h1]
theorem fu_fu {F : eRow} {j : Nat} {v w : Int} : fu (fu F j v) j w = fu F j w := by
  funext i
  unfold fu
  split <;> rfl
theorem cpA_at {G F : eRow} {j : Nat} (h : j < 111) : cpA G F 0 0 111 j = F j := by
  unfold cpA
  rw [if_pos (by omega)]
  congr 1; omega
section SPEC32
variable {S : List Int} {D : eD} {h : eH} {Q : Option eV → eH → Prop} {v x : Int} {F G P : eRow}
theorem c102a (n : Nat) : ∀ (k : Nat) (P : eRow), k + n = 333 →
    (wp 102 10 [.inr 158, .inl k] [] (hp S (setA D 161 P)) Q ↔ wp 102 38 [.inr 158, .inl (333 : Nat)] [] (hp S (setA D 161 (shI n k P))) Q) := by
  have t1 : tg 158 = 8 := rfl
  have t2 : tg 161 = 100 := rfl
  have l2 : ln S 161 = 444 := rfl
  induction n with
  | zero =>
    intro k P hk
    have e : k = 333 := by omega
    subst e
    rw [s102_10]
    simp (disch := first | assumption | omega | decide | exact b2i_01 _) only [s102_11, s102_14, s102_17, s102_18, s102_21, s102_22, s102_23, s102_26, s102_27, s102_29, s102_30, s102_31, s102_32, s102_35, kont_some, kont_none, w32_of, if_true, if_false, tdv, tmd, setA_eq, up_setA, rd_hi, Int.reduceToNat, if_neg (show ¬ (1 : Int) = 0 by decide), if_neg (show ¬ ((333 : Nat) : Int) < 333 by decide)]
    rfl
  | succ n ih =>
    intro k P hk
    have h1 : (k : Int) < 333 := by omega
    have e1 : (k : Int) + 1 = ((k + 1 : Nat) : Int) := by omega
    have e2 : ((k : Int) + 111).toNat = k + 111 := by omega
    have e3 : ((k : Int)).toNat = k := by omega
    have z1 : k + 111 < ln S 161 := by omega
    have z2 : k < ln S 161 := by omega
    rw [s102_10]
    simp (disch := first | assumption | omega | decide | exact b2i_01 _) only [s102_11, s102_14, s102_17, s102_18, s102_21, s102_22, s102_23, s102_26, s102_27, s102_29, s102_30, s102_31, s102_32, s102_35, kont_some, kont_none, w32_of, if_true, if_false, tdv, tmd, setA_eq, up_setA, rd_hi, Int.reduceToNat, if_neg (show ¬ (1 : Int) = 0 by decide), Nat.reduceAdd, h1, e1, e2, e3]
    exact ih (k + 1) _ (by omega)
theorem c101i {a b : Nat} (ha : tg a = 100) (hb : tg b = 100) (h8 : 8 ≤ a) (hb8 : 8 ≤ b) (hab : a ≠ b) (h1 : 0 ≤ v) (h2 : 0 ≤ x) (h3 : v + 111 ≤ ln S a) (h4 : x + 111 ≤ ln S b) (h5 : v ≤ 1000) (h6 : x ≤ 1000) : wp 101 0 [.inr a, .inl v, .inr b, .inl x, .inr 0] [] (hp S D) Q ↔ Q none (hp S (setA D b (cpA (D b) (D a) x.toNat v.toNat 111))) := by
  have c := c101 (S := S) (D := D) (Q := Q) ha hb h8 hb8 hab (p := v.toNat) (q := x.toNat) (by omega) (by omega) (by omega) (by omega)
  rw [show ((v.toNat : Nat) : Int) = v by omega, show ((x.toNat : Nat) : Int) = x by omega] at c
  exact c
theorem up_as2 {r j : Nat} : up D r j v = setA D r (fu (D r) j v) := up_as
theorem c102 (hs : 0 ≤ D 158 3 ∧ D 158 3 ≤ 4) : wp 102 0 [.inr 158, .inr 0] [] (hp S D) Q ↔ Q none (hp S (recD D)) := by
  have t1 : tg 158 = 8 := rfl
  have t2 : tg 159 = 100 := rfl
  have t3 : tg 161 = 100 := rfl
  have l2 : ln S 161 = 444 := rfl
  have l3 : ln S 159 = 111 := rfl
  unfold recD recP
  by_cases h4 : D 158 3 = 4
  · rw [if_pos h4, if_pos h4]
    have e := c102a (S := S) (D := D) (Q := Q) 333 0 (D 161) (by omega)
    rw [setA_self, shI_all] at e
    have e1 : wp 102 0 [.inr 158, .inr 0] [] (hp S D) Q ↔ wp 102 10 [.inr 158, .inl (0 : Nat)] [] (hp S D) Q := by
      simp (disch := first | assumption | omega | decide | exact b2i_01 _) only [s102_0, s102_1, s102_4, s102_5, s102_8, s102_9, kont_some, kont_none, w32_of, if_true, if_false, tdv, tmd, setA_eq, up_setA, rd_hi, Int.reduceToNat, if_neg (show ¬ (1 : Int) = 0 by decide), h4]
      rfl
    rw [e1, e]
    have q4 : setA D 161 (shA (D 161)) 158 3 = 4 := by rw [setA_ne (by decide)]; exact h4
    simp (disch := first | assumption | omega | decide | exact b2i_01 _) only [s102_38, s102_39, s102_40, s102_43, s102_44, s102_45, s102_48, s102_49, s102_52, s102_53, s102_54, s102_57, s102_59, s102_60, s102_63, s102_64, s102_67, s102_68, s102_69, s102_72, s102_73, s102_74, s102_77, kont_some, kont_none, w32_of, if_true, if_false, tdv, tmd, setA_eq, up_setA, rd_hi, Int.reduceToNat, if_neg (show ¬ (1 : Int) = 0 by decide), Nat.reduceAdd, q4, Int.reduceSub, Int.reduceMul, Int.reduceAdd, up_as, c101i, fu_eq, setA_ne, h4, setA_setA]
    rw [setA_comm (D := D) (a := 161) (b := 158) (by decide), setA_setA, setA_comm (a := 161) (b := 158) (by decide), setA_setA, fu_fu]
  · rw [if_neg h4, if_neg h4]
    simp (disch := first | assumption | omega | decide | exact b2i_01 _) only [s102_0, s102_1, s102_4, s102_5, s102_8, s102_9, s102_48, s102_49, s102_52, s102_53, s102_54, s102_57, s102_59, s102_60, s102_63, s102_64, s102_67, s102_68, s102_69, s102_72, s102_73, s102_74, s102_77, kont_some, kont_none, w32_of, if_true, if_false, tdv, tmd, setA_eq, up_setA, rd_hi, Int.reduceToNat, if_neg (show ¬ (1 : Int) = 0 by decide), Nat.reduceAdd, Int.reduceSub, Int.reduceMul, Int.reduceAdd, up_as, c101i, fu_eq, setA_ne, h4, setA_setA]
    rw [setA_comm (D := D) (a := 161) (b := 158) (by decide)]
theorem c103 (hs : 0 ≤ D 158 3 ∧ D 158 3 ≤ 4) : wp 103 0 [.inr 158] [] (hp S D) Q ↔ Q (some (.inl (if D 158 3 = 0 then -5 else D 158 3 - 1))) (hp S (if D 158 3 = 0 then D else undD D)) := by
  have t1 : tg 158 = 8 := rfl
  have t2 : tg 159 = 100 := rfl
  have t3 : tg 161 = 100 := rfl
  have l2 : ln S 161 = 444 := rfl
  have l3 : ln S 159 = 111 := rfl
  unfold undD
  by_cases h4 : D 158 3 = 0
  · rw [if_pos h4, if_pos h4]
    simp (disch := first | assumption | omega | decide | exact b2i_01 _ | (unfold lx; omega)) only [s103_0, s103_1, s103_4, s103_7, s103_9, s103_10, s103_11, s103_12, s103_15, s103_16, s103_17, s103_20, s103_21, s103_24, s103_26, s103_27, s103_30, s103_31, s103_32, s103_35, s103_36, s103_39, s103_40, s103_43, kont_some, kont_none, w32_of, if_true, if_false, tdv, tmd, setA_eq, up_setA, rd_hi, Int.reduceToNat, if_neg (show ¬ (1 : Int) = 0 by decide), h4]
  · rw [if_neg h4, if_neg h4]
    simp (disch := first | assumption | omega | decide | exact b2i_01 _ | (unfold lx; omega)) only [s103_0, s103_1, s103_4, s103_7, s103_9, s103_10, s103_11, s103_12, s103_15, s103_16, s103_17, s103_20, s103_21, s103_24, s103_26, s103_27, s103_30, s103_31, s103_32, s103_35, s103_36, s103_39, s103_40, s103_43, kont_some, kont_none, w32_of, if_true, if_false, tdv, tmd, setA_eq, up_setA, rd_hi, Int.reduceToNat, if_neg (show ¬ (1 : Int) = 0 by decide), if_neg h4, Nat.reduceAdd, up_as, c101i, fu_eq, setA_ne]
theorem c104 : wp 104 0 [.inr 158] [] (hp S D) Q ↔ Q (some (.inl (D 159 0))) (hp S (keeD D)) := by
  have t1 : tg 158 = 8 := rfl
  have t2 : tg 159 = 100 := rfl
  have t3 : tg 162 = 100 := rfl
  have l2 : ln S 162 = 111 := rfl
  have l3 : ln S 159 = 111 := rfl
  unfold keeD
  simp (disch := first | assumption | omega | decide | exact b2i_01 _ | (unfold lx; omega)) only [s104_0, s104_1, s104_4, s104_5, s104_6, s104_9, s104_10, s104_13, s104_14, s104_15, s104_18, s104_19, s104_22, s104_23, s104_24, kont_some, kont_none, w32_of, if_true, if_false, tdv, tmd, setA_eq, up_setA, rd_hi, Int.reduceToNat, if_neg (show ¬ (1 : Int) = 0 by decide), Nat.reduceAdd, up_as, c101i, setA_ne]
theorem c105 (hs : 0 ≤ D 158 3 ∧ D 158 3 ≤ 4) : wp 105 0 [.inr 158] [] (hp S D) Q ↔ Q (some (.inl (if D 158 5 = 0 then -5 else D 162 0))) (hp S (if D 158 5 = 0 then D else resD D)) := by
  have t1 : tg 158 = 8 := rfl
  have t2 : tg 159 = 100 := rfl
  have t3 : tg 162 = 100 := rfl
  have l2 : ln S 162 = 111 := rfl
  have l3 : ln S 159 = 111 := rfl
  have e1 : recD D 159 = D 159 := by unfold recD; rw [setA_ne (by decide), setA_ne (by decide)]
  have e2 : recD D 162 = D 162 := by unfold recD; rw [setA_ne (by decide), setA_ne (by decide)]
  unfold resD
  by_cases h4 : D 158 5 = 0
  · rw [if_pos h4, if_pos h4]
    simp (disch := first | assumption | omega | decide | exact b2i_01 _ | (unfold lx; omega)) only [s105_0, s105_1, s105_4, s105_7, s105_9, s105_10, s105_11, s105_14, s105_15, s105_18, s105_19, s105_20, s105_23, s105_24, s105_27, s105_28, s105_31, s105_32, s105_33, kont_some, kont_none, w32_of, if_true, if_false, tdv, tmd, setA_eq, up_setA, rd_hi, Int.reduceToNat, if_neg (show ¬ (1 : Int) = 0 by decide), h4]
  · rw [if_neg h4, if_neg h4]
    simp (disch := first | assumption | omega | decide | exact b2i_01 _ | (unfold lx; omega)) only [s105_0, s105_1, s105_4, s105_7, s105_9, s105_10, s105_11, s105_14, s105_15, s105_18, s105_19, s105_20, s105_23, s105_24, s105_27, s105_28, s105_31, s105_32, s105_33, kont_some, kont_none, w32_of, if_true, if_false, tdv, tmd, setA_eq, up_setA, rd_hi, Int.reduceToNat, if_neg (show ¬ (1 : Int) = 0 by decide), if_neg h4, Nat.reduceAdd, c102, c101i, e1, e2, cpA_at]
end SPEC32
