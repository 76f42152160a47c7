/-! the check's own acts over the whole heap: 158 the object, 159 its row -/
theorem rec_159 {D : eD} : recD D 159 = D 159 := by unfold recD; rw [setA_ne (by decide), setA_ne (by decide)]
theorem rec_162 {D : eD} : recD D 162 = D 162 := by unfold recD; rw [setA_ne (by decide), setA_ne (by decide)]
def loS (w : Int) : Int := if w = 0 then 75 else if w = 3 then 0 else 1
def hiS (w : Int) : Int := if w = 0 then 99 else if w = 3 then 1 else 5
def m130 (D : eD) (w v : Int) : Int × eD :=
  if 0 ≤ w ∧ w ≤ 3 then (if loS w ≤ v ∧ v ≤ hiS w then (if D 159 (3 + w).toNat = v then (-5, D) else (D 159 (3 + w).toNat, setA (recD D) 159 (fu (D 159) (3 + w).toNat v))) else (-2, D)) else (-1, D)
def m131 (D : eD) (a b : Int) : Int × eD :=
  if 0 ≤ a ∧ a ≤ 47 then (if 0 ≤ b ∧ b ≤ 47 then (if a = b then (-2, D) else if D 159 1 = a ∧ D 159 2 = b then (-5, D) else ((b - a + 48) % 48, setA (recD D) 159 (fu (fu (D 159) 1 a) 2 b))) else (-2, D)) else (-2, D)
def m133 (D : eD) (s a b : Int) : Int × eD :=
  if 0 ≤ s ∧ s ≤ 5 then (if 0 ≤ a ∧ a ≤ 2 then (if 50 ≤ b ∧ b ≤ 150 then (if D 159 (lx s 0) = -5 then (lfF (comF (D 159) s a b) s, setA (recD D) 159 (comF (D 159) s a b)) else (-4, D)) else (-2, D)) else (-2, D)) else (-1, D)
def m134 (D : eD) (s : Int) : Int × eD :=
  if 0 ≤ s ∧ s ≤ 5 then (if D 159 (lx s 0) = -5 then (-4, D) else if D 159 10 = 1 ∧ s = D 159 7 then (-4, D) else (D 159 (lx s 2), setA (recD D) 159 (fu (D 159) (lx s 0) (-5)))) else (-1, D)
def m135 (D : eD) (s : Int) : Int × eD :=
  if 0 ≤ s ∧ s ≤ 5 then (if D 159 8 = -5 then (if s = D 159 7 then (-5, D) else (turF (D 159) s 9, setA (recD D) 159 (turF (D 159) s))) else (-4, D)) else (-1, D)
def m136 (D : eD) (a b : Int) : Int × eD :=
  if 0 ≤ a ∧ a ≤ 2 then (if 1 ≤ b ∧ b ≤ 6 then (if 99 < D 159 (41 + a).toNat + b then (-3, D) else (D 159 (41 + a).toNat + b, setA (recD D) 159 (fu (D 159) (41 + a).toNat (D 159 (41 + a).toNat + b)))) else (-2, D)) else (-2, D)
section SPEC33
variable {S : List Int} {D : eD} {h : eH} {Q : Option eV → eH → Prop} {v w x s p : Int} {r : Nat}
theorem d106 (ha : tg r = 100) (hl : ln S r = 111) (h8 : 8 ≤ r) (h1 : 0 ≤ s) (h2 : s ≤ 5) (h3 : 0 ≤ p) (h4 : p ≤ 4) : wp 106 0 [.inr r, .inl s, .inl p] [] (hp S D) Q ↔ Q (some (.inl (D r (lx s p)))) (hp S D) := by
  have e := c106 (S := S) (D := D) (Q := Q) (F := D r) ha hl h8 h1 h2 h3 h4
  rw [setA_self] at e; exact e
theorem d108 (ha : tg r = 100) (hl : ln S r = 111) (h8 : 8 ≤ r) (h1 : 0 ≤ s) (h2 : s ≤ 5) : wp 108 0 [.inr r, .inl s] [] (hp S D) Q ↔ Q none (hp S (setA D r (fu (D r) (lx s 0) (-5)))) := by
  have e := c108 (S := S) (D := D) (Q := Q) (F := D r) ha hl h8 h1 h2
  rw [setA_self] at e; exact e
theorem d109 (ha : tg r = 100) (hl : ln S r = 111) (h8 : 8 ≤ r) (h1 : 0 ≤ s) (h2 : s ≤ 5) : wp 109 0 [.inr r, .inl s] [] (hp S D) Q ↔ Q (some (.inl (b2i (¬ D r (lx s 0) = -5)))) (hp S D) := by
  have e := c109 (S := S) (D := D) (Q := Q) (F := D r) ha hl h8 h1 h2
  rw [setA_self] at e; exact e
theorem d110 (ha : tg r = 100) (hl : ln S r = 111) (h8 : 8 ≤ r) (h1 : 0 ≤ s) (h2 : s ≤ 5) : wp 110 0 [.inr r, .inl s, .inl v, .inl x] [] (hp S D) Q ↔ Q none (hp S (setA D r (comF (D r) s v x))) := by
  have e := c110 (S := S) (D := D) (Q := Q) (F := D r) (v := v) (x := x) ha hl h8 h1 h2
  rw [setA_self] at e; exact e
theorem d112 (ha : tg r = 100) (hl : ln S r = 111) (h8 : 8 ≤ r) (h1 : 0 ≤ s) (h2 : s ≤ 5) (h3 : LmA (D r) s) : wp 112 0 [.inr r, .inl s] [] (hp S D) Q ↔ Q (some (.inl (lfF (D r) s))) (hp S D) := by
  have e := c112 (S := S) (D := D) (Q := Q) (F := D r) ha hl h8 h1 h2 h3
  rw [setA_self] at e; exact e
theorem d114 (ha : tg r = 100) (hl : ln S r = 111) (h8 : 8 ≤ r) (h1 : 0 ≤ s) (h2 : s ≤ 5) (h3 : LmA (D r) s) : wp 114 0 [.inr r, .inl s] [] (hp S D) Q ↔ Q (some (.inl (b2i (lfF (D r) s ≤ D r (lx s 2))))) (hp S D) := by
  have e := c114 (S := S) (D := D) (Q := Q) (F := D r) ha hl h8 h1 h2 h3
  rw [setA_self] at e; exact e
theorem d115 (ha : tg r = 100) (hl : ln S r = 111) (h8 : 8 ≤ r) (h1 : 0 ≤ s) (h2 : s ≤ 5) (h3 : LmA (D r) s) (h50 : 50 ≤ D r (lx s 1)) : wp 115 0 [.inr r, .inl s, .inr 0] [] (hp S D) Q ↔ Q (some (.inl (cuF (D r) s))) (hp S D) := by
  have e := c115 (S := S) (D := D) (Q := Q) (F := D r) ha hl h8 h1 h2 h3 h50
  rw [setA_self] at e; exact e
theorem d117 (ha : tg r = 100) (hl : ln S r = 111) (h8 : 8 ≤ r) (h1 : 0 ≤ s) (h2 : s ≤ 5) (h3 : LmA (D r) s) (hv : v = 0 ∨ v = 1) : wp 117 0 [.inr r, .inl s, .inl v] [] (hp S D) Q ↔ Q (some (.inl (b2i ((¬ D r (lx s 0) = -5 ∧ D r (lx s 2) < lfF (D r) s) ∧ ¬ (v = 1 ∧ D r (lx s 3) = 1))))) (hp S D) := by
  have e := c117 (S := S) (D := D) (Q := Q) (F := D r) ha hl h8 h1 h2 h3 hv
  rw [setA_self] at e; exact e
theorem d119 (ha : tg r = 100) (hl : ln S r = 111) (h8 : 8 ≤ r) (hL : ∀ s, 0 ≤ s → s ≤ 5 → LmA (D r) s) (h70 : 0 ≤ D r 7) (h75 : D r 7 ≤ 5) : wp 119 0 [.inr r, .inr 0] [] (hp S D) Q ↔ Q (some (.inl (nxtF (D r)))) (hp S D) := by
  have e := c119 (S := S) (D := D) (Q := Q) (F := D r) ha hl h8 hL h70 h75
  rw [setA_self] at e; exact e
theorem d121 (ha : tg r = 100) (hl : ln S r = 111) (h8 : 8 ≤ r) (h1 : 0 ≤ s) (h2 : s ≤ 5) (h3 : 0 ≤ D r 7) (h4 : D r 7 ≤ 5) (h5 : 0 ≤ D r 5) (h6 : D r 5 ≤ 10) : wp 121 0 [.inr r, .inl s] [] (hp S D) Q ↔ Q none (hp S (setA D r (turF (D r) s))) := by
  have e := c121 (S := S) (D := D) (Q := Q) (F := D r) ha hl h8 h1 h2 h3 h4 h5 h6
  rw [setA_self] at e; exact e
theorem d122 (ha : tg r = 100) (hl : ln S r = 111) (h8 : 8 ≤ r) (h1 : 0 ≤ D r 0) (h2 : D r 0 ≤ 1000000) (h3 : 0 ≤ D r 1) (h4 : D r 1 ≤ 47) (h5 : 0 ≤ D r 2) (h6 : D r 2 ≤ 47) : wp 122 0 [.inr r, .inr 0] [] (hp S D) Q ↔ Q (some (.inl (b2i (nigF (D r))))) (hp S D) := by
  have e := c122 (S := S) (D := D) (Q := Q) (F := D r) ha hl h8 h1 h2 h3 h4 h5 h6
  rw [setA_self] at e; exact e
theorem c129 (h1 : 0 ≤ w) (h2 : w ≤ 3) : wp 129 0 [.inl w, .inl v] [] h Q ↔ Q (some (.inl (b2i (loS w ≤ v ∧ v ≤ hiS w)))) h := by
  rcases (show w = 0 ∨ w = 1 ∨ w = 2 ∨ w = 3 by omega) with rfl | rfl | rfl | rfl
  · simp (disch := first | assumption | omega | decide | exact b2i_01 _ | (unfold lx; omega)) only [s129_0, s129_1, s129_28, s129_29, s129_31, s129_33, s129_36, s129_37, s129_38, s129_39, s129_40, s129_43, s129_44, s129_45, s129_46, s129_47, s129_50, kont_some, kont_none, w32_of, if_true, if_false, tdv, tmd, setA_eq, up_setA, rd_hi, Int.reduceToNat, if_neg (show ¬ (1 : Int) = 0 by decide), c99]
    rfl
  · simp (disch := first | assumption | omega | decide | exact b2i_01 _ | (unfold lx; omega)) only [s129_0, s129_1, s129_28, s129_29, s129_31, s129_33, s129_36, s129_37, s129_38, s129_39, s129_40, s129_43, s129_44, s129_45, s129_46, s129_47, s129_50, kont_some, kont_none, w32_of, if_true, if_false, tdv, tmd, setA_eq, up_setA, rd_hi, Int.reduceToNat, if_neg (show ¬ (1 : Int) = 0 by decide), c99, if_neg (show ¬ (1 : Int) = 0 by decide)]
    rfl
  · simp (disch := first | assumption | omega | decide | exact b2i_01 _ | (unfold lx; omega)) only [s129_0, s129_1, s129_28, s129_29, s129_31, s129_33, s129_36, s129_37, s129_38, s129_39, s129_40, s129_43, s129_44, s129_45, s129_46, s129_47, s129_50, kont_some, kont_none, w32_of, if_true, if_false, tdv, tmd, setA_eq, up_setA, rd_hi, Int.reduceToNat, if_neg (show ¬ (1 : Int) = 0 by decide), c99, if_neg (show ¬ (2 : Int) = 0 by decide), if_neg (show ¬ (2 : Int) = 1 by decide)]
    rfl
  · simp (disch := first | assumption | omega | decide | exact b2i_01 _ | (unfold lx; omega)) only [s129_0, s129_1, s129_28, s129_29, s129_31, s129_33, s129_36, s129_37, s129_38, s129_39, s129_40, s129_43, s129_44, s129_45, s129_46, s129_47, s129_50, kont_some, kont_none, w32_of, if_true, if_false, tdv, tmd, setA_eq, up_setA, rd_hi, Int.reduceToNat, if_neg (show ¬ (1 : Int) = 0 by decide), c99, if_neg (show ¬ (3 : Int) = 0 by decide), if_neg (show ¬ (3 : Int) = 1 by decide), if_neg (show ¬ (3 : Int) = 2 by decide)]
    rfl
theorem c130 (hs : 0 ≤ D 158 3 ∧ D 158 3 ≤ 4) : wp 130 0 [.inr 158, .inl w, .inl v, .inr 0] [] (hp S D) Q ↔ Q (some (.inl (m130 D w v).1)) (hp S (m130 D w v).2) := by
  have t1 : tg 158 = 8 := rfl
  have t2 : tg 159 = 100 := rfl
  have l3 : ln S 159 = 111 := rfl
  unfold m130
  by_cases h1 : 0 ≤ w ∧ w ≤ 3
  · rw [if_pos h1]
    by_cases h2 : loS w ≤ v ∧ v ≤ hiS w
    · rw [if_pos h2]
      by_cases h3 : D 159 (3 + w).toNat = v
      · rw [if_pos h3]
        simp (disch := first | assumption | omega | decide | exact b2i_01 _ | (unfold lx; omega)) only [s130_0, s130_1, s130_2, s130_3, s130_6, s130_9, s130_10, s130_11, s130_12, s130_13, s130_16, s130_19, s130_21, s130_22, s130_23, s130_26, s130_27, s130_28, s130_29, s130_30, s130_31, s130_32, s130_33, s130_36, s130_38, s130_39, s130_40, s130_43, s130_44, s130_47, s130_48, s130_49, s130_50, s130_51, s130_52, s130_53, kont_some, kont_none, w32_of, if_true, if_false, tdv, tmd, setA_eq, up_setA, rd_hi, Int.reduceToNat, if_neg (show ¬ (1 : Int) = 0 by decide), Nat.reduceAdd, c99, c129, b2i_t h1, b2i_t h2, h3]
      · rw [if_neg h3]
        simp (disch := first | assumption | omega | decide | exact b2i_01 _ | (unfold lx; omega)) only [s130_0, s130_1, s130_2, s130_3, s130_6, s130_9, s130_10, s130_11, s130_12, s130_13, s130_16, s130_19, s130_21, s130_22, s130_23, s130_26, s130_27, s130_28, s130_29, s130_30, s130_31, s130_32, s130_33, s130_36, s130_38, s130_39, s130_40, s130_43, s130_44, s130_47, s130_48, s130_49, s130_50, s130_51, s130_52, s130_53, kont_some, kont_none, w32_of, if_true, if_false, tdv, tmd, setA_eq, up_setA, rd_hi, Int.reduceToNat, if_neg (show ¬ (1 : Int) = 0 by decide), Nat.reduceAdd, c99, c129, b2i_t h1, b2i_t h2, if_neg h3, c102, up_as, rec_159]
    · rw [if_neg h2]
      simp (disch := first | assumption | omega | decide | exact b2i_01 _ | (unfold lx; omega)) only [s130_0, s130_1, s130_2, s130_3, s130_6, s130_9, s130_10, s130_11, s130_12, s130_13, s130_16, s130_19, s130_21, s130_22, s130_23, s130_26, s130_27, s130_28, s130_29, s130_30, s130_31, s130_32, s130_33, s130_36, s130_38, s130_39, s130_40, s130_43, s130_44, s130_47, s130_48, s130_49, s130_50, s130_51, s130_52, s130_53, kont_some, kont_none, w32_of, if_true, if_false, tdv, tmd, setA_eq, up_setA, rd_hi, Int.reduceToNat, if_neg (show ¬ (1 : Int) = 0 by decide), Nat.reduceAdd, c99, c129, b2i_t h1, b2i_f h2]
  · rw [if_neg h1]
    simp (disch := first | assumption | omega | decide | exact b2i_01 _ | (unfold lx; omega)) only [s130_0, s130_1, s130_2, s130_3, s130_6, s130_9, s130_10, s130_11, s130_12, s130_13, s130_16, s130_19, s130_21, s130_22, s130_23, s130_26, s130_27, s130_28, s130_29, s130_30, s130_31, s130_32, s130_33, s130_36, s130_38, s130_39, s130_40, s130_43, s130_44, s130_47, s130_48, s130_49, s130_50, s130_51, s130_52, s130_53, kont_some, kont_none, w32_of, if_true, if_false, tdv, tmd, setA_eq, up_setA, rd_hi, Int.reduceToNat, if_neg (show ¬ (1 : Int) = 0 by decide), Nat.reduceAdd, c99, b2i_f h1]
theorem c131 (hs : 0 ≤ D 158 3 ∧ D 158 3 ≤ 4) : wp 131 0 [.inr 158, .inl w, .inl v] [] (hp S D) Q ↔ Q (some (.inl (m131 D w v).1)) (hp S (m131 D w v).2) := by
  have t1 : tg 158 = 8 := rfl
  have t2 : tg 159 = 100 := rfl
  have l3 : ln S 159 = 111 := rfl
  unfold m131
  by_cases h1 : 0 ≤ w ∧ w ≤ 47
  · rw [if_pos h1]
    by_cases h2 : 0 ≤ v ∧ v ≤ 47
    · rw [if_pos h2]
      by_cases h3 : w = v
      · rw [if_pos h3]
        simp (disch := first | assumption | omega | decide | exact b2i_01 _ | (unfold lx; omega)) only [s131_0, s131_1, s131_2, s131_4, s131_7, s131_10, s131_11, s131_12, s131_14, s131_17, s131_20, s131_21, s131_22, s131_25, s131_27, s131_28, s131_29, s131_32, s131_33, s131_34, s131_35, s131_38, s131_39, s131_42, s131_43, s131_44, s131_45, s131_48, s131_50, s131_51, s131_52, s131_55, s131_56, s131_59, s131_60, s131_61, s131_62, s131_63, s131_66, s131_67, s131_68, s131_69, s131_70, s131_71, s131_72, s131_74, s131_75, s131_77, s131_78, kont_some, kont_none, w32_of, if_true, if_false, tdv, tmd, setA_eq, up_setA, rd_hi, Int.reduceToNat, if_neg (show ¬ (1 : Int) = 0 by decide), Nat.reduceAdd, c99, b2i_t h1, b2i_t h2, if_pos h3]
      · rw [if_neg h3]
        by_cases h4 : D 159 1 = w
        · by_cases h5 : D 159 2 = v
          · rw [if_pos ⟨h4, h5⟩]
            simp (disch := first | assumption | omega | decide | exact b2i_01 _ | (unfold lx; omega)) only [s131_0, s131_1, s131_2, s131_4, s131_7, s131_10, s131_11, s131_12, s131_14, s131_17, s131_20, s131_21, s131_22, s131_25, s131_27, s131_28, s131_29, s131_32, s131_33, s131_34, s131_35, s131_38, s131_39, s131_42, s131_43, s131_44, s131_45, s131_48, s131_50, s131_51, s131_52, s131_55, s131_56, s131_59, s131_60, s131_61, s131_62, s131_63, s131_66, s131_67, s131_68, s131_69, s131_70, s131_71, s131_72, s131_74, s131_75, s131_77, s131_78, kont_some, kont_none, w32_of, if_true, if_false, tdv, tmd, setA_eq, up_setA, rd_hi, Int.reduceToNat, if_neg (show ¬ (1 : Int) = 0 by decide), Nat.reduceAdd, c99, b2i_t h1, b2i_t h2, if_neg h3, if_pos h4, if_pos h5]
          · rw [if_neg (fun q => h5 q.2)]
            simp (disch := first | assumption | omega | decide | exact b2i_01 _ | (unfold lx; omega)) only [s131_0, s131_1, s131_2, s131_4, s131_7, s131_10, s131_11, s131_12, s131_14, s131_17, s131_20, s131_21, s131_22, s131_25, s131_27, s131_28, s131_29, s131_32, s131_33, s131_34, s131_35, s131_38, s131_39, s131_42, s131_43, s131_44, s131_45, s131_48, s131_50, s131_51, s131_52, s131_55, s131_56, s131_59, s131_60, s131_61, s131_62, s131_63, s131_66, s131_67, s131_68, s131_69, s131_70, s131_71, s131_72, s131_74, s131_75, s131_77, s131_78, kont_some, kont_none, w32_of, if_true, if_false, tdv, tmd, setA_eq, up_setA, rd_hi, Int.reduceToNat, if_neg (show ¬ (1 : Int) = 0 by decide), Nat.reduceAdd, c99, b2i_t h1, b2i_t h2, if_neg h3, if_pos h4, if_neg h5, c102, up_as, rec_159, setA_setA]
        · rw [if_neg (fun q => h4 q.1)]
          simp (disch := first | assumption | omega | decide | exact b2i_01 _ | (unfold lx; omega)) only [s131_0, s131_1, s131_2, s131_4, s131_7, s131_10, s131_11, s131_12, s131_14, s131_17, s131_20, s131_21, s131_22, s131_25, s131_27, s131_28, s131_29, s131_32, s131_33, s131_34, s131_35, s131_38, s131_39, s131_42, s131_43, s131_44, s131_45, s131_48, s131_50, s131_51, s131_52, s131_55, s131_56, s131_59, s131_60, s131_61, s131_62, s131_63, s131_66, s131_67, s131_68, s131_69, s131_70, s131_71, s131_72, s131_74, s131_75, s131_77, s131_78, kont_some, kont_none, w32_of, if_true, if_false, tdv, tmd, setA_eq, up_setA, rd_hi, Int.reduceToNat, if_neg (show ¬ (1 : Int) = 0 by decide), Nat.reduceAdd, c99, b2i_t h1, b2i_t h2, if_neg h3, if_neg h4, c102, up_as, rec_159, setA_setA]
    · rw [if_neg h2]
      simp (disch := first | assumption | omega | decide | exact b2i_01 _ | (unfold lx; omega)) only [s131_0, s131_1, s131_2, s131_4, s131_7, s131_10, s131_11, s131_12, s131_14, s131_17, s131_20, s131_21, s131_22, s131_25, s131_27, s131_28, s131_29, s131_32, s131_33, s131_34, s131_35, s131_38, s131_39, s131_42, s131_43, s131_44, s131_45, s131_48, s131_50, s131_51, s131_52, s131_55, s131_56, s131_59, s131_60, s131_61, s131_62, s131_63, s131_66, s131_67, s131_68, s131_69, s131_70, s131_71, s131_72, s131_74, s131_75, s131_77, s131_78, kont_some, kont_none, w32_of, if_true, if_false, tdv, tmd, setA_eq, up_setA, rd_hi, Int.reduceToNat, if_neg (show ¬ (1 : Int) = 0 by decide), Nat.reduceAdd, c99, b2i_t h1, b2i_f h2]
  · rw [if_neg h1]
    simp (disch := first | assumption | omega | decide | exact b2i_01 _ | (unfold lx; omega)) only [s131_0, s131_1, s131_2, s131_4, s131_7, s131_10, s131_11, s131_12, s131_14, s131_17, s131_20, s131_21, s131_22, s131_25, s131_27, s131_28, s131_29, s131_32, s131_33, s131_34, s131_35, s131_38, s131_39, s131_42, s131_43, s131_44, s131_45, s131_48, s131_50, s131_51, s131_52, s131_55, s131_56, s131_59, s131_60, s131_61, s131_62, s131_63, s131_66, s131_67, s131_68, s131_69, s131_70, s131_71, s131_72, s131_74, s131_75, s131_77, s131_78, kont_some, kont_none, w32_of, if_true, if_false, tdv, tmd, setA_eq, up_setA, rd_hi, Int.reduceToNat, if_neg (show ¬ (1 : Int) = 0 by decide), Nat.reduceAdd, c99, b2i_f h1]
end SPEC33
