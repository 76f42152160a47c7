/-! the check's own acts, on -/
section SPEC34
variable {S : List Int} {D : eD} {h : eH} {Q : Option eV → eH → Prop} {v w x s p : Int} {r : Nat}
theorem c133 (hs : 0 ≤ D 158 3 ∧ D 158 3 ≤ 4) (hF : St (D 159)) : wp 133 0 [.inr 158, .inl s, .inl w, .inl v] [] (hp S D) Q ↔ Q (some (.inl (m133 D s w v).1)) (hp S (m133 D s w v).2) := by
  have t1 : tg 158 = 8 := rfl
  have t2 : tg 159 = 100 := rfl
  have l3 : ln S 159 = 111 := rfl
  unfold m133
  by_cases h1 : 0 ≤ s ∧ s ≤ 5
  · rw [if_pos h1]
    by_cases h2 : 0 ≤ w ∧ w ≤ 2
    · rw [if_pos h2]
      by_cases h3 : 50 ≤ v ∧ v ≤ 150
      · rw [if_pos h3]
        by_cases h4 : D 159 (lx s 0) = -5
        · rw [if_pos h4]
          have hA : LmA (comF (D 159) s w v) s := ((St_com hF h1.1 h1.2 h2.1 h2.2 h3.1 h3.2).1 s h1.1 h1.2).a
          simp (disch := first | assumption | omega | decide | exact b2i_01 _ | (unfold lx; omega)) only [s133_0, s133_1, s133_4, s133_7, s133_8, s133_9, s133_10, s133_13, s133_16, s133_17, s133_19, s133_22, s133_25, s133_28, s133_30, s133_31, s133_32, s133_35, s133_36, s133_39, s133_42, s133_44, s133_45, s133_46, s133_49, s133_50, s133_53, s133_54, s133_55, s133_56, s133_59, s133_60, s133_63, s133_64, s133_67, kont_some, kont_none, w32_of, if_true, if_false, tdv, tmd, setA_eq, up_setA, rd_hi, Int.reduceToNat, if_neg (show ¬ (1 : Int) = 0 by decide), Nat.reduceAdd, c100, c99, c132, b2i_t h1, b2i_t h2, b2i_t h3, d109, b2i_f (fun q : ¬ D 159 (lx s 0) = -5 => q h4), c102, rec_159, d110, c112]
        · rw [if_neg h4]
          simp (disch := first | assumption | omega | decide | exact b2i_01 _ | (unfold lx; omega)) only [s133_0, s133_1, s133_4, s133_7, s133_8, s133_9, s133_10, s133_13, s133_16, s133_17, s133_19, s133_22, s133_25, s133_28, s133_30, s133_31, s133_32, s133_35, s133_36, s133_39, s133_42, s133_44, s133_45, s133_46, s133_49, s133_50, s133_53, s133_54, s133_55, s133_56, s133_59, s133_60, s133_63, s133_64, s133_67, kont_some, kont_none, w32_of, if_true, if_false, tdv, tmd, setA_eq, up_setA, rd_hi, Int.reduceToNat, if_neg (show ¬ (1 : Int) = 0 by decide), Nat.reduceAdd, c100, c99, c132, b2i_t h1, b2i_t h2, b2i_t h3, d109, b2i_t h4]
      · rw [if_neg h3]
        simp (disch := first | assumption | omega | decide | exact b2i_01 _ | (unfold lx; omega)) only [s133_0, s133_1, s133_4, s133_7, s133_8, s133_9, s133_10, s133_13, s133_16, s133_17, s133_19, s133_22, s133_25, s133_28, s133_30, s133_31, s133_32, s133_35, s133_36, s133_39, s133_42, s133_44, s133_45, s133_46, s133_49, s133_50, s133_53, s133_54, s133_55, s133_56, s133_59, s133_60, s133_63, s133_64, s133_67, kont_some, kont_none, w32_of, if_true, if_false, tdv, tmd, setA_eq, up_setA, rd_hi, Int.reduceToNat, if_neg (show ¬ (1 : Int) = 0 by decide), Nat.reduceAdd, c100, c99, c132, b2i_t h1, b2i_t h2, b2i_f h3]
    · rw [if_neg h2]
      simp (disch := first | assumption | omega | decide | exact b2i_01 _ | (unfold lx; omega)) only [s133_0, s133_1, s133_4, s133_7, s133_8, s133_9, s133_10, s133_13, s133_16, s133_17, s133_19, s133_22, s133_25, s133_28, s133_30, s133_31, s133_32, s133_35, s133_36, s133_39, s133_42, s133_44, s133_45, s133_46, s133_49, s133_50, s133_53, s133_54, s133_55, s133_56, s133_59, s133_60, s133_63, s133_64, s133_67, kont_some, kont_none, w32_of, if_true, if_false, tdv, tmd, setA_eq, up_setA, rd_hi, Int.reduceToNat, if_neg (show ¬ (1 : Int) = 0 by decide), Nat.reduceAdd, c100, c99, c132, b2i_t h1, b2i_f h2]
  · rw [if_neg h1]
    simp (disch := first | assumption | omega | decide | exact b2i_01 _ | (unfold lx; omega)) only [s133_0, s133_1, s133_4, s133_7, s133_8, s133_9, s133_10, s133_13, s133_16, s133_17, s133_19, s133_22, s133_25, s133_28, s133_30, s133_31, s133_32, s133_35, s133_36, s133_39, s133_42, s133_44, s133_45, s133_46, s133_49, s133_50, s133_53, s133_54, s133_55, s133_56, s133_59, s133_60, s133_63, s133_64, s133_67, kont_some, kont_none, w32_of, if_true, if_false, tdv, tmd, setA_eq, up_setA, rd_hi, Int.reduceToNat, if_neg (show ¬ (1 : Int) = 0 by decide), Nat.reduceAdd, c100, b2i_f h1]
theorem c134 (hs : 0 ≤ D 158 3 ∧ D 158 3 ≤ 4) : wp 134 0 [.inr 158, .inl s] [] (hp S D) Q ↔ Q (some (.inl (m134 D s).1)) (hp S (m134 D s).2) := by
  have t1 : tg 158 = 8 := rfl
  have t2 : tg 159 = 100 := rfl
  have l3 : ln S 159 = 111 := rfl
  unfold m134
  by_cases h1 : 0 ≤ s ∧ s ≤ 5
  · rw [if_pos h1]
    have q0 := lx_b (s := s) (p := 0) h1.1 h1.2 (by omega) (by omega)
    have q2 : lx s 2 ≠ lx s 0 := by unfold lx; omega
    by_cases h4 : D 159 (lx s 0) = -5
    · rw [if_pos h4]
      simp (disch := first | assumption | omega | decide | exact b2i_01 _ | (unfold lx; omega)) only [s134_0, s134_1, s134_4, s134_7, s134_8, s134_9, s134_10, s134_13, s134_14, s134_17, s134_20, s134_21, s134_24, s134_26, s134_27, s134_28, s134_31, s134_32, s134_33, s134_36, s134_38, s134_39, s134_42, s134_44, s134_45, s134_46, s134_49, s134_50, s134_53, s134_54, s134_57, s134_58, s134_61, s134_62, s134_63, s134_66, kont_some, kont_none, w32_of, if_true, if_false, tdv, tmd, setA_eq, up_setA, rd_hi, Int.reduceToNat, if_neg (show ¬ (1 : Int) = 0 by decide), Nat.reduceAdd, c100, b2i_t h1, d109, b2i_f (fun q : ¬ D 159 (lx s 0) = -5 => q h4)]
    · rw [if_neg h4]
      by_cases h5 : D 159 10 = 1
      · by_cases h6 : s = D 159 7
        · rw [if_pos ⟨h5, h6⟩]
          simp (disch := first | assumption | omega | decide | exact b2i_01 _ | (unfold lx; omega)) only [s134_0, s134_1, s134_4, s134_7, s134_8, s134_9, s134_10, s134_13, s134_14, s134_17, s134_20, s134_21, s134_24, s134_26, s134_27, s134_28, s134_31, s134_32, s134_33, s134_36, s134_38, s134_39, s134_42, s134_44, s134_45, s134_46, s134_49, s134_50, s134_53, s134_54, s134_57, s134_58, s134_61, s134_62, s134_63, s134_66, kont_some, kont_none, w32_of, if_true, if_false, tdv, tmd, setA_eq, up_setA, rd_hi, Int.reduceToNat, if_neg (show ¬ (1 : Int) = 0 by decide), Nat.reduceAdd, c100, b2i_t h1, d109, b2i_t h4, if_pos h5, if_pos h6]
        · rw [if_neg (fun q => h6 q.2)]
          simp (disch := first | assumption | omega | decide | exact b2i_01 _ | (unfold lx; omega)) only [s134_0, s134_1, s134_4, s134_7, s134_8, s134_9, s134_10, s134_13, s134_14, s134_17, s134_20, s134_21, s134_24, s134_26, s134_27, s134_28, s134_31, s134_32, s134_33, s134_36, s134_38, s134_39, s134_42, s134_44, s134_45, s134_46, s134_49, s134_50, s134_53, s134_54, s134_57, s134_58, s134_61, s134_62, s134_63, s134_66, kont_some, kont_none, w32_of, if_true, if_false, tdv, tmd, setA_eq, up_setA, rd_hi, Int.reduceToNat, if_neg (show ¬ (1 : Int) = 0 by decide), Nat.reduceAdd, c100, b2i_t h1, d109, b2i_t h4, if_pos h5, if_neg h6, c102, rec_159, d108, d106, fu_ne]
      · rw [if_neg (fun q => h5 q.1)]
        simp (disch := first | assumption | omega | decide | exact b2i_01 _ | (unfold lx; omega)) only [s134_0, s134_1, s134_4, s134_7, s134_8, s134_9, s134_10, s134_13, s134_14, s134_17, s134_20, s134_21, s134_24, s134_26, s134_27, s134_28, s134_31, s134_32, s134_33, s134_36, s134_38, s134_39, s134_42, s134_44, s134_45, s134_46, s134_49, s134_50, s134_53, s134_54, s134_57, s134_58, s134_61, s134_62, s134_63, s134_66, kont_some, kont_none, w32_of, if_true, if_false, tdv, tmd, setA_eq, up_setA, rd_hi, Int.reduceToNat, if_neg (show ¬ (1 : Int) = 0 by decide), Nat.reduceAdd, c100, b2i_t h1, d109, b2i_t h4, if_neg h5, c102, rec_159, d108, d106, fu_ne]
  · rw [if_neg h1]
    simp (disch := first | assumption | omega | decide | exact b2i_01 _ | (unfold lx; omega)) only [s134_0, s134_1, s134_4, s134_7, s134_8, s134_9, s134_10, s134_13, s134_14, s134_17, s134_20, s134_21, s134_24, s134_26, s134_27, s134_28, s134_31, s134_32, s134_33, s134_36, s134_38, s134_39, s134_42, s134_44, s134_45, s134_46, s134_49, s134_50, s134_53, s134_54, s134_57, s134_58, s134_61, s134_62, s134_63, s134_66, kont_some, kont_none, w32_of, if_true, if_false, tdv, tmd, setA_eq, up_setA, rd_hi, Int.reduceToNat, if_neg (show ¬ (1 : Int) = 0 by decide), Nat.reduceAdd, c100, b2i_f h1]
theorem c135 (hs : 0 ≤ D 158 3 ∧ D 158 3 ≤ 4) (hF : St (D 159)) : wp 135 0 [.inr 158, .inl s] [] (hp S D) Q ↔ Q (some (.inl (m135 D s).1)) (hp S (m135 D s).2) := by
  have t1 : tg 158 = 8 := rfl
  have t2 : tg 159 = 100 := rfl
  have l3 : ln S 159 = 111 := rfl
  have f7 : 0 ≤ D 159 7 ∧ D 159 7 ≤ 5 := hF.2.2.2.2.2.2.2.2.1
  have f5 : 1 ≤ D 159 5 ∧ D 159 5 ≤ 5 := hF.2.2.2.2.2.2.1
  have r7 : recD D 159 7 = D 159 7 := by rw [rec_159]
  have r5 : recD D 159 5 = D 159 5 := by rw [rec_159]
  have u0 : 0 ≤ recD D 159 7 := by omega
  have u1 : recD D 159 7 ≤ 5 := by omega
  have u2 : 0 ≤ recD D 159 5 := by omega
  have u3 : recD D 159 5 ≤ 10 := by omega
  unfold m135
  by_cases h1 : 0 ≤ s ∧ s ≤ 5
  · rw [if_pos h1]
    by_cases h4 : D 159 8 = -5
    · rw [if_pos h4]
      by_cases h6 : s = D 159 7
      · rw [if_pos h6]
        simp (disch := first | assumption | omega | decide | exact b2i_01 _ | (unfold lx; omega)) only [s135_0, s135_1, s135_4, s135_7, s135_8, s135_9, s135_10, s135_13, s135_15, s135_16, s135_18, s135_21, s135_23, s135_24, s135_25, s135_26, s135_29, s135_31, s135_32, s135_35, s135_37, s135_38, s135_39, s135_42, s135_43, s135_46, s135_47, s135_50, s135_51, s135_54, s135_56, s135_57, kont_some, kont_none, w32_of, if_true, if_false, tdv, tmd, setA_eq, up_setA, rd_hi, Int.reduceToNat, if_neg (show ¬ (1 : Int) = 0 by decide), Nat.reduceAdd, c100, b2i_t h1, if_pos h4, if_pos h6]
      · rw [if_neg h6]
        simp (disch := first | assumption | omega | decide | exact b2i_01 _ | (unfold lx; omega)) only [s135_0, s135_1, s135_4, s135_7, s135_8, s135_9, s135_10, s135_13, s135_15, s135_16, s135_18, s135_21, s135_23, s135_24, s135_25, s135_26, s135_29, s135_31, s135_32, s135_35, s135_37, s135_38, s135_39, s135_42, s135_43, s135_46, s135_47, s135_50, s135_51, s135_54, s135_56, s135_57, kont_some, kont_none, w32_of, if_true, if_false, tdv, tmd, setA_eq, up_setA, rd_hi, Int.reduceToNat, if_neg (show ¬ (1 : Int) = 0 by decide), Nat.reduceAdd, c100, b2i_t h1, if_pos h4, if_neg h6, c102, d121, rec_159]
    · rw [if_neg h4]
      simp (disch := first | assumption | omega | decide | exact b2i_01 _ | (unfold lx; omega)) only [s135_0, s135_1, s135_4, s135_7, s135_8, s135_9, s135_10, s135_13, s135_15, s135_16, s135_18, s135_21, s135_23, s135_24, s135_25, s135_26, s135_29, s135_31, s135_32, s135_35, s135_37, s135_38, s135_39, s135_42, s135_43, s135_46, s135_47, s135_50, s135_51, s135_54, s135_56, s135_57, kont_some, kont_none, w32_of, if_true, if_false, tdv, tmd, setA_eq, up_setA, rd_hi, Int.reduceToNat, if_neg (show ¬ (1 : Int) = 0 by decide), Nat.reduceAdd, c100, b2i_t h1, if_neg h4]
  · rw [if_neg h1]
    simp (disch := first | assumption | omega | decide | exact b2i_01 _ | (unfold lx; omega)) only [s135_0, s135_1, s135_4, s135_7, s135_8, s135_9, s135_10, s135_13, s135_15, s135_16, s135_18, s135_21, s135_23, s135_24, s135_25, s135_26, s135_29, s135_31, s135_32, s135_35, s135_37, s135_38, s135_39, s135_42, s135_43, s135_46, s135_47, s135_50, s135_51, s135_54, s135_56, s135_57, kont_some, kont_none, w32_of, if_true, if_false, tdv, tmd, setA_eq, up_setA, rd_hi, Int.reduceToNat, if_neg (show ¬ (1 : Int) = 0 by decide), Nat.reduceAdd, c100, b2i_f h1]
theorem c136 (hs : 0 ≤ D 158 3 ∧ D 158 3 ≤ 4) (hF : St (D 159)) : wp 136 0 [.inr 158, .inl s, .inl w] [] (hp S D) Q ↔ Q (some (.inl (m136 D s w).1)) (hp S (m136 D s w).2) := by
  have t1 : tg 158 = 8 := rfl
  have t2 : tg 159 = 100 := rfl
  have l3 : ln S 159 = 111 := rfl
  have f1 : 0 ≤ D 159 41 ∧ D 159 41 ≤ 99 := hF.2.2.2.2.2.2.2.2.2.2.2.1
  have f2 : 0 ≤ D 159 42 ∧ D 159 42 ≤ 99 := hF.2.2.2.2.2.2.2.2.2.2.2.2.1
  have f3 : 0 ≤ D 159 43 ∧ D 159 43 ≤ 99 := hF.2.2.2.2.2.2.2.2.2.2.2.2.2.1
  unfold m136
  by_cases h1 : 0 ≤ s ∧ s ≤ 2
  · rw [if_pos h1]
    have fs : 0 ≤ D 159 (41 + s).toNat ∧ D 159 (41 + s).toNat ≤ 99 := by
      rcases (show s = 0 ∨ s = 1 ∨ s = 2 by omega) with rfl | rfl | rfl
      · exact f1
      · exact f2
      · exact f3
    by_cases h2 : 1 ≤ w ∧ w ≤ 6
    · rw [if_pos h2]
      by_cases h3 : 99 < D 159 (41 + s).toNat + w
      · rw [if_pos h3]
        simp (disch := first | assumption | omega | decide | exact b2i_01 _ | (unfold lx; omega)) only [s136_0, s136_1, s136_4, s136_7, s136_8, s136_9, s136_11, s136_14, s136_17, s136_19, s136_20, s136_21, s136_24, s136_26, s136_27, s136_28, s136_29, s136_30, s136_31, s136_33, s136_36, s136_38, s136_39, s136_40, s136_43, s136_44, s136_47, s136_49, s136_50, s136_51, s136_52, s136_53, s136_54, s136_55, s136_56, s136_57, s136_60, s136_62, s136_63, s136_64, s136_65, kont_some, kont_none, w32_of, if_true, if_false, tdv, tmd, setA_eq, up_setA, rd_hi, Int.reduceToNat, if_neg (show ¬ (1 : Int) = 0 by decide), Nat.reduceAdd, c99, c132, b2i_t h1, b2i_t h2, if_pos h3]
      · rw [if_neg h3]
        simp (disch := first | assumption | omega | decide | exact b2i_01 _ | (unfold lx; omega)) only [s136_0, s136_1, s136_4, s136_7, s136_8, s136_9, s136_11, s136_14, s136_17, s136_19, s136_20, s136_21, s136_24, s136_26, s136_27, s136_28, s136_29, s136_30, s136_31, s136_33, s136_36, s136_38, s136_39, s136_40, s136_43, s136_44, s136_47, s136_49, s136_50, s136_51, s136_52, s136_53, s136_54, s136_55, s136_56, s136_57, s136_60, s136_62, s136_63, s136_64, s136_65, kont_some, kont_none, w32_of, if_true, if_false, tdv, tmd, setA_eq, up_setA, rd_hi, Int.reduceToNat, if_neg (show ¬ (1 : Int) = 0 by decide), Nat.reduceAdd, c99, c132, b2i_t h1, b2i_t h2, if_neg h3, c102, rec_159, up_as, fu_eq]
    · rw [if_neg h2]
      simp (disch := first | assumption | omega | decide | exact b2i_01 _ | (unfold lx; omega)) only [s136_0, s136_1, s136_4, s136_7, s136_8, s136_9, s136_11, s136_14, s136_17, s136_19, s136_20, s136_21, s136_24, s136_26, s136_27, s136_28, s136_29, s136_30, s136_31, s136_33, s136_36, s136_38, s136_39, s136_40, s136_43, s136_44, s136_47, s136_49, s136_50, s136_51, s136_52, s136_53, s136_54, s136_55, s136_56, s136_57, s136_60, s136_62, s136_63, s136_64, s136_65, kont_some, kont_none, w32_of, if_true, if_false, tdv, tmd, setA_eq, up_setA, rd_hi, Int.reduceToNat, if_neg (show ¬ (1 : Int) = 0 by decide), Nat.reduceAdd, c99, c132, b2i_t h1, b2i_f h2]
  · rw [if_neg h1]
    simp (disch := first | assumption | omega | decide | exact b2i_01 _ | (unfold lx; omega)) only [s136_0, s136_1, s136_4, s136_7, s136_8, s136_9, s136_11, s136_14, s136_17, s136_19, s136_20, s136_21, s136_24, s136_26, s136_27, s136_28, s136_29, s136_30, s136_31, s136_33, s136_36, s136_38, s136_39, s136_40, s136_43, s136_44, s136_47, s136_49, s136_50, s136_51, s136_52, s136_53, s136_54, s136_55, s136_56, s136_57, s136_60, s136_62, s136_63, s136_64, s136_65, kont_some, kont_none, w32_of, if_true, if_false, tdv, tmd, setA_eq, up_setA, rd_hi, Int.reduceToNat, if_neg (show ¬ (1 : Int) = 0 by decide), Nat.reduceAdd, c132, b2i_f h1]
def m162 (D : eD) (w : Int) : Int := if 0 ≤ w ∧ w ≤ 3 then D 159 (3 + w).toNat else -1
theorem c162 : wp 162 0 [.inr 158, .inl w] [] (hp S D) Q ↔ Q (some (.inl (m162 D w))) (hp S D) := by
  have t1 : tg 158 = 8 := rfl
  have t2 : tg 159 = 100 := rfl
  have l3 : ln S 159 = 111 := rfl
  unfold m162
  by_cases h1 : 0 ≤ w ∧ w ≤ 3
  · rw [if_pos h1]
    simp (disch := first | assumption | omega | decide | exact b2i_01 _ | (unfold lx; omega)) only [s162_0, s162_1, s162_2, s162_3, s162_6, s162_9, s162_10, s162_13, s162_14, s162_15, s162_16, s162_17, s162_20, s162_21, kont_some, kont_none, w32_of, if_true, if_false, tdv, tmd, setA_eq, up_setA, rd_hi, Int.reduceToNat, if_neg (show ¬ (1 : Int) = 0 by decide), Nat.reduceAdd, c99, b2i_t h1]
  · rw [if_neg h1]
    simp (disch := first | assumption | omega | decide | exact b2i_01 _ | (unfold lx; omega)) only [s162_0, s162_1, s162_2, s162_3, s162_6, s162_9, s162_10, s162_13, s162_14, s162_15, s162_16, s162_17, s162_20, s162_21, kont_some, kont_none, w32_of, if_true, if_false, tdv, tmd, setA_eq, up_setA, rd_hi, Int.reduceToNat, if_neg (show ¬ (1 : Int) = 0 by decide), Nat.reduceAdd, c99, b2i_f h1]
def m158 (D : eD) (p w : Int) : Int := if p < 0 then -2 else if 0 ≤ w ∧ w ≤ 2 then (if p < D 159 49 then D 159 (50 + 3 * p + w).toNat else -5) else -2
theorem c158 (hF : St (D 159)) : wp 158 0 [.inr 158, .inl p, .inl w] [] (hp S D) Q ↔ Q (some (.inl (m158 D p w))) (hp S D) := by
  have t1 : tg 158 = 8 := rfl
  have t2 : tg 159 = 100 := rfl
  have l3 : ln S 159 = 111 := rfl
  have f49 : 0 ≤ D 159 49 ∧ D 159 49 ≤ 10 := hF.2.2.2.2.2.2.2.2.2.2.2.2.2.2.2.2.2.2.2.1
  unfold m158
  by_cases h0 : p < 0
  · rw [if_pos h0]
    simp (disch := first | assumption | omega | decide | exact b2i_01 _ | (unfold lx; omega)) only [s158_0, s158_1, s158_4, s158_5, s158_6, s158_7, s158_10, s158_13, s158_15, s158_16, s158_17, s158_18, s158_21, s158_23, s158_24, s158_27, s158_28, s158_31, s158_33, s158_34, s158_35, s158_36, s158_37, s158_38, s158_39, s158_40, s158_43, s158_45, kont_some, kont_none, w32_of, if_true, if_false, tdv, tmd, setA_eq, up_setA, rd_hi, Int.reduceToNat, if_neg (show ¬ (1 : Int) = 0 by decide), Nat.reduceAdd, if_pos h0]
  · rw [if_neg h0]
    by_cases h1 : 0 ≤ w ∧ w ≤ 2
    · rw [if_pos h1]
      by_cases h2 : p < D 159 49
      · rw [if_pos h2]
        simp (disch := first | assumption | omega | decide | exact b2i_01 _ | (unfold lx; omega)) only [s158_0, s158_1, s158_4, s158_5, s158_6, s158_7, s158_10, s158_13, s158_15, s158_16, s158_17, s158_18, s158_21, s158_23, s158_24, s158_27, s158_28, s158_31, s158_33, s158_34, s158_35, s158_36, s158_37, s158_38, s158_39, s158_40, s158_43, s158_45, kont_some, kont_none, w32_of, if_true, if_false, tdv, tmd, setA_eq, up_setA, rd_hi, Int.reduceToNat, if_neg (show ¬ (1 : Int) = 0 by decide), Nat.reduceAdd, if_neg h0, c99, b2i_t h1, if_pos h2]
      · rw [if_neg h2]
        simp (disch := first | assumption | omega | decide | exact b2i_01 _ | (unfold lx; omega)) only [s158_0, s158_1, s158_4, s158_5, s158_6, s158_7, s158_10, s158_13, s158_15, s158_16, s158_17, s158_18, s158_21, s158_23, s158_24, s158_27, s158_28, s158_31, s158_33, s158_34, s158_35, s158_36, s158_37, s158_38, s158_39, s158_40, s158_43, s158_45, kont_some, kont_none, w32_of, if_true, if_false, tdv, tmd, setA_eq, up_setA, rd_hi, Int.reduceToNat, if_neg (show ¬ (1 : Int) = 0 by decide), Nat.reduceAdd, if_neg h0, c99, b2i_t h1, if_neg h2]
    · rw [if_neg h1]
      simp (disch := first | assumption | omega | decide | exact b2i_01 _ | (unfold lx; omega)) only [s158_0, s158_1, s158_4, s158_5, s158_6, s158_7, s158_10, s158_13, s158_15, s158_16, s158_17, s158_18, s158_21, s158_23, s158_24, s158_27, s158_28, s158_31, s158_33, s158_34, s158_35, s158_36, s158_37, s158_38, s158_39, s158_40, s158_43, s158_45, kont_some, kont_none, w32_of, if_true, if_false, tdv, tmd, setA_eq, up_setA, rd_hi, Int.reduceToNat, if_neg (show ¬ (1 : Int) = 0 by decide), Nat.reduceAdd, if_neg h0, c99, b2i_f h1]
def m159 (D : eD) (p w : Int) : Int := if p < 0 then -2 else if 0 ≤ w ∧ w ≤ 2 then (if p < D 159 80 then D 159 (81 + 3 * (D 159 80 - 1 - p) + w).toNat else -5) else -2
theorem c159 (hF : St (D 159)) : wp 159 0 [.inr 158, .inl p, .inl w] [] (hp S D) Q ↔ Q (some (.inl (m159 D p w))) (hp S D) := by
  have t1 : tg 158 = 8 := rfl
  have t2 : tg 159 = 100 := rfl
  have l3 : ln S 159 = 111 := rfl
  have f80 : 0 ≤ D 159 80 ∧ D 159 80 ≤ 10 := hF.2.2.2.2.2.2.2.2.2.2.2.2.2.2.2.2.2.2.2.2.1
  unfold m159
  by_cases h0 : p < 0
  · rw [if_pos h0]
    simp (disch := first | assumption | omega | decide | exact b2i_01 _ | (unfold lx; omega)) only [s159_0, s159_1, s159_4, s159_5, s159_6, s159_7, s159_10, s159_13, s159_15, s159_16, s159_17, s159_18, s159_21, s159_23, s159_24, s159_27, s159_28, s159_31, s159_33, s159_34, s159_35, s159_38, s159_40, s159_41, s159_42, s159_43, s159_44, s159_45, s159_46, s159_47, s159_48, s159_49, s159_50, s159_53, s159_55, kont_some, kont_none, w32_of, if_true, if_false, tdv, tmd, setA_eq, up_setA, rd_hi, Int.reduceToNat, if_neg (show ¬ (1 : Int) = 0 by decide), Nat.reduceAdd, if_pos h0]
  · rw [if_neg h0]
    by_cases h1 : 0 ≤ w ∧ w ≤ 2
    · rw [if_pos h1]
      by_cases h2 : p < D 159 80
      · rw [if_pos h2]
        simp (disch := first | assumption | omega | decide | exact b2i_01 _ | (unfold lx; omega)) only [s159_0, s159_1, s159_4, s159_5, s159_6, s159_7, s159_10, s159_13, s159_15, s159_16, s159_17, s159_18, s159_21, s159_23, s159_24, s159_27, s159_28, s159_31, s159_33, s159_34, s159_35, s159_38, s159_40, s159_41, s159_42, s159_43, s159_44, s159_45, s159_46, s159_47, s159_48, s159_49, s159_50, s159_53, s159_55, kont_some, kont_none, w32_of, if_true, if_false, tdv, tmd, setA_eq, up_setA, rd_hi, Int.reduceToNat, if_neg (show ¬ (1 : Int) = 0 by decide), Nat.reduceAdd, if_neg h0, c99, b2i_t h1, if_pos h2]
      · rw [if_neg h2]
        simp (disch := first | assumption | omega | decide | exact b2i_01 _ | (unfold lx; omega)) only [s159_0, s159_1, s159_4, s159_5, s159_6, s159_7, s159_10, s159_13, s159_15, s159_16, s159_17, s159_18, s159_21, s159_23, s159_24, s159_27, s159_28, s159_31, s159_33, s159_34, s159_35, s159_38, s159_40, s159_41, s159_42, s159_43, s159_44, s159_45, s159_46, s159_47, s159_48, s159_49, s159_50, s159_53, s159_55, kont_some, kont_none, w32_of, if_true, if_false, tdv, tmd, setA_eq, up_setA, rd_hi, Int.reduceToNat, if_neg (show ¬ (1 : Int) = 0 by decide), Nat.reduceAdd, if_neg h0, c99, b2i_t h1, if_neg h2]
    · rw [if_neg h1]
      simp (disch := first | assumption | omega | decide | exact b2i_01 _ | (unfold lx; omega)) only [s159_0, s159_1, s159_4, s159_5, s159_6, s159_7, s159_10, s159_13, s159_15, s159_16, s159_17, s159_18, s159_21, s159_23, s159_24, s159_27, s159_28, s159_31, s159_33, s159_34, s159_35, s159_38, s159_40, s159_41, s159_42, s159_43, s159_44, s159_45, s159_46, s159_47, s159_48, s159_49, s159_50, s159_53, s159_55, kont_some, kont_none, w32_of, if_true, if_false, tdv, tmd, setA_eq, up_setA, rd_hi, Int.reduceToNat, if_neg (show ¬ (1 : Int) = 0 by decide), Nat.reduceAdd, if_neg h0, c99, b2i_f h1]
end SPEC34
