/-! what is told by both: lamp, wheel, ranked, event, count, setting -/
section SPEC72
variable {S : List Int} {D E : eD} {h : eH} {Q : Option eV → eH → Prop} {F G P T X : eRow} {n k len w v s a b p : Int}
theorem s_lamp (hS : S.length ≤ 2048) (hW : Wd D) : ∀ Q, (wp 82 0 [.inr (.inl 8), .inl s, .inl w, .inr (.inl 0)] [] (hp S D) Q ↔ Q (some (.inl (m152 D s w))) (hp S D)) := by
  have t8 : tg 8 = 7 := rfl
  have t9 : tg 9 = 0 := rfl
  have t12 : tg 12 = 6 := rfl
  intro Q
  have hR := hW.1.1
  have hF := hW.2.1.1
  unfold m152
  by_cases h1 : 0 ≤ s ∧ s ≤ 5
  · rw [if_pos h1]
    have t3 : tg (lw 12 s) = 3 := lw_tg t12
    have tn := tg_ne0 t3 (by decide)
    have hL := hR.2.2.2.1.2.1 s h1.1 h1.2
    have hth := LmR_th hL
    have hB := hF.1 s h1.1 h1.2
    by_cases h2 : 0 ≤ w ∧ w ≤ 7
    · rw [if_pos h2]
      by_cases h4 : D 159 (lx s 0) = -5
      · rw [if_pos h4]
        have h4' : ¬ ¬ D (lw 12 s) 0 = -1 := fun z => hth.mp z h4
        simp (disch := first | assumption | omega | decide | exact b2i_01 _ | (unfold lx; omega)) only [s82_0, s82_1, s82_4, s82_7, s82_8, s82_9, s82_10, s82_11, s82_13, s82_16, s82_19, s82_21, s82_22, s82_23, s82_26, s82_29, s82_30, s82_33, s82_34, s82_35, s82_38, s82_41, s82_43, kont_some, kont_none, w32_of, if_true, if_false, tdv, tmd, setA_eq, up_setA, rd_hi, Int.reduceToNat, if_neg (show ¬ (1 : Int) = 0 by decide), Nat.reduceAdd, c94, b2i_t h1, c91, b2i_t h2, c56, c27, b2i_f h4']
      · rw [if_neg h4]
        have h4' := hth.mpr h4
        obtain ⟨m0, m1, m2, m3, m4, m5, m6⟩ := hL.resolve_left (fun z => h4 z.2.1)
        have m0' : D (lw 12 s) 0 = D 159 (lx s 0) := m0
        have m2' : D (lw 12 s) 1 = D 159 (lx s 1) := m2
        have m3' : D (lw 12 s) 2 = lfF (D 159) s := m3
        have m4' : D (lw 12 s) 3 = D 159 (lx s 2) := m4
        have m5' : D (lw 12 s) 5 = D 159 (lx s 3) := m5
        have m6' : D (lw 12 s) 4 = D 159 (lx s 4) := m6
        have b5 := hB.2.2.2.2.1
        have b2 := hB.2.2.1
        have b3 := hB.2.2.2.1
        have bl := lifeF_b (kind := D 159 (lx s 0)) (str := D 159 (lx s 1)) (by have := hB.2.2.2.2.2.2.2; omega) hB.2.1
        have bl' : 100 ≤ lfF (D 159) s ∧ lfF (D 159) s ≤ 1050 := bl
        have c32' := fun Q' => c32 (S := S) (D := D) (Q := Q') t3 hS (by omega) (by omega) (by omega) (by omega) (by omega) (by omega)
        have ec : curF (by3 (D (lw 12 s) 0) 1000 1400 700) (D (lw 12 s) 2) (D (lw 12 s) 3) = cuF (D 159) s := by rw [m0', m3', m4']; rfl
        rw [ec] at c32'
        have st : wp 82 0 [.inr (.inl 8), .inl s, .inl w, .inr (.inl 0)] [] (hp S D) Q ↔ wp 82 45 [.inr (.inl 8), .inl s, .inl w, .inr (.inl (lw 12 s))] [.inl w] (hp S D) Q := by
          simp (disch := first | assumption | omega | decide | exact b2i_01 _ | (unfold lx; omega)) only [s82_0, s82_1, s82_4, s82_7, s82_8, s82_9, s82_10, s82_11, s82_13, s82_16, s82_19, s82_21, s82_22, s82_23, s82_26, s82_29, s82_30, s82_33, s82_34, s82_35, s82_38, s82_41, s82_43, s82_44, kont_some, kont_none, w32_of, if_true, if_false, tdv, tmd, setA_eq, up_setA, rd_hi, Int.reduceToNat, if_neg (show ¬ (1 : Int) = 0 by decide), Nat.reduceAdd, c94, b2i_t h1, c91, b2i_t h2, c56, c27, b2i_t h4']
        rw [st, s82_45]
        rcases (show w = 0 ∨ w = 1 ∨ w = 2 ∨ w = 3 ∨ w = 4 ∨ w = 5 ∨ w = 6 ∨ w = 7 by omega) with rfl | rfl | rfl | rfl | rfl | rfl | rfl | rfl
        · simp (disch := first | assumption | omega | decide | exact b2i_01 _ | (unfold lx; omega)) only [s82_88, s82_89, s82_92, s82_93, s82_94, s82_97, s82_98, s82_99, s82_102, s82_103, s82_104, s82_107, s82_108, s82_109, s82_112, s82_113, s82_114, s82_117, s82_120, s82_121, s82_122, s82_125, s82_128, s82_129, s82_130, s82_133, kont_some, kont_none, w32_of, if_true, if_false, tdv, tmd, setA_eq, up_setA, rd_hi, Int.reduceToNat, if_neg (show ¬ (1 : Int) = 0 by decide), Int.reduceEq, m0']
        · simp (disch := first | assumption | omega | decide | exact b2i_01 _ | (unfold lx; omega)) only [s82_88, s82_89, s82_92, s82_93, s82_94, s82_97, s82_98, s82_99, s82_102, s82_103, s82_104, s82_107, s82_108, s82_109, s82_112, s82_113, s82_114, s82_117, s82_120, s82_121, s82_122, s82_125, s82_128, s82_129, s82_130, s82_133, kont_some, kont_none, w32_of, if_true, if_false, tdv, tmd, setA_eq, up_setA, rd_hi, Int.reduceToNat, if_neg (show ¬ (1 : Int) = 0 by decide), Int.reduceEq, m2']
        · simp (disch := first | assumption | omega | decide | exact b2i_01 _ | (unfold lx; omega)) only [s82_88, s82_89, s82_92, s82_93, s82_94, s82_97, s82_98, s82_99, s82_102, s82_103, s82_104, s82_107, s82_108, s82_109, s82_112, s82_113, s82_114, s82_117, s82_120, s82_121, s82_122, s82_125, s82_128, s82_129, s82_130, s82_133, kont_some, kont_none, w32_of, if_true, if_false, tdv, tmd, setA_eq, up_setA, rd_hi, Int.reduceToNat, if_neg (show ¬ (1 : Int) = 0 by decide), Int.reduceEq, m4']
        · simp (disch := first | assumption | omega | decide | exact b2i_01 _ | (unfold lx; omega)) only [s82_88, s82_89, s82_92, s82_93, s82_94, s82_97, s82_98, s82_99, s82_102, s82_103, s82_104, s82_107, s82_108, s82_109, s82_112, s82_113, s82_114, s82_117, s82_120, s82_121, s82_122, s82_125, s82_128, s82_129, s82_130, s82_133, kont_some, kont_none, w32_of, if_true, if_false, tdv, tmd, setA_eq, up_setA, rd_hi, Int.reduceToNat, if_neg (show ¬ (1 : Int) = 0 by decide), Int.reduceEq, m3']
        · simp (disch := first | assumption | omega | decide | exact b2i_01 _ | (unfold lx; omega)) only [s82_88, s82_89, s82_92, s82_93, s82_94, s82_97, s82_98, s82_99, s82_102, s82_103, s82_104, s82_107, s82_108, s82_109, s82_112, s82_113, s82_114, s82_117, s82_120, s82_121, s82_122, s82_125, s82_128, s82_129, s82_130, s82_133, kont_some, kont_none, w32_of, if_true, if_false, tdv, tmd, setA_eq, up_setA, rd_hi, Int.reduceToNat, if_neg (show ¬ (1 : Int) = 0 by decide), Int.reduceEq, c32']
        · simp (disch := first | assumption | omega | decide | exact b2i_01 _ | (unfold lx; omega)) only [s82_88, s82_89, s82_92, s82_93, s82_94, s82_97, s82_98, s82_99, s82_102, s82_103, s82_104, s82_107, s82_108, s82_109, s82_112, s82_113, s82_114, s82_117, s82_120, s82_121, s82_122, s82_125, s82_128, s82_129, s82_130, s82_133, kont_some, kont_none, w32_of, if_true, if_false, tdv, tmd, setA_eq, up_setA, rd_hi, Int.reduceToNat, if_neg (show ¬ (1 : Int) = 0 by decide), Int.reduceEq, m5', c97]
        · simp (disch := first | assumption | omega | decide | exact b2i_01 _ | (unfold lx; omega)) only [s82_88, s82_89, s82_92, s82_93, s82_94, s82_97, s82_98, s82_99, s82_102, s82_103, s82_104, s82_107, s82_108, s82_109, s82_112, s82_113, s82_114, s82_117, s82_120, s82_121, s82_122, s82_125, s82_128, s82_129, s82_130, s82_133, kont_some, kont_none, w32_of, if_true, if_false, tdv, tmd, setA_eq, up_setA, rd_hi, Int.reduceToNat, if_neg (show ¬ (1 : Int) = 0 by decide), Int.reduceEq, c28, m3', m4', c97]
        · simp (disch := first | assumption | omega | decide | exact b2i_01 _ | (unfold lx; omega)) only [s82_88, s82_89, s82_92, s82_93, s82_94, s82_97, s82_98, s82_99, s82_102, s82_103, s82_104, s82_107, s82_108, s82_109, s82_112, s82_113, s82_114, s82_117, s82_120, s82_121, s82_122, s82_125, s82_128, s82_129, s82_130, s82_133, kont_some, kont_none, w32_of, if_true, if_false, tdv, tmd, setA_eq, up_setA, rd_hi, Int.reduceToNat, if_neg (show ¬ (1 : Int) = 0 by decide), Int.reduceEq, m6']
    · rw [if_neg h2]
      simp (disch := first | assumption | omega | decide | exact b2i_01 _ | (unfold lx; omega)) only [s82_0, s82_1, s82_4, s82_7, s82_8, s82_9, s82_10, s82_11, s82_13, s82_16, s82_19, s82_21, s82_22, s82_23, s82_26, s82_29, s82_30, s82_33, s82_34, s82_35, s82_38, s82_41, s82_43, kont_some, kont_none, w32_of, if_true, if_false, tdv, tmd, setA_eq, up_setA, rd_hi, Int.reduceToNat, if_neg (show ¬ (1 : Int) = 0 by decide), Nat.reduceAdd, c94, b2i_t h1, c91, b2i_f h2]
  · rw [if_neg h1]
    simp (disch := first | assumption | omega | decide | exact b2i_01 _ | (unfold lx; omega)) only [s82_0, s82_1, s82_4, s82_7, s82_8, s82_9, s82_10, s82_11, s82_13, s82_16, s82_19, s82_21, s82_22, s82_23, s82_26, s82_29, s82_30, s82_33, s82_34, s82_35, s82_38, s82_41, s82_43, kont_some, kont_none, w32_of, if_true, if_false, tdv, tmd, setA_eq, up_setA, rd_hi, Int.reduceToNat, if_neg (show ¬ (1 : Int) = 0 by decide), Nat.reduceAdd, c94, b2i_f h1]
theorem s_wheel (hS : S.length ≤ 2048) (hW : Wd D) : ∀ Q, (wp 83 0 [.inr (.inl 8), .inl w] [] (hp S D) Q ↔ Q (some (.inl (m153 D w))) (hp S D)) := by
  have t8 : tg 8 = 7 := rfl
  have t9 : tg 9 = 0 := rfl
  have t12 : tg 12 = 6 := rfl
  intro Q
  have hR := hW.1.1
  have hF := hW.2.1.1
  obtain ⟨y1, y2, y3, _⟩ := hR.1
  obtain ⟨w2, w3, w4, w5⟩ := hR.2.2.2.1.1
  have w2' : D 12 2 = D 159 7 := w2
  have w3' : D 12 3 = D 159 8 := w3
  have w4' : D 12 4 = D 159 9 := w4
  have w5' : D 12 5 = D 159 10 := w5
  have f10 := hF.2.2.2.2.2.2.2.2.2.2.1
  have f9 := hF.2.2.2.2.2.2.2.2.2.1
  have a1 := hF.2.1
  have a2 := hF.2.2.1
  have a3 := hF.2.2.2.1
  have c3' := fun Q' => c3 (S := S) (D := D) (Q := Q') t9 (by omega) (by omega) (by omega) (by omega) (by omega) (by omega)
  have en : ((D 9 5 - D 9 6) % 48 < (D 9 7 - D 9 6) % 48) ↔ nigF (D 159) := by rw [y1, y2, y3]; exact nig_eq
  rw [b2i_congr en] at c3'
  have c61' := fun Q' => c61 (S := S) (D := D) (Q := Q') t12 hS hR.2.2.2.1 hF
  unfold m153
  have st : wp 83 0 [.inr (.inl 8), .inl w] [] (hp S D) Q ↔ wp 83 1 [.inr (.inl 8), .inl w] [.inl w] (hp S D) Q := by
    simp (disch := first | assumption | omega | decide | exact b2i_01 _ | (unfold lx; omega)) only [s83_0, kont_some, kont_none, w32_of, if_true, if_false, tdv, tmd, setA_eq, up_setA, rd_hi, Int.reduceToNat, if_neg (show ¬ (1 : Int) = 0 by decide)]
  rw [st, s83_1]
  by_cases q0 : w = 0
  · simp (disch := first | assumption | omega | decide | exact b2i_01 _ | (unfold lx; omega)) only [s83_48, s83_49, s83_52, s83_55, s83_58, s83_59, s83_60, s83_63, s83_66, s83_69, s83_70, s83_71, s83_74, s83_77, s83_80, s83_81, s83_82, s83_85, s83_88, s83_91, s83_94, s83_95, s83_96, s83_99, s83_102, s83_105, s83_106, s83_107, s83_110, s83_113, s83_116, s83_117, s83_118, s83_121, s83_124, s83_125, s83_126, s83_129, s83_132, kont_some, kont_none, w32_of, if_true, if_false, tdv, tmd, setA_eq, up_setA, rd_hi, Int.reduceToNat, if_neg (show ¬ (1 : Int) = 0 by decide), Nat.reduceAdd, if_pos q0, w2']
  simp only [if_neg q0]
  by_cases q1 : w = 1
  · simp (disch := first | assumption | omega | decide | exact b2i_01 _ | (unfold lx; omega)) only [s83_48, s83_49, s83_52, s83_55, s83_58, s83_59, s83_60, s83_63, s83_66, s83_69, s83_70, s83_71, s83_74, s83_77, s83_80, s83_81, s83_82, s83_85, s83_88, s83_91, s83_94, s83_95, s83_96, s83_99, s83_102, s83_105, s83_106, s83_107, s83_110, s83_113, s83_116, s83_117, s83_118, s83_121, s83_124, s83_125, s83_126, s83_129, s83_132, kont_some, kont_none, w32_of, if_true, if_false, tdv, tmd, setA_eq, up_setA, rd_hi, Int.reduceToNat, if_neg (show ¬ (1 : Int) = 0 by decide), Nat.reduceAdd, if_pos q1, w3']
  simp only [if_neg q1]
  by_cases q2 : w = 2
  · have e : (if D 159 8 = -5 then 0 else D 159 9) = D 159 9 := by split <;> omega
    rw [e]
    simp (disch := first | assumption | omega | decide | exact b2i_01 _ | (unfold lx; omega)) only [s83_48, s83_49, s83_52, s83_55, s83_58, s83_59, s83_60, s83_63, s83_66, s83_69, s83_70, s83_71, s83_74, s83_77, s83_80, s83_81, s83_82, s83_85, s83_88, s83_91, s83_94, s83_95, s83_96, s83_99, s83_102, s83_105, s83_106, s83_107, s83_110, s83_113, s83_116, s83_117, s83_118, s83_121, s83_124, s83_125, s83_126, s83_129, s83_132, kont_some, kont_none, w32_of, if_true, if_false, tdv, tmd, setA_eq, up_setA, rd_hi, Int.reduceToNat, if_neg (show ¬ (1 : Int) = 0 by decide), Nat.reduceAdd, if_pos q2, w4']
  simp only [if_neg q2]
  by_cases q3 : w = 3
  · simp (disch := first | assumption | omega | decide | exact b2i_01 _ | (unfold lx; omega)) only [s83_48, s83_49, s83_52, s83_55, s83_58, s83_59, s83_60, s83_63, s83_66, s83_69, s83_70, s83_71, s83_74, s83_77, s83_80, s83_81, s83_82, s83_85, s83_88, s83_91, s83_94, s83_95, s83_96, s83_99, s83_102, s83_105, s83_106, s83_107, s83_110, s83_113, s83_116, s83_117, s83_118, s83_121, s83_124, s83_125, s83_126, s83_129, s83_132, kont_some, kont_none, w32_of, if_true, if_false, tdv, tmd, setA_eq, up_setA, rd_hi, Int.reduceToNat, if_neg (show ¬ (1 : Int) = 0 by decide), Nat.reduceAdd, if_pos q3, w5', c97]
  simp only [if_neg q3]
  by_cases q4 : w = 4
  · simp (disch := first | assumption | omega | decide | exact b2i_01 _ | (unfold lx; omega)) only [s83_48, s83_49, s83_52, s83_55, s83_58, s83_59, s83_60, s83_63, s83_66, s83_69, s83_70, s83_71, s83_74, s83_77, s83_80, s83_81, s83_82, s83_85, s83_88, s83_91, s83_94, s83_95, s83_96, s83_99, s83_102, s83_105, s83_106, s83_107, s83_110, s83_113, s83_116, s83_117, s83_118, s83_121, s83_124, s83_125, s83_126, s83_129, s83_132, kont_some, kont_none, w32_of, if_true, if_false, tdv, tmd, setA_eq, up_setA, rd_hi, Int.reduceToNat, if_neg (show ¬ (1 : Int) = 0 by decide), Nat.reduceAdd, if_pos q4, c3', c97]
  simp only [if_neg q4]
  by_cases q5 : w = 5
  · simp (disch := first | assumption | omega | decide | exact b2i_01 _ | (unfold lx; omega)) only [s83_48, s83_49, s83_52, s83_55, s83_58, s83_59, s83_60, s83_63, s83_66, s83_69, s83_70, s83_71, s83_74, s83_77, s83_80, s83_81, s83_82, s83_85, s83_88, s83_91, s83_94, s83_95, s83_96, s83_99, s83_102, s83_105, s83_106, s83_107, s83_110, s83_113, s83_116, s83_117, s83_118, s83_121, s83_124, s83_125, s83_126, s83_129, s83_132, kont_some, kont_none, w32_of, if_true, if_false, tdv, tmd, setA_eq, up_setA, rd_hi, Int.reduceToNat, if_neg (show ¬ (1 : Int) = 0 by decide), Nat.reduceAdd, if_pos q5, c61']
  simp only [if_neg q5]
  by_cases q6 : w = 6
  · simp (disch := first | assumption | omega | decide | exact b2i_01 _ | (unfold lx; omega)) only [s83_48, s83_49, s83_52, s83_55, s83_58, s83_59, s83_60, s83_63, s83_66, s83_69, s83_70, s83_71, s83_74, s83_77, s83_80, s83_81, s83_82, s83_85, s83_88, s83_91, s83_94, s83_95, s83_96, s83_99, s83_102, s83_105, s83_106, s83_107, s83_110, s83_113, s83_116, s83_117, s83_118, s83_121, s83_124, s83_125, s83_126, s83_129, s83_132, kont_some, kont_none, w32_of, if_true, if_false, tdv, tmd, setA_eq, up_setA, rd_hi, Int.reduceToNat, if_neg (show ¬ (1 : Int) = 0 by decide), Nat.reduceAdd, if_pos q6, y2]
  simp only [if_neg q6]
  by_cases q7 : w = 7
  · simp (disch := first | assumption | omega | decide | exact b2i_01 _ | (unfold lx; omega)) only [s83_48, s83_49, s83_52, s83_55, s83_58, s83_59, s83_60, s83_63, s83_66, s83_69, s83_70, s83_71, s83_74, s83_77, s83_80, s83_81, s83_82, s83_85, s83_88, s83_91, s83_94, s83_95, s83_96, s83_99, s83_102, s83_105, s83_106, s83_107, s83_110, s83_113, s83_116, s83_117, s83_118, s83_121, s83_124, s83_125, s83_126, s83_129, s83_132, kont_some, kont_none, w32_of, if_true, if_false, tdv, tmd, setA_eq, up_setA, rd_hi, Int.reduceToNat, if_neg (show ¬ (1 : Int) = 0 by decide), Nat.reduceAdd, if_pos q7, y3]
  simp only [if_neg q7]
  simp (disch := first | assumption | omega | decide | exact b2i_01 _ | (unfold lx; omega)) only [s83_133, s83_135, kont_some, kont_none, w32_of, if_true, if_false, tdv, tmd, setA_eq, up_setA, rd_hi, Int.reduceToNat, if_neg (show ¬ (1 : Int) = 0 by decide)]
theorem s_ranked (hS : S.length ≤ 2048) (hW : Wd D) : ∀ Q, (wp 86 0 [.inr (.inl 8), .inl p] [] (hp S D) Q ↔ Q (some (.inl (m157 D p))) (hp S D)) := by
  have t8 : tg 8 = 7 := rfl
  have t9 : tg 9 = 0 := rfl
  have t12 : tg 12 = 6 := rfl
  intro Q
  have c62' := fun Q' => c62 (S := S) (D := D) (Q := Q') (p := p) t12 hS hW.1.1.2.2.2.1 hW.2.1.1
  unfold m157
  by_cases h1 : p < 0
  · simp (disch := first | assumption | omega | decide | exact b2i_01 _ | (unfold lx; omega)) only [s86_0, s86_1, s86_4, s86_6, s86_7, s86_8, s86_11, s86_14, s86_15, s86_18, kont_some, kont_none, w32_of, if_true, if_false, tdv, tmd, setA_eq, up_setA, rd_hi, Int.reduceToNat, if_neg (show ¬ (1 : Int) = 0 by decide), Nat.reduceAdd, if_pos h1]
  · simp (disch := first | assumption | omega | decide | exact b2i_01 _ | (unfold lx; omega)) only [s86_0, s86_1, s86_4, s86_6, s86_7, s86_8, s86_11, s86_14, s86_15, s86_18, kont_some, kont_none, w32_of, if_true, if_false, tdv, tmd, setA_eq, up_setA, rd_hi, Int.reduceToNat, if_neg (show ¬ (1 : Int) = 0 by decide), Nat.reduceAdd, if_neg h1, c62']
theorem rat_g {S : List Int} {D : eD} {g z : Nat} {i : Int} (hg : tg g = 1) (hz : z = g + 1 ∨ z = g + 2 ∨ z = g + 3) (h0 : 0 ≤ i) (h1 : i < 10) : rat S D z i = D z i.toNat := by
  obtain ⟨h8, t1, t2, t3, l1', l2', l3'⟩ := lg_tg0 g (tg_lt (by omega)) hg
  have l : ln S z = 10 := by
    rw [ln_hi (by omega)]
    rcases hz with rfl | rfl | rfl <;> assumption
  unfold rat
  rw [if_pos (by omega), rd_hi (by omega)]
theorem s_event (hS : S.length ≤ 2048) (hW : Wd D) : ∀ Q, (wp 88 0 [.inr (.inl 8), .inl p, .inl w, .inr (.inl 0)] [] (hp S D) Q ↔ Q (some (.inl (m159 D p w))) (hp S D)) := by
  have t8 : tg 8 = 7 := rfl
  have t9 : tg 9 = 0 := rfl
  have t25 : tg 25 = 1 := rfl
  have t26 : tg 26 = 100 := rfl
  have t27 : tg 27 = 100 := rfl
  have t28 : tg 28 = 100 := rfl
  intro Q
  have hR := hW.1.1
  have hF := hW.2.1.1
  have b80 : 0 ≤ D 159 80 ∧ D 159 80 ≤ 10 := hF.2.2.2.2.2.2.2.2.2.2.2.2.2.2.2.2.2.2.2.2.1
  obtain ⟨l1, l2, l3⟩ := hR.2.2.2.2.2
  have l1' : D 25 3 = D 159 80 := l1
  have l2' : 0 ≤ D 25 4 ∧ D 25 4 ≤ 9 := l2
  unfold m159
  by_cases h1 : p < 0
  · rw [if_pos h1]
    simp (disch := first | assumption | omega | decide | exact b2i_01 _ | (unfold lx; omega)) only [s88_0, s88_1, s88_4, s88_5, s88_6, s88_7, s88_10, s88_13, s88_15, s88_16, s88_17, s88_20, s88_23, s88_24, s88_27, s88_28, s88_29, s88_31, s88_34, s88_36, s88_37, s88_64, s88_65, s88_68, s88_71, s88_74, s88_75, s88_78, s88_79, s88_80, s88_83, s88_86, s88_89, s88_90, s88_93, s88_94, s88_95, s88_98, s88_101, s88_104, s88_105, s88_108, kont_some, kont_none, w32_of, if_true, if_false, tdv, tmd, setA_eq, up_setA, rd_hi, Int.reduceToNat, if_neg (show ¬ (1 : Int) = 0 by decide), Nat.reduceAdd, if_pos h1]
  · rw [if_neg h1]
    have c18' := fun Q' => c18 (S := S) (D := D) (Q := Q') (p := p) t25 (by omega) (by omega) (by omega)
    by_cases h2 : 0 ≤ w ∧ w ≤ 2
    · rw [if_pos h2]
      by_cases h3 : p < D 159 80
      · rw [if_pos h3]
        rw [if_pos (by omega)] at c18'
        obtain ⟨z1, z2, z3⟩ := l3 p (by omega) h3
        have z1' : D 26 ((D 25 4 - 1 - p) % 10).toNat = D 159 (81 + 3 * (D 159 80 - 1 - p) + 0).toNat := z1
        have z2' : D 27 ((D 25 4 - 1 - p) % 10).toNat = D 159 (81 + 3 * (D 159 80 - 1 - p) + 1).toNat := z2
        have z3' : D 28 ((D 25 4 - 1 - p) % 10).toNat = D 159 (81 + 3 * (D 159 80 - 1 - p) + 2).toNat := z3
        have r1 : rat S D 26 ((D 25 4 - 1 - p) % 10) = _ := (rat_g t25 (by omega) (by omega) (by omega)).trans z1'
        have r2 : rat S D 27 ((D 25 4 - 1 - p) % 10) = _ := (rat_g t25 (by omega) (by omega) (by omega)).trans z2'
        have r3 : rat S D 28 ((D 25 4 - 1 - p) % 10) = _ := (rat_g t25 (by omega) (by omega) (by omega)).trans z3'
        have nr : ¬ (D 25 4 - 1 - p) % 10 = -5 := by omega
        have st : wp 88 0 [.inr (.inl 8), .inl p, .inl w, .inr (.inl 0)] [] (hp S D) Q ↔ wp 88 38 [.inr (.inl 8), .inl p, .inl w, .inl ((D 25 4 - 1 - p) % 10)] [.inl w] (hp S D) Q := by
          simp (disch := first | assumption | omega | decide | exact b2i_01 _ | (unfold lx; omega)) only [s88_0, s88_1, s88_4, s88_5, s88_6, s88_7, s88_10, s88_13, s88_15, s88_16, s88_17, s88_20, s88_23, s88_24, s88_27, s88_28, s88_29, s88_31, s88_34, s88_36, s88_37, kont_some, kont_none, w32_of, if_true, if_false, tdv, tmd, setA_eq, up_setA, rd_hi, Int.reduceToNat, if_neg (show ¬ (1 : Int) = 0 by decide), Nat.reduceAdd, if_neg h1, c91, b2i_t h2, c18', if_neg nr]
        rw [st, s88_38]
        rcases (show w = 0 ∨ w = 1 ∨ w = 2 by omega) with rfl | rfl | rfl
        · simp (disch := first | assumption | omega | decide | exact b2i_01 _ | (unfold lx; omega)) only [s88_64, s88_65, s88_68, s88_71, s88_74, s88_75, s88_78, s88_79, s88_80, s88_83, s88_86, s88_89, s88_90, s88_93, s88_94, s88_95, s88_98, s88_101, s88_104, s88_105, s88_108, kont_some, kont_none, w32_of, if_true, if_false, tdv, tmd, setA_eq, up_setA, rd_hi, Int.reduceToNat, if_neg (show ¬ (1 : Int) = 0 by decide), Nat.reduceAdd, Int.reduceEq, c51, r1]
        · simp (disch := first | assumption | omega | decide | exact b2i_01 _ | (unfold lx; omega)) only [s88_64, s88_65, s88_68, s88_71, s88_74, s88_75, s88_78, s88_79, s88_80, s88_83, s88_86, s88_89, s88_90, s88_93, s88_94, s88_95, s88_98, s88_101, s88_104, s88_105, s88_108, kont_some, kont_none, w32_of, if_true, if_false, tdv, tmd, setA_eq, up_setA, rd_hi, Int.reduceToNat, if_neg (show ¬ (1 : Int) = 0 by decide), Nat.reduceAdd, Int.reduceEq, c51, r2]
        · simp (disch := first | assumption | omega | decide | exact b2i_01 _ | (unfold lx; omega)) only [s88_64, s88_65, s88_68, s88_71, s88_74, s88_75, s88_78, s88_79, s88_80, s88_83, s88_86, s88_89, s88_90, s88_93, s88_94, s88_95, s88_98, s88_101, s88_104, s88_105, s88_108, kont_some, kont_none, w32_of, if_true, if_false, tdv, tmd, setA_eq, up_setA, rd_hi, Int.reduceToNat, if_neg (show ¬ (1 : Int) = 0 by decide), Nat.reduceAdd, Int.reduceEq, c51, r3]
      · rw [if_neg h3]
        rw [if_neg (by omega)] at c18'
        simp (disch := first | assumption | omega | decide | exact b2i_01 _ | (unfold lx; omega)) only [s88_0, s88_1, s88_4, s88_5, s88_6, s88_7, s88_10, s88_13, s88_15, s88_16, s88_17, s88_20, s88_23, s88_24, s88_27, s88_28, s88_29, s88_31, s88_34, s88_36, s88_37, s88_64, s88_65, s88_68, s88_71, s88_74, s88_75, s88_78, s88_79, s88_80, s88_83, s88_86, s88_89, s88_90, s88_93, s88_94, s88_95, s88_98, s88_101, s88_104, s88_105, s88_108, kont_some, kont_none, w32_of, if_true, if_false, tdv, tmd, setA_eq, up_setA, rd_hi, Int.reduceToNat, if_neg (show ¬ (1 : Int) = 0 by decide), Nat.reduceAdd, if_neg h1, c91, b2i_t h2, c18']
    · rw [if_neg h2]
      simp (disch := first | assumption | omega | decide | exact b2i_01 _ | (unfold lx; omega)) only [s88_0, s88_1, s88_4, s88_5, s88_6, s88_7, s88_10, s88_13, s88_15, s88_16, s88_17, s88_20, s88_23, s88_24, s88_27, s88_28, s88_29, s88_31, s88_34, s88_36, s88_37, s88_64, s88_65, s88_68, s88_71, s88_74, s88_75, s88_78, s88_79, s88_80, s88_83, s88_86, s88_89, s88_90, s88_93, s88_94, s88_95, s88_98, s88_101, s88_104, s88_105, s88_108, kont_some, kont_none, w32_of, if_true, if_false, tdv, tmd, setA_eq, up_setA, rd_hi, Int.reduceToNat, if_neg (show ¬ (1 : Int) = 0 by decide), Nat.reduceAdd, if_neg h1, c91, b2i_f h2]
theorem s_count (hS : S.length ≤ 2048) (hW : Wd D) : ∀ Q, (wp 89 0 [.inr (.inl 8), .inl w] [] (hp S D) Q ↔ Q (some (.inl (m161 D w))) (hp S D)) := by
  have t8 : tg 8 = 7 := rfl
  have t9 : tg 9 = 0 := rfl
  have t11 : tg 11 = 100 := rfl
  have t12 : tg 12 = 6 := rfl
  have t21 : tg 21 = 4 := rfl
  have t70 : tg 70 = 2 := rfl
  have t152 : tg 152 = 5 := rfl
  intro Q
  have hR := hW.1.1
  have hF := hW.2.1.1
  obtain ⟨y1, y2, y3, y4, y5, y6, y7, y8⟩ := hR.1
  have c64' := fun Q' => c64 (S := S) (D := D) (Q := Q') t12 hS hR.2.2.2.1
  have c65' := fun Q' => c65 (S := S) (D := D) (Q := Q') t12 hS hR.2.2.2.1
  have c66' := fun Q' => c66 (S := S) (D := D) (Q := Q') t12 hS hR.2.2.2.1 hF
  have e49 : D 21 3 = D 159 49 := hR.2.2.2.2.1.1
  have eh : D 70 1 = D 158 3 := hW.1.2.1.1
  have el : D 152 1 = D 158 7 := hW.1.2.2.2.1.1
  have t0 : rat S D 11 0 = D 159 41 := ((rat_b t9).2 (by decide) (by decide)).trans (hR.2.2.1 0 (by omega))
  have t1 : rat S D 11 1 = D 159 42 := ((rat_b t9).2 (by decide) (by decide)).trans (hR.2.2.1 1 (by omega))
  have t2 : rat S D 11 2 = D 159 43 := ((rat_b t9).2 (by decide) (by decide)).trans (hR.2.2.1 2 (by omega))
  unfold m161
  have st : wp 89 0 [.inr (.inl 8), .inl w] [] (hp S D) Q ↔ wp 89 1 [.inr (.inl 8), .inl w] [.inl w] (hp S D) Q := by
    simp (disch := first | assumption | omega | decide | exact b2i_01 _ | (unfold lx; omega)) only [s89_0, kont_some, kont_none, w32_of, if_true, if_false, tdv, tmd, setA_eq, up_setA, rd_hi, Int.reduceToNat, if_neg (show ¬ (1 : Int) = 0 by decide)]
  rw [st, s89_1]
  by_cases q0 : w = 0
  · simp only [if_pos q0]
    simp (disch := first | assumption | omega | decide | exact b2i_01 _ | (unfold lx; omega)) only [s89_72, s89_73, s89_76, s89_79, s89_80, s89_81, s89_84, s89_87, s89_90, s89_91, s89_92, s89_95, s89_98, s89_101, s89_102, s89_103, s89_106, s89_109, s89_112, s89_113, s89_114, s89_117, s89_120, s89_121, s89_122, s89_123, s89_126, s89_127, s89_128, s89_131, s89_134, s89_135, s89_136, s89_139, s89_142, s89_143, s89_144, s89_147, s89_150, s89_151, s89_152, s89_155, s89_158, s89_159, s89_160, s89_163, s89_166, s89_169, s89_170, s89_171, s89_174, s89_177, s89_178, s89_179, s89_182, s89_185, kont_some, kont_none, w32_of, if_true, if_false, tdv, tmd, setA_eq, up_setA, rd_hi, Int.reduceToNat, if_neg (show ¬ (1 : Int) = 0 by decide), Nat.reduceAdd, y1]
  simp only [if_neg q0]
  by_cases q1 : w = 1
  · simp only [if_pos q1]
    subst q1
    simp (disch := first | assumption | omega | decide | exact b2i_01 _ | (unfold lx; omega)) only [s89_72, s89_73, s89_76, s89_79, s89_80, s89_81, s89_84, s89_87, s89_90, s89_91, s89_92, s89_95, s89_98, s89_101, s89_102, s89_103, s89_106, s89_109, s89_112, s89_113, s89_114, s89_117, s89_120, s89_121, s89_122, s89_123, s89_126, s89_127, s89_128, s89_131, s89_134, s89_135, s89_136, s89_139, s89_142, s89_143, s89_144, s89_147, s89_150, s89_151, s89_152, s89_155, s89_158, s89_159, s89_160, s89_163, s89_166, s89_169, s89_170, s89_171, s89_174, s89_177, s89_178, s89_179, s89_182, s89_185, kont_some, kont_none, w32_of, if_true, if_false, tdv, tmd, setA_eq, up_setA, rd_hi, Int.reduceToNat, if_neg (show ¬ (1 : Int) = 0 by decide), Nat.reduceAdd, Int.reduceEq, c64']
  simp only [if_neg q1]
  by_cases q2 : w = 2
  · simp only [if_pos q2]
    subst q2
    simp (disch := first | assumption | omega | decide | exact b2i_01 _ | (unfold lx; omega)) only [s89_72, s89_73, s89_76, s89_79, s89_80, s89_81, s89_84, s89_87, s89_90, s89_91, s89_92, s89_95, s89_98, s89_101, s89_102, s89_103, s89_106, s89_109, s89_112, s89_113, s89_114, s89_117, s89_120, s89_121, s89_122, s89_123, s89_126, s89_127, s89_128, s89_131, s89_134, s89_135, s89_136, s89_139, s89_142, s89_143, s89_144, s89_147, s89_150, s89_151, s89_152, s89_155, s89_158, s89_159, s89_160, s89_163, s89_166, s89_169, s89_170, s89_171, s89_174, s89_177, s89_178, s89_179, s89_182, s89_185, kont_some, kont_none, w32_of, if_true, if_false, tdv, tmd, setA_eq, up_setA, rd_hi, Int.reduceToNat, if_neg (show ¬ (1 : Int) = 0 by decide), Nat.reduceAdd, Int.reduceEq, c65']
  simp only [if_neg q2]
  by_cases q3 : w = 3
  · simp only [if_pos q3]
    subst q3
    simp (disch := first | assumption | omega | decide | exact b2i_01 _ | (unfold lx; omega)) only [s89_72, s89_73, s89_76, s89_79, s89_80, s89_81, s89_84, s89_87, s89_90, s89_91, s89_92, s89_95, s89_98, s89_101, s89_102, s89_103, s89_106, s89_109, s89_112, s89_113, s89_114, s89_117, s89_120, s89_121, s89_122, s89_123, s89_126, s89_127, s89_128, s89_131, s89_134, s89_135, s89_136, s89_139, s89_142, s89_143, s89_144, s89_147, s89_150, s89_151, s89_152, s89_155, s89_158, s89_159, s89_160, s89_163, s89_166, s89_169, s89_170, s89_171, s89_174, s89_177, s89_178, s89_179, s89_182, s89_185, kont_some, kont_none, w32_of, if_true, if_false, tdv, tmd, setA_eq, up_setA, rd_hi, Int.reduceToNat, if_neg (show ¬ (1 : Int) = 0 by decide), Nat.reduceAdd, Int.reduceEq, c66']
  simp only [if_neg q3]
  by_cases q4 : w = 4
  · simp only [if_pos q4]
    subst q4
    simp (disch := first | assumption | omega | decide | exact b2i_01 _ | (unfold lx; omega)) only [s89_72, s89_73, s89_76, s89_79, s89_80, s89_81, s89_84, s89_87, s89_90, s89_91, s89_92, s89_95, s89_98, s89_101, s89_102, s89_103, s89_106, s89_109, s89_112, s89_113, s89_114, s89_117, s89_120, s89_121, s89_122, s89_123, s89_126, s89_127, s89_128, s89_131, s89_134, s89_135, s89_136, s89_139, s89_142, s89_143, s89_144, s89_147, s89_150, s89_151, s89_152, s89_155, s89_158, s89_159, s89_160, s89_163, s89_166, s89_169, s89_170, s89_171, s89_174, s89_177, s89_178, s89_179, s89_182, s89_185, kont_some, kont_none, w32_of, if_true, if_false, tdv, tmd, setA_eq, up_setA, rd_hi, Int.reduceToNat, if_neg (show ¬ (1 : Int) = 0 by decide), Nat.reduceAdd, Int.reduceEq, Int.reduceSub, c51, t0]
  simp only [if_neg q4]
  by_cases q5 : w = 5
  · simp only [if_pos q5]
    subst q5
    simp (disch := first | assumption | omega | decide | exact b2i_01 _ | (unfold lx; omega)) only [s89_72, s89_73, s89_76, s89_79, s89_80, s89_81, s89_84, s89_87, s89_90, s89_91, s89_92, s89_95, s89_98, s89_101, s89_102, s89_103, s89_106, s89_109, s89_112, s89_113, s89_114, s89_117, s89_120, s89_121, s89_122, s89_123, s89_126, s89_127, s89_128, s89_131, s89_134, s89_135, s89_136, s89_139, s89_142, s89_143, s89_144, s89_147, s89_150, s89_151, s89_152, s89_155, s89_158, s89_159, s89_160, s89_163, s89_166, s89_169, s89_170, s89_171, s89_174, s89_177, s89_178, s89_179, s89_182, s89_185, kont_some, kont_none, w32_of, if_true, if_false, tdv, tmd, setA_eq, up_setA, rd_hi, Int.reduceToNat, if_neg (show ¬ (1 : Int) = 0 by decide), Nat.reduceAdd, Int.reduceEq, Int.reduceSub, c51, t1]
  simp only [if_neg q5]
  by_cases q6 : w = 6
  · simp only [if_pos q6]
    subst q6
    simp (disch := first | assumption | omega | decide | exact b2i_01 _ | (unfold lx; omega)) only [s89_72, s89_73, s89_76, s89_79, s89_80, s89_81, s89_84, s89_87, s89_90, s89_91, s89_92, s89_95, s89_98, s89_101, s89_102, s89_103, s89_106, s89_109, s89_112, s89_113, s89_114, s89_117, s89_120, s89_121, s89_122, s89_123, s89_126, s89_127, s89_128, s89_131, s89_134, s89_135, s89_136, s89_139, s89_142, s89_143, s89_144, s89_147, s89_150, s89_151, s89_152, s89_155, s89_158, s89_159, s89_160, s89_163, s89_166, s89_169, s89_170, s89_171, s89_174, s89_177, s89_178, s89_179, s89_182, s89_185, kont_some, kont_none, w32_of, if_true, if_false, tdv, tmd, setA_eq, up_setA, rd_hi, Int.reduceToNat, if_neg (show ¬ (1 : Int) = 0 by decide), Nat.reduceAdd, Int.reduceEq, Int.reduceSub, c51, t2]
  simp only [if_neg q6]
  by_cases q7 : w = 7
  · simp only [if_pos q7]
    simp (disch := first | assumption | omega | decide | exact b2i_01 _ | (unfold lx; omega)) only [s89_72, s89_73, s89_76, s89_79, s89_80, s89_81, s89_84, s89_87, s89_90, s89_91, s89_92, s89_95, s89_98, s89_101, s89_102, s89_103, s89_106, s89_109, s89_112, s89_113, s89_114, s89_117, s89_120, s89_121, s89_122, s89_123, s89_126, s89_127, s89_128, s89_131, s89_134, s89_135, s89_136, s89_139, s89_142, s89_143, s89_144, s89_147, s89_150, s89_151, s89_152, s89_155, s89_158, s89_159, s89_160, s89_163, s89_166, s89_169, s89_170, s89_171, s89_174, s89_177, s89_178, s89_179, s89_182, s89_185, kont_some, kont_none, w32_of, if_true, if_false, tdv, tmd, setA_eq, up_setA, rd_hi, Int.reduceToNat, if_neg (show ¬ (1 : Int) = 0 by decide), Nat.reduceAdd, y4]
  simp only [if_neg q7]
  by_cases q8 : w = 8
  · simp only [if_pos q8]
    simp (disch := first | assumption | omega | decide | exact b2i_01 _ | (unfold lx; omega)) only [s89_72, s89_73, s89_76, s89_79, s89_80, s89_81, s89_84, s89_87, s89_90, s89_91, s89_92, s89_95, s89_98, s89_101, s89_102, s89_103, s89_106, s89_109, s89_112, s89_113, s89_114, s89_117, s89_120, s89_121, s89_122, s89_123, s89_126, s89_127, s89_128, s89_131, s89_134, s89_135, s89_136, s89_139, s89_142, s89_143, s89_144, s89_147, s89_150, s89_151, s89_152, s89_155, s89_158, s89_159, s89_160, s89_163, s89_166, s89_169, s89_170, s89_171, s89_174, s89_177, s89_178, s89_179, s89_182, s89_185, kont_some, kont_none, w32_of, if_true, if_false, tdv, tmd, setA_eq, up_setA, rd_hi, Int.reduceToNat, if_neg (show ¬ (1 : Int) = 0 by decide), Nat.reduceAdd, y5]
  simp only [if_neg q8]
  by_cases q9 : w = 9
  · simp only [if_pos q9]
    simp (disch := first | assumption | omega | decide | exact b2i_01 _ | (unfold lx; omega)) only [s89_72, s89_73, s89_76, s89_79, s89_80, s89_81, s89_84, s89_87, s89_90, s89_91, s89_92, s89_95, s89_98, s89_101, s89_102, s89_103, s89_106, s89_109, s89_112, s89_113, s89_114, s89_117, s89_120, s89_121, s89_122, s89_123, s89_126, s89_127, s89_128, s89_131, s89_134, s89_135, s89_136, s89_139, s89_142, s89_143, s89_144, s89_147, s89_150, s89_151, s89_152, s89_155, s89_158, s89_159, s89_160, s89_163, s89_166, s89_169, s89_170, s89_171, s89_174, s89_177, s89_178, s89_179, s89_182, s89_185, kont_some, kont_none, w32_of, if_true, if_false, tdv, tmd, setA_eq, up_setA, rd_hi, Int.reduceToNat, if_neg (show ¬ (1 : Int) = 0 by decide), Nat.reduceAdd, y6]
  simp only [if_neg q9]
  by_cases q10 : w = 10
  · simp only [if_pos q10]
    simp (disch := first | assumption | omega | decide | exact b2i_01 _ | (unfold lx; omega)) only [s89_72, s89_73, s89_76, s89_79, s89_80, s89_81, s89_84, s89_87, s89_90, s89_91, s89_92, s89_95, s89_98, s89_101, s89_102, s89_103, s89_106, s89_109, s89_112, s89_113, s89_114, s89_117, s89_120, s89_121, s89_122, s89_123, s89_126, s89_127, s89_128, s89_131, s89_134, s89_135, s89_136, s89_139, s89_142, s89_143, s89_144, s89_147, s89_150, s89_151, s89_152, s89_155, s89_158, s89_159, s89_160, s89_163, s89_166, s89_169, s89_170, s89_171, s89_174, s89_177, s89_178, s89_179, s89_182, s89_185, kont_some, kont_none, w32_of, if_true, if_false, tdv, tmd, setA_eq, up_setA, rd_hi, Int.reduceToNat, if_neg (show ¬ (1 : Int) = 0 by decide), Nat.reduceAdd, y7]
  simp only [if_neg q10]
  by_cases q11 : w = 11
  · simp only [if_pos q11]
    simp (disch := first | assumption | omega | decide | exact b2i_01 _ | (unfold lx; omega)) only [s89_72, s89_73, s89_76, s89_79, s89_80, s89_81, s89_84, s89_87, s89_90, s89_91, s89_92, s89_95, s89_98, s89_101, s89_102, s89_103, s89_106, s89_109, s89_112, s89_113, s89_114, s89_117, s89_120, s89_121, s89_122, s89_123, s89_126, s89_127, s89_128, s89_131, s89_134, s89_135, s89_136, s89_139, s89_142, s89_143, s89_144, s89_147, s89_150, s89_151, s89_152, s89_155, s89_158, s89_159, s89_160, s89_163, s89_166, s89_169, s89_170, s89_171, s89_174, s89_177, s89_178, s89_179, s89_182, s89_185, kont_some, kont_none, w32_of, if_true, if_false, tdv, tmd, setA_eq, up_setA, rd_hi, Int.reduceToNat, if_neg (show ¬ (1 : Int) = 0 by decide), Nat.reduceAdd, e49]
  simp only [if_neg q11]
  by_cases q12 : w = 12
  · simp only [if_pos q12]
    simp (disch := first | assumption | omega | decide | exact b2i_01 _ | (unfold lx; omega)) only [s89_72, s89_73, s89_76, s89_79, s89_80, s89_81, s89_84, s89_87, s89_90, s89_91, s89_92, s89_95, s89_98, s89_101, s89_102, s89_103, s89_106, s89_109, s89_112, s89_113, s89_114, s89_117, s89_120, s89_121, s89_122, s89_123, s89_126, s89_127, s89_128, s89_131, s89_134, s89_135, s89_136, s89_139, s89_142, s89_143, s89_144, s89_147, s89_150, s89_151, s89_152, s89_155, s89_158, s89_159, s89_160, s89_163, s89_166, s89_169, s89_170, s89_171, s89_174, s89_177, s89_178, s89_179, s89_182, s89_185, kont_some, kont_none, w32_of, if_true, if_false, tdv, tmd, setA_eq, up_setA, rd_hi, Int.reduceToNat, if_neg (show ¬ (1 : Int) = 0 by decide), Nat.reduceAdd, eh]
  simp only [if_neg q12]
  by_cases q13 : w = 13
  · simp only [if_pos q13]
    simp (disch := first | assumption | omega | decide | exact b2i_01 _ | (unfold lx; omega)) only [s89_72, s89_73, s89_76, s89_79, s89_80, s89_81, s89_84, s89_87, s89_90, s89_91, s89_92, s89_95, s89_98, s89_101, s89_102, s89_103, s89_106, s89_109, s89_112, s89_113, s89_114, s89_117, s89_120, s89_121, s89_122, s89_123, s89_126, s89_127, s89_128, s89_131, s89_134, s89_135, s89_136, s89_139, s89_142, s89_143, s89_144, s89_147, s89_150, s89_151, s89_152, s89_155, s89_158, s89_159, s89_160, s89_163, s89_166, s89_169, s89_170, s89_171, s89_174, s89_177, s89_178, s89_179, s89_182, s89_185, kont_some, kont_none, w32_of, if_true, if_false, tdv, tmd, setA_eq, up_setA, rd_hi, Int.reduceToNat, if_neg (show ¬ (1 : Int) = 0 by decide), Nat.reduceAdd, el]
  simp only [if_neg q13]
  simp (disch := first | assumption | omega | decide | exact b2i_01 _ | (unfold lx; omega)) only [s89_186, s89_188, kont_some, kont_none, w32_of, if_true, if_false, tdv, tmd, setA_eq, up_setA, rd_hi, Int.reduceToNat, if_neg (show ¬ (1 : Int) = 0 by decide)]
theorem s_setting (hS : S.length ≤ 2048) (hW : Wd D) : ∀ Q, (wp 90 0 [.inr (.inl 8), .inl w] [] (hp S D) Q ↔ Q (some (.inl (m162 D w))) (hp S D)) := by
  have t8 : tg 8 = 7 := rfl
  have t9 : tg 9 = 0 := rfl
  have t10 : tg 10 = 100 := rfl
  intro Q
  unfold m162
  by_cases h1 : 0 ≤ w ∧ w ≤ 3
  · rw [if_pos h1]
    have e3 : rat S D 10 w = D 159 (3 + w).toNat := ((rat_b t9).1 h1.1 (by omega)).trans ((hW.1.1.2.1 _ (by omega)).trans (congrArg _ (by omega)))
    simp (disch := first | assumption | omega | decide | exact b2i_01 _ | (unfold lx; omega)) only [s90_0, s90_1, s90_4, s90_7, s90_8, s90_9, s90_10, s90_13, s90_16, s90_17, s90_20, kont_some, kont_none, w32_of, if_true, if_false, tdv, tmd, setA_eq, up_setA, rd_hi, Int.reduceToNat, if_neg (show ¬ (1 : Int) = 0 by decide), Nat.reduceAdd, c92, b2i_t h1, c51, e3]
  · rw [if_neg h1]
    simp (disch := first | assumption | omega | decide | exact b2i_01 _ | (unfold lx; omega)) only [s90_0, s90_1, s90_4, s90_7, s90_8, s90_9, s90_10, s90_13, s90_16, s90_17, s90_20, kont_some, kont_none, w32_of, if_true, if_false, tdv, tmd, setA_eq, up_setA, rd_hi, Int.reduceToNat, if_neg (show ¬ (1 : Int) = 0 by decide), Nat.reduceAdd, c92, b2i_f h1]
end SPEC72
