/-! the check's own beacon: the night and the day walk -/
theorem fu_lo {F : eRow} {j i : Nat} {v : Int} (h : j ≠ i) : fu F i v j = F j := fu_ne h
theorem St_brn1 {F : eRow} {s : Int} (h : St F) (h1 : 0 ≤ s) (h2 : s ≤ 5) (hw : F (lx s 2) ≤ 1065) : St (brn1 F s) ∧ brn1 F s (lx s 4) + 1 ≤ brn1 F s (lx s 2) := by
  have hl := h.1 s h1 h2
  obtain ⟨b1, b2, b3, b4, b5, b6, b7, b8⟩ := hl
  have n0 : lx s 0 ≠ lx s 2 := by unfold lx; omega
  have n1 : lx s 1 ≠ lx s 2 := by unfold lx; omega
  have n3 : lx s 3 ≠ lx s 2 := by unfold lx; omega
  have n4 : lx s 4 ≠ lx s 2 := by unfold lx; omega
  unfold brn1
  refine ⟨St_l1 h h1 h2 (fun j hj => fu_ne (by unfold lx at hj ⊢; omega)) ?_, by rw [fu_eq, fu_ne n4]; omega⟩
  unfold LmB
  rw [fu_ne n0, fu_ne n1, fu_eq, fu_ne n3, fu_ne n4]
  omega
theorem St_brn2 {F : eRow} {s : Int} (h : St F) (h1 : 0 ≤ s) (h2 : s ≤ 5) (hw : F (lx s 4) + 1 ≤ F (lx s 2)) : St (brn2 F s) := by
  have hl := h.1 s h1 h2
  obtain ⟨b1, b2, b3, b4, b5, b6, b7, b8⟩ := hl
  have n0 : lx s 0 ≠ lx s 4 := by unfold lx; omega
  have n1 : lx s 1 ≠ lx s 4 := by unfold lx; omega
  have n3 : lx s 3 ≠ lx s 4 := by unfold lx; omega
  have n2 : lx s 2 ≠ lx s 4 := by unfold lx; omega
  unfold brn2
  refine St_l1 h h1 h2 (fun j hj => fu_ne (by unfold lx at hj ⊢; omega)) ?_
  unfold LmB
  rw [fu_ne n0, fu_ne n1, fu_eq, fu_ne n3, fu_ne n2]
  split <;> omega
theorem St_brn3 {F : eRow} {s : Int} (h : St F) (h1 : 0 ≤ s) (h2 : s ≤ 5) (h47 : F 47 + 1 ≤ 4000000) : St (brn3 F s) := by
  have hl := h.1 s h1 h2
  obtain ⟨b1, b2, b3, b4, b5, b6, b7, b8⟩ := hl
  have n0 : lx s 0 ≠ lx s 3 := by unfold lx; omega
  have n1 : lx s 1 ≠ lx s 3 := by unfold lx; omega
  have n4 : lx s 4 ≠ lx s 3 := by unfold lx; omega
  have n2 : lx s 2 ≠ lx s 3 := by unfold lx; omega
  have q3 := lx_b (p := 3) h1 h2 (by omega) (by omega)
  unfold brn3
  split
  · refine St_hap (St_l1 h h1 h2 (fun j hj => fu_ne (by unfold lx at hj ⊢; omega)) ?_) (by rw [fu_ne (by omega)]; exact h47)
    unfold LmB
    rw [fu_ne n0, fu_ne n1, fu_eq, fu_ne n4, fu_ne n2]
    omega
  · exact h
theorem St_10 {F : eRow} {v : Int} (h : St F) (hv : v = 0 ∨ v = 1) : St (fu F 10 v) := by
  have h' := h
  obtain ⟨a0, a1, a2, a3, a4, a5, a6, a7, a8, a9, a10, -⟩ := h'
  refine St_wh h (fun j hj => fu_ne (by omega)) ?_ ?_ ?_
  · rw [fu_ne (by decide)]; exact a8
  · rw [fu_ne (by decide), fu_ne (by decide)]; exact a9
  · rw [fu_eq]; exact hv
theorem St_brn4 {F : eRow} {s : Int} (h : St F) (h47 : F 47 + 1 ≤ 4000000) : St (brn4 F s) := by
  unfold brn4
  split
  · exact St_10 (St_hap (St_10 h (Or.inr rfl)) (by rw [fu_ne (by decide)]; exact h47)) (Or.inl rfl)
  · exact St_10 h (Or.inr rfl)
theorem brn3_47 {F : eRow} {s : Int} (h1 : 0 ≤ s) (h2 : s ≤ 5) : F 47 ≤ brn3 F s 47 ∧ brn3 F s 47 ≤ F 47 + 1 := by
  have q3 := lx_b (p := 3) h1 h2 (by omega) (by omega)
  unfold brn3
  split
  · have := hapF_47b (F := fu F (lx s 3) 1) (a := 1) (b := s)
    rw [fu_ne (by omega)] at this
    exact this
  · omega
theorem brn4_47 {F : eRow} {s : Int} : F 47 ≤ brn4 F s 47 ∧ brn4 F s 47 ≤ F 47 + 1 := by
  unfold brn4
  split
  · have := hapF_47b (F := fu F 10 1) (a := 0) (b := s)
    rw [fu_ne (by decide)] at this
    rw [fu_ne (by decide)]
    exact this
  · rw [fu_ne (by decide)]
    omega
theorem brnF_47 {F : eRow} {s : Int} (h1 : 0 ≤ s) (h2 : s ≤ 5) : F 47 ≤ brnF F s 47 ∧ brnF F s 47 ≤ F 47 + 2 := by
  have q2 := lx_b (p := 2) h1 h2 (by omega) (by omega)
  have q4 := lx_b (p := 4) h1 h2 (by omega) (by omega)
  have e1 : brn1 F s 47 = F 47 := fu_ne (by omega)
  have e2 : brn2 (brn1 F s) s 47 = F 47 := by unfold brn2; rw [fu_ne (by omega), e1]
  have e3 := brn3_47 (F := brn2 (brn1 F s) s) h1 h2
  have e4 := brn4_47 (F := brn3 (brn2 (brn1 F s) s) s) (s := s)
  unfold brnF
  omega
theorem St_brn {F : eRow} {s : Int} (h : St F) (h1 : 0 ≤ s) (h2 : s ≤ 5) (hw : F (lx s 2) ≤ 1065) (h47 : F 47 + 2 ≤ 4000000) : St (brnF F s) := by
  have q2 := lx_b (p := 2) h1 h2 (by omega) (by omega)
  have q4 := lx_b (p := 4) h1 h2 (by omega) (by omega)
  obtain ⟨s1, w1⟩ := St_brn1 h h1 h2 hw
  have s2 := St_brn2 s1 h1 h2 w1
  have e1 : brn1 F s 47 = F 47 := fu_ne (by omega)
  have e2 : brn2 (brn1 F s) s 47 = F 47 := by unfold brn2; rw [fu_ne (by omega), e1]
  have s3 := St_brn3 s2 h1 h2 (by omega)
  have e3 := brn3_47 (F := brn2 (brn1 F s) s) h1 h2
  exact St_brn4 s3 (by omega)
theorem St_Bok {F : eRow} {s fr : Int} (h : St F) (h1 : 0 ≤ s) (h2 : s ≤ 5) (hg : 50 ≤ F (lx s 1)) : Bok F s := by
  obtain ⟨a0, a1, a2, a3, a4, a5, a6, a7, a8, a9, a10, a11, a12, a13, a14, a15, a16, a17, a18, a19, a20, a21⟩ := h
  exact ⟨(a0 s h1 h2).a, hg, by omega, by omega, a20.1, a20.2, a17.1⟩
section SPEC26
variable {S : List Int} {D : eD} {h : eH} {Q : Option eV → eH → Prop} {r : Nat} {s p v x fr : Int} {F : eRow}
theorem c124 (ha : tg r = 100) (hl : ln S r = 111) (h8 : 8 ≤ r) (hs : St F) (h47 : F 47 + 5 ≤ 4000000) : wp 124 0 [.inr r, .inr 0, .inr 0] [] (hp S (setA D r F)) Q ↔ Q (some (.inl (litF F).1)) (hp S (setA D r (litF F).2)) := by
  have h0 := tg_ne0 ha (by decide)
  have hs' := hs
  obtain ⟨a0, a1, a2, a3, a4, a5, a6, a7, a8, a9, a10, a11, a12, a13, a14, a15, a16, a17, a18, a19, a20, a21⟩ := hs'
  have hL : ∀ s, 0 ≤ s → s ≤ 5 → LmA F s := fun s h1 h2 => (a0 s h1 h2).a
  have hl7 := hL _ a8.1 a8.2
  obtain ⟨f0, f5⟩ := a8
  refine wp_iff ?_ Q
  unfold litF
  by_cases hg : goF F (F 7) 0
  · have hgb := good_lm (a0 _ f0 f5) hg
    have hw2 : 0 ≤ F (lx (F 7) 2) := (a0 _ f0 f5).2.2.1
    rw [if_pos hg]
    by_cases hb : F 10 = 0
    · rw [if_pos hb]
      have hsS := St_litS hs hg
      have e7 : litS F 7 = F 7 := fu_ne (by unfold lx; omega)
      have e47 : litS F 47 = F 47 := fu_ne (by unfold lx; omega)
      have h3 := @by3_10 (F (lx (F 7) 0))
      have eS : fu F (lx (F 7) 2) (F (lx (F 7) 2) + by3 (F (lx (F 7) 0)) 10 15 5) = litS F := rfl
      have hlS : LmA (litS F) (F 7) := (hsS.1 _ f0 f5).a
      have hS80 : 0 ≤ litS F 80 ∧ litS F 80 ≤ 10 := hsS.2.2.2.2.2.2.2.2.2.2.2.2.2.2.2.2.2.2.2.2.1
      obtain ⟨g1, g2⟩ := hS80
      have g3 : 0 ≤ litS F 47 := by omega
      have g4 : litS F 47 ≤ 2000000000 := by omega
      by_cases ho : outF (litS F) (F 7)
      · rw [if_pos ho]
        simp (disch := first | assumption | omega | decide | exact b2i_01 _ | (unfold lx; omega)) only [s124_0, s124_1, s124_3, s124_4, s124_5, s124_6, s124_7, s124_8, s124_11, s124_14, s124_15, s124_18, s124_19, s124_20, s124_22, s124_25, s124_26, s124_27, s124_30, s124_31, s124_32, s124_35, s124_36, s124_37, s124_38, s124_41, s124_42, s124_43, s124_44, s124_46, s124_47, s124_50, s124_51, s124_52, s124_53, s124_54, s124_55, s124_56, s124_59, s124_60, s124_61, s124_62, s124_65, s124_67, s124_69, s124_70, s124_73, s124_74, s124_77, s124_78, s124_79, s124_82, s124_85, s124_86, s124_87, s124_88, s124_91, s124_92, s124_93, s124_94, s124_95, s124_98, s124_99, kont_some, kont_none, w32_of, if_true, if_false, tdv, tmd, setA_eq, up_setA, rd_hi, Int.reduceToNat, if_neg (show ¬ (1 : Int) = 0 by decide), c117, c106, c107, c111, c114, c120, b2i_t hg, eS, b2i_t ho, hb]
        (first | done | trivial | exact ⟨rfl, trivial⟩ | exact ⟨rfl, rfl⟩ | exact ⟨trivial, trivial⟩ | rfl | (simp; done) | fail "stuck")
      · rw [if_neg ho]
        have hB : Bok (litS F) (F 7) := St_Bok (fr := 0) hsS f0 f5 (by unfold litS; rw [fu_ne (by unfold lx; omega)]; omega)
        have w2 : litS F (lx (F 7) 2) ≤ 1998 := by unfold litS; rw [fu_eq]; omega
        have w4 : litS F (lx (F 7) 4) ≤ 1998 := by have := hlS; unfold LmA at this; have := (hsS.1 _ f0 f5); unfold LmB at this; omega
        have w47 : litS F 47 ≤ 1900000000 := by omega
        simp (disch := first | assumption | omega | decide | exact b2i_01 _ | (unfold lx; omega)) only [s124_0, s124_1, s124_3, s124_4, s124_5, s124_6, s124_7, s124_8, s124_11, s124_14, s124_15, s124_18, s124_19, s124_20, s124_22, s124_25, s124_26, s124_27, s124_30, s124_31, s124_32, s124_35, s124_36, s124_37, s124_38, s124_41, s124_42, s124_43, s124_44, s124_46, s124_47, s124_50, s124_51, s124_52, s124_53, s124_54, s124_55, s124_56, s124_59, s124_60, s124_61, s124_62, s124_65, s124_67, s124_69, s124_70, s124_73, s124_74, s124_77, s124_78, s124_79, s124_82, s124_85, s124_86, s124_87, s124_88, s124_91, s124_92, s124_93, s124_94, s124_95, s124_98, s124_99, kont_some, kont_none, w32_of, if_true, if_false, tdv, tmd, setA_eq, up_setA, rd_hi, Int.reduceToNat, if_neg (show ¬ (1 : Int) = 0 by decide), c117, c106, c107, c111, c114, c123, b2i_t hg, eS, b2i_f ho, hb]
        (first | done | trivial | exact ⟨rfl, trivial⟩ | exact ⟨rfl, rfl⟩ | exact ⟨trivial, trivial⟩ | rfl | (simp; done) | fail "stuck")
    · rw [if_neg hb]
      have hB : Bok F (F 7) := St_Bok (fr := 0) hs f0 f5 (by omega)
      have hl7b := a0 _ f0 f5
      have w2 : F (lx (F 7) 2) ≤ 1998 := by omega
      have w4 : F (lx (F 7) 4) ≤ 1998 := by unfold LmB at hl7b; omega
      have w47 : F 47 ≤ 1900000000 := by omega
      simp (disch := first | assumption | omega | decide | exact b2i_01 _ | (unfold lx; omega)) only [s124_0, s124_1, s124_3, s124_4, s124_5, s124_6, s124_7, s124_8, s124_11, s124_14, s124_15, s124_18, s124_19, s124_20, s124_22, s124_25, s124_26, s124_27, s124_30, s124_31, s124_32, s124_35, s124_36, s124_37, s124_38, s124_41, s124_42, s124_43, s124_44, s124_46, s124_47, s124_50, s124_51, s124_52, s124_53, s124_54, s124_55, s124_56, s124_59, s124_60, s124_61, s124_62, s124_65, s124_67, s124_69, s124_70, s124_73, s124_74, s124_77, s124_78, s124_79, s124_82, s124_85, s124_86, s124_87, s124_88, s124_91, s124_92, s124_93, s124_94, s124_95, s124_98, s124_99, kont_some, kont_none, w32_of, if_true, if_false, tdv, tmd, setA_eq, up_setA, rd_hi, Int.reduceToNat, if_neg (show ¬ (1 : Int) = 0 by decide), c117, c123, b2i_t hg, hb]
      (first | done | trivial | exact ⟨rfl, trivial⟩ | exact ⟨rfl, rfl⟩ | exact ⟨trivial, trivial⟩ | rfl | (simp; done) | fail "stuck")
  · rw [if_neg hg]
    have hn := nxt_b (F := F) f0
    by_cases h1 : nxtF F = -5 ∨ nxtF F = F 7
    · rw [if_pos h1]
      rcases h1 with h1 | h1
      · simp (disch := first | assumption | omega | decide | exact b2i_01 _ | (unfold lx; omega)) only [s124_0, s124_1, s124_3, s124_4, s124_5, s124_6, s124_7, s124_8, s124_11, s124_14, s124_15, s124_18, s124_19, s124_20, s124_22, s124_25, s124_26, s124_27, s124_30, s124_31, s124_32, s124_35, s124_36, s124_37, s124_38, s124_41, s124_42, s124_43, s124_44, s124_46, s124_47, s124_50, s124_51, s124_52, s124_53, s124_54, s124_55, s124_56, s124_59, s124_60, s124_61, s124_62, s124_65, s124_67, s124_69, s124_70, s124_73, s124_74, s124_77, s124_78, s124_79, s124_82, s124_85, s124_86, s124_87, s124_88, s124_91, s124_92, s124_93, s124_94, s124_95, s124_98, s124_99, kont_some, kont_none, w32_of, if_true, if_false, tdv, tmd, setA_eq, up_setA, rd_hi, Int.reduceToNat, if_neg (show ¬ (1 : Int) = 0 by decide), c117, c119, b2i_f hg, h1]
        (first | done | trivial | exact ⟨rfl, trivial⟩ | exact ⟨rfl, rfl⟩ | exact ⟨trivial, trivial⟩ | rfl | (simp; done) | fail "stuck")
      · by_cases h2 : F 7 = -5
        · omega
        · simp (disch := first | assumption | omega | decide | exact b2i_01 _ | (unfold lx; omega)) only [s124_0, s124_1, s124_3, s124_4, s124_5, s124_6, s124_7, s124_8, s124_11, s124_14, s124_15, s124_18, s124_19, s124_20, s124_22, s124_25, s124_26, s124_27, s124_30, s124_31, s124_32, s124_35, s124_36, s124_37, s124_38, s124_41, s124_42, s124_43, s124_44, s124_46, s124_47, s124_50, s124_51, s124_52, s124_53, s124_54, s124_55, s124_56, s124_59, s124_60, s124_61, s124_62, s124_65, s124_67, s124_69, s124_70, s124_73, s124_74, s124_77, s124_78, s124_79, s124_82, s124_85, s124_86, s124_87, s124_88, s124_91, s124_92, s124_93, s124_94, s124_95, s124_98, s124_99, kont_some, kont_none, w32_of, if_true, if_false, tdv, tmd, setA_eq, up_setA, rd_hi, Int.reduceToNat, if_neg (show ¬ (1 : Int) = 0 by decide), c117, c119, b2i_f hg, h1, h2]
          (first | done | trivial | exact ⟨rfl, trivial⟩ | exact ⟨rfl, rfl⟩ | exact ⟨trivial, trivial⟩ | rfl | (simp; done) | fail "stuck")
    · rw [if_neg h1]
      have h2 : ¬ nxtF F = -5 := fun q => h1 (Or.inl q)
      have h3 : ¬ nxtF F = F 7 := fun q => h1 (Or.inr q)
      have hsT := St_tur hs (s := nxtF F) (by omega) (by omega) h3
      have hT80 : 0 ≤ turF F (nxtF F) 80 ∧ turF F (nxtF F) 80 ≤ 10 := hsT.2.2.2.2.2.2.2.2.2.2.2.2.2.2.2.2.2.2.2.2.1
      have hT47 : 0 ≤ turF F (nxtF F) 47 ∧ turF F (nxtF F) 47 ≤ 4000000 := hsT.2.2.2.2.2.2.2.2.2.2.2.2.2.2.2.2.2.1
      obtain ⟨t1, t2⟩ := hT80
      obtain ⟨t3, t4⟩ := hT47
      have n0 : 0 ≤ nxtF F := by omega
      have n5 : nxtF F ≤ 5 := by omega
      simp (disch := first | assumption | omega | decide | exact b2i_01 _ | (unfold lx; omega)) only [s124_0, s124_1, s124_3, s124_4, s124_5, s124_6, s124_7, s124_8, s124_11, s124_14, s124_15, s124_18, s124_19, s124_20, s124_22, s124_25, s124_26, s124_27, s124_30, s124_31, s124_32, s124_35, s124_36, s124_37, s124_38, s124_41, s124_42, s124_43, s124_44, s124_46, s124_47, s124_50, s124_51, s124_52, s124_53, s124_54, s124_55, s124_56, s124_59, s124_60, s124_61, s124_62, s124_65, s124_67, s124_69, s124_70, s124_73, s124_74, s124_77, s124_78, s124_79, s124_82, s124_85, s124_86, s124_87, s124_88, s124_91, s124_92, s124_93, s124_94, s124_95, s124_98, s124_99, kont_some, kont_none, w32_of, if_true, if_false, tdv, tmd, setA_eq, up_setA, rd_hi, Int.reduceToNat, if_neg (show ¬ (1 : Int) = 0 by decide), c117, c119, c121, c120, b2i_f hg, h2, h3]
      (first | done | trivial | exact ⟨rfl, trivial⟩ | exact ⟨rfl, rfl⟩ | exact ⟨trivial, trivial⟩ | rfl | (simp; done) | fail "stuck")
theorem c125 (ha : tg r = 100) (hl : ln S r = 111) (h8 : 8 ≤ r) (hs : St F) (h47 : F 47 + 5 ≤ 4000000) : wp 125 0 [.inr r, .inr 0] [] (hp S (setA D r F)) Q ↔ Q none (hp S (setA D r (dayF F))) := by
  have h0 := tg_ne0 ha (by decide)
  have hG := St_10 (v := 0) hs (Or.inl rfl)
  have e7 : fu F 10 0 7 = F 7 := fu_ne (by decide)
  have e47 : fu F 10 0 47 = F 47 := fu_ne (by decide)
  have e : wp 125 0 [.inr r, .inr 0] [] (hp S (setA D r F)) Q ↔ wp 125 5 [.inr r, .inr 0] [] (hp S (setA D r (fu F 10 0))) Q := by
    simp (disch := first | assumption | omega | decide | exact b2i_01 _ | (unfold lx; omega)) only [s125_0, s125_1, s125_3, s125_4, kont_some, kont_none, w32_of, if_true, if_false, tdv, tmd, setA_eq, up_setA, rd_hi, Int.reduceToNat, if_neg (show ¬ (1 : Int) = 0 by decide)]
  rw [e]
  unfold dayF
  rw [← e7]
  rw [← e47] at h47
  generalize fu F 10 0 = G at *
  have hG' := hG
  obtain ⟨a0, a1, a2, a3, a4, a5, a6, a7, a8, a9, a10, a11, a12, a13, a14, a15, a16, a17, a18, a19, a20, a21⟩ := hG'
  have hL : ∀ s, 0 ≤ s → s ≤ 5 → LmA G s := fun s h1 h2 => (a0 s h1 h2).a
  obtain ⟨f0, f5⟩ := a8
  have hl7 := hL _ f0 f5
  refine wp_iff ?_ Q
  by_cases hg : goF G (G 7) 1
  · rw [if_neg (fun q => q.1 hg)]
    have hg2 : (¬ G (lx (G 7) 0) = -5 ∧ G (lx (G 7) 2) < lfF G (G 7)) ∧ ¬ G (lx (G 7) 3) = 1 := ⟨hg.1, fun q => hg.2 ⟨rfl, q⟩⟩
    simp (disch := first | assumption | omega | decide | exact b2i_01 _ | (unfold lx; omega)) only [s125_0, s125_1, s125_3, s125_4, s125_5, s125_6, s125_7, s125_10, s125_11, s125_12, s125_13, s125_15, s125_16, s125_17, s125_20, s125_23, s125_24, s125_26, s125_29, s125_30, s125_31, s125_34, s125_35, s125_36, s125_37, s125_40, kont_some, kont_none, w32_of, if_true, if_false, tdv, tmd, setA_eq, up_setA, rd_hi, Int.reduceToNat, if_neg (show ¬ (1 : Int) = 0 by decide), c117, c118, true_and, b2i_t hg2]
    (first | done | trivial | exact ⟨rfl, trivial⟩ | exact ⟨rfl, rfl⟩ | exact ⟨trivial, trivial⟩ | rfl | (simp; done) | fail "stuck")
  · have hg2 : ¬ ((¬ G (lx (G 7) 0) = -5 ∧ G (lx (G 7) 2) < lfF G (G 7)) ∧ ¬ G (lx (G 7) 3) = 1) := fun q => hg ⟨q.1, fun z => q.2 z.2⟩
    by_cases hn : fndF G 1 6 1 = -5
    · rw [if_neg (fun q => q.2 hn)]
      simp (disch := first | assumption | omega | decide | exact b2i_01 _ | (unfold lx; omega)) only [s125_0, s125_1, s125_3, s125_4, s125_5, s125_6, s125_7, s125_10, s125_11, s125_12, s125_13, s125_15, s125_16, s125_17, s125_20, s125_23, s125_24, s125_26, s125_29, s125_30, s125_31, s125_34, s125_35, s125_36, s125_37, s125_40, kont_some, kont_none, w32_of, if_true, if_false, tdv, tmd, setA_eq, up_setA, rd_hi, Int.reduceToNat, if_neg (show ¬ (1 : Int) = 0 by decide), c117, c118, true_and, b2i_f hg2, hn]
      (first | done | trivial | exact ⟨rfl, trivial⟩ | exact ⟨rfl, rfl⟩ | exact ⟨trivial, trivial⟩ | rfl | (simp; done) | fail "stuck")
    · rw [if_pos ⟨hg, hn⟩]
      have hb := fnd_b (F := G) (fr := 1) 6 1 (by omega)
      have hb2 : 0 ≤ fndF G 1 6 1 ∧ fndF G 1 6 1 ≤ 5 ∧ goF G (fndF G 1 6 1) 1 := hb.resolve_left hn
      obtain ⟨n0, n5, ng⟩ := hb2
      have h3 : fndF G 1 6 1 ≠ G 7 := fun q => hg (by rw [← q]; exact ng)
      have hsT := St_tur hG n0 n5 h3
      have hT80 : 0 ≤ turF G (fndF G 1 6 1) 80 ∧ turF G (fndF G 1 6 1) 80 ≤ 10 := hsT.2.2.2.2.2.2.2.2.2.2.2.2.2.2.2.2.2.2.2.2.1
      have hT47 : 0 ≤ turF G (fndF G 1 6 1) 47 ∧ turF G (fndF G 1 6 1) 47 ≤ 4000000 := hsT.2.2.2.2.2.2.2.2.2.2.2.2.2.2.2.2.2.1
      obtain ⟨t1, t2⟩ := hT80
      obtain ⟨t3, t4⟩ := hT47
      simp (disch := first | assumption | omega | decide | exact b2i_01 _ | (unfold lx; omega)) only [s125_0, s125_1, s125_3, s125_4, s125_5, s125_6, s125_7, s125_10, s125_11, s125_12, s125_13, s125_15, s125_16, s125_17, s125_20, s125_23, s125_24, s125_26, s125_29, s125_30, s125_31, s125_34, s125_35, s125_36, s125_37, s125_40, kont_some, kont_none, w32_of, if_true, if_false, tdv, tmd, setA_eq, up_setA, rd_hi, Int.reduceToNat, if_neg (show ¬ (1 : Int) = 0 by decide), c117, c118, c121, c120, true_and, b2i_f hg2, hn]
      (first | done | trivial | exact ⟨rfl, trivial⟩ | exact ⟨rfl, rfl⟩ | exact ⟨trivial, trivial⟩ | rfl | (simp; done) | fail "stuck")
def lowF (F : eRow) : Int := if 0 < F 41 then 0 else if 0 < F 42 then 1 else if 0 < F 43 then 2 else -5
theorem c126 (ha : tg r = 100) (hl : ln S r = 111) (h8 : 8 ≤ r) : wp 126 0 [.inr r] [] (hp S (setA D r F)) Q ↔ Q (some (.inl (lowF F))) (hp S (setA D r F)) := by
  have h0 := tg_ne0 ha (by decide)
  refine wp_iff ?_ Q
  unfold lowF
  by_cases h1 : 0 < F 41
  · rw [if_pos h1]; simp (disch := first | assumption | omega | decide | exact b2i_01 _ | (unfold lx; omega)) only [s126_0, s126_1, s126_3, s126_4, s126_7, s126_8, s126_11, s126_12, s126_14, s126_15, s126_18, s126_19, s126_22, s126_23, s126_25, s126_26, s126_29, s126_30, s126_33, s126_35, kont_some, kont_none, w32_of, if_true, if_false, b2i_eq0, ite_not, tdv, tmd, setA_eq, up_setA, fu_eq, fu_ne, rd_hi, Int.reduceToNat, h1]; (first | done | trivial | exact ⟨rfl, trivial⟩ | exact ⟨rfl, rfl⟩ | exact ⟨trivial, trivial⟩ | rfl | (simp; done) | fail "stuck")
  · rw [if_neg h1]
    by_cases h2 : 0 < F 42
    · rw [if_pos h2]; simp (disch := first | assumption | omega | decide | exact b2i_01 _ | (unfold lx; omega)) only [s126_0, s126_1, s126_3, s126_4, s126_7, s126_8, s126_11, s126_12, s126_14, s126_15, s126_18, s126_19, s126_22, s126_23, s126_25, s126_26, s126_29, s126_30, s126_33, s126_35, kont_some, kont_none, w32_of, if_true, if_false, b2i_eq0, ite_not, tdv, tmd, setA_eq, up_setA, fu_eq, fu_ne, rd_hi, Int.reduceToNat, h1, h2]; (first | done | trivial | exact ⟨rfl, trivial⟩ | exact ⟨rfl, rfl⟩ | exact ⟨trivial, trivial⟩ | rfl | (simp; done) | fail "stuck")
    · rw [if_neg h2]
      by_cases h3 : 0 < F 43
      · rw [if_pos h3]; simp (disch := first | assumption | omega | decide | exact b2i_01 _ | (unfold lx; omega)) only [s126_0, s126_1, s126_3, s126_4, s126_7, s126_8, s126_11, s126_12, s126_14, s126_15, s126_18, s126_19, s126_22, s126_23, s126_25, s126_26, s126_29, s126_30, s126_33, s126_35, kont_some, kont_none, w32_of, if_true, if_false, b2i_eq0, ite_not, tdv, tmd, setA_eq, up_setA, fu_eq, fu_ne, rd_hi, Int.reduceToNat, h1, h2, h3]; (first | done | trivial | exact ⟨rfl, trivial⟩ | exact ⟨rfl, rfl⟩ | exact ⟨trivial, trivial⟩ | rfl | (simp; done) | fail "stuck")
      · rw [if_neg h3]; simp (disch := first | assumption | omega | decide | exact b2i_01 _ | (unfold lx; omega)) only [s126_0, s126_1, s126_3, s126_4, s126_7, s126_8, s126_11, s126_12, s126_14, s126_15, s126_18, s126_19, s126_22, s126_23, s126_25, s126_26, s126_29, s126_30, s126_33, s126_35, kont_some, kont_none, w32_of, if_true, if_false, b2i_eq0, ite_not, tdv, tmd, setA_eq, up_setA, fu_eq, fu_ne, rd_hi, Int.reduceToNat, h1, h2, h3]; (first | done | trivial | exact ⟨rfl, trivial⟩ | exact ⟨rfl, rfl⟩ | exact ⟨trivial, trivial⟩ | rfl | (simp; done) | fail "stuck")
end SPEC26
