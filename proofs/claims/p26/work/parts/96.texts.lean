/-! the texts, walked -/
section SPEC96
variable {S : List Int} {D E : eD} {G : eH} {Q : Option eV → eH → Prop}
theorem w_texts : ∃ G2 : eH, (G2.length = G.length + 2700 ∧ zs G2 = zs G + 18 * z0) ∧ ∀ Q, (wp 110 0 [.inr (.inl 0), .inr (.inl 0)] [] (em G [] (hS S)) Q ↔ Q (some (.inl 1)) (em G2 [] (hS S))) := by
  obtain ⟨G1, g1, e1⟩ := w_fault (S := S) (G := G) fk0
  obtain ⟨G2, g2, e2⟩ := w_fault (S := S) (G := G1) fk1
  obtain ⟨G3, g3, e3⟩ := w_fault (S := S) (G := G2) fk2
  obtain ⟨G4, g4, e4⟩ := w_fault (S := S) (G := G3) fk3
  obtain ⟨G5, g5, e5⟩ := w_fault (S := S) (G := G4) fk4
  obtain ⟨G6, g6, e6⟩ := w_fault (S := S) (G := G5) fk5
  obtain ⟨G7, g7, e7⟩ := w_fault (S := S) (G := G6) fk6
  obtain ⟨G8, g8, e8⟩ := w_fault (S := S) (G := G7) fk7
  obtain ⟨G9, g9, e9⟩ := w_fault (S := S) (G := G8) fk8
  obtain ⟨G10, g10, e10⟩ := w_fault (S := S) (G := G9) fk9
  obtain ⟨G11, g11, e11⟩ := w_fault (S := S) (G := G10) fk10
  obtain ⟨G12, g12, e12⟩ := w_fault (S := S) (G := G11) fk11
  obtain ⟨G13, g13, e13⟩ := w_fault (S := S) (G := G12) fk12
  obtain ⟨G14, g14, e14⟩ := w_fault (S := S) (G := G13) fk13
  obtain ⟨G15, g15, e15⟩ := w_fault (S := S) (G := G14) fk14
  obtain ⟨G16, g16, e16⟩ := w_fault (S := S) (G := G15) fk15
  obtain ⟨G17, g17, e17⟩ := w_fault (S := S) (G := G16) fk16
  obtain ⟨H, gH, eH⟩ := w_closed (S := S) (G := G17) (by rfl) fk_last
  have eH2 : ∀ Q, (wp 110 201 [.inr (.inl (8 + G17.length)), .inr (.inl 0)] [] (em G17 [] (hp S Dz)) Q ↔ Q (some (.inl 1)) (em H [] (hS S))) := eH
  have a1 : ∀ Q, (wp 110 0 [.inr (.inl 0), .inr (.inl 0)] [] (em G [] (hS S)) Q ↔ wp 110 100 [.inr (.inl 0), .inr (.inl 0)] [] (em G9 [] (hS S)) Q) := fun Q => by
    simp (disch := first | assumption | omega | decide | exact b2i_01 _ | (unfold lx; omega)) only [s110_0, s110_1, s110_2, s110_5, s110_8, s110_11, s110_12, s110_15, s110_16, s110_19, s110_22, s110_23, s110_26, s110_27, s110_30, s110_33, s110_34, s110_37, s110_38, s110_41, s110_44, s110_45, s110_48, s110_49, s110_52, s110_55, s110_56, s110_59, s110_60, s110_63, s110_66, s110_67, s110_70, s110_71, s110_74, s110_77, s110_78, s110_81, s110_82, s110_85, s110_88, s110_91, s110_94, s110_95, kont_some, kont_none, w32_of, if_true, if_false, tdv, tmd, setA_eq, up_setA, rd_hi, Int.reduceToNat, if_neg (show ¬ (1 : Int) = 0 by decide), Int.reduceEq, Int.reduceNeg, e1, e2, e3, e4, e5, e6, e7, e8, e9]
  have a2 : ∀ Q, (wp 110 100 [.inr (.inl 0), .inr (.inl 0)] [] (em G9 [] (hS S)) Q ↔ wp 110 193 [.inr (.inl 0), .inr (.inl 0)] [] (em G17 [] (hS S)) Q) := fun Q => by
    simp (disch := first | assumption | omega | decide | exact b2i_01 _ | (unfold lx; omega)) only [s110_100, s110_103, s110_104, s110_107, s110_108, s110_111, s110_114, s110_115, s110_118, s110_120, s110_123, s110_126, s110_127, s110_130, s110_131, s110_134, s110_137, s110_140, s110_143, s110_144, s110_147, s110_150, s110_151, s110_154, s110_155, s110_158, s110_161, s110_162, s110_165, s110_168, s110_171, s110_172, s110_175, s110_176, s110_179, s110_182, s110_183, s110_186, s110_188, s110_191, kont_some, kont_none, w32_of, if_true, if_false, tdv, tmd, setA_eq, up_setA, rd_hi, Int.reduceToNat, if_neg (show ¬ (1 : Int) = 0 by decide), Int.reduceEq, Int.reduceNeg, e10, e11, e12, e13, e14, e15, e16, e17]
  have a3 : ∀ Q, (wp 110 193 [.inr (.inl 0), .inr (.inl 0)] [] (em G17 [] (hS S)) Q ↔ wp 110 201 [.inr (.inl (8 + G17.length)), .inr (.inl 0)] [] (em G17 [] (hp S Dz)) Q) := fun Q => by
    simp (disch := first | assumption | omega | decide | exact b2i_01 _ | (unfold lx; omega)) only [s110_193, s110_196, s110_197, s110_200, kont_some, kont_none, w32_of, if_true, if_false, tdv, tmd, setA_eq, up_setA, rd_hi, Int.reduceToNat, if_neg (show ¬ (1 : Int) = 0 by decide), w_init]
  have hg : H.length = G.length + 2700 := by
    rw [gH.1, g17.1, g16.1, g15.1, g14.1, g13.1, g12.1, g11.1, g10.1, g9.1, g8.1, g7.1, g6.1, g5.1, g4.1, g3.1, g2.1, g1.1]
  have hz : zs H = zs G + 18 * z0 := by
    rw [gH.2, g17.2, g16.2, g15.2, g14.2, g13.2, g12.2, g11.2, g10.2, g9.2, g8.2, g7.2, g6.2, g5.2, g4.2, g3.2, g2.2, g1.2]
    generalize z0 = z
    generalize zs G = y
    omega
  exact ⟨H, ⟨hg, hz⟩, fun Q => by rw [a1, a2, a3, eH2]⟩
end SPEC96
