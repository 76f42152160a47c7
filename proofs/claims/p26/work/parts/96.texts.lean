/-! the texts, walked -/
section SPEC96
variable {S : List Int} {D E : eD} {G : eH} {Q : Option eV → eH → Prop}
theorem w_texts : ∃ G2 : eH, (G2.length = G.length + 2700 ∧ zs G2 = zs G + 18 * z0) ∧ ∀ Q, (wp 110 0 [.inr (.inl 0), .inr (.inl 0)] [] (em G [] (hS S)) Q ↔ Q (some (.inl 1)) (em G2 [] (hS S))) := by
  obtain ⟨G1, g1, e1⟩ := w_fault (S := S) (G := G) fk0
  obtain ⟨G2, g2, e2⟩ := w_fault (S := S) (G := G1) fk1
  obtain ⟨G3, g3, e3⟩ := w_fault (S := S) (G := G2) fk2
  obtain ⟨G4, g4, e4⟩ := w_fault (S := S) (G := G3) fk3
  obtain ⟨G5, g5, e5⟩ := w_fault (S := S) (G := G4) fk4
  obtain ⟨G6, g6, e6⟩ := w_fault (S := S) (G := G5) fk5
  obtain ⟨G7, g7, e7⟩ := w_fault (S := S) (G := G6) fk6
  obtain ⟨G8, g8, e8⟩ := w_fault (S := S) (G := G7) fk7
  obtain ⟨G9, g9, e9⟩ := w_fault (S := S) (G := G8) fk8
  obtain ⟨G10, g10, e10⟩ := w_fault (S := S) (G := G9) fk9
  obtain ⟨G11, g11, e11⟩ := w_fault (S := S) (G := G10) fk10
  obtain ⟨G12, g12, e12⟩ := w_fault (S := S) (G := G11) fk11
  obtain ⟨G13, g13, e13⟩ := w_fault (S := S) (G := G12) fk12
  obtain ⟨G14, g14, e14⟩ := w_fault (S := S) (G := G13) fk13
  obtain ⟨G15, g15, e15⟩ := w_fault (S := S) (G := G14) fk14
  obtain ⟨G16, g16, e16⟩ := w_fault (S := S) (G := G15) fk15
  obtain ⟨G17, g17, e17⟩ := w_fault (S := S) (G := G16) fk16
  obtain ⟨H, gH, eH⟩ := w_closed (S := S) (G := G17) (D := dt7) fc_ok (by rfl) fk_last
  have eH2 : ∀ Q, (wp 110 350 [.inr (.inl (8 + G17.length)), .inr (.inl 0)] [] (em G17 [] (hp S dt7)) Q ↔ Q (some (.inl 1)) (em H [] (hS S))) := eH
  have a1 : ∀ Q, (wp 110 0 [.inr (.inl 0), .inr (.inl 0)] [] (em G [] (hS S)) Q ↔ wp 110 100 [.inr (.inl 0), .inr (.inl 0)] [] (em G9 [] (hS S)) Q) := fun Q => by
    simp (disch := first | assumption | omega | decide | exact b2i_01 _ | (unfold lx; omega)) only [s110_0, s110_1, s110_2, s110_5, s110_8, s110_11, s110_12, s110_15, s110_16, s110_19, s110_22, s110_23, s110_26, s110_27, s110_30, s110_33, s110_34, s110_37, s110_38, s110_41, s110_44, s110_45, s110_48, s110_49, s110_52, s110_55, s110_56, s110_59, s110_60, s110_63, s110_66, s110_67, s110_70, s110_71, s110_74, s110_77, s110_78, s110_81, s110_82, s110_85, s110_88, s110_91, s110_94, s110_95, kont_some, kont_none, w32_of, if_true, if_false, tdv, tmd, setA_eq, up_setA, rd_hi, Int.reduceToNat, if_neg (show ¬ (1 : Int) = 0 by decide), Int.reduceEq, Int.reduceNeg, e1, e2, e3, e4, e5, e6, e7, e8, e9]
  have a2 : ∀ Q, (wp 110 100 [.inr (.inl 0), .inr (.inl 0)] [] (em G9 [] (hS S)) Q ↔ wp 110 193 [.inr (.inl 0), .inr (.inl 0)] [] (em G17 [] (hS S)) Q) := fun Q => by
    simp (disch := first | assumption | omega | decide | exact b2i_01 _ | (unfold lx; omega)) only [s110_100, s110_103, s110_104, s110_107, s110_108, s110_111, s110_114, s110_115, s110_118, s110_120, s110_123, s110_126, s110_127, s110_130, s110_131, s110_134, s110_137, s110_140, s110_143, s110_144, s110_147, s110_150, s110_151, s110_154, s110_155, s110_158, s110_161, s110_162, s110_165, s110_168, s110_171, s110_172, s110_175, s110_176, s110_179, s110_182, s110_183, s110_186, s110_188, s110_191, kont_some, kont_none, w32_of, if_true, if_false, tdv, tmd, setA_eq, up_setA, rd_hi, Int.reduceToNat, if_neg (show ¬ (1 : Int) = 0 by decide), Int.reduceEq, Int.reduceNeg, e10, e11, e12, e13, e14, e15, e16, e17]
  have a3 : ∀ Q, (wp 110 193 [.inr (.inl 0), .inr (.inl 0)] [] (em G17 [] (hS S)) Q ↔ wp 110 201 [.inr (.inl (8 + G17.length)), .inr (.inl 0)] [] (em G17 [] (hp S Dz)) Q) := fun Q => by
    simp (disch := first | assumption | omega | decide | exact b2i_01 _ | (unfold lx; omega)) only [s110_193, s110_196, s110_197, s110_200, kont_some, kont_none, w32_of, if_true, if_false, tdv, tmd, setA_eq, up_setA, rd_hi, Int.reduceToNat, if_neg (show ¬ (1 : Int) = 0 by decide), w_init]
  have c0 : ∀ Q, (wp 108 0 [.inr (.inl (8 + G17.length)), .inr (.inr (Int64.ofInt 3979546513514443578)), .inr (.inl 0), .inr (.inl 0), .inr (.inl 0), .inr (.inl 0)] [] (em G17 [] (hp S Dz)) Q ↔ Q (some (.inl 1)) (em G17 [] (hp S dt1))) := fun Q => c_call fc0 Q
  have c1 : ∀ Q, (wp 108 0 [.inr (.inl (8 + G17.length)), .inr (.inr (Int64.ofInt 3636716262634697080)), .inr (.inl 0), .inr (.inl 0), .inr (.inl 0), .inr (.inl 0)] [] (em G17 [] (hp S dt1)) Q ↔ Q (some (.inl 1)) (em G17 [] (hp S dt2))) := fun Q => c_call fc1 Q
  have c2 : ∀ Q, (wp 108 0 [.inr (.inl (8 + G17.length)), .inr (.inr (Int64.ofInt 50)), .inr (.inl 0), .inr (.inl 0), .inr (.inl 0), .inr (.inl 0)] [] (em G17 [] (hp S dt2)) Q ↔ Q (some (.inl 1)) (em G17 [] (hp S dt3))) := fun Q => c_call fc2 Q
  have c3 : ∀ Q, (wp 89 0 [.inr (.inl (8 + G17.length)), .inl 13] [] (em G17 [] (hp S dt3)) Q ↔ Q (some (.inl 17)) (em G17 [] (hp S dt3))) := fun Q => c_call fc3 Q
  have c4 : ∀ Q, (wp 75 0 [.inr (.inl (8 + G17.length)), .inr (.inl 0)] [] (em G17 [] (hp S dt3)) Q ↔ Q (some (.inl 2)) (em G17 [] (hp S dt4))) := fun Q => c_call fc4 Q
  have c5 : ∀ Q, (wp 87 0 [.inr (.inl (8 + G17.length)), .inl 0, .inl 0, .inr (.inl 0)] [] (em G17 [] (hp S dt4)) Q ↔ Q (some (.inl 3)) (em G17 [] (hp S dt4))) := fun Q => c_call fc5 Q
  have c6 : ∀ Q, (wp 87 0 [.inr (.inl (8 + G17.length)), .inl 1, .inl 0, .inr (.inl 0)] [] (em G17 [] (hp S dt4)) Q ↔ Q (some (.inl 7)) (em G17 [] (hp S dt4))) := fun Q => c_call fc6 Q
  have c7 : ∀ Q, (wp 87 0 [.inr (.inl (8 + G17.length)), .inl 1, .inl 1, .inr (.inl 0)] [] (em G17 [] (hp S dt4)) Q ↔ Q (some (.inl 1)) (em G17 [] (hp S dt4))) := fun Q => c_call fc7 Q
  have c8 : ∀ Q, (wp 87 0 [.inr (.inl (8 + G17.length)), .inl 1, .inl 2, .inr (.inl 0)] [] (em G17 [] (hp S dt4)) Q ↔ Q (some (.inl 2)) (em G17 [] (hp S dt4))) := fun Q => c_call fc8 Q
  have c9 : ∀ Q, (wp 87 0 [.inr (.inl (8 + G17.length)), .inl 2, .inl 0, .inr (.inl 0)] [] (em G17 [] (hp S dt4)) Q ↔ Q (some (.inl (-5))) (em G17 [] (hp S dt4))) := fun Q => c_call fc9 Q
  have c10 : ∀ Q, (wp 89 0 [.inr (.inl (8 + G17.length)), .inl 12] [] (em G17 [] (hp S dt4)) Q ↔ Q (some (.inl 1)) (em G17 [] (hp S dt4))) := fun Q => c_call fc10 Q
  have c11 : ∀ Q, (wp 75 0 [.inr (.inl (8 + G17.length)), .inr (.inl 0)] [] (em G17 [] (hp S dt4)) Q ↔ Q (some (.inl 2)) (em G17 [] (hp S dt5))) := fun Q => c_call fc11 Q
  have c12 : ∀ Q, (wp 89 0 [.inr (.inl (8 + G17.length)), .inl 12] [] (em G17 [] (hp S dt5)) Q ↔ Q (some (.inl 2)) (em G17 [] (hp S dt5))) := fun Q => c_call fc12 Q
  have c13 : ∀ Q, (wp 78 0 [.inr (.inl (8 + G17.length)), .inr (.inl 0)] [] (em G17 [] (hp S dt5)) Q ↔ Q (some (.inl 17)) (em G17 [] (hp S dt6))) := fun Q => c_call fc13 Q
  have c14 : ∀ Q, (wp 75 0 [.inr (.inl (8 + G17.length)), .inr (.inl 0)] [] (em G17 [] (hp S dt6)) Q ↔ Q (some (.inl (-100))) (em G17 [] (hp S dt7))) := fun Q => c_call fc14 Q
  have a4 : ∀ Q, (wp 110 201 [.inr (.inl (8 + G17.length)), .inr (.inl 0)] [] (em G17 [] (hp S Dz)) Q ↔ wp 110 350 [.inr (.inl (8 + G17.length)), .inr (.inl 0)] [] (em G17 [] (hp S dt7)) Q) := fun Q => by
    simp (disch := first | assumption | omega | decide | exact b2i_01 _ | (unfold lx; omega)) only [s110_201, s110_202, s110_205, s110_208, s110_211, s110_212, s110_215, s110_218, s110_221, s110_222, s110_225, s110_228, s110_231, s110_232, s110_234, s110_237, s110_239, s110_242, s110_243, s110_246, s110_247, s110_250, s110_251, s110_252, s110_253, s110_256, s110_257, s110_260, s110_261, s110_262, s110_263, s110_266, s110_268, s110_271, s110_272, s110_273, s110_274, s110_277, s110_278, s110_281, s110_282, s110_283, s110_284, s110_287, s110_288, s110_291, s110_292, s110_293, s110_294, s110_297, s110_299, s110_302, s110_303, s110_305, s110_308, s110_309, s110_312, s110_313, s110_316, s110_317, s110_320, s110_321, s110_323, s110_326, s110_327, s110_330, s110_331, s110_334, s110_336, s110_339, s110_340, s110_343, s110_345, kont_some, kont_none, w32_of, if_true, if_false, tdv, tmd, setA_eq, up_setA, rd_hi, Int.reduceToNat, if_neg (show ¬ (1 : Int) = 0 by decide), Int.reduceEq, Int.reduceNeg, c0, c1, c2, c3, c4, c5, c6, c7, c8, c9, c10, c11, c12, c13, c14]
  have hg : H.length = G.length + 2700 := by
    rw [gH.1, g17.1, g16.1, g15.1, g14.1, g13.1, g12.1, g11.1, g10.1, g9.1, g8.1, g7.1, g6.1, g5.1, g4.1, g3.1, g2.1, g1.1]
  have hz : zs H = zs G + 18 * z0 := by
    rw [gH.2, g17.2, g16.2, g15.2, g14.2, g13.2, g12.2, g11.2, g10.2, g9.2, g8.2, g7.2, g6.2, g5.2, g4.2, g3.2, g2.2, g1.2]
    generalize z0 = z
    generalize zs G = y
    omega
  exact ⟨H, ⟨hg, hz⟩, fun Q => by rw [a1, a2, a3, a4, eH2]⟩
end SPEC96
