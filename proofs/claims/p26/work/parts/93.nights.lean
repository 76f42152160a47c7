/-! the nights, walked -/
section SPEC93
variable {S : List Int} {D E : eD} {G : eH} {Q : Option eV → eH → Prop} {l0 l1 l2 : eV}
theorem na_0 (hS : S.length ≤ 2048) (hW : Wd D) (hF : D 159 = rowL nr0) (hu : D 158 3 = 0) (hk : D 158 5 = 0) : ∃ D2, Wd D2 ∧ D2 159 = rowL nr1 ∧ ∀ Q, (wp 107 8 [.inr (.inl (8 + G.length)), l1, l2] [] (em G [] (hp S D)) Q ↔ wp 107 91 [.inr (.inl (8 + G.length)), l1, l2] [] (em G [] (hp S D2)) Q) := by
  obtain ⟨D1, W1, q1, e1⟩ := u_zero (G := G) (W := []) (D := D) (S := S) hS hW hu
  have f1 := (q1 159 (by decide)).trans hF
  have hk1 : o105 (D1 159) (D1 162) (D1 158 5) = (-5, none) := by rw [show D1 158 5 = 0 by rw [q1 158 (by decide)]; exact hk]; rfl
  obtain ⟨D2, W2, q2, e2⟩ := cl_ref (G := G) (W := []) (r := -5) (s_restore (S := S) (D := D1) hS W1) hk1
  have e2' : ∀ Q, (wp 81 0 [.inr (.inl (8 + G.length))] [] (em G [] (hp S D1)) Q ↔ Q (some (.inl (-5))) (em G [] (hp S D2))) := e2
  have f2 := (q2 159 (by decide)).trans f1
  have v1 : m153 D2 4 = 1 := by
    have z := nk0
    rw [show rowL nr0 = D2 159 from f2.symm] at z
    exact z
  have v2 : m153 D2 5 = (-5) := by
    have z := nk1
    rw [show rowL nr0 = D2 159 from f2.symm] at z
    exact z
  obtain ⟨D3, W3, q3, e3⟩ := r_darkIn (G := G) (W := []) (D := D2) (S := S) hS W2
  rw [show (dinF 3001 0 (D2 159)).1 = 0 by rw [f2]; exact nk2] at e3
  have f3 := (q3 159 (by decide)).trans f2
  obtain ⟨D4, W4, q4, e4⟩ := r_tiredIn (G := G) (W := []) (D := D3) (S := S) (s := 0) hS W3
  rw [show (m154 D3 0).1 = (-4) by rw [m154_F, f3]; exact nk3] at e4
  have f4 := (q4 159 (by decide)).trans f3
  obtain ⟨D5, W5, f5, e5⟩ := n_ref (G := G) (W := []) (s_takeOut (S := S) (D := D4) (s := 0) hS W4) f4 (r := (-4)) (by rw [f4]; exact nk4)
  have e5' : ∀ Q, (wp 71 0 [.inr (.inl (8 + G.length)), .inl 0, .inr (.inl 0), .inr (.inl 0)] [] (em G [] (hp S D4)) Q ↔ Q (some (.inl (-4))) (em G [] (hp S D5))) := e5
  obtain ⟨D6, W6, f6, e6⟩ := n_act (G := G) (W := []) (s_pass (S := S) (D := D5) (v := 12) hS W5) (r := 12) (l := nr1) (by rw [f5]; exact nk5)
  have e6' : ∀ Q, (wp 76 0 [.inr (.inl (8 + G.length)), .inl 12, .inr (.inl 0), .inr (.inl 0)] [] (em G [] (hp S D5)) Q ↔ Q (some (.inl 12)) (em G [] (hp S D6))) := e6
  have v3 : m153 D6 4 = 0 := by
    have z := nk6
    rw [show rowL nr1 = D6 159 from f6.symm] at z
    exact z
  refine ⟨D6, W6, f6, fun Q => ?_⟩
  simp (disch := first | assumption | omega | decide | exact b2i_01 _ | (unfold lx; omega)) only [s107_8, s107_9, s107_12, s107_14, s107_17, s107_18, s107_21, s107_23, s107_26, s107_27, s107_28, s107_31, s107_32, s107_35, s107_36, s107_37, s107_40, s107_42, s107_45, s107_46, s107_49, s107_52, s107_53, s107_54, s107_57, s107_59, s107_62, s107_63, s107_64, s107_67, s107_69, s107_72, s107_73, s107_75, s107_78, s107_80, s107_83, s107_84, s107_85, s107_88, kont_some, kont_none, w32_of, if_true, if_false, tdv, tmd, setA_eq, up_setA, rd_hi, Int.reduceToNat, if_neg (show ¬ (1 : Int) = 0 by decide), Int.reduceEq, Int.reduceAdd, Int.reduceMul, Int.reduceSub, Int.reduceLT, Int.reduceLE, Int.reduceNeg, e1, e2', l_wheel hS W2, v1, v2, e3, e4, e5', e6', l_wheel hS W6, v3]
theorem na_1 (hS : S.length ≤ 2048) (hW : Wd D) (hF : D 159 = rowL nr1) : ∃ D2, Wd D2 ∧ D2 159 = rowL nr3 ∧ ∀ Q, (wp 107 91 [.inr (.inl (8 + G.length)), l1, l2] [] (em G [] (hp S D)) Q ↔ wp 107 186 [.inr (.inl (8 + G.length)), l1, l2] [] (em G [] (hp S D2)) Q) := by
  obtain ⟨D1, W1, f1, e1⟩ := n_act (G := G) (W := []) (s_putIn (S := S) (D := D) (s := 2) (a := 2) (b := 50) hS hW) (r := 100) (l := nr2) (by rw [hF]; exact nk7)
  have e1' : ∀ Q, (wp 70 0 [.inr (.inl (8 + G.length)), .inl 2, .inl 2, .inl 50, .inr (.inl 0)] [] (em G [] (hp S D)) Q ↔ Q (some (.inl 100)) (em G [] (hp S D1))) := e1
  obtain ⟨D2, W2, f2, e2⟩ := n_ref (G := G) (W := []) (s_putIn (S := S) (D := D1) (s := 2) (a := 0) (b := 100) hS W1) f1 (r := (-4)) (by rw [f1]; exact nk8)
  have e2' : ∀ Q, (wp 70 0 [.inr (.inl (8 + G.length)), .inl 2, .inl 0, .inl 100, .inr (.inl 0)] [] (em G [] (hp S D1)) Q ↔ Q (some (.inl (-4))) (em G [] (hp S D2))) := e2
  have v1 : m152 D2 2 4 = 700 := by
    have z := nk9
    rw [show rowL nr2 = D2 159 from f2.symm] at z
    exact z
  have v2 : m153 D2 5 = 2 := by
    have z := nk10
    rw [show rowL nr2 = D2 159 from f2.symm] at z
    exact z
  obtain ⟨D3, W3, f3, e3⟩ := n_act (G := G) (W := []) (s_pass (S := S) (D := D2) (v := 1) hS W2) (r := 0) (l := nr3) (by rw [f2]; exact nk11)
  have e3' : ∀ Q, (wp 76 0 [.inr (.inl (8 + G.length)), .inl 1, .inr (.inl 0), .inr (.inl 0)] [] (em G [] (hp S D2)) Q ↔ Q (some (.inl 0)) (em G [] (hp S D3))) := e3
  have v3_0 : m159 D3 0 0 = 3 := by
    have z := nk12
    rw [show rowL nr3 = D3 159 from f3.symm] at z
    exact z
  have v3_1 : m159 D3 0 1 = 2 := by
    have z := nk13
    rw [show rowL nr3 = D3 159 from f3.symm] at z
    exact z
  have v3_2 : m159 D3 0 2 = 12 := by
    have z := nk14
    rw [show rowL nr3 = D3 159 from f3.symm] at z
    exact z
  have v4 : m153 D3 1 = 2 := by
    have z := nk15
    rw [show rowL nr3 = D3 159 from f3.symm] at z
    exact z
  have v5 : m153 D3 2 = 4 := by
    have z := nk16
    rw [show rowL nr3 = D3 159 from f3.symm] at z
    exact z
  obtain ⟨D4, W4, f4, e4⟩ := n_ref (G := G) (W := []) (s_turnTo (S := S) (D := D3) (s := 3) hS W3) f3 (r := (-4)) (by rw [f3]; exact nk17)
  have e4' : ∀ Q, (wp 72 0 [.inr (.inl (8 + G.length)), .inl 3] [] (em G [] (hp S D3)) Q ↔ Q (some (.inl (-4))) (em G [] (hp S D4))) := e4
  refine ⟨D4, W4, f4, fun Q => ?_⟩
  simp (disch := first | assumption | omega | decide | exact b2i_01 _ | (unfold lx; omega)) only [s107_91, s107_92, s107_93, s107_94, s107_96, s107_99, s107_101, s107_104, s107_105, s107_106, s107_107, s107_109, s107_112, s107_114, s107_117, s107_118, s107_119, s107_120, s107_123, s107_126, s107_129, s107_130, s107_131, s107_134, s107_135, s107_138, s107_139, s107_140, s107_143, s107_146, s107_147, s107_148, s107_149, s107_150, s107_152, s107_155, s107_158, s107_159, s107_160, s107_163, s107_164, s107_167, s107_168, s107_169, s107_172, s107_173, s107_176, s107_177, s107_178, s107_181, s107_183, kont_some, kont_none, w32_of, if_true, if_false, tdv, tmd, setA_eq, up_setA, rd_hi, Int.reduceToNat, if_neg (show ¬ (1 : Int) = 0 by decide), Int.reduceEq, Int.reduceAdd, Int.reduceMul, Int.reduceSub, Int.reduceLT, Int.reduceLE, Int.reduceNeg, e1', e2', l_lamp hS W2, v1, l_wheel hS W2, v2, e3', l_isEv hS W3 v3_0 v3_1 v3_2, l_wheel hS W3, v4, v5, e4']
theorem na_2 (hS : S.length ≤ 2048) (hW : Wd D) (hF : D 159 = rowL nr3) : ∃ D2, Wd D2 ∧ D2 159 = rowL nr6 ∧ ∀ Q, (wp 107 186 [.inr (.inl (8 + G.length)), l1, l2] [] (em G [] (hp S D)) Q ↔ wp 107 269 [.inr (.inl (8 + G.length)), l1, l2] [] (em G [] (hp S D2)) Q) := by
  obtain ⟨D1, W1, f1, e1⟩ := n_act (G := G) (W := []) (s_pass (S := S) (D := D) (v := 3) hS hW) (r := 0) (l := nr4) (by rw [hF]; exact nk18)
  have e1' : ∀ Q, (wp 76 0 [.inr (.inl (8 + G.length)), .inl 3, .inr (.inl 0), .inr (.inl 0)] [] (em G [] (hp S D)) Q ↔ Q (some (.inl 0)) (em G [] (hp S D1))) := e1
  have v1 : m153 D1 2 = 1 := by
    have z := nk19
    rw [show rowL nr4 = D1 159 from f1.symm] at z
    exact z
  have v2 : m153 D1 0 = 0 := by
    have z := nk20
    rw [show rowL nr4 = D1 159 from f1.symm] at z
    exact z
  obtain ⟨D2, W2, f2, e2⟩ := n_act (G := G) (W := []) (s_pass (S := S) (D := D1) (v := 1) hS W1) (r := 0) (l := nr5) (by rw [f1]; exact nk21)
  have e2' : ∀ Q, (wp 76 0 [.inr (.inl (8 + G.length)), .inl 1, .inr (.inl 0), .inr (.inl 0)] [] (em G [] (hp S D1)) Q ↔ Q (some (.inl 0)) (em G [] (hp S D2))) := e2
  have v3 : m153 D2 0 = 2 := by
    have z := nk22
    rw [show rowL nr5 = D2 159 from f2.symm] at z
    exact z
  have v4 : m153 D2 1 = (-5) := by
    have z := nk23
    rw [show rowL nr5 = D2 159 from f2.symm] at z
    exact z
  obtain ⟨D3, W3, f3, e3⟩ := n_act (G := G) (W := []) (s_pass (S := S) (D := D2) (v := 19) hS W2) (r := 0) (l := nr6) (by rw [f2]; exact nk24)
  have e3' : ∀ Q, (wp 76 0 [.inr (.inl (8 + G.length)), .inl 19, .inr (.inl 0), .inr (.inl 0)] [] (em G [] (hp S D2)) Q ↔ Q (some (.inl 0)) (em G [] (hp S D3))) := e3
  have v5 : m161 D3 0 = 36 := by rw [m161_F (by decide), f3]; exact nk25
  obtain ⟨D4, W4, q4, e4⟩ := r_darkIn (G := G) (W := []) (D := D3) (S := S) hS W3
  rw [show (dinF 3001 0 (D3 159)).1 = 152 by rw [f3]; exact nk26 (f3 ▸ W3.2.1)] at e4
  have f4 := (q4 159 (by decide)).trans f3
  refine ⟨D4, W4, f4, fun Q => ?_⟩
  simp (disch := first | assumption | omega | decide | exact b2i_01 _ | (unfold lx; omega)) only [s107_186, s107_187, s107_188, s107_191, s107_194, s107_195, s107_196, s107_199, s107_200, s107_203, s107_204, s107_205, s107_208, s107_211, s107_212, s107_213, s107_216, s107_219, s107_220, s107_221, s107_224, s107_225, s107_228, s107_229, s107_230, s107_233, s107_235, s107_240, s107_241, s107_243, s107_246, s107_249, s107_250, s107_251, s107_254, s107_256, s107_259, s107_260, s107_263, s107_266, kont_some, kont_none, w32_of, if_true, if_false, tdv, tmd, setA_eq, up_setA, rd_hi, Int.reduceToNat, if_neg (show ¬ (1 : Int) = 0 by decide), Int.reduceEq, Int.reduceAdd, Int.reduceMul, Int.reduceSub, Int.reduceLT, Int.reduceLE, Int.reduceNeg, e1', l_wheel hS W1, v1, v2, e2', l_wheel hS W2, v3, v4, e3', l_count hS W3, v5, e4]
theorem na_3 (hS : S.length ≤ 2048) (hW : Wd D) (hF : D 159 = rowL nr6) : ∃ D2, Wd D2 ∧ D2 159 = rowL nr8 ∧ ∀ Q, (wp 107 269 [.inr (.inl (8 + G.length)), l1, l2] [] (em G [] (hp S D)) Q ↔ wp 107 363 [.inr (.inl (8 + G.length)), l1, l2] [] (em G [] (hp S D2)) Q) := by
  obtain ⟨D1, W1, f1, e1⟩ := n_act (G := G) (W := []) (s_pass (S := S) (D := D) (v := 1) hS hW) (r := 0) (l := nr7) (by rw [hF]; exact nk27)
  have e1' : ∀ Q, (wp 76 0 [.inr (.inl (8 + G.length)), .inl 1, .inr (.inl 0), .inr (.inl 0)] [] (em G [] (hp S D)) Q ↔ Q (some (.inl 0)) (em G [] (hp S D1))) := e1
  have v1 : m152 D1 2 2 = 6 := by
    have z := nk28
    rw [show rowL nr7 = D1 159 from f1.symm] at z
    exact z
  have v2 : m152 D1 2 4 = 690 := by
    have z := nk29
    rw [show rowL nr7 = D1 159 from f1.symm] at z
    exact z
  have v3 : m153 D1 3 = 1 := by
    have z := nk30
    rw [show rowL nr7 = D1 159 from f1.symm] at z
    exact z
  obtain ⟨D2, W2, f2, e2⟩ := n_ref (G := G) (W := []) (s_takeOut (S := S) (D := D1) (s := 2) hS W1) f1 (r := (-4)) (by rw [f1]; exact nk31)
  have e2' : ∀ Q, (wp 71 0 [.inr (.inl (8 + G.length)), .inl 2, .inr (.inl 0), .inr (.inl 0)] [] (em G [] (hp S D1)) Q ↔ Q (some (.inl (-4))) (em G [] (hp S D2))) := e2
  obtain ⟨D3, W3, q3, e3⟩ := r_tiredIn (G := G) (W := []) (D := D2) (S := S) (s := 2) hS W2
  rw [show (m154 D2 2).1 = 76 by rw [m154_F, f2]; exact nk32] at e3
  have f3 := (q3 159 (by decide)).trans f2
  obtain ⟨D4, W4, f4, e4⟩ := n_act (G := G) (W := []) (s_pass (S := S) (D := D3) (v := 200) hS W3) (r := 25) (l := nr8) (by rw [f3]; exact nk33 (f3 ▸ W3.2.1))
  have e4' : ∀ Q, (wp 76 0 [.inr (.inl (8 + G.length)), .inl 200, .inr (.inl 0), .inr (.inl 0)] [] (em G [] (hp S D3)) Q ↔ Q (some (.inl 25)) (em G [] (hp S D4))) := e4
  have v4 : m161 D4 0 = 237 := by rw [m161_F (by decide), f4]; exact nk34
  have v5 : m161 D4 7 = 37 := by rw [m161_F (by decide), f4]; exact nk35
  refine ⟨D4, W4, f4, fun Q => ?_⟩
  simp (disch := first | assumption | omega | decide | exact b2i_01 _ | (unfold lx; omega)) only [s107_269, s107_270, s107_271, s107_274, s107_277, s107_278, s107_279, s107_280, s107_283, s107_285, s107_288, s107_289, s107_290, s107_291, s107_294, s107_297, s107_300, s107_301, s107_302, s107_305, s107_306, s107_309, s107_310, s107_311, s107_314, s107_316, s107_319, s107_320, s107_321, s107_324, s107_326, s107_329, s107_330, s107_333, s107_336, s107_338, s107_341, s107_342, s107_343, s107_346, s107_349, s107_352, s107_353, s107_355, s107_358, s107_360, kont_some, kont_none, w32_of, if_true, if_false, tdv, tmd, setA_eq, up_setA, rd_hi, Int.reduceToNat, if_neg (show ¬ (1 : Int) = 0 by decide), Int.reduceEq, Int.reduceAdd, Int.reduceMul, Int.reduceSub, Int.reduceLT, Int.reduceLE, Int.reduceNeg, e1', l_lamp hS W1, v1, v2, l_wheel hS W1, v3, e2', e3, e4', l_count hS W4, v4, v5]
theorem na_4 (hS : S.length ≤ 2048) (hW : Wd D) (hF : D 159 = rowL nr8) : ∃ D2, Wd D2 ∧ D2 159 = rowL nr8 ∧ ∀ Q, (wp 107 363 [.inr (.inl (8 + G.length)), l1, l2] [] (em G [] (hp S D)) Q ↔ wp 107 465 [.inr (.inl (8 + G.length)), l1, l2] [] (em G [] (hp S D2)) Q) := by
  have v1 : m161 D 8 = 25 := by rw [m161_F (by decide), hF]; exact nk36
  have v2 : m161 D 9 = 3 := by rw [m161_F (by decide), hF]; exact nk37
  have v3_0 : m159 D 0 0 = 0 := by
    have z := nk38
    rw [show rowL nr8 = D 159 from hF.symm] at z
    exact z
  have v3_1 : m159 D 0 1 = 2 := by
    have z := nk39
    rw [show rowL nr8 = D 159 from hF.symm] at z
    exact z
  have v3_2 : m159 D 0 2 = 187 := by
    have z := nk40
    rw [show rowL nr8 = D 159 from hF.symm] at z
    exact z
  have v4_0 : m159 D 1 0 = 1 := by
    have z := nk41
    rw [show rowL nr8 = D 159 from hF.symm] at z
    exact z
  have v4_1 : m159 D 1 1 = 2 := by
    have z := nk42
    rw [show rowL nr8 = D 159 from hF.symm] at z
    exact z
  have v4_2 : m159 D 1 2 = 150 := by
    have z := nk43
    rw [show rowL nr8 = D 159 from hF.symm] at z
    exact z
  have v5_0 : m159 D 2 0 = 3 := by
    have z := nk44
    rw [show rowL nr8 = D 159 from hF.symm] at z
    exact z
  have v5_1 : m159 D 2 1 = 2 := by
    have z := nk45
    rw [show rowL nr8 = D 159 from hF.symm] at z
    exact z
  have v5_2 : m159 D 2 2 = 12 := by
    have z := nk46
    rw [show rowL nr8 = D 159 from hF.symm] at z
    exact z
  have v6 : m159 D 3 0 = (-5) := by
    have z := nk47
    rw [show rowL nr8 = D 159 from hF.symm] at z
    exact z
  have v7 : m152 D 2 6 = 1 := by
    have z := nk48
    rw [show rowL nr8 = D 159 from hF.symm] at z
    exact z
  have v8 : m152 D 2 5 = 1 := by
    have z := nk49
    rw [show rowL nr8 = D 159 from hF.symm] at z
    exact z
  have v9 : m152 D 2 4 = 0 := by
    have z := nk50
    rw [show rowL nr8 = D 159 from hF.symm] at z
    exact z
  refine ⟨D, hW, hF, fun Q => ?_⟩
  simp (disch := first | assumption | omega | decide | exact b2i_01 _ | (unfold lx; omega)) only [s107_363, s107_364, s107_366, s107_369, s107_371, s107_374, s107_375, s107_377, s107_380, s107_381, s107_384, s107_385, s107_386, s107_387, s107_388, s107_391, s107_394, s107_397, s107_398, s107_399, s107_400, s107_401, s107_404, s107_407, s107_410, s107_411, s107_412, s107_413, s107_414, s107_416, s107_419, s107_422, s107_423, s107_424, s107_425, s107_428, s107_430, s107_435, s107_436, s107_437, s107_439, s107_442, s107_443, s107_446, s107_447, s107_448, s107_449, s107_452, s107_453, s107_456, s107_457, s107_458, s107_459, s107_462, kont_some, kont_none, w32_of, if_true, if_false, tdv, tmd, setA_eq, up_setA, rd_hi, Int.reduceToNat, if_neg (show ¬ (1 : Int) = 0 by decide), Int.reduceEq, Int.reduceAdd, Int.reduceMul, Int.reduceSub, Int.reduceLT, Int.reduceLE, Int.reduceNeg, l_count hS hW, v1, v2, l_isEv hS hW v3_0 v3_1 v3_2, l_isEv hS hW v4_0 v4_1 v4_2, l_isEv hS hW v5_0 v5_1 v5_2, l_event hS hW, v6, l_lamp hS hW, v7, v8, v9]
theorem na_5 (hS : S.length ≤ 2048) (hW : Wd D) (hF : D 159 = rowL nr8) : ∃ D2, Wd D2 ∧ D2 159 = rowL nr9 ∧ ∀ Q, (wp 107 465 [.inr (.inl (8 + G.length)), l1, l2] [] (em G [] (hp S D)) Q ↔ wp 107 553 [.inr (.inl (8 + G.length)), l1, l2] [] (em G [] (hp S D2)) Q) := by
  have v1 : m152 D 2 2 = 100 := by
    have z := nk51
    rw [show rowL nr8 = D 159 from hF.symm] at z
    exact z
  obtain ⟨D1, W1, q1, e1⟩ := r_tiredIn (G := G) (W := []) (D := D) (S := S) (s := 2) hS hW
  rw [show (m154 D 2).1 = (-4) by rw [m154_F, hF]; exact nk52] at e1
  have f1 := (q1 159 (by decide)).trans hF
  have v2 : m157 D1 0 = (-5) := by
    have z := nk53
    rw [show rowL nr8 = D1 159 from f1.symm] at z
    exact z
  have v3 : m153 D1 5 = (-5) := by
    have z := nk54
    rw [show rowL nr8 = D1 159 from f1.symm] at z
    exact z
  have v4 : m153 D1 3 = 0 := by
    have z := nk55
    rw [show rowL nr8 = D1 159 from f1.symm] at z
    exact z
  have v5 : m161 D1 2 = 1 := by rw [m161_F (by decide), f1]; exact nk56
  have v6 : m161 D1 3 = 0 := by rw [m161_F (by decide), f1]; exact nk57
  obtain ⟨D2, W2, q2, e2⟩ := l_refused (G := G) (W := []) (D := D1) (S := S) hS W1 (by rw [f1]; exact nk58)
  have f2 := (q2 159 (by decide)).trans f1
  obtain ⟨D3, W3, f3, e3⟩ := n_act (G := G) (W := []) (s_boat (S := S) (D := D2) (t := 240) (a := 1) (b := 3) hS W2) (r := 1) (l := nr9) (by rw [f2]; exact nk59)
  have e3' : ∀ Q, (wp 74 0 [.inr (.inl (8 + G.length)), .inl 240, .inl 1, .inl 3] [] (em G [] (hp S D2)) Q ↔ Q (some (.inl 1)) (em G [] (hp S D3))) := e3
  refine ⟨D3, W3, f3, fun Q => ?_⟩
  simp (disch := first | assumption | omega | decide | exact b2i_01 _ | (unfold lx; omega)) only [s107_465, s107_466, s107_467, s107_468, s107_471, s107_473, s107_476, s107_477, s107_478, s107_481, s107_483, s107_486, s107_487, s107_488, s107_491, s107_493, s107_496, s107_497, s107_498, s107_501, s107_503, s107_506, s107_507, s107_508, s107_511, s107_514, s107_515, s107_516, s107_519, s107_520, s107_523, s107_524, s107_525, s107_528, s107_531, s107_532, s107_535, s107_540, s107_541, s107_544, s107_545, s107_546, s107_549, s107_550, kont_some, kont_none, w32_of, if_true, if_false, tdv, tmd, setA_eq, up_setA, rd_hi, Int.reduceToNat, if_neg (show ¬ (1 : Int) = 0 by decide), Int.reduceEq, Int.reduceAdd, Int.reduceMul, Int.reduceSub, Int.reduceLT, Int.reduceLE, Int.reduceNeg, l_lamp hS hW, v1, e1, l_ranked hS W1, v2, l_wheel hS W1, v3, v4, l_count hS W1, v5, v6, e2, e3']
theorem na_6 (hS : S.length ≤ 2048) (hW : Wd D) (hF : D 159 = rowL nr9) : ∃ D2, Wd D2 ∧ D2 159 = rowL nr12 ∧ ∀ Q, (wp 107 553 [.inr (.inl (8 + G.length)), l1, l2] [] (em G [] (hp S D)) Q ↔ wp 107 637 [.inr (.inl (8 + G.length)), l1, l2] [] (em G [] (hp S D2)) Q) := by
  obtain ⟨D1, W1, f1, e1⟩ := n_act (G := G) (W := []) (s_set (S := S) (D := D) (w := 3) (v := 1) hS hW) (r := 0) (l := nr10) (by rw [hF]; exact nk60)
  have e1' : ∀ Q, (wp 68 0 [.inr (.inl (8 + G.length)), .inl 3, .inl 1, .inr (.inl 0)] [] (em G [] (hp S D)) Q ↔ Q (some (.inl 0)) (em G [] (hp S D1))) := e1
  obtain ⟨D2, W2, q2, e2⟩ := r_darkIn (G := G) (W := []) (D := D1) (S := S) hS W1
  rw [show (dinF 3001 0 (D1 159)).1 = 0 by rw [f1]; exact nk61] at e2
  have f2 := (q2 159 (by decide)).trans f1
  obtain ⟨D3, W3, f3, e3⟩ := n_act (G := G) (W := []) (s_pass (S := S) (D := D2) (v := 3) hS W2) (r := 3) (l := nr11) (by rw [f2]; exact nk62)
  have e3' : ∀ Q, (wp 76 0 [.inr (.inl (8 + G.length)), .inl 3, .inr (.inl 0), .inr (.inl 0)] [] (em G [] (hp S D2)) Q ↔ Q (some (.inl 3)) (em G [] (hp S D3))) := e3
  obtain ⟨D4, W4, f4, e4⟩ := n_act (G := G) (W := []) (s_pass (S := S) (D := D3) (v := 1) hS W3) (r := 1) (l := nr12) (by rw [f3]; exact nk63)
  have e4' : ∀ Q, (wp 76 0 [.inr (.inl (8 + G.length)), .inl 1, .inr (.inl 0), .inr (.inl 0)] [] (em G [] (hp S D3)) Q ↔ Q (some (.inl 1)) (em G [] (hp S D4))) := e4
  have v1_0 : m159 D4 0 0 = 4 := by
    have z := nk64
    rw [show rowL nr12 = D4 159 from f4.symm] at z
    exact z
  have v1_1 : m159 D4 0 1 = 3 := by
    have z := nk65
    rw [show rowL nr12 = D4 159 from f4.symm] at z
    exact z
  have v1_2 : m159 D4 0 2 = 240 := by
    have z := nk66
    rw [show rowL nr12 = D4 159 from f4.symm] at z
    exact z
  have v2 : m161 D4 10 = 1 := by rw [m161_F (by decide), f4]; exact nk67
  have v3 : m161 D4 11 = 1 := by rw [m161_F (by decide), f4]; exact nk68
  have v4 : m161 D4 1 = 3 := by rw [m161_F (by decide), f4]; exact nk69
  have v5 : m161 D4 5 = 0 := by rw [m161_F (by decide), f4]; exact nk70
  refine ⟨D4, W4, f4, fun Q => ?_⟩
  simp (disch := first | assumption | omega | decide | exact b2i_01 _ | (unfold lx; omega)) only [s107_553, s107_554, s107_555, s107_556, s107_559, s107_562, s107_563, s107_566, s107_569, s107_570, s107_571, s107_574, s107_575, s107_578, s107_579, s107_580, s107_583, s107_584, s107_587, s107_588, s107_589, s107_590, s107_591, s107_594, s107_597, s107_600, s107_601, s107_603, s107_606, s107_607, s107_610, s107_611, s107_613, s107_616, s107_617, s107_620, s107_621, s107_622, s107_625, s107_626, s107_629, s107_630, s107_631, s107_634, kont_some, kont_none, w32_of, if_true, if_false, tdv, tmd, setA_eq, up_setA, rd_hi, Int.reduceToNat, if_neg (show ¬ (1 : Int) = 0 by decide), Int.reduceEq, Int.reduceAdd, Int.reduceMul, Int.reduceSub, Int.reduceLT, Int.reduceLE, Int.reduceNeg, e1', e2, e3', e4', l_isEv hS W4 v1_0 v1_1 v1_2, l_count hS W4, v2, v3, v4, v5]
theorem na_7 (hS : S.length ≤ 2048) (hW : Wd D) (hF : D 159 = rowL nr12) : ∃ D2, Wd D2 ∧ D2 159 = rowL nr13 ∧ ∀ Q, (wp 107 637 [.inr (.inl (8 + G.length)), l1, l2] [] (em G [] (hp S D)) Q ↔ wp 107 728 [.inr (.inl (8 + G.length)), l1, l2] [] (em G [] (hp S D2)) Q) := by
  have v1 : m161 D 9 = 3 := by rw [m161_F (by decide), hF]; exact nk71
  obtain ⟨D1, W1, f1, e1⟩ := n_act (G := G) (W := []) (s_pass (S := S) (D := D) (v := 1) hS hW) (r := 0) (l := nr13) (by rw [hF]; exact nk72)
  have e1' : ∀ Q, (wp 76 0 [.inr (.inl (8 + G.length)), .inl 1, .inr (.inl 0), .inr (.inl 0)] [] (em G [] (hp S D)) Q ↔ Q (some (.inl 0)) (em G [] (hp S D1))) := e1
  have v2 : m152 D1 2 2 = 16 := by
    have z := nk73
    rw [show rowL nr13 = D1 159 from f1.symm] at z
    exact z
  have v3 : m152 D1 2 3 = 700 := by
    have z := nk74
    rw [show rowL nr13 = D1 159 from f1.symm] at z
    exact z
  have v4 : m152 D1 2 4 = 1392 := by
    have z := nk75
    rw [show rowL nr13 = D1 159 from f1.symm] at z
    exact z
  have v5 : m157 D1 0 = 0 := by
    have z := nk76
    rw [show rowL nr13 = D1 159 from f1.symm] at z
    exact z
  have v6 : m157 D1 1 = 1 := by
    have z := nk77
    rw [show rowL nr13 = D1 159 from f1.symm] at z
    exact z
  have v7 : m157 D1 2 = 2 := by
    have z := nk78
    rw [show rowL nr13 = D1 159 from f1.symm] at z
    exact z
  have v8 : m157 D1 3 = (-5) := by
    have z := nk79
    rw [show rowL nr13 = D1 159 from f1.symm] at z
    exact z
  refine ⟨D1, W1, f1, fun Q => ?_⟩
  simp (disch := first | assumption | omega | decide | exact b2i_01 _ | (unfold lx; omega)) only [s107_637, s107_638, s107_640, s107_643, s107_644, s107_647, s107_648, s107_649, s107_652, s107_655, s107_656, s107_657, s107_658, s107_661, s107_663, s107_666, s107_667, s107_668, s107_669, s107_672, s107_675, s107_678, s107_679, s107_680, s107_681, s107_684, s107_687, s107_690, s107_691, s107_692, s107_695, s107_698, s107_699, s107_700, s107_703, s107_704, s107_707, s107_708, s107_709, s107_712, s107_713, s107_716, s107_717, s107_718, s107_721, s107_723, kont_some, kont_none, w32_of, if_true, if_false, tdv, tmd, setA_eq, up_setA, rd_hi, Int.reduceToNat, if_neg (show ¬ (1 : Int) = 0 by decide), Int.reduceEq, Int.reduceAdd, Int.reduceMul, Int.reduceSub, Int.reduceLT, Int.reduceLE, Int.reduceNeg, l_count hS hW, v1, e1', l_lamp hS W1, v2, v3, v4, l_ranked hS W1, v5, v6, v7, v8]
theorem na_8 (hS : S.length ≤ 2048) (hW : Wd D) (hF : D 159 = rowL nr13) : ∃ D2, Wd D2 ∧ D2 159 = rowL nr16 ∧ ∀ Q, (wp 107 728 [.inr (.inl (8 + G.length)), l1, l2] [] (em G [] (hp S D)) Q ↔ wp 107 794 [.inr (.inl (8 + G.length)), l1, l2] [] (em G [] (hp S D2)) Q) := by
  obtain ⟨D1, W1, f1, e1⟩ := n_act (G := G) (W := []) (s_turnTo (S := S) (D := D) (s := 0) hS hW) (r := 8) (l := nr14) (by rw [hF]; exact nk80)
  have e1' : ∀ Q, (wp 72 0 [.inr (.inl (8 + G.length)), .inl 0] [] (em G [] (hp S D)) Q ↔ Q (some (.inl 8)) (em G [] (hp S D1))) := e1
  have v1 : m153 D1 3 = 0 := by
    have z := nk81
    rw [show rowL nr14 = D1 159 from f1.symm] at z
    exact z
  obtain ⟨D2, W2, f2, e2⟩ := n_act (G := G) (W := []) (s_pass (S := S) (D := D1) (v := 1) hS W1) (r := 1) (l := nr15) (by rw [f1]; exact nk82)
  have e2' : ∀ Q, (wp 76 0 [.inr (.inl (8 + G.length)), .inl 1, .inr (.inl 0), .inr (.inl 0)] [] (em G [] (hp S D1)) Q ↔ Q (some (.inl 1)) (em G [] (hp S D2))) := e2
  obtain ⟨D3, W3, f3, e3⟩ := n_ref (G := G) (W := []) (s_turnTo (S := S) (D := D2) (s := 3) hS W2) f2 (r := (-4)) (by rw [f2]; exact nk83)
  have e3' : ∀ Q, (wp 72 0 [.inr (.inl (8 + G.length)), .inl 3] [] (em G [] (hp S D2)) Q ↔ Q (some (.inl (-4))) (em G [] (hp S D3))) := e3
  obtain ⟨D4, W4, f4, e4⟩ := n_act (G := G) (W := []) (s_set (S := S) (D := D3) (w := 2) (v := 5) hS W3) (r := 2) (l := nr16) (by rw [f3]; exact nk84)
  have e4' : ∀ Q, (wp 68 0 [.inr (.inl (8 + G.length)), .inl 2, .inl 5, .inr (.inl 0)] [] (em G [] (hp S D3)) Q ↔ Q (some (.inl 2)) (em G [] (hp S D4))) := e4
  have v2 : m153 D4 2 = 7 := by
    have z := nk85
    rw [show rowL nr16 = D4 159 from f4.symm] at z
    exact z
  obtain ⟨D5, W5, q5, e5⟩ := l_refused (G := G) (W := []) (D := D4) (S := S) hS W4 (by rw [f4]; exact nk86)
  have f5 := (q5 159 (by decide)).trans f4
  refine ⟨D5, W5, f5, fun Q => ?_⟩
  simp (disch := first | assumption | omega | decide | exact b2i_01 _ | (unfold lx; omega)) only [s107_728, s107_729, s107_730, s107_733, s107_735, s107_738, s107_739, s107_740, s107_743, s107_746, s107_747, s107_748, s107_751, s107_752, s107_755, s107_756, s107_757, s107_760, s107_762, s107_765, s107_766, s107_767, s107_768, s107_771, s107_772, s107_775, s107_776, s107_777, s107_780, s107_782, s107_785, s107_786, s107_789, kont_some, kont_none, w32_of, if_true, if_false, tdv, tmd, setA_eq, up_setA, rd_hi, Int.reduceToNat, if_neg (show ¬ (1 : Int) = 0 by decide), Int.reduceEq, Int.reduceAdd, Int.reduceMul, Int.reduceSub, Int.reduceLT, Int.reduceLE, Int.reduceNeg, e1', l_wheel hS W1, v1, e2', e3', e4', l_wheel hS W4, v2, e5]
theorem nb_0 (hS : S.length ≤ 2048) (hW : Wd D) (hF : D 159 = rowL nr0) : ∃ D2, Wd D2 ∧ D2 159 = rowL nr32 ∧ ∀ Q, (wp 107 802 [l0, .inr (.inl (8 + G.length)), l2] [] (em G [] (hp S D)) Q ↔ wp 107 835 [l0, .inr (.inl (8 + G.length)), .inl 16] [] (em G [] (hp S D2)) Q) := by
  obtain ⟨D1, W1, f1, e1⟩ := n_act (G := G) (W := []) (s_stock (S := S) (D := D) (a := 2) (b := 6) hS hW) (r := 6) (l := nr17) (by rw [hF]; exact nk87)
  have e1' : ∀ Q, (wp 73 0 [.inr (.inl (8 + G.length)), .inl 2, .inl 6, .inr (.inl 0)] [] (em G [] (hp S D)) Q ↔ Q (some (.inl 6)) (em G [] (hp S D1))) := e1
  obtain ⟨D2, W2, f2, e2⟩ := n_act (G := G) (W := []) (s_stock (S := S) (D := D1) (a := 2) (b := 6) hS W1) (r := 12) (l := nr18) (by rw [f1]; exact nk88)
  have e2' : ∀ Q, (wp 73 0 [.inr (.inl (8 + G.length)), .inl 2, .inl 6, .inr (.inl 0)] [] (em G [] (hp S D1)) Q ↔ Q (some (.inl 12)) (em G [] (hp S D2))) := e2
  obtain ⟨D3, W3, f3, e3⟩ := n_act (G := G) (W := []) (s_stock (S := S) (D := D2) (a := 2) (b := 6) hS W2) (r := 18) (l := nr19) (by rw [f2]; exact nk89)
  have e3' : ∀ Q, (wp 73 0 [.inr (.inl (8 + G.length)), .inl 2, .inl 6, .inr (.inl 0)] [] (em G [] (hp S D2)) Q ↔ Q (some (.inl 18)) (em G [] (hp S D3))) := e3
  obtain ⟨D4, W4, f4, e4⟩ := n_act (G := G) (W := []) (s_stock (S := S) (D := D3) (a := 2) (b := 6) hS W3) (r := 24) (l := nr20) (by rw [f3]; exact nk90)
  have e4' : ∀ Q, (wp 73 0 [.inr (.inl (8 + G.length)), .inl 2, .inl 6, .inr (.inl 0)] [] (em G [] (hp S D3)) Q ↔ Q (some (.inl 24)) (em G [] (hp S D4))) := e4
  obtain ⟨D5, W5, f5, e5⟩ := n_act (G := G) (W := []) (s_stock (S := S) (D := D4) (a := 2) (b := 6) hS W4) (r := 30) (l := nr21) (by rw [f4]; exact nk91)
  have e5' : ∀ Q, (wp 73 0 [.inr (.inl (8 + G.length)), .inl 2, .inl 6, .inr (.inl 0)] [] (em G [] (hp S D4)) Q ↔ Q (some (.inl 30)) (em G [] (hp S D5))) := e5
  obtain ⟨D6, W6, f6, e6⟩ := n_act (G := G) (W := []) (s_stock (S := S) (D := D5) (a := 2) (b := 6) hS W5) (r := 36) (l := nr22) (by rw [f5]; exact nk92)
  have e6' : ∀ Q, (wp 73 0 [.inr (.inl (8 + G.length)), .inl 2, .inl 6, .inr (.inl 0)] [] (em G [] (hp S D5)) Q ↔ Q (some (.inl 36)) (em G [] (hp S D6))) := e6
  obtain ⟨D7, W7, f7, e7⟩ := n_act (G := G) (W := []) (s_stock (S := S) (D := D6) (a := 2) (b := 6) hS W6) (r := 42) (l := nr23) (by rw [f6]; exact nk93)
  have e7' : ∀ Q, (wp 73 0 [.inr (.inl (8 + G.length)), .inl 2, .inl 6, .inr (.inl 0)] [] (em G [] (hp S D6)) Q ↔ Q (some (.inl 42)) (em G [] (hp S D7))) := e7
  obtain ⟨D8, W8, f8, e8⟩ := n_act (G := G) (W := []) (s_stock (S := S) (D := D7) (a := 2) (b := 6) hS W7) (r := 48) (l := nr24) (by rw [f7]; exact nk94)
  have e8' : ∀ Q, (wp 73 0 [.inr (.inl (8 + G.length)), .inl 2, .inl 6, .inr (.inl 0)] [] (em G [] (hp S D7)) Q ↔ Q (some (.inl 48)) (em G [] (hp S D8))) := e8
  obtain ⟨D9, W9, f9, e9⟩ := n_act (G := G) (W := []) (s_stock (S := S) (D := D8) (a := 2) (b := 6) hS W8) (r := 54) (l := nr25) (by rw [f8]; exact nk95)
  have e9' : ∀ Q, (wp 73 0 [.inr (.inl (8 + G.length)), .inl 2, .inl 6, .inr (.inl 0)] [] (em G [] (hp S D8)) Q ↔ Q (some (.inl 54)) (em G [] (hp S D9))) := e9
  obtain ⟨D10, W10, f10, e10⟩ := n_act (G := G) (W := []) (s_stock (S := S) (D := D9) (a := 2) (b := 6) hS W9) (r := 60) (l := nr26) (by rw [f9]; exact nk96)
  have e10' : ∀ Q, (wp 73 0 [.inr (.inl (8 + G.length)), .inl 2, .inl 6, .inr (.inl 0)] [] (em G [] (hp S D9)) Q ↔ Q (some (.inl 60)) (em G [] (hp S D10))) := e10
  obtain ⟨D11, W11, f11, e11⟩ := n_act (G := G) (W := []) (s_stock (S := S) (D := D10) (a := 2) (b := 6) hS W10) (r := 66) (l := nr27) (by rw [f10]; exact nk97)
  have e11' : ∀ Q, (wp 73 0 [.inr (.inl (8 + G.length)), .inl 2, .inl 6, .inr (.inl 0)] [] (em G [] (hp S D10)) Q ↔ Q (some (.inl 66)) (em G [] (hp S D11))) := e11
  obtain ⟨D12, W12, f12, e12⟩ := n_act (G := G) (W := []) (s_stock (S := S) (D := D11) (a := 2) (b := 6) hS W11) (r := 72) (l := nr28) (by rw [f11]; exact nk98)
  have e12' : ∀ Q, (wp 73 0 [.inr (.inl (8 + G.length)), .inl 2, .inl 6, .inr (.inl 0)] [] (em G [] (hp S D11)) Q ↔ Q (some (.inl 72)) (em G [] (hp S D12))) := e12
  obtain ⟨D13, W13, f13, e13⟩ := n_act (G := G) (W := []) (s_stock (S := S) (D := D12) (a := 2) (b := 6) hS W12) (r := 78) (l := nr29) (by rw [f12]; exact nk99)
  have e13' : ∀ Q, (wp 73 0 [.inr (.inl (8 + G.length)), .inl 2, .inl 6, .inr (.inl 0)] [] (em G [] (hp S D12)) Q ↔ Q (some (.inl 78)) (em G [] (hp S D13))) := e13
  obtain ⟨D14, W14, f14, e14⟩ := n_act (G := G) (W := []) (s_stock (S := S) (D := D13) (a := 2) (b := 6) hS W13) (r := 84) (l := nr30) (by rw [f13]; exact nk100)
  have e14' : ∀ Q, (wp 73 0 [.inr (.inl (8 + G.length)), .inl 2, .inl 6, .inr (.inl 0)] [] (em G [] (hp S D13)) Q ↔ Q (some (.inl 84)) (em G [] (hp S D14))) := e14
  obtain ⟨D15, W15, f15, e15⟩ := n_act (G := G) (W := []) (s_stock (S := S) (D := D14) (a := 2) (b := 6) hS W14) (r := 90) (l := nr31) (by rw [f14]; exact nk101)
  have e15' : ∀ Q, (wp 73 0 [.inr (.inl (8 + G.length)), .inl 2, .inl 6, .inr (.inl 0)] [] (em G [] (hp S D14)) Q ↔ Q (some (.inl 90)) (em G [] (hp S D15))) := e15
  obtain ⟨D16, W16, f16, e16⟩ := n_act (G := G) (W := []) (s_stock (S := S) (D := D15) (a := 2) (b := 6) hS W15) (r := 96) (l := nr32) (by rw [f15]; exact nk102)
  have e16' : ∀ Q, (wp 73 0 [.inr (.inl (8 + G.length)), .inl 2, .inl 6, .inr (.inl 0)] [] (em G [] (hp S D15)) Q ↔ Q (some (.inl 96)) (em G [] (hp S D16))) := e16
  refine ⟨D16, W16, f16, fun Q => ?_⟩
  simp (disch := first | assumption | omega | decide | exact b2i_01 _ | (unfold lx; omega)) only [s107_802, s107_803, s107_804, s107_805, s107_807, s107_810, s107_811, s107_812, s107_814, s107_817, s107_819, s107_820, s107_821, s107_823, s107_824, s107_829, s107_832, kont_some, kont_none, w32_of, if_true, if_false, tdv, tmd, setA_eq, up_setA, rd_hi, Int.reduceToNat, if_neg (show ¬ (1 : Int) = 0 by decide), Int.reduceEq, Int.reduceAdd, Int.reduceMul, Int.reduceSub, Int.reduceLT, Int.reduceLE, Int.reduceNeg, e1', e2', e3', e4', e5', e6', e7', e8', e9', e10', e11', e12', e13', e14', e15', e16']
theorem nb_1 (hS : S.length ≤ 2048) (hW : Wd D) (hF : D 159 = rowL nr32) : ∃ D2, Wd D2 ∧ D2 159 = rowL nr45 ∧ ∀ Q, (wp 107 835 [l0, .inr (.inl (8 + G.length)), .inl 16] [] (em G [] (hp S D)) Q ↔ wp 107 916 [l0, .inr (.inl (8 + G.length)), .inl 10] [] (em G [] (hp S D2)) Q) := by
  obtain ⟨D1, W1, f1, e1⟩ := n_ref (G := G) (W := []) (s_stock (S := S) (D := D) (a := 2) (b := 4) hS hW) hF (r := (-3)) (by rw [hF]; exact nk103)
  have e1' : ∀ Q, (wp 73 0 [.inr (.inl (8 + G.length)), .inl 2, .inl 4, .inr (.inl 0)] [] (em G [] (hp S D)) Q ↔ Q (some (.inl (-3))) (em G [] (hp S D1))) := e1
  obtain ⟨D2, W2, f2, e2⟩ := n_act (G := G) (W := []) (s_stock (S := S) (D := D1) (a := 2) (b := 3) hS W1) (r := 99) (l := nr33) (by rw [f1]; exact nk104)
  have e2' : ∀ Q, (wp 73 0 [.inr (.inl (8 + G.length)), .inl 2, .inl 3, .inr (.inl 0)] [] (em G [] (hp S D1)) Q ↔ Q (some (.inl 99)) (em G [] (hp S D2))) := e2
  obtain ⟨D3, W3, f3, e3⟩ := n_act (G := G) (W := []) (s_setNight (S := S) (D := D2) (w := 0) (v := 24) hS W2) (r := 24) (l := nr34) (by rw [f2]; exact nk105)
  have e3' : ∀ Q, (wp 69 0 [.inr (.inl (8 + G.length)), .inl 0, .inl 24] [] (em G [] (hp S D2)) Q ↔ Q (some (.inl 24)) (em G [] (hp S D3))) := e3
  obtain ⟨D4, W4, f4, e4⟩ := n_act (G := G) (W := []) (s_setNight (S := S) (D := D3) (w := 40) (v := 8) hS W3) (r := 16) (l := nr35) (by rw [f3]; exact nk106)
  have e4' : ∀ Q, (wp 69 0 [.inr (.inl (8 + G.length)), .inl 40, .inl 8] [] (em G [] (hp S D3)) Q ↔ Q (some (.inl 16)) (em G [] (hp S D4))) := e4
  obtain ⟨D5, W5, f5, e5⟩ := n_act (G := G) (W := []) (s_boat (S := S) (D := D4) (t := 9) (a := 0) (b := 1) hS W4) (r := 1) (l := nr36) (by rw [f4]; exact nk107)
  have e5' : ∀ Q, (wp 74 0 [.inr (.inl (8 + G.length)), .inl 9, .inl 0, .inl 1] [] (em G [] (hp S D4)) Q ↔ Q (some (.inl 1)) (em G [] (hp S D5))) := e5
  obtain ⟨D6, W6, f6, e6⟩ := n_act (G := G) (W := []) (s_boat (S := S) (D := D5) (t := 8) (a := 0) (b := 1) hS W5) (r := 2) (l := nr37) (by rw [f5]; exact nk108)
  have e6' : ∀ Q, (wp 74 0 [.inr (.inl (8 + G.length)), .inl 8, .inl 0, .inl 1] [] (em G [] (hp S D5)) Q ↔ Q (some (.inl 2)) (em G [] (hp S D6))) := e6
  obtain ⟨D7, W7, f7, e7⟩ := n_act (G := G) (W := []) (s_boat (S := S) (D := D6) (t := 7) (a := 0) (b := 1) hS W6) (r := 3) (l := nr38) (by rw [f6]; exact nk109)
  have e7' : ∀ Q, (wp 74 0 [.inr (.inl (8 + G.length)), .inl 7, .inl 0, .inl 1] [] (em G [] (hp S D6)) Q ↔ Q (some (.inl 3)) (em G [] (hp S D7))) := e7
  obtain ⟨D8, W8, f8, e8⟩ := n_act (G := G) (W := []) (s_boat (S := S) (D := D7) (t := 6) (a := 0) (b := 1) hS W7) (r := 4) (l := nr39) (by rw [f7]; exact nk110)
  have e8' : ∀ Q, (wp 74 0 [.inr (.inl (8 + G.length)), .inl 6, .inl 0, .inl 1] [] (em G [] (hp S D7)) Q ↔ Q (some (.inl 4)) (em G [] (hp S D8))) := e8
  obtain ⟨D9, W9, f9, e9⟩ := n_act (G := G) (W := []) (s_boat (S := S) (D := D8) (t := 5) (a := 0) (b := 1) hS W8) (r := 5) (l := nr40) (by rw [f8]; exact nk111)
  have e9' : ∀ Q, (wp 74 0 [.inr (.inl (8 + G.length)), .inl 5, .inl 0, .inl 1] [] (em G [] (hp S D8)) Q ↔ Q (some (.inl 5)) (em G [] (hp S D9))) := e9
  obtain ⟨D10, W10, f10, e10⟩ := n_act (G := G) (W := []) (s_boat (S := S) (D := D9) (t := 4) (a := 0) (b := 1) hS W9) (r := 6) (l := nr41) (by rw [f9]; exact nk112)
  have e10' : ∀ Q, (wp 74 0 [.inr (.inl (8 + G.length)), .inl 4, .inl 0, .inl 1] [] (em G [] (hp S D9)) Q ↔ Q (some (.inl 6)) (em G [] (hp S D10))) := e10
  obtain ⟨D11, W11, f11, e11⟩ := n_act (G := G) (W := []) (s_boat (S := S) (D := D10) (t := 3) (a := 0) (b := 1) hS W10) (r := 7) (l := nr42) (by rw [f10]; exact nk113)
  have e11' : ∀ Q, (wp 74 0 [.inr (.inl (8 + G.length)), .inl 3, .inl 0, .inl 1] [] (em G [] (hp S D10)) Q ↔ Q (some (.inl 7)) (em G [] (hp S D11))) := e11
  obtain ⟨D12, W12, f12, e12⟩ := n_act (G := G) (W := []) (s_boat (S := S) (D := D11) (t := 2) (a := 0) (b := 1) hS W11) (r := 8) (l := nr43) (by rw [f11]; exact nk114)
  have e12' : ∀ Q, (wp 74 0 [.inr (.inl (8 + G.length)), .inl 2, .inl 0, .inl 1] [] (em G [] (hp S D11)) Q ↔ Q (some (.inl 8)) (em G [] (hp S D12))) := e12
  obtain ⟨D13, W13, f13, e13⟩ := n_act (G := G) (W := []) (s_boat (S := S) (D := D12) (t := 1) (a := 0) (b := 1) hS W12) (r := 9) (l := nr44) (by rw [f12]; exact nk115)
  have e13' : ∀ Q, (wp 74 0 [.inr (.inl (8 + G.length)), .inl 1, .inl 0, .inl 1] [] (em G [] (hp S D12)) Q ↔ Q (some (.inl 9)) (em G [] (hp S D13))) := e13
  obtain ⟨D14, W14, f14, e14⟩ := n_act (G := G) (W := []) (s_boat (S := S) (D := D13) (t := 0) (a := 0) (b := 1) hS W13) (r := 10) (l := nr45) (by rw [f13]; exact nk116)
  have e14' : ∀ Q, (wp 74 0 [.inr (.inl (8 + G.length)), .inl 0, .inl 0, .inl 1] [] (em G [] (hp S D13)) Q ↔ Q (some (.inl 10)) (em G [] (hp S D14))) := e14
  refine ⟨D14, W14, f14, fun Q => ?_⟩
  simp (disch := first | assumption | omega | decide | exact b2i_01 _ | (unfold lx; omega)) only [s107_835, s107_836, s107_837, s107_838, s107_841, s107_843, s107_846, s107_847, s107_848, s107_849, s107_852, s107_854, s107_857, s107_858, s107_859, s107_861, s107_864, s107_866, s107_869, s107_870, s107_872, s107_874, s107_877, s107_879, s107_884, s107_885, s107_886, s107_887, s107_889, s107_892, s107_893, s107_895, s107_896, s107_897, s107_898, s107_899, s107_902, s107_903, s107_904, s107_905, s107_910, s107_913, kont_some, kont_none, w32_of, if_true, if_false, tdv, tmd, setA_eq, up_setA, rd_hi, Int.reduceToNat, if_neg (show ¬ (1 : Int) = 0 by decide), Int.reduceEq, Int.reduceAdd, Int.reduceMul, Int.reduceSub, Int.reduceLT, Int.reduceLE, Int.reduceNeg, e1', e2', e3', e4', e5', e6', e7', e8', e9', e10', e11', e12', e13', e14']
theorem nb_2 (hS : S.length ≤ 2048) (hW : Wd D) (hF : D 159 = rowL nr45) : ∃ D2, Wd D2 ∧ D2 159 = rowL nr47 ∧ ∀ Q, (wp 107 916 [l0, .inr (.inl (8 + G.length)), .inl 10] [] (em G [] (hp S D)) Q ↔ Q (some (.inl 1)) (em G [] (hp S D2))) := by
  obtain ⟨D1, W1, f1, e1⟩ := n_ref (G := G) (W := []) (s_boat (S := S) (D := D) (t := 10) (a := 0) (b := 1) hS hW) hF (r := (-3)) (by rw [hF]; exact nk117)
  have e1' : ∀ Q, (wp 74 0 [.inr (.inl (8 + G.length)), .inl 10, .inl 0, .inl 1] [] (em G [] (hp S D)) Q ↔ Q (some (.inl (-3))) (em G [] (hp S D1))) := e1
  obtain ⟨D2, W2, f2, e2⟩ := n_act (G := G) (W := []) (s_boat (S := S) (D := D1) (t := 0) (a := 2) (b := 4) hS W1) (r := 10) (l := nr46) (by rw [f1]; exact nk118)
  have e2' : ∀ Q, (wp 74 0 [.inr (.inl (8 + G.length)), .inl 0, .inl 2, .inl 4] [] (em G [] (hp S D1)) Q ↔ Q (some (.inl 10)) (em G [] (hp S D2))) := e2
  have v1 : m158 D2 0 1 = 2 := by
    have z := nk119
    rw [show rowL nr46 = D2 159 from f2.symm] at z
    exact z
  have v2 : m158 D2 0 2 = 4 := by
    have z := nk120
    rw [show rowL nr46 = D2 159 from f2.symm] at z
    exact z
  obtain ⟨D3, W3, f3, e3⟩ := n_act (G := G) (W := []) (s_pass (S := S) (D := D2) (v := 1) hS W2) (r := 1) (l := nr47) (by rw [f2]; exact nk121)
  have e3' : ∀ Q, (wp 76 0 [.inr (.inl (8 + G.length)), .inl 1, .inr (.inl 0), .inr (.inl 0)] [] (em G [] (hp S D2)) Q ↔ Q (some (.inl 1)) (em G [] (hp S D3))) := e3
  have v3 : m161 D3 6 = 93 := by rw [m161_F (by decide), f3]; exact nk122
  have v4 : m161 D3 1 = 6 := by rw [m161_F (by decide), f3]; exact nk123
  have v5_0 : m159 D3 0 0 = 4 := by
    have z := nk124
    rw [show rowL nr47 = D3 159 from f3.symm] at z
    exact z
  have v5_1 : m159 D3 0 1 = 6 := by
    have z := nk125
    rw [show rowL nr47 = D3 159 from f3.symm] at z
    exact z
  have v5_2 : m159 D3 0 2 = 0 := by
    have z := nk126
    rw [show rowL nr47 = D3 159 from f3.symm] at z
    exact z
  obtain ⟨D4, W4, q4, e4⟩ := l_refused (G := G) (W := []) (D := D3) (S := S) hS W3 (by rw [f3]; exact nk127)
  have f4 := (q4 159 (by decide)).trans f3
  refine ⟨D4, W4, f4, fun Q => ?_⟩
  simp (disch := first | assumption | omega | decide | exact b2i_01 _ | (unfold lx; omega)) only [s107_916, s107_917, s107_919, s107_920, s107_921, s107_924, s107_926, s107_929, s107_930, s107_931, s107_932, s107_933, s107_936, s107_938, s107_941, s107_942, s107_943, s107_944, s107_947, s107_948, s107_951, s107_952, s107_953, s107_954, s107_957, s107_958, s107_961, s107_962, s107_963, s107_966, s107_967, s107_970, s107_971, s107_973, s107_976, s107_978, s107_981, s107_982, s107_983, s107_986, s107_988, s107_991, s107_992, s107_993, s107_994, s107_996, s107_997, s107_1000, s107_1005, s107_1006, s107_1009, kont_some, kont_none, w32_of, if_true, if_false, tdv, tmd, setA_eq, up_setA, rd_hi, Int.reduceToNat, if_neg (show ¬ (1 : Int) = 0 by decide), Int.reduceEq, Int.reduceAdd, Int.reduceMul, Int.reduceSub, Int.reduceLT, Int.reduceLE, Int.reduceNeg, e1', e2', l_planned hS W2, v1, v2, e3', l_count hS W3, v3, v4, l_isEv hS W3 v5_0 v5_1 v5_2, e4]
theorem na_all (hS : S.length ≤ 2048) : ∃ D2, Wd D2 ∧ ∀ Q, (wp 107 8 [.inr (.inl (8 + G.length)), l1, l2] [] (em G [] (hp S Dz)) Q ↔ wp 107 794 [.inr (.inl (8 + G.length)), l1, l2] [] (em G [] (hp S D2)) Q) := by
  obtain ⟨D1, W1, f1, e1⟩ := na_0 (G := G) (l1 := l1) (l2 := l2) hS Dz_Wd Dz_row Dz_3 Dz_5
  obtain ⟨D2, W2, f2, e2⟩ := na_1 (G := G) (l1 := l1) (l2 := l2) hS W1 f1
  obtain ⟨D3, W3, f3, e3⟩ := na_2 (G := G) (l1 := l1) (l2 := l2) hS W2 f2
  obtain ⟨D4, W4, f4, e4⟩ := na_3 (G := G) (l1 := l1) (l2 := l2) hS W3 f3
  obtain ⟨D5, W5, f5, e5⟩ := na_4 (G := G) (l1 := l1) (l2 := l2) hS W4 f4
  obtain ⟨D6, W6, f6, e6⟩ := na_5 (G := G) (l1 := l1) (l2 := l2) hS W5 f5
  obtain ⟨D7, W7, f7, e7⟩ := na_6 (G := G) (l1 := l1) (l2 := l2) hS W6 f6
  obtain ⟨D8, W8, f8, e8⟩ := na_7 (G := G) (l1 := l1) (l2 := l2) hS W7 f7
  obtain ⟨D9, W9, f9, e9⟩ := na_8 (G := G) (l1 := l1) (l2 := l2) hS W8 f8
  exact ⟨D9, W9, fun Q => by rw [e1, e2, e3, e4, e5, e6, e7, e8, e9]⟩
theorem nb_all (hS : S.length ≤ 2048) : ∃ D2, Wd D2 ∧ ∀ Q, (wp 107 802 [l0, .inr (.inl (8 + G.length)), l2] [] (em G [] (hp S Dz)) Q ↔ Q (some (.inl 1)) (em G [] (hp S D2))) := by
  obtain ⟨D1, W1, f1, e1⟩ := nb_0 (G := G) (l0 := l0) (l2 := l2) hS Dz_Wd Dz_row
  obtain ⟨D2, W2, f2, e2⟩ := nb_1 (G := G) (l0 := l0) hS W1 f1
  obtain ⟨D3, W3, f3, e3⟩ := nb_2 (G := G) (l0 := l0) hS W2 f2
  exact ⟨D3, W3, fun Q => by rw [e1, e2, e3]⟩
theorem w_nights (hT : S.length ≤ 2048) : ∃ G2 : eH, (G2.length = G.length + 300 ∧ zs G2 = zs G + 2 * z0) ∧ ∀ Q, (wp 107 0 [.inr (.inl 0), .inr (.inl 0), .inr (.inl 0)] [] (em G [] (hS S)) Q ↔ Q (some (.inl 1)) (em G2 [] (hS S))) := by
  obtain ⟨D1, W1, e1⟩ := na_all (G := G) (S := S) (l1 := .inr (.inl 0)) (l2 := .inr (.inl 0)) hT
  obtain ⟨D2, W2, e2⟩ := nb_all (G := G ++ ob G.length S D1) (S := S) (l0 := .inr (.inl (8 + G.length))) (l2 := .inr (.inl 0)) hT
  refine ⟨(G ++ ob G.length S D1) ++ ob (G ++ ob G.length S D1).length S D2, ⟨by rw [List.length_append, List.length_append, ob_len, ob_len], by rw [zs_app, zs_app, zs_ob, zs_ob]; omega⟩, fun Q => ?_⟩
  have a1 : ∀ Q, (wp 107 0 [.inr (.inl 0), .inr (.inl 0), .inr (.inl 0)] [] (em G [] (hS S)) Q ↔ wp 107 8 [.inr (.inl (8 + G.length)), .inr (.inl 0), .inr (.inl 0)] [] (em G [] (hp S Dz)) Q) := fun Q => by
    simp (disch := first | assumption | omega | decide | exact b2i_01 _ | (unfold lx; omega)) only [s107_0, s107_3, s107_4, s107_7, kont_some, kont_none, w32_of, if_true, if_false, tdv, tmd, setA_eq, up_setA, rd_hi, Int.reduceToNat, if_neg (show ¬ (1 : Int) = 0 by decide), w_init]
  have a2 : ∀ (G : eH) (l0 : eV) (Q : Option eV → eH → Prop), (wp 107 794 [l0, .inr (.inl 0), .inr (.inl 0)] [] (em G [] (hS S)) Q ↔ wp 107 802 [l0, .inr (.inl (8 + G.length)), .inr (.inl 0)] [] (em G [] (hp S Dz)) Q) := fun G l0 Q => by
    simp (disch := first | assumption | omega | decide | exact b2i_01 _ | (unfold lx; omega)) only [s107_794, s107_797, s107_798, s107_801, kont_some, kont_none, w32_of, if_true, if_false, tdv, tmd, setA_eq, up_setA, rd_hi, Int.reduceToNat, if_neg (show ¬ (1 : Int) = 0 by decide), w_init]
  rw [a1, e1, em_left, a2, e2, em_left]
end SPEC93
