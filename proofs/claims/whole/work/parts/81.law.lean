/-! the law: a row of the script; the loop -/
theorem i2c_b {x : Int} : 0 ≤ ((Int32.ofInt x).toUInt32 % 65536).toInt32.toInt ∧ ((Int32.ofInt x).toUInt32 % 65536).toInt32.toInt < 65536 := by
  generalize (Int32.ofInt x).toUInt32 = u
  have h1 : (u % 65536).toNat < 65536 := by
    rw [UInt32.toNat_mod]
    exact Nat.mod_lt _ (by decide)
  have h2 : (u % 65536).toInt32.toInt = ((u % 65536).toNat : Int) := by
    show (u % 65536).toBitVec.toInt = _
    rw [BitVec.toInt_eq_toNat_of_lt (by show 2 * (u % 65536).toNat < 2 ^ 32; omega)]
    rfl
  rw [h2]
  omega
theorem rd_7 {S : List Int} {D : eD} {j : Nat} : rd S D 7 j = S.getD j 0 := rfl
section SPEC81
variable {S : List Int} {D E : eD} {h : eH} {Q : Option eV → eH → Prop} {i : Int}
/-- a row of the script, both called, both answer the same -/
def Rw (S : List Int) (D : eD) (i : Int) (pc : Nat) : Prop := ∃ D2 : eD, Wd D2 ∧ ∀ Q, (wp 166 pc [.inr 7, .inr 8, .inr 158, .inl i] [] (hp S D) Q ↔ wp 166 18 [.inr 7, .inr 8, .inr 158, .inl (i + 4)] [] (hp S D2) Q)

theorem l_set (hS : S.length ≤ 2048) (hW : Wd D) (i0 : 0 ≤ i) (i4 : i + 4 ≤ S.length) : Rw S D i 140 := by
  have t7 : tg 7 = 100 := rfl
  have t8 : tg 8 = 7 := rfl
  have t158 : tg 158 = 8 := rfl
  have l7 : ln S 7 = S.length := rfl
  obtain ⟨a, D1, D2, hW2, hc, hm⟩ := s_set (S := S) (D := D) (w := S.getD (i + 1).toNat 0) (v := S.getD (i + 2).toNat 0) hS hW
  refine ⟨D2, hW2, fun Q => ?_⟩
  simp (disch := first | assumption | omega | decide | exact b2i_01 _ | (unfold lx; omega)) only [s166_140, s166_141, s166_142, s166_143, s166_144, s166_145, s166_146, s166_147, s166_148, s166_149, s166_150, s166_151, s166_154, s166_155, s166_156, s166_157, s166_158, s166_159, s166_160, s166_161, s166_162, s166_163, s166_164, s166_165, s166_168, s166_711, s166_714, kont_some, kont_none, w32_of, if_true, if_false, tdv, tmd, setA_eq, up_setA, rd_hi, Int.reduceToNat, if_neg (show ¬ (1 : Int) = 0 by decide), rd_7, hc, hm]
theorem l_setNight (hS : S.length ≤ 2048) (hW : Wd D) (i0 : 0 ≤ i) (i4 : i + 4 ≤ S.length) : Rw S D i 173 := by
  have t7 : tg 7 = 100 := rfl
  have t8 : tg 8 = 7 := rfl
  have t158 : tg 158 = 8 := rfl
  have l7 : ln S 7 = S.length := rfl
  obtain ⟨a, D1, D2, hW2, hc, hm⟩ := s_setNight (S := S) (D := D) (w := S.getD (i + 1).toNat 0) (v := S.getD (i + 2).toNat 0) hS hW
  refine ⟨D2, hW2, fun Q => ?_⟩
  simp (disch := first | assumption | omega | decide | exact b2i_01 _ | (unfold lx; omega)) only [s166_173, s166_174, s166_175, s166_176, s166_177, s166_178, s166_179, s166_180, s166_181, s166_182, s166_183, s166_184, s166_187, s166_188, s166_189, s166_190, s166_191, s166_192, s166_193, s166_194, s166_195, s166_196, s166_197, s166_198, s166_201, s166_711, s166_714, kont_some, kont_none, w32_of, if_true, if_false, tdv, tmd, setA_eq, up_setA, rd_hi, Int.reduceToNat, if_neg (show ¬ (1 : Int) = 0 by decide), rd_7, hc, hm]
theorem l_putIn (hS : S.length ≤ 2048) (hW : Wd D) (i0 : 0 ≤ i) (i4 : i + 4 ≤ S.length) : Rw S D i 206 := by
  have t7 : tg 7 = 100 := rfl
  have t8 : tg 8 = 7 := rfl
  have t158 : tg 158 = 8 := rfl
  have l7 : ln S 7 = S.length := rfl
  obtain ⟨a, D1, D2, hW2, hc, hm⟩ := s_putIn (S := S) (D := D) (s := S.getD (i + 1).toNat 0) (a := S.getD (i + 2).toNat 0) (b := S.getD (i + 3).toNat 0) hS hW
  refine ⟨D2, hW2, fun Q => ?_⟩
  simp (disch := first | assumption | omega | decide | exact b2i_01 _ | (unfold lx; omega)) only [s166_206, s166_207, s166_208, s166_209, s166_210, s166_211, s166_212, s166_213, s166_214, s166_215, s166_216, s166_217, s166_218, s166_219, s166_220, s166_221, s166_222, s166_225, s166_226, s166_227, s166_228, s166_229, s166_230, s166_231, s166_232, s166_233, s166_234, s166_235, s166_236, s166_237, s166_238, s166_239, s166_240, s166_241, s166_244, s166_711, s166_714, kont_some, kont_none, w32_of, if_true, if_false, tdv, tmd, setA_eq, up_setA, rd_hi, Int.reduceToNat, if_neg (show ¬ (1 : Int) = 0 by decide), rd_7, hc, hm]
theorem l_takeOut (hS : S.length ≤ 2048) (hW : Wd D) (i0 : 0 ≤ i) (i4 : i + 4 ≤ S.length) : Rw S D i 249 := by
  have t7 : tg 7 = 100 := rfl
  have t8 : tg 8 = 7 := rfl
  have t158 : tg 158 = 8 := rfl
  have l7 : ln S 7 = S.length := rfl
  obtain ⟨a, D1, D2, hW2, hc, hm⟩ := s_takeOut (S := S) (D := D) (s := S.getD (i + 1).toNat 0) hS hW
  refine ⟨D2, hW2, fun Q => ?_⟩
  simp (disch := first | assumption | omega | decide | exact b2i_01 _ | (unfold lx; omega)) only [s166_249, s166_250, s166_251, s166_252, s166_253, s166_254, s166_255, s166_258, s166_259, s166_260, s166_261, s166_262, s166_263, s166_264, s166_267, s166_711, s166_714, kont_some, kont_none, w32_of, if_true, if_false, tdv, tmd, setA_eq, up_setA, rd_hi, Int.reduceToNat, if_neg (show ¬ (1 : Int) = 0 by decide), rd_7, hc, hm]
theorem l_turnTo (hS : S.length ≤ 2048) (hW : Wd D) (i0 : 0 ≤ i) (i4 : i + 4 ≤ S.length) : Rw S D i 272 := by
  have t7 : tg 7 = 100 := rfl
  have t8 : tg 8 = 7 := rfl
  have t158 : tg 158 = 8 := rfl
  have l7 : ln S 7 = S.length := rfl
  obtain ⟨a, D1, D2, hW2, hc, hm⟩ := s_turnTo (S := S) (D := D) (s := S.getD (i + 1).toNat 0) hS hW
  refine ⟨D2, hW2, fun Q => ?_⟩
  simp (disch := first | assumption | omega | decide | exact b2i_01 _ | (unfold lx; omega)) only [s166_272, s166_273, s166_274, s166_275, s166_276, s166_277, s166_278, s166_281, s166_282, s166_283, s166_284, s166_285, s166_286, s166_287, s166_290, s166_711, s166_714, kont_some, kont_none, w32_of, if_true, if_false, tdv, tmd, setA_eq, up_setA, rd_hi, Int.reduceToNat, if_neg (show ¬ (1 : Int) = 0 by decide), rd_7, hc, hm]
theorem l_stock (hS : S.length ≤ 2048) (hW : Wd D) (i0 : 0 ≤ i) (i4 : i + 4 ≤ S.length) : Rw S D i 295 := by
  have t7 : tg 7 = 100 := rfl
  have t8 : tg 8 = 7 := rfl
  have t158 : tg 158 = 8 := rfl
  have l7 : ln S 7 = S.length := rfl
  obtain ⟨a, D1, D2, hW2, hc, hm⟩ := s_stock (S := S) (D := D) (a := S.getD (i + 1).toNat 0) (b := S.getD (i + 2).toNat 0) hS hW
  refine ⟨D2, hW2, fun Q => ?_⟩
  simp (disch := first | assumption | omega | decide | exact b2i_01 _ | (unfold lx; omega)) only [s166_295, s166_296, s166_297, s166_298, s166_299, s166_300, s166_301, s166_302, s166_303, s166_304, s166_305, s166_306, s166_309, s166_310, s166_311, s166_312, s166_313, s166_314, s166_315, s166_316, s166_317, s166_318, s166_319, s166_320, s166_323, s166_711, s166_714, kont_some, kont_none, w32_of, if_true, if_false, tdv, tmd, setA_eq, up_setA, rd_hi, Int.reduceToNat, if_neg (show ¬ (1 : Int) = 0 by decide), rd_7, hc, hm]
theorem l_boat (hS : S.length ≤ 2048) (hW : Wd D) (i0 : 0 ≤ i) (i4 : i + 4 ≤ S.length) : Rw S D i 328 := by
  have t7 : tg 7 = 100 := rfl
  have t8 : tg 8 = 7 := rfl
  have t158 : tg 158 = 8 := rfl
  have l7 : ln S 7 = S.length := rfl
  obtain ⟨a, D1, D2, hW2, hc, hm⟩ := s_boat (S := S) (D := D) (t := S.getD (i + 1).toNat 0) (a := S.getD (i + 2).toNat 0) (b := S.getD (i + 3).toNat 0) hS hW
  refine ⟨D2, hW2, fun Q => ?_⟩
  simp (disch := first | assumption | omega | decide | exact b2i_01 _ | (unfold lx; omega)) only [s166_328, s166_329, s166_330, s166_331, s166_332, s166_333, s166_334, s166_335, s166_336, s166_337, s166_338, s166_339, s166_340, s166_341, s166_342, s166_343, s166_344, s166_347, s166_348, s166_349, s166_350, s166_351, s166_352, s166_353, s166_354, s166_355, s166_356, s166_357, s166_358, s166_359, s166_360, s166_361, s166_362, s166_363, s166_366, s166_711, s166_714, kont_some, kont_none, w32_of, if_true, if_false, tdv, tmd, setA_eq, up_setA, rd_hi, Int.reduceToNat, if_neg (show ¬ (1 : Int) = 0 by decide), rd_7, hc, hm]
theorem l_readPlan (hS : S.length ≤ 2048) (hW : Wd D) (i0 : 0 ≤ i) (i4 : i + 4 ≤ S.length) : Rw S D i 371 := by
  have t7 : tg 7 = 100 := rfl
  have t8 : tg 8 = 7 := rfl
  have t158 : tg 158 = 8 := rfl
  have l7 : ln S 7 = S.length := rfl
  obtain ⟨a, D1, D2, hW2, hc, hm⟩ := s_readPlan (S := S) (D := D)  hS hW
  refine ⟨D2, hW2, fun Q => ?_⟩
  simp (disch := first | assumption | omega | decide | exact b2i_01 _ | (unfold lx; omega)) only [s166_371, s166_372, s166_375, s166_376, s166_379, s166_711, s166_714, kont_some, kont_none, w32_of, if_true, if_false, tdv, tmd, setA_eq, up_setA, rd_hi, Int.reduceToNat, if_neg (show ¬ (1 : Int) = 0 by decide), rd_7, hc, hm]
theorem l_pass (hS : S.length ≤ 2048) (hW : Wd D) (i0 : 0 ≤ i) (i4 : i + 4 ≤ S.length) : Rw S D i 384 := by
  have t7 : tg 7 = 100 := rfl
  have t8 : tg 8 = 7 := rfl
  have t158 : tg 158 = 8 := rfl
  have l7 : ln S 7 = S.length := rfl
  obtain ⟨a, D1, D2, hW2, hc, hm⟩ := s_pass (S := S) (D := D) (v := S.getD (i + 1).toNat 0) hS hW
  refine ⟨D2, hW2, fun Q => ?_⟩
  simp (disch := first | assumption | omega | decide | exact b2i_01 _ | (unfold lx; omega)) only [s166_384, s166_385, s166_386, s166_387, s166_388, s166_389, s166_390, s166_393, s166_394, s166_395, s166_396, s166_397, s166_398, s166_399, s166_402, s166_711, s166_714, kont_some, kont_none, w32_of, if_true, if_false, tdv, tmd, setA_eq, up_setA, rd_hi, Int.reduceToNat, if_neg (show ¬ (1 : Int) = 0 by decide), rd_7, hc, hm]
theorem l_type (hS : S.length ≤ 2048) (hW : Wd D) (i0 : 0 ≤ i) (i4 : i + 4 ≤ S.length) : Rw S D i 407 := by
  have t7 : tg 7 = 100 := rfl
  have t8 : tg 8 = 7 := rfl
  have t158 : tg 158 = 8 := rfl
  have l7 : ln S 7 = S.length := rfl
  obtain ⟨a, D1, D2, hW2, hc, hm⟩ := s_type (S := S) (D := D) (v := ((Int32.ofInt (S.getD (i + 1).toNat 0)).toUInt32 % 65536).toInt32.toInt) hS hW i2c_b
  refine ⟨D2, hW2, fun Q => ?_⟩
  simp (disch := first | assumption | omega | decide | exact b2i_01 _ | (unfold lx; omega)) only [s166_407, s166_408, s166_409, s166_410, s166_411, s166_412, s166_413, s166_414, s166_417, s166_418, s166_419, s166_420, s166_421, s166_422, s166_423, s166_424, s166_427, s166_711, s166_714, kont_some, kont_none, w32_of, if_true, if_false, tdv, tmd, setA_eq, up_setA, rd_hi, Int.reduceToNat, if_neg (show ¬ (1 : Int) = 0 by decide), rd_7, hc, hm]
theorem l_clearText (hS : S.length ≤ 2048) (hW : Wd D) (i0 : 0 ≤ i) (i4 : i + 4 ≤ S.length) : Rw S D i 432 := by
  have t7 : tg 7 = 100 := rfl
  have t8 : tg 8 = 7 := rfl
  have t158 : tg 158 = 8 := rfl
  have l7 : ln S 7 = S.length := rfl
  obtain ⟨a, D1, D2, hW2, hc, hm⟩ := s_clearText (S := S) (D := D)  hW
  refine ⟨D2, hW2, fun Q => ?_⟩
  simp (disch := first | assumption | omega | decide | exact b2i_01 _ | (unfold lx; omega)) only [s166_432, s166_433, s166_436, s166_437, s166_440, s166_711, s166_714, kont_some, kont_none, w32_of, if_true, if_false, tdv, tmd, setA_eq, up_setA, rd_hi, Int.reduceToNat, if_neg (show ¬ (1 : Int) = 0 by decide), rd_7, hc, hm]
theorem l_undo (hS : S.length ≤ 2048) (hW : Wd D) (i0 : 0 ≤ i) (i4 : i + 4 ≤ S.length) : Rw S D i 445 := by
  have t7 : tg 7 = 100 := rfl
  have t8 : tg 8 = 7 := rfl
  have t158 : tg 158 = 8 := rfl
  have l7 : ln S 7 = S.length := rfl
  obtain ⟨a, D1, D2, hW2, hc, hm⟩ := s_undo (S := S) (D := D)  hS hW
  refine ⟨D2, hW2, fun Q => ?_⟩
  simp (disch := first | assumption | omega | decide | exact b2i_01 _ | (unfold lx; omega)) only [s166_445, s166_446, s166_449, s166_450, s166_453, s166_711, s166_714, kont_some, kont_none, w32_of, if_true, if_false, tdv, tmd, setA_eq, up_setA, rd_hi, Int.reduceToNat, if_neg (show ¬ (1 : Int) = 0 by decide), rd_7, hc, hm]
theorem l_keep (hS : S.length ≤ 2048) (hW : Wd D) (i0 : 0 ≤ i) (i4 : i + 4 ≤ S.length) : Rw S D i 458 := by
  have t7 : tg 7 = 100 := rfl
  have t8 : tg 8 = 7 := rfl
  have t158 : tg 158 = 8 := rfl
  have l7 : ln S 7 = S.length := rfl
  obtain ⟨a, D1, D2, hW2, hc, hm⟩ := s_keep (S := S) (D := D)  hS hW
  refine ⟨D2, hW2, fun Q => ?_⟩
  simp (disch := first | assumption | omega | decide | exact b2i_01 _ | (unfold lx; omega)) only [s166_458, s166_459, s166_462, s166_463, s166_466, s166_711, s166_714, kont_some, kont_none, w32_of, if_true, if_false, tdv, tmd, setA_eq, up_setA, rd_hi, Int.reduceToNat, if_neg (show ¬ (1 : Int) = 0 by decide), rd_7, hc, hm]
theorem l_restore (hS : S.length ≤ 2048) (hW : Wd D) (i0 : 0 ≤ i) (i4 : i + 4 ≤ S.length) : Rw S D i 471 := by
  have t7 : tg 7 = 100 := rfl
  have t8 : tg 8 = 7 := rfl
  have t158 : tg 158 = 8 := rfl
  have l7 : ln S 7 = S.length := rfl
  obtain ⟨a, D1, D2, hW2, hc, hm⟩ := s_restore (S := S) (D := D)  hS hW
  refine ⟨D2, hW2, fun Q => ?_⟩
  simp (disch := first | assumption | omega | decide | exact b2i_01 _ | (unfold lx; omega)) only [s166_471, s166_472, s166_475, s166_476, s166_479, s166_711, s166_714, kont_some, kont_none, w32_of, if_true, if_false, tdv, tmd, setA_eq, up_setA, rd_hi, Int.reduceToNat, if_neg (show ¬ (1 : Int) = 0 by decide), rd_7, hc, hm]
theorem l_lamp (hS : S.length ≤ 2048) (hW : Wd D) (i0 : 0 ≤ i) (i4 : i + 4 ≤ S.length) : Rw S D i 484 := by
  have t7 : tg 7 = 100 := rfl
  have t8 : tg 8 = 7 := rfl
  have t158 : tg 158 = 8 := rfl
  have l7 : ln S 7 = S.length := rfl
  obtain ⟨a, D1, D2, hW2, hc, hm⟩ := s_lamp (S := S) (D := D) (s := S.getD (i + 1).toNat 0) (w := S.getD (i + 2).toNat 0) hS hW
  refine ⟨D2, hW2, fun Q => ?_⟩
  simp (disch := first | assumption | omega | decide | exact b2i_01 _ | (unfold lx; omega)) only [s166_484, s166_485, s166_486, s166_487, s166_488, s166_489, s166_490, s166_491, s166_492, s166_493, s166_494, s166_495, s166_498, s166_499, s166_500, s166_501, s166_502, s166_503, s166_504, s166_505, s166_506, s166_507, s166_508, s166_509, s166_512, s166_711, s166_714, kont_some, kont_none, w32_of, if_true, if_false, tdv, tmd, setA_eq, up_setA, rd_hi, Int.reduceToNat, if_neg (show ¬ (1 : Int) = 0 by decide), rd_7, hc, hm]
theorem l_wheel (hS : S.length ≤ 2048) (hW : Wd D) (i0 : 0 ≤ i) (i4 : i + 4 ≤ S.length) : Rw S D i 517 := by
  have t7 : tg 7 = 100 := rfl
  have t8 : tg 8 = 7 := rfl
  have t158 : tg 158 = 8 := rfl
  have l7 : ln S 7 = S.length := rfl
  obtain ⟨a, D1, D2, hW2, hc, hm⟩ := s_wheel (S := S) (D := D) (w := S.getD (i + 1).toNat 0) hS hW
  refine ⟨D2, hW2, fun Q => ?_⟩
  simp (disch := first | assumption | omega | decide | exact b2i_01 _ | (unfold lx; omega)) only [s166_517, s166_518, s166_519, s166_520, s166_521, s166_522, s166_523, s166_526, s166_527, s166_528, s166_529, s166_530, s166_531, s166_532, s166_535, s166_711, s166_714, kont_some, kont_none, w32_of, if_true, if_false, tdv, tmd, setA_eq, up_setA, rd_hi, Int.reduceToNat, if_neg (show ¬ (1 : Int) = 0 by decide), rd_7, hc, hm]
theorem l_tiredIn (hS : S.length ≤ 2048) (hW : Wd D) (i0 : 0 ≤ i) (i4 : i + 4 ≤ S.length) : Rw S D i 540 := by
  have t7 : tg 7 = 100 := rfl
  have t8 : tg 8 = 7 := rfl
  have t158 : tg 158 = 8 := rfl
  have l7 : ln S 7 = S.length := rfl
  obtain ⟨a, D1, D2, hW2, hc, hm⟩ := s_tiredIn (S := S) (D := D) (s := S.getD (i + 1).toNat 0) hS hW
  refine ⟨D2, hW2, fun Q => ?_⟩
  simp (disch := first | assumption | omega | decide | exact b2i_01 _ | (unfold lx; omega)) only [s166_540, s166_541, s166_542, s166_543, s166_544, s166_545, s166_546, s166_549, s166_550, s166_551, s166_552, s166_553, s166_554, s166_555, s166_558, s166_711, s166_714, kont_some, kont_none, w32_of, if_true, if_false, tdv, tmd, setA_eq, up_setA, rd_hi, Int.reduceToNat, if_neg (show ¬ (1 : Int) = 0 by decide), rd_7, hc, hm]
theorem l_darkIn (hS : S.length ≤ 2048) (hW : Wd D) (i0 : 0 ≤ i) (i4 : i + 4 ≤ S.length) : Rw S D i 563 := by
  have t7 : tg 7 = 100 := rfl
  have t8 : tg 8 = 7 := rfl
  have t158 : tg 158 = 8 := rfl
  have l7 : ln S 7 = S.length := rfl
  obtain ⟨a, D1, D2, hW2, hc, hm⟩ := s_darkIn (S := S) (D := D)  hS hW
  refine ⟨D2, hW2, fun Q => ?_⟩
  simp (disch := first | assumption | omega | decide | exact b2i_01 _ | (unfold lx; omega)) only [s166_563, s166_564, s166_567, s166_568, s166_571, s166_711, s166_714, kont_some, kont_none, w32_of, if_true, if_false, tdv, tmd, setA_eq, up_setA, rd_hi, Int.reduceToNat, if_neg (show ¬ (1 : Int) = 0 by decide), rd_7, hc, hm]
theorem l_ranked (hS : S.length ≤ 2048) (hW : Wd D) (i0 : 0 ≤ i) (i4 : i + 4 ≤ S.length) : Rw S D i 576 := by
  have t7 : tg 7 = 100 := rfl
  have t8 : tg 8 = 7 := rfl
  have t158 : tg 158 = 8 := rfl
  have l7 : ln S 7 = S.length := rfl
  obtain ⟨a, D1, D2, hW2, hc, hm⟩ := s_ranked (S := S) (D := D) (p := S.getD (i + 1).toNat 0) hS hW
  refine ⟨D2, hW2, fun Q => ?_⟩
  simp (disch := first | assumption | omega | decide | exact b2i_01 _ | (unfold lx; omega)) only [s166_576, s166_577, s166_578, s166_579, s166_580, s166_581, s166_582, s166_585, s166_586, s166_587, s166_588, s166_589, s166_590, s166_591, s166_594, s166_711, s166_714, kont_some, kont_none, w32_of, if_true, if_false, tdv, tmd, setA_eq, up_setA, rd_hi, Int.reduceToNat, if_neg (show ¬ (1 : Int) = 0 by decide), rd_7, hc, hm]
theorem l_planned (hS : S.length ≤ 2048) (hW : Wd D) (i0 : 0 ≤ i) (i4 : i + 4 ≤ S.length) : Rw S D i 599 := by
  have t7 : tg 7 = 100 := rfl
  have t8 : tg 8 = 7 := rfl
  have t158 : tg 158 = 8 := rfl
  have l7 : ln S 7 = S.length := rfl
  obtain ⟨a, D1, D2, hW2, hc, hm⟩ := s_planned (S := S) (D := D) (p := S.getD (i + 1).toNat 0) (w := S.getD (i + 2).toNat 0) hS hW
  refine ⟨D2, hW2, fun Q => ?_⟩
  simp (disch := first | assumption | omega | decide | exact b2i_01 _ | (unfold lx; omega)) only [s166_599, s166_600, s166_601, s166_602, s166_603, s166_604, s166_605, s166_606, s166_607, s166_608, s166_609, s166_610, s166_613, s166_614, s166_615, s166_616, s166_617, s166_618, s166_619, s166_620, s166_621, s166_622, s166_623, s166_624, s166_627, s166_711, s166_714, kont_some, kont_none, w32_of, if_true, if_false, tdv, tmd, setA_eq, up_setA, rd_hi, Int.reduceToNat, if_neg (show ¬ (1 : Int) = 0 by decide), rd_7, hc, hm]
theorem l_event (hS : S.length ≤ 2048) (hW : Wd D) (i0 : 0 ≤ i) (i4 : i + 4 ≤ S.length) : Rw S D i 632 := by
  have t7 : tg 7 = 100 := rfl
  have t8 : tg 8 = 7 := rfl
  have t158 : tg 158 = 8 := rfl
  have l7 : ln S 7 = S.length := rfl
  obtain ⟨a, D1, D2, hW2, hc, hm⟩ := s_event (S := S) (D := D) (p := S.getD (i + 1).toNat 0) (w := S.getD (i + 2).toNat 0) hS hW
  refine ⟨D2, hW2, fun Q => ?_⟩
  simp (disch := first | assumption | omega | decide | exact b2i_01 _ | (unfold lx; omega)) only [s166_632, s166_633, s166_634, s166_635, s166_636, s166_637, s166_638, s166_639, s166_640, s166_641, s166_642, s166_643, s166_646, s166_647, s166_648, s166_649, s166_650, s166_651, s166_652, s166_653, s166_654, s166_655, s166_656, s166_657, s166_660, s166_711, s166_714, kont_some, kont_none, w32_of, if_true, if_false, tdv, tmd, setA_eq, up_setA, rd_hi, Int.reduceToNat, if_neg (show ¬ (1 : Int) = 0 by decide), rd_7, hc, hm]
theorem l_count (hS : S.length ≤ 2048) (hW : Wd D) (i0 : 0 ≤ i) (i4 : i + 4 ≤ S.length) : Rw S D i 665 := by
  have t7 : tg 7 = 100 := rfl
  have t8 : tg 8 = 7 := rfl
  have t158 : tg 158 = 8 := rfl
  have l7 : ln S 7 = S.length := rfl
  obtain ⟨a, D1, D2, hW2, hc, hm⟩ := s_count (S := S) (D := D) (w := S.getD (i + 1).toNat 0) hS hW
  refine ⟨D2, hW2, fun Q => ?_⟩
  simp (disch := first | assumption | omega | decide | exact b2i_01 _ | (unfold lx; omega)) only [s166_665, s166_666, s166_667, s166_668, s166_669, s166_670, s166_671, s166_674, s166_675, s166_676, s166_677, s166_678, s166_679, s166_680, s166_683, s166_711, s166_714, kont_some, kont_none, w32_of, if_true, if_false, tdv, tmd, setA_eq, up_setA, rd_hi, Int.reduceToNat, if_neg (show ¬ (1 : Int) = 0 by decide), rd_7, hc, hm]
theorem l_setting (hS : S.length ≤ 2048) (hW : Wd D) (i0 : 0 ≤ i) (i4 : i + 4 ≤ S.length) : Rw S D i 688 := by
  have t7 : tg 7 = 100 := rfl
  have t8 : tg 8 = 7 := rfl
  have t158 : tg 158 = 8 := rfl
  have l7 : ln S 7 = S.length := rfl
  obtain ⟨a, D1, D2, hW2, hc, hm⟩ := s_setting (S := S) (D := D) (w := S.getD (i + 1).toNat 0) hS hW
  refine ⟨D2, hW2, fun Q => ?_⟩
  simp (disch := first | assumption | omega | decide | exact b2i_01 _ | (unfold lx; omega)) only [s166_688, s166_689, s166_690, s166_691, s166_692, s166_693, s166_694, s166_697, s166_698, s166_699, s166_700, s166_701, s166_702, s166_703, s166_706, s166_711, s166_714, kont_some, kont_none, w32_of, if_true, if_false, tdv, tmd, setA_eq, up_setA, rd_hi, Int.reduceToNat, if_neg (show ¬ (1 : Int) = 0 by decide), rd_7, hc, hm]
theorem law_loop (hS : S.length ≤ 2048) (n : Nat) : ∀ (i : Int) (D : eD), Wd D → 0 ≤ i → i ≤ 4096 → (S.length : Int) < i + 4 * n + 4 → wp 166 18 [.inr 7, .inr 8, .inr 158, .inl i] [] (hp S D) (fun r h' => r = some (.inl 1) ∧ ∃ D', h' = hp S D') := by
  have t7 : tg 7 = 100 := rfl
  have l7 : ln S 7 = S.length := rfl
  induction n with
  | zero =>
    intro i D hW i0 i9 hi
    have h1 : (S.length : Int) - 4 < i := by omega
    rw [s166_18]
    simp (disch := first | assumption | omega | decide | exact b2i_01 _ | (unfold lx; omega)) only [s166_19, s166_20, s166_21, s166_22, s166_23, s166_717, s166_718, kont_some, kont_none, w32_of, if_true, if_false, tdv, tmd, setA_eq, up_setA, rd_hi, Int.reduceToNat, if_neg (show ¬ (1 : Int) = 0 by decide), l7, if_pos h1]
    first | exact ⟨rfl, D, rfl⟩ | exact ⟨trivial, D, rfl⟩ | exact ⟨D, rfl⟩
  | succ n ih =>
    intro i D hW i0 i9 hi
    rw [s166_18]
    by_cases h1 : (S.length : Int) - 4 < i
    · simp (disch := first | assumption | omega | decide | exact b2i_01 _ | (unfold lx; omega)) only [s166_19, s166_20, s166_21, s166_22, s166_23, s166_717, s166_718, kont_some, kont_none, w32_of, if_true, if_false, tdv, tmd, setA_eq, up_setA, rd_hi, Int.reduceToNat, if_neg (show ¬ (1 : Int) = 0 by decide), l7, if_pos h1]
      first | exact ⟨rfl, D, rfl⟩ | exact ⟨trivial, D, rfl⟩ | exact ⟨D, rfl⟩
    · have i4 : i + 4 ≤ S.length := by omega
      simp (disch := first | assumption | omega | decide | exact b2i_01 _ | (unfold lx; omega)) only [s166_19, s166_20, s166_21, s166_22, s166_23, s166_26, s166_27, s166_28, s166_29, s166_31, kont_some, kont_none, w32_of, if_true, if_false, tdv, tmd, setA_eq, up_setA, rd_hi, Int.reduceToNat, if_neg (show ¬ (1 : Int) = 0 by decide), l7, if_neg h1, rd_7]
      generalize (Int32.ofInt (S.getD i.toNat 0) &&& Int32.ofInt 31).toInt = y
      have fin : ∀ pc, Rw S D i pc → wp 166 pc [.inr 7, .inr 8, .inr 158, .inl i] [] (hp S D) (fun r h' => r = some (.inl 1) ∧ ∃ D', h' = hp S D') := by
        rintro pc ⟨D2, hW2, e⟩
        rw [e]
        exact ih (i + 4) D2 hW2 (by omega) (by omega) (by omega)
      rw [s166_32]
      by_cases q0 : y = 0
      · rw [if_pos q0]
        exact fin _ (l_set hS hW i0 i4)
      rw [if_neg q0]
      by_cases q1 : y = 1
      · rw [if_pos q1]
        exact fin _ (l_setNight hS hW i0 i4)
      rw [if_neg q1]
      by_cases q2 : y = 2
      · rw [if_pos q2]
        exact fin _ (l_putIn hS hW i0 i4)
      rw [if_neg q2]
      by_cases q3 : y = 3
      · rw [if_pos q3]
        exact fin _ (l_takeOut hS hW i0 i4)
      rw [if_neg q3]
      by_cases q4 : y = 4
      · rw [if_pos q4]
        exact fin _ (l_turnTo hS hW i0 i4)
      rw [if_neg q4]
      by_cases q5 : y = 5
      · rw [if_pos q5]
        exact fin _ (l_stock hS hW i0 i4)
      rw [if_neg q5]
      by_cases q6 : y = 6
      · rw [if_pos q6]
        exact fin _ (l_boat hS hW i0 i4)
      rw [if_neg q6]
      by_cases q7 : y = 7
      · rw [if_pos q7]
        exact fin _ (l_readPlan hS hW i0 i4)
      rw [if_neg q7]
      by_cases q8 : y = 8
      · rw [if_pos q8]
        exact fin _ (l_pass hS hW i0 i4)
      rw [if_neg q8]
      by_cases q9 : y = 9
      · rw [if_pos q9]
        exact fin _ (l_type hS hW i0 i4)
      rw [if_neg q9]
      by_cases q10 : y = 10
      · rw [if_pos q10]
        exact fin _ (l_clearText hS hW i0 i4)
      rw [if_neg q10]
      by_cases q11 : y = 11
      · rw [if_pos q11]
        exact fin _ (l_undo hS hW i0 i4)
      rw [if_neg q11]
      by_cases q12 : y = 12
      · rw [if_pos q12]
        exact fin _ (l_keep hS hW i0 i4)
      rw [if_neg q12]
      by_cases q13 : y = 13
      · rw [if_pos q13]
        exact fin _ (l_restore hS hW i0 i4)
      rw [if_neg q13]
      by_cases q14 : y = 14
      · rw [if_pos q14]
        exact fin _ (l_lamp hS hW i0 i4)
      rw [if_neg q14]
      by_cases q15 : y = 15
      · rw [if_pos q15]
        exact fin _ (l_wheel hS hW i0 i4)
      rw [if_neg q15]
      by_cases q16 : y = 16
      · rw [if_pos q16]
        exact fin _ (l_tiredIn hS hW i0 i4)
      rw [if_neg q16]
      by_cases q17 : y = 17
      · rw [if_pos q17]
        exact fin _ (l_darkIn hS hW i0 i4)
      rw [if_neg q17]
      by_cases q18 : y = 18
      · rw [if_pos q18]
        exact fin _ (l_ranked hS hW i0 i4)
      rw [if_neg q18]
      by_cases q19 : y = 19
      · rw [if_pos q19]
        exact fin _ (l_planned hS hW i0 i4)
      rw [if_neg q19]
      by_cases q20 : y = 20
      · rw [if_pos q20]
        exact fin _ (l_event hS hW i0 i4)
      rw [if_neg q20]
      by_cases q21 : y = 21
      · rw [if_pos q21]
        exact fin _ (l_count hS hW i0 i4)
      rw [if_neg q21]
      by_cases q22 : y = 22
      · rw [if_pos q22]
        exact fin _ (l_setting hS hW i0 i4)
      rw [if_neg q22]
      rw [s166_711, s166_714, w32_of (by omega) (by omega)]
      exact ih (i + 4) D hW (by omega) (by omega) (by omega)
end SPEC81
