/-! acts in the law's heap; what is refused changes nothing -/
def Eq8 (D2 D : eD) : Prop := ∀ K, 158 ≤ K → D2 K = D K
theorem Eq8.trans {a b c : eD} (h : Eq8 a b) (k : Eq8 b c) : Eq8 a c := fun K hK => (h K hK).trans (k K hK)
theorem ahe_5 {F : eRow} {k : Int} (h0 : 0 ≤ k) (h5 : k ≤ 5) : aheF F k 6 0 ≤ 5 := by
  have hb : ∀ j, b2i (ahdF F k j) ≤ 1 := fun j => b2i_b.2
  have hk : b2i (ahdF F k k) = 0 := b2i_f (fun z => by unfold ahdF at z; omega)
  have h := hb 0
  have h1 := hb 1
  have h2 := hb 2
  have h3 := hb 3
  have h4 := hb 4
  have h6 := hb 5
  have e : aheF F k 6 0 = b2i (ahdF F k 0) + (b2i (ahdF F k 1) + (b2i (ahdF F k 2) + (b2i (ahdF F k 3) + (b2i (ahdF F k 4) + (b2i (ahdF F k 5) + 0))))) := rfl
  rw [e]
  rcases (show k = 0 ∨ k = 1 ∨ k = 2 ∨ k = 3 ∨ k = 4 ∨ k = 5 by omega) with rfl | rfl | rfl | rfl | rfl | rfl <;> omega
theorem rk_6 {F : eRow} (n : Nat) : ∀ k : Int, 0 ≤ k → k + n ≤ 6 → rkF F 6 n k = -5 := by
  induction n with
  | zero => exact fun _ _ _ => rfl
  | succ n ih =>
    intro k h0 h6
    unfold rkF
    rw [if_neg (fun z => by have := ahe_5 (F := F) h0 (show k ≤ 5 by omega); omega)]
    exact ih (k + 1) (by omega) (by omega)
section SPEC87
variable {S : List Int} {D E : eD} {G W : eH} {Q : Option eV → eH → Prop} {y : Nat} {ls : List eV} {a s w v p t b : Int}
theorem cl_act {o : Int × Option eRow} (h : Sa S D y ls o) : ∃ D2, Wd D2 ∧ (∀ K, 158 ≤ K → D2 K = mAf D o.2 K) ∧ ∀ Q, (wp y 0 (ls.map (sh G.length)) [] (em G W (hp S D)) Q ↔ Q (some (.inl o.1)) (em G W (hp S D2))) := by
  obtain ⟨D2, h1, h2, h3⟩ := h
  exact ⟨D2, h1, h2, fun Q => wp_em hp_8 (by rw [hp_len, hp_len]) h3 Q⟩
theorem cl_ref {o : Int × Option eRow} {r : Int} (h : Sa S D y ls o) (e : o = (r, none)) : ∃ D2, Wd D2 ∧ Eq8 D2 D ∧ ∀ Q, (wp y 0 (ls.map (sh G.length)) [] (em G W (hp S D)) Q ↔ Q (some (.inl r)) (em G W (hp S D2))) := by
  subst e
  exact cl_act h
theorem cl_sq {r : Int} (h : Sq S D y ls r) : ∃ D2, Wd D2 ∧ Eq8 D2 D ∧ ∀ Q, (wp y 0 (ls.map (sh G.length)) [] (em G W (hp S D)) Q ↔ Q (some (.inl r)) (em G W (hp S D2))) := by
  obtain ⟨D2, h1, h2, h3⟩ := h
  exact ⟨D2, h1, h2, fun Q => wp_em hp_8 (by rw [hp_len, hp_len]) h3 Q⟩
theorem r_set (hS : S.length ≤ 2048) (hW : Wd D) {r : Int} (e : o130 (D 159) w v = (r, none)) : ∃ D2, Wd D2 ∧ Eq8 D2 D ∧ ∀ Q, (wp 68 0 [.inr (.inl (8 + G.length)), .inl w, .inl v, .inr (.inl 0)] [] (em G W (hp S D)) Q ↔ Q (some (.inl r)) (em G W (hp S D2))) := cl_ref (s_set hS hW) e
theorem r_setNight (hS : S.length ≤ 2048) (hW : Wd D) {r : Int} (e : o131 (D 159) w v = (r, none)) : ∃ D2, Wd D2 ∧ Eq8 D2 D ∧ ∀ Q, (wp 69 0 [.inr (.inl (8 + G.length)), .inl w, .inl v] [] (em G W (hp S D)) Q ↔ Q (some (.inl r)) (em G W (hp S D2))) := cl_ref (s_setNight hS hW) e
theorem r_putIn (hS : S.length ≤ 2048) (hW : Wd D) {r : Int} (e : o133 (D 159) s a b = (r, none)) : ∃ D2, Wd D2 ∧ Eq8 D2 D ∧ ∀ Q, (wp 70 0 [.inr (.inl (8 + G.length)), .inl s, .inl a, .inl b, .inr (.inl 0)] [] (em G W (hp S D)) Q ↔ Q (some (.inl r)) (em G W (hp S D2))) := cl_ref (s_putIn hS hW) e
theorem r_takeOut (hS : S.length ≤ 2048) (hW : Wd D) {r : Int} (e : o134 (D 159) s = (r, none)) : ∃ D2, Wd D2 ∧ Eq8 D2 D ∧ ∀ Q, (wp 71 0 [.inr (.inl (8 + G.length)), .inl s, .inr (.inl 0), .inr (.inl 0)] [] (em G W (hp S D)) Q ↔ Q (some (.inl r)) (em G W (hp S D2))) := cl_ref (s_takeOut hS hW) e
theorem r_turnTo (hS : S.length ≤ 2048) (hW : Wd D) {r : Int} (e : o135 (D 159) s = (r, none)) : ∃ D2, Wd D2 ∧ Eq8 D2 D ∧ ∀ Q, (wp 72 0 [.inr (.inl (8 + G.length)), .inl s] [] (em G W (hp S D)) Q ↔ Q (some (.inl r)) (em G W (hp S D2))) := cl_ref (s_turnTo hS hW) e
theorem r_stock (hS : S.length ≤ 2048) (hW : Wd D) {r : Int} (e : o136 (D 159) a b = (r, none)) : ∃ D2, Wd D2 ∧ Eq8 D2 D ∧ ∀ Q, (wp 73 0 [.inr (.inl (8 + G.length)), .inl a, .inl b, .inr (.inl 0)] [] (em G W (hp S D)) Q ↔ Q (some (.inl r)) (em G W (hp S D2))) := cl_ref (s_stock hS hW) e
theorem r_boat (hS : S.length ≤ 2048) (hW : Wd D) {r : Int} (e : o140 (D 159) t a b = (r, none)) : ∃ D2, Wd D2 ∧ Eq8 D2 D ∧ ∀ Q, (wp 74 0 [.inr (.inl (8 + G.length)), .inl t, .inl a, .inl b] [] (em G W (hp S D)) Q ↔ Q (some (.inl r)) (em G W (hp S D2))) := cl_ref (s_boat hS hW) e
theorem r_pass (hS : S.length ≤ 2048) (hW : Wd D) {r : Int} (e : o141 (D 159) v = (r, none)) : ∃ D2, Wd D2 ∧ Eq8 D2 D ∧ ∀ Q, (wp 76 0 [.inr (.inl (8 + G.length)), .inl v, .inr (.inl 0), .inr (.inl 0)] [] (em G W (hp S D)) Q ↔ Q (some (.inl r)) (em G W (hp S D2))) := cl_ref (s_pass hS hW) e
theorem r_tiredIn (hS : S.length ≤ 2048) (hW : Wd D) : ∃ D2, Wd D2 ∧ Eq8 D2 D ∧ ∀ Q, (wp 84 0 [.inr (.inl (8 + G.length)), .inl s, .inr (.inl 0), .inr (.inl 0), .inr (.inl 0), .inr (.inl 0), .inr (.inl 0)] [] (em G W (hp S D)) Q ↔ Q (some (.inl (m154 D s).1)) (em G W (hp S D2))) := cl_sq (s_tiredIn hS hW)
theorem r_darkIn (hS : S.length ≤ 2048) (hW : Wd D) : ∃ D2, Wd D2 ∧ Eq8 D2 D ∧ ∀ Q, (wp 85 0 [.inr (.inl (8 + G.length)), .inr (.inl 0)] [] (em G W (hp S D)) Q ↔ Q (some (.inl (dinF 3001 0 (D 159)).1)) (em G W (hp S D2))) := cl_sq (s_darkIn hS hW)
theorem rf1_0 (hS : S.length ≤ 2048) (hW : Wd D) (h12 : ¬ D 159 1 = D 159 2) : ∃ D2, Wd D2 ∧ Eq8 D2 D ∧ ∀ Q, (wp 104 0 [.inr (.inl (8 + G.length)), .inl 0, .inr (.inl 0)] [] (em G W (hp S D)) Q ↔ wp 104 200 [.inr (.inl (8 + G.length)), .inl 0, .inl (-1)] [] (em G W (hp S D2)) Q) := by
  obtain ⟨hs, hc, ho, h0⟩ := hW.2.1
  obtain ⟨a0, a1, a2, a3, a4, a5, a6, a7, a8, _⟩ := hs
  have W0 := hW
  have e0 : Eq8 D D := fun _ _ => rfl
  have rS : ∀ {E : eRow}, E = D 159 → o130 E 0 (D 159 3) = (-5, none) := fun {E} q => by
    subst q
    show (if loS 0 ≤ D 159 3 ∧ D 159 3 ≤ hiS 0 then (if D 159 3 = D 159 3 then ((-5, none) : Int × Option eRow) else _) else _) = _
    rw [if_pos (by unfold loS hiS; simp; omega), if_pos rfl]
  have rN : ∀ {E : eRow}, E = D 159 → o131 E (D 159 1) (D 159 2) = (-5, none) := fun {E} q => by
    subst q
    unfold o131
    rw [if_pos a2, if_pos a3, if_neg h12, if_pos ⟨rfl, rfl⟩]
  obtain ⟨D1, W1, q1, r1⟩ := r_set (G := G) (W := W) (w := (-1)) (v := 1) hS W0 (r := (-1)) (rfl)
  have e1 := q1.trans e0
  obtain ⟨D2, W2, q2, r2⟩ := r_set (G := G) (W := W) (w := 0) (v := 74) hS W1 (r := (-2)) (rfl)
  have e2 := q2.trans e1
  obtain ⟨D3, W3, q3, r3⟩ := r_set (G := G) (W := W) (w := 1) (v := 0) hS W2 (r := (-2)) (rfl)
  have e3 := q3.trans e2
  obtain ⟨D4, W4, q4, r4⟩ := r_set (G := G) (W := W) (w := 2) (v := 0) hS W3 (r := (-2)) (rfl)
  have e4 := q4.trans e3
  obtain ⟨D5, W5, q5, r5⟩ := r_set (G := G) (W := W) (w := 3) (v := (-1)) hS W4 (r := (-2)) (rfl)
  have e5 := q5.trans e4
  obtain ⟨D6, W6, q6, r6⟩ := r_set (G := G) (W := W) (w := 0) (v := D 159 3) hS W5 (r := (-5)) (rS (e5 159 (by omega)))
  have e6 := q6.trans e5
  obtain ⟨D7, W7, q7, r7⟩ := r_setNight (G := G) (W := W) (w := (-1)) (v := 3) hS W6 (r := (-2)) (rfl)
  have e7 := q7.trans e6
  obtain ⟨D8, W8, q8, r8⟩ := r_setNight (G := G) (W := W) (w := 3) (v := (-1)) hS W7 (r := (-2)) (rfl)
  have e8 := q8.trans e7
  obtain ⟨D9, W9, q9, r9⟩ := r_setNight (G := G) (W := W) (w := 7) (v := 7) hS W8 (r := (-2)) (rfl)
  have e9 := q9.trans e8
  obtain ⟨D10, W10, q10, r10⟩ := r_setNight (G := G) (W := W) (w := D 159 1) (v := D 159 2) hS W9 (r := (-5)) (rN (e9 159 (by omega)))
  have e10 := q10.trans e9
  have u5 : m162 D5 0 = D 159 3 := by rw [← e5 159 (by omega)]; rfl
  have u6 : m153 D9 6 = D 159 1 := by rw [← e9 159 (by omega)]; rfl
  have u7 : m153 D9 7 = D 159 2 := by rw [← e9 159 (by omega)]; rfl
  refine ⟨D10, W10, e10, fun Q => ?_⟩
  simp (disch := first | assumption | omega | decide | exact b2i_01 _ | (unfold lx; omega)) only [s104_0, s104_1, s104_4, s104_5, s104_8, s104_10, s104_11, s104_12, s104_13, s104_16, s104_17, s104_20, s104_21, s104_22, s104_25, s104_26, s104_29, s104_30, s104_31, s104_32, s104_35, s104_37, s104_40, s104_42, s104_45, s104_47, s104_50, s104_51, s104_52, s104_53, s104_56, s104_57, s104_60, s104_62, s104_65, s104_67, s104_70, s104_71, s104_72, s104_73, s104_76, s104_77, s104_80, s104_82, s104_85, s104_87, s104_90, s104_91, s104_92, s104_93, s104_96, s104_97, s104_100, s104_101, s104_104, s104_106, s104_109, s104_110, s104_111, s104_112, s104_113, s104_116, s104_119, s104_121, s104_124, s104_125, s104_126, s104_129, s104_130, s104_133, s104_135, s104_136, s104_139, s104_141, s104_144, s104_145, s104_146, s104_147, s104_150, s104_151, s104_154, s104_156, s104_159, s104_161, s104_164, s104_165, s104_167, s104_169, s104_172, s104_174, s104_177, s104_178, s104_179, s104_181, s104_184, s104_185, s104_187, s104_190, s104_193, s104_195, s104_198, kont_some, kont_none, w32_of, if_true, if_false, tdv, tmd, setA_eq, up_setA, rd_hi, Int.reduceToNat, if_neg (show ¬ (1 : Int) = 0 by decide), Int.reduceEq, r1, r2, r3, r4, r5, r6, r7, r8, r9, r10, l_setting hS W5, l_wheel hS W9, u5, u6, u7]
theorem rf2_0 (hS : S.length ≤ 2048) (hW : Wd D) : ∃ D2, Wd D2 ∧ Eq8 D2 D ∧ ∀ Q, (wp 104 200 [.inr (.inl (8 + G.length)), .inl 0, .inl (-1)] [] (em G W (hp S D)) Q ↔ wp 104 428 [.inr (.inl (8 + G.length)), .inl 0, .inl (-1)] [] (em G W (hp S D2)) Q) := by
  obtain ⟨hs, hc, ho, h0⟩ := hW.2.1
  obtain ⟨a0, a1, a2, a3, a4, a5, a6, a7, a8, _⟩ := hs
  have W0 := hW
  have e0 : Eq8 D D := fun _ _ => rfl
  have rT : ∀ {E : eRow}, E = D 159 → o135 E (D 159 7) = ((if D 159 8 = -5 then -5 else -4), none) := fun {E} q => by
    subst q
    unfold o135
    rw [if_pos a8]
    split
    · rw [if_pos rfl]
    · rfl
  obtain ⟨D1, W1, q1, r1⟩ := r_putIn (G := G) (W := W) (s := (-1)) (a := 9) (b := 9) hS W0 (r := (-1)) (rfl)
  have e1 := q1.trans e0
  obtain ⟨D2, W2, q2, r2⟩ := r_putIn (G := G) (W := W) (s := 0) (a := (-1)) (b := 100) hS W1 (r := (-2)) (rfl)
  have e2 := q2.trans e1
  obtain ⟨D3, W3, q3, r3⟩ := r_putIn (G := G) (W := W) (s := 0) (a := 0) (b := 49) hS W2 (r := (-2)) (rfl)
  have e3 := q3.trans e2
  obtain ⟨D4, W4, q4, r4⟩ := r_takeOut (G := G) (W := W) (s := (-1)) hS W3 (r := (-1)) (rfl)
  have e4 := q4.trans e3
  obtain ⟨D5, W5, q5, r5⟩ := r_turnTo (G := G) (W := W) (s := (-1)) hS W4 (r := (-1)) (rfl)
  have e5 := q5.trans e4
  obtain ⟨D6, W6, q6, r6⟩ := r_turnTo (G := G) (W := W) (s := D 159 7) hS W5 (r := (if D 159 8 = -5 then -5 else -4)) (rT (e5 159 (by omega)))
  have e6 := q6.trans e5
  obtain ⟨D7, W7, q7, r7⟩ := r_stock (G := G) (W := W) (a := (-1)) (b := 1) hS W6 (r := (-2)) (rfl)
  have e7 := q7.trans e6
  obtain ⟨D8, W8, q8, r8⟩ := r_stock (G := G) (W := W) (a := 0) (b := 0) hS W7 (r := (-2)) (rfl)
  have e8 := q8.trans e7
  obtain ⟨D9, W9, q9, r9⟩ := r_boat (G := G) (W := W) (t := (-1)) (a := 0) (b := 1) hS W8 (r := (-2)) (rfl)
  have e9 := q9.trans e8
  obtain ⟨D10, W10, q10, r10⟩ := r_boat (G := G) (W := W) (t := 1) (a := (-1)) (b := 1) hS W9 (r := (-2)) (rfl)
  have e10 := q10.trans e9
  obtain ⟨D11, W11, q11, r11⟩ := r_boat (G := G) (W := W) (t := 1) (a := 1) (b := 0) hS W10 (r := (-2)) (rfl)
  have e11 := q11.trans e10
  obtain ⟨D12, W12, q12, r12⟩ := r_pass (G := G) (W := W) (v := 0) hS W11 (r := (-2)) (rfl)
  have e12 := q12.trans e11
  have u5 : m153 D5 0 = D 159 7 := by rw [← e5 159 (by omega)]; rfl
  have u6 : m153 D6 1 = D 159 8 := by rw [← e6 159 (by omega)]; rfl
  refine ⟨D12, W12, e12, fun Q => ?_⟩
  by_cases h8 : D 159 8 = -5
  · rw [if_pos h8] at r6
    simp (disch := first | assumption | omega | decide | exact b2i_01 _ | (unfold lx; omega)) only [s104_200, s104_201, s104_202, s104_204, s104_206, s104_209, s104_210, s104_213, s104_214, s104_215, s104_216, s104_219, s104_220, s104_223, s104_224, s104_226, s104_229, s104_231, s104_234, s104_235, s104_236, s104_237, s104_238, s104_241, s104_243, s104_246, s104_249, s104_252, s104_254, s104_257, s104_258, s104_259, s104_262, s104_263, s104_266, s104_267, s104_268, s104_271, s104_272, s104_275, s104_276, s104_277, s104_278, s104_281, s104_284, s104_285, s104_286, s104_289, s104_291, s104_294, s104_296, s104_299, s104_301, s104_304, s104_305, s104_306, s104_309, s104_310, s104_313, s104_314, s104_315, s104_318, s104_320, s104_323, s104_324, s104_325, s104_326, s104_329, s104_330, s104_333, s104_335, s104_338, s104_340, s104_343, s104_344, s104_345, s104_348, s104_349, s104_352, s104_355, s104_356, s104_357, s104_360, s104_362, s104_365, s104_366, s104_367, s104_368, s104_371, s104_372, s104_375, s104_376, s104_377, s104_380, s104_382, s104_385, s104_386, s104_387, s104_388, s104_389, s104_392, s104_393, s104_396, s104_398, s104_401, s104_403, s104_406, s104_407, s104_408, s104_411, s104_412, s104_415, s104_418, s104_421, s104_423, kont_some, kont_none, w32_of, if_true, if_false, tdv, tmd, setA_eq, up_setA, rd_hi, Int.reduceToNat, if_neg (show ¬ (1 : Int) = 0 by decide), Int.reduceEq, r1, r2, r3, r4, r5, r6, r7, r8, r9, r10, r11, r12, l_wheel hS W5, l_wheel hS W6, u5, u6, if_pos h8]
  · rw [if_neg h8] at r6
    simp (disch := first | assumption | omega | decide | exact b2i_01 _ | (unfold lx; omega)) only [s104_200, s104_201, s104_202, s104_204, s104_206, s104_209, s104_210, s104_213, s104_214, s104_215, s104_216, s104_219, s104_220, s104_223, s104_224, s104_226, s104_229, s104_231, s104_234, s104_235, s104_236, s104_237, s104_238, s104_241, s104_243, s104_246, s104_249, s104_252, s104_254, s104_257, s104_258, s104_259, s104_262, s104_263, s104_266, s104_267, s104_268, s104_271, s104_272, s104_275, s104_276, s104_277, s104_278, s104_281, s104_284, s104_285, s104_286, s104_289, s104_291, s104_294, s104_296, s104_299, s104_301, s104_304, s104_305, s104_306, s104_309, s104_310, s104_313, s104_314, s104_315, s104_318, s104_320, s104_323, s104_324, s104_325, s104_326, s104_329, s104_330, s104_333, s104_335, s104_338, s104_340, s104_343, s104_344, s104_345, s104_348, s104_349, s104_352, s104_355, s104_356, s104_357, s104_360, s104_362, s104_365, s104_366, s104_367, s104_368, s104_371, s104_372, s104_375, s104_376, s104_377, s104_380, s104_382, s104_385, s104_386, s104_387, s104_388, s104_389, s104_392, s104_393, s104_396, s104_398, s104_401, s104_403, s104_406, s104_407, s104_408, s104_411, s104_412, s104_415, s104_418, s104_421, s104_423, kont_some, kont_none, w32_of, if_true, if_false, tdv, tmd, setA_eq, up_setA, rd_hi, Int.reduceToNat, if_neg (show ¬ (1 : Int) = 0 by decide), Int.reduceEq, r1, r2, r3, r4, r5, r6, r7, r8, r9, r10, r11, r12, l_wheel hS W5, l_wheel hS W6, u5, u6, if_neg h8]
theorem rf3_0 (hS : S.length ≤ 2048) (hW : Wd D) : ∃ D2, Wd D2 ∧ Eq8 D2 D ∧ ∀ Q, (wp 104 428 [.inr (.inl (8 + G.length)), .inl 0, .inl (-1)] [] (em G W (hp S D)) Q ↔ Q (some (.inl 1)) (em G W (hp S D2))) := by
  obtain ⟨hs, hc, ho, h0⟩ := hW.2.1
  have bb := St_b hs
  obtain ⟨D1, W1, e1, r1⟩ := r_tiredIn (G := G) (W := W) (s := (-1)) hS hW
  have ev : D1 159 = D 159 := e1 159 (by omega)
  have v0 : (m154 D (-1)).1 = -1 := rfl
  have v1 : m152 D (-1) 9 = -1 := rfl
  have v2 : m152 D 0 (-1) = -2 := rfl
  have v3 : m153 D (-1) = -2 := rfl
  have v4 : m157 D1 (-1) = -2 := rfl
  have v6 : m158 D1 (-1) 0 = -2 := rfl
  have v7 : m158 D1 0 (-1) = -2 := rfl
  have v9 : m159 D1 (-1) 0 = -2 := rfl
  have v10 : m159 D1 0 (-1) = -2 := rfl
  have v12 : m161 D1 (-1) = -2 := rfl
  have v13 : m162 D1 (-1) = -1 := rfl
  have v5 : m157 D1 6 = -5 := rk_6 6 0 (by decide) (by decide)
  have v8 : m158 D1 10 0 = -5 := by
    show (if (10 : Int) < D1 159 49 then _ else (-5 : Int)) = -5
    rw [if_neg (by rw [ev]; omega)]
  have v11 : m159 D1 10 0 = -5 := by
    show (if (10 : Int) < D1 159 80 then _ else (-5 : Int)) = -5
    rw [if_neg (by rw [ev]; omega)]
  refine ⟨D1, W1, e1, fun Q => ?_⟩
  simp (disch := first | assumption | omega | decide | exact b2i_01 _ | (unfold lx; omega)) only [s104_428, s104_429, s104_430, s104_432, s104_435, s104_436, s104_439, s104_440, s104_441, s104_442, s104_445, s104_446, s104_449, s104_451, s104_454, s104_456, s104_459, s104_460, s104_461, s104_464, s104_465, s104_468, s104_470, s104_473, s104_475, s104_478, s104_479, s104_480, s104_483, s104_484, s104_487, s104_488, s104_489, s104_490, s104_491, s104_494, s104_496, s104_499, s104_500, s104_502, s104_505, s104_507, s104_510, s104_511, s104_512, s104_513, s104_516, s104_518, s104_521, s104_522, s104_523, s104_524, s104_527, s104_528, s104_531, s104_532, s104_535, s104_537, s104_540, s104_541, s104_543, s104_544, s104_547, s104_549, s104_552, s104_553, s104_554, s104_555, s104_558, s104_560, s104_563, s104_564, s104_565, s104_566, s104_569, s104_570, s104_573, s104_574, s104_577, s104_579, s104_582, s104_583, s104_585, s104_586, s104_589, s104_591, s104_594, s104_595, s104_596, s104_599, s104_600, s104_603, s104_605, s104_608, s104_610, s104_613, s104_614, s104_615, s104_618, s104_619, s104_622, s104_623, s104_626, s104_627, s104_630, s104_631, s104_634, s104_635, kont_some, kont_none, w32_of, if_true, if_false, tdv, tmd, setA_eq, up_setA, rd_hi, Int.reduceToNat, if_neg (show ¬ (1 : Int) = 0 by decide), Int.reduceEq, Int.reduceSub, r1, v0, l_lamp hS hW, l_wheel hS hW, l_ranked hS W1, l_planned hS W1, l_event hS W1, l_count hS W1, l_setting hS W1, v1, v2, v3, v4, v5, v6, v7, v8, v9, v10, v11, v12, v13]
theorem rf_0 (hS : S.length ≤ 2048) (hW : Wd D) (h12 : ¬ D 159 1 = D 159 2) : ∃ D2, Wd D2 ∧ Eq8 D2 D ∧ ∀ Q, (wp 104 0 [.inr (.inl (8 + G.length)), .inl 0, .inr (.inl 0)] [] (em G W (hp S D)) Q ↔ Q (some (.inl 1)) (em G W (hp S D2))) := by
  obtain ⟨D1, W1, e1, r1⟩ := rf1_0 (G := G) (W := W) hS hW h12
  obtain ⟨D2, W2, e2, r2⟩ := rf2_0 (G := G) (W := W) hS W1
  obtain ⟨D3, W3, e3, r3⟩ := rf3_0 (G := G) (W := W) hS W2
  exact ⟨D3, W3, e3.trans (e2.trans e1), fun Q => ((r1 Q).trans (r2 Q)).trans (r3 Q)⟩
theorem rf1_1 (hS : S.length ≤ 2048) (hW : Wd D) (h12 : ¬ D 159 1 = D 159 2) : ∃ D2, Wd D2 ∧ Eq8 D2 D ∧ ∀ Q, (wp 104 0 [.inr (.inl (8 + G.length)), .inl 1, .inr (.inl 0)] [] (em G W (hp S D)) Q ↔ wp 104 200 [.inr (.inl (8 + G.length)), .inl 1, .inl 6] [] (em G W (hp S D2)) Q) := by
  obtain ⟨hs, hc, ho, h0⟩ := hW.2.1
  obtain ⟨a0, a1, a2, a3, a4, a5, a6, a7, a8, _⟩ := hs
  have W0 := hW
  have e0 : Eq8 D D := fun _ _ => rfl
  have rS : ∀ {E : eRow}, E = D 159 → o130 E 1 (D 159 4) = (-5, none) := fun {E} q => by
    subst q
    show (if loS 1 ≤ D 159 4 ∧ D 159 4 ≤ hiS 1 then (if D 159 4 = D 159 4 then ((-5, none) : Int × Option eRow) else _) else _) = _
    rw [if_pos (by unfold loS hiS; simp; omega), if_pos rfl]
  have rN : ∀ {E : eRow}, E = D 159 → o131 E (D 159 1) (D 159 2) = (-5, none) := fun {E} q => by
    subst q
    unfold o131
    rw [if_pos a2, if_pos a3, if_neg h12, if_pos ⟨rfl, rfl⟩]
  obtain ⟨D1, W1, q1, r1⟩ := r_set (G := G) (W := W) (w := 4) (v := 1) hS W0 (r := (-1)) (rfl)
  have e1 := q1.trans e0
  obtain ⟨D2, W2, q2, r2⟩ := r_set (G := G) (W := W) (w := 0) (v := 100) hS W1 (r := (-2)) (rfl)
  have e2 := q2.trans e1
  obtain ⟨D3, W3, q3, r3⟩ := r_set (G := G) (W := W) (w := 1) (v := 6) hS W2 (r := (-2)) (rfl)
  have e3 := q3.trans e2
  obtain ⟨D4, W4, q4, r4⟩ := r_set (G := G) (W := W) (w := 2) (v := 6) hS W3 (r := (-2)) (rfl)
  have e4 := q4.trans e3
  obtain ⟨D5, W5, q5, r5⟩ := r_set (G := G) (W := W) (w := 3) (v := 2) hS W4 (r := (-2)) (rfl)
  have e5 := q5.trans e4
  obtain ⟨D6, W6, q6, r6⟩ := r_set (G := G) (W := W) (w := 1) (v := D 159 4) hS W5 (r := (-5)) (rS (e5 159 (by omega)))
  have e6 := q6.trans e5
  obtain ⟨D7, W7, q7, r7⟩ := r_setNight (G := G) (W := W) (w := 48) (v := 3) hS W6 (r := (-2)) (rfl)
  have e7 := q7.trans e6
  obtain ⟨D8, W8, q8, r8⟩ := r_setNight (G := G) (W := W) (w := 3) (v := 48) hS W7 (r := (-2)) (rfl)
  have e8 := q8.trans e7
  obtain ⟨D9, W9, q9, r9⟩ := r_setNight (G := G) (W := W) (w := 7) (v := 7) hS W8 (r := (-2)) (rfl)
  have e9 := q9.trans e8
  obtain ⟨D10, W10, q10, r10⟩ := r_setNight (G := G) (W := W) (w := D 159 1) (v := D 159 2) hS W9 (r := (-5)) (rN (e9 159 (by omega)))
  have e10 := q10.trans e9
  have u5 : m162 D5 1 = D 159 4 := by rw [← e5 159 (by omega)]; rfl
  have u6 : m153 D9 6 = D 159 1 := by rw [← e9 159 (by omega)]; rfl
  have u7 : m153 D9 7 = D 159 2 := by rw [← e9 159 (by omega)]; rfl
  refine ⟨D10, W10, e10, fun Q => ?_⟩
  simp (disch := first | assumption | omega | decide | exact b2i_01 _ | (unfold lx; omega)) only [s104_0, s104_1, s104_4, s104_5, s104_8, s104_10, s104_11, s104_12, s104_13, s104_16, s104_17, s104_20, s104_21, s104_22, s104_25, s104_26, s104_29, s104_30, s104_31, s104_32, s104_35, s104_37, s104_40, s104_42, s104_45, s104_47, s104_50, s104_51, s104_52, s104_53, s104_56, s104_57, s104_60, s104_62, s104_65, s104_67, s104_70, s104_71, s104_72, s104_73, s104_76, s104_77, s104_80, s104_82, s104_85, s104_87, s104_90, s104_91, s104_92, s104_93, s104_96, s104_97, s104_100, s104_101, s104_104, s104_106, s104_109, s104_110, s104_111, s104_112, s104_113, s104_116, s104_119, s104_121, s104_124, s104_125, s104_126, s104_129, s104_130, s104_133, s104_135, s104_136, s104_139, s104_141, s104_144, s104_145, s104_146, s104_147, s104_150, s104_151, s104_154, s104_156, s104_159, s104_161, s104_164, s104_165, s104_167, s104_169, s104_172, s104_174, s104_177, s104_178, s104_179, s104_181, s104_184, s104_185, s104_187, s104_190, s104_193, s104_195, s104_198, kont_some, kont_none, w32_of, if_true, if_false, tdv, tmd, setA_eq, up_setA, rd_hi, Int.reduceToNat, if_neg (show ¬ (1 : Int) = 0 by decide), Int.reduceEq, r1, r2, r3, r4, r5, r6, r7, r8, r9, r10, l_setting hS W5, l_wheel hS W9, u5, u6, u7]
theorem rf2_1 (hS : S.length ≤ 2048) (hW : Wd D) : ∃ D2, Wd D2 ∧ Eq8 D2 D ∧ ∀ Q, (wp 104 200 [.inr (.inl (8 + G.length)), .inl 1, .inl 6] [] (em G W (hp S D)) Q ↔ wp 104 428 [.inr (.inl (8 + G.length)), .inl 1, .inl 6] [] (em G W (hp S D2)) Q) := by
  obtain ⟨hs, hc, ho, h0⟩ := hW.2.1
  obtain ⟨a0, a1, a2, a3, a4, a5, a6, a7, a8, _⟩ := hs
  have W0 := hW
  have e0 : Eq8 D D := fun _ _ => rfl
  have rT : ∀ {E : eRow}, E = D 159 → o135 E (D 159 7) = ((if D 159 8 = -5 then -5 else -4), none) := fun {E} q => by
    subst q
    unfold o135
    rw [if_pos a8]
    split
    · rw [if_pos rfl]
    · rfl
  obtain ⟨D1, W1, q1, r1⟩ := r_putIn (G := G) (W := W) (s := 6) (a := 9) (b := 9) hS W0 (r := (-1)) (rfl)
  have e1 := q1.trans e0
  obtain ⟨D2, W2, q2, r2⟩ := r_putIn (G := G) (W := W) (s := 0) (a := 3) (b := 100) hS W1 (r := (-2)) (rfl)
  have e2 := q2.trans e1
  obtain ⟨D3, W3, q3, r3⟩ := r_putIn (G := G) (W := W) (s := 0) (a := 0) (b := 151) hS W2 (r := (-2)) (rfl)
  have e3 := q3.trans e2
  obtain ⟨D4, W4, q4, r4⟩ := r_takeOut (G := G) (W := W) (s := 6) hS W3 (r := (-1)) (rfl)
  have e4 := q4.trans e3
  obtain ⟨D5, W5, q5, r5⟩ := r_turnTo (G := G) (W := W) (s := 6) hS W4 (r := (-1)) (rfl)
  have e5 := q5.trans e4
  obtain ⟨D6, W6, q6, r6⟩ := r_turnTo (G := G) (W := W) (s := D 159 7) hS W5 (r := (if D 159 8 = -5 then -5 else -4)) (rT (e5 159 (by omega)))
  have e6 := q6.trans e5
  obtain ⟨D7, W7, q7, r7⟩ := r_stock (G := G) (W := W) (a := 3) (b := 1) hS W6 (r := (-2)) (rfl)
  have e7 := q7.trans e6
  obtain ⟨D8, W8, q8, r8⟩ := r_stock (G := G) (W := W) (a := 0) (b := 7) hS W7 (r := (-2)) (rfl)
  have e8 := q8.trans e7
  obtain ⟨D9, W9, q9, r9⟩ := r_boat (G := G) (W := W) (t := 10000) (a := 0) (b := 1) hS W8 (r := (-2)) (rfl)
  have e9 := q9.trans e8
  obtain ⟨D10, W10, q10, r10⟩ := r_boat (G := G) (W := W) (t := 1) (a := 3) (b := 1) hS W9 (r := (-2)) (rfl)
  have e10 := q10.trans e9
  obtain ⟨D11, W11, q11, r11⟩ := r_boat (G := G) (W := W) (t := 1) (a := 1) (b := 7) hS W10 (r := (-2)) (rfl)
  have e11 := q11.trans e10
  obtain ⟨D12, W12, q12, r12⟩ := r_pass (G := G) (W := W) (v := 201) hS W11 (r := (-2)) (rfl)
  have e12 := q12.trans e11
  have u5 : m153 D5 0 = D 159 7 := by rw [← e5 159 (by omega)]; rfl
  have u6 : m153 D6 1 = D 159 8 := by rw [← e6 159 (by omega)]; rfl
  refine ⟨D12, W12, e12, fun Q => ?_⟩
  by_cases h8 : D 159 8 = -5
  · rw [if_pos h8] at r6
    simp (disch := first | assumption | omega | decide | exact b2i_01 _ | (unfold lx; omega)) only [s104_200, s104_201, s104_202, s104_204, s104_206, s104_209, s104_210, s104_213, s104_214, s104_215, s104_216, s104_219, s104_220, s104_223, s104_224, s104_226, s104_229, s104_231, s104_234, s104_235, s104_236, s104_237, s104_238, s104_241, s104_243, s104_246, s104_249, s104_252, s104_254, s104_257, s104_258, s104_259, s104_262, s104_263, s104_266, s104_267, s104_268, s104_271, s104_272, s104_275, s104_276, s104_277, s104_278, s104_281, s104_284, s104_285, s104_286, s104_289, s104_291, s104_294, s104_296, s104_299, s104_301, s104_304, s104_305, s104_306, s104_309, s104_310, s104_313, s104_314, s104_315, s104_318, s104_320, s104_323, s104_324, s104_325, s104_326, s104_329, s104_330, s104_333, s104_335, s104_338, s104_340, s104_343, s104_344, s104_345, s104_348, s104_349, s104_352, s104_355, s104_356, s104_357, s104_360, s104_362, s104_365, s104_366, s104_367, s104_368, s104_371, s104_372, s104_375, s104_376, s104_377, s104_380, s104_382, s104_385, s104_386, s104_387, s104_388, s104_389, s104_392, s104_393, s104_396, s104_398, s104_401, s104_403, s104_406, s104_407, s104_408, s104_411, s104_412, s104_415, s104_418, s104_421, s104_423, kont_some, kont_none, w32_of, if_true, if_false, tdv, tmd, setA_eq, up_setA, rd_hi, Int.reduceToNat, if_neg (show ¬ (1 : Int) = 0 by decide), Int.reduceEq, r1, r2, r3, r4, r5, r6, r7, r8, r9, r10, r11, r12, l_wheel hS W5, l_wheel hS W6, u5, u6, if_pos h8]
  · rw [if_neg h8] at r6
    simp (disch := first | assumption | omega | decide | exact b2i_01 _ | (unfold lx; omega)) only [s104_200, s104_201, s104_202, s104_204, s104_206, s104_209, s104_210, s104_213, s104_214, s104_215, s104_216, s104_219, s104_220, s104_223, s104_224, s104_226, s104_229, s104_231, s104_234, s104_235, s104_236, s104_237, s104_238, s104_241, s104_243, s104_246, s104_249, s104_252, s104_254, s104_257, s104_258, s104_259, s104_262, s104_263, s104_266, s104_267, s104_268, s104_271, s104_272, s104_275, s104_276, s104_277, s104_278, s104_281, s104_284, s104_285, s104_286, s104_289, s104_291, s104_294, s104_296, s104_299, s104_301, s104_304, s104_305, s104_306, s104_309, s104_310, s104_313, s104_314, s104_315, s104_318, s104_320, s104_323, s104_324, s104_325, s104_326, s104_329, s104_330, s104_333, s104_335, s104_338, s104_340, s104_343, s104_344, s104_345, s104_348, s104_349, s104_352, s104_355, s104_356, s104_357, s104_360, s104_362, s104_365, s104_366, s104_367, s104_368, s104_371, s104_372, s104_375, s104_376, s104_377, s104_380, s104_382, s104_385, s104_386, s104_387, s104_388, s104_389, s104_392, s104_393, s104_396, s104_398, s104_401, s104_403, s104_406, s104_407, s104_408, s104_411, s104_412, s104_415, s104_418, s104_421, s104_423, kont_some, kont_none, w32_of, if_true, if_false, tdv, tmd, setA_eq, up_setA, rd_hi, Int.reduceToNat, if_neg (show ¬ (1 : Int) = 0 by decide), Int.reduceEq, r1, r2, r3, r4, r5, r6, r7, r8, r9, r10, r11, r12, l_wheel hS W5, l_wheel hS W6, u5, u6, if_neg h8]
theorem rf3_1 (hS : S.length ≤ 2048) (hW : Wd D) : ∃ D2, Wd D2 ∧ Eq8 D2 D ∧ ∀ Q, (wp 104 428 [.inr (.inl (8 + G.length)), .inl 1, .inl 6] [] (em G W (hp S D)) Q ↔ Q (some (.inl 1)) (em G W (hp S D2))) := by
  obtain ⟨hs, hc, ho, h0⟩ := hW.2.1
  have bb := St_b hs
  obtain ⟨D1, W1, e1, r1⟩ := r_tiredIn (G := G) (W := W) (s := 6) hS hW
  have ev : D1 159 = D 159 := e1 159 (by omega)
  have v0 : (m154 D 6).1 = -1 := rfl
  have v1 : m152 D 6 9 = -1 := rfl
  have v2 : m152 D 0 8 = -2 := rfl
  have v3 : m153 D 8 = -2 := rfl
  have v4 : m157 D1 (-2) = -2 := rfl
  have v6 : m158 D1 (-1) 0 = -2 := rfl
  have v7 : m158 D1 0 3 = -2 := rfl
  have v9 : m159 D1 (-1) 0 = -2 := rfl
  have v10 : m159 D1 0 3 = -2 := rfl
  have v12 : m161 D1 14 = -2 := rfl
  have v13 : m162 D1 4 = -1 := rfl
  have v5 : m157 D1 6 = -5 := rk_6 6 0 (by decide) (by decide)
  have v8 : m158 D1 10 0 = -5 := by
    show (if (10 : Int) < D1 159 49 then _ else (-5 : Int)) = -5
    rw [if_neg (by rw [ev]; omega)]
  have v11 : m159 D1 10 0 = -5 := by
    show (if (10 : Int) < D1 159 80 then _ else (-5 : Int)) = -5
    rw [if_neg (by rw [ev]; omega)]
  refine ⟨D1, W1, e1, fun Q => ?_⟩
  simp (disch := first | assumption | omega | decide | exact b2i_01 _ | (unfold lx; omega)) only [s104_428, s104_429, s104_430, s104_432, s104_435, s104_436, s104_439, s104_440, s104_441, s104_442, s104_445, s104_446, s104_449, s104_451, s104_454, s104_456, s104_459, s104_460, s104_461, s104_464, s104_465, s104_468, s104_470, s104_473, s104_475, s104_478, s104_479, s104_480, s104_483, s104_484, s104_487, s104_488, s104_489, s104_490, s104_491, s104_494, s104_496, s104_499, s104_500, s104_502, s104_505, s104_507, s104_510, s104_511, s104_512, s104_513, s104_516, s104_518, s104_521, s104_522, s104_523, s104_524, s104_527, s104_528, s104_531, s104_532, s104_535, s104_537, s104_540, s104_541, s104_543, s104_544, s104_547, s104_549, s104_552, s104_553, s104_554, s104_555, s104_558, s104_560, s104_563, s104_564, s104_565, s104_566, s104_569, s104_570, s104_573, s104_574, s104_577, s104_579, s104_582, s104_583, s104_585, s104_586, s104_589, s104_591, s104_594, s104_595, s104_596, s104_599, s104_600, s104_603, s104_605, s104_608, s104_610, s104_613, s104_614, s104_615, s104_618, s104_619, s104_622, s104_623, s104_626, s104_627, s104_630, s104_631, s104_634, s104_635, kont_some, kont_none, w32_of, if_true, if_false, tdv, tmd, setA_eq, up_setA, rd_hi, Int.reduceToNat, if_neg (show ¬ (1 : Int) = 0 by decide), Int.reduceEq, Int.reduceSub, r1, v0, l_lamp hS hW, l_wheel hS hW, l_ranked hS W1, l_planned hS W1, l_event hS W1, l_count hS W1, l_setting hS W1, v1, v2, v3, v4, v5, v6, v7, v8, v9, v10, v11, v12, v13]
theorem rf_1 (hS : S.length ≤ 2048) (hW : Wd D) (h12 : ¬ D 159 1 = D 159 2) : ∃ D2, Wd D2 ∧ Eq8 D2 D ∧ ∀ Q, (wp 104 0 [.inr (.inl (8 + G.length)), .inl 1, .inr (.inl 0)] [] (em G W (hp S D)) Q ↔ Q (some (.inl 1)) (em G W (hp S D2))) := by
  obtain ⟨D1, W1, e1, r1⟩ := rf1_1 (G := G) (W := W) hS hW h12
  obtain ⟨D2, W2, e2, r2⟩ := rf2_1 (G := G) (W := W) hS W1
  obtain ⟨D3, W3, e3, r3⟩ := rf3_1 (G := G) (W := W) hS W2
  exact ⟨D3, W3, e3.trans (e2.trans e1), fun Q => ((r1 Q).trans (r2 Q)).trans (r3 Q)⟩
theorem lc_0 (x : Int64) : (lg_cmp x x).toInt = 0 := by
  unfold lg_cmp
  rw [if_neg (Int64.lt_irrefl), if_pos rfl]
  rfl
theorem l_refused (hS : S.length ≤ 2048) (hW : Wd D) (h12 : ¬ D 159 1 = D 159 2) : ∃ D2, Wd D2 ∧ Eq8 D2 D ∧ ∀ Q, (wp 105 0 [.inr (.inl (8 + G.length)), .inr (.inl 0), .inr (.inl 0), .inr (.inl 0)] [] (em G W (hp S D)) Q ↔ Q (some (.inl 1)) (em G W (hp S D2))) := by
  obtain ⟨D1, W1, e1, r1⟩ := rf_0 (G := G) (W := W) hS hW h12
  have v1 := e1 159 (by omega)
  obtain ⟨D2, W2, e2, r2⟩ := rf_1 (G := G) (W := W) hS W1 (by rw [v1]; exact h12)
  have e := e2.trans e1
  have v2 := e 159 (by omega)
  have c1 : m161 D 12 = D 158 3 := rfl
  have c2 : m161 D2 12 = D 158 3 := by rw [← e 158 (by omega)]; rfl
  refine ⟨D2, W2, e, fun Q => ?_⟩
  simp (disch := first | assumption | omega | decide | exact b2i_01 _ | (unfold lx; omega)) only [s105_0, s105_1, s105_4, s105_5, s105_6, s105_8, s105_11, s105_12, s105_13, s105_14, s105_17, s105_20, s105_21, s105_22, s105_25, s105_28, s105_29, s105_32, s105_33, s105_34, s105_37, s105_38, s105_40, s105_43, s105_44, s105_47, s105_48, s105_51, s105_52, kont_some, kont_none, w32_of, if_true, if_false, tdv, tmd, setA_eq, up_setA, rd_hi, Int.reduceToNat, if_neg (show ¬ (1 : Int) = 0 by decide), Int.reduceEq, l_seen hS hW, l_seen hS W2, l_count hS hW, l_count hS W2, r1, r2, v2, c1, c2, lc_0]
end SPEC87
