/-! the law's loop: twenty-four acts -/
section SPEC89
variable {S : List Int} {D E : eD} {G : eH} {Q : Option eV → eH → Prop} {a s w v p t b n k x u kind soc c T : Int} {L : List Int64} {l5 l6 l7 l8 l9 : eV}
theorem l_part0 (v : Int) {n : Int} (n0 : n ≠ 0) : ∃ p : Int, ∀ (h : eH) (Q : Option eV → eH → Prop), (wp 101 0 [.inl v, .inl n] [] h Q ↔ Q (some (.inl p)) h) := ⟨_, fun _ _ => l_part n0⟩
theorem Iv_set {w : Int64} (h : Iv D L c T) (h1 : c.toNat < L.length) : Iv D (L.set c.toNat w) c T ∧ (L.set c.toNat w).getD c.toNat 0 = w := by
  obtain ⟨h2, h3, h4, h5, h6, h7, h8⟩ := h
  refine ⟨⟨h2, h3, h4, fun i i0 i1 => ?_, h6, h7, h8⟩, ?_⟩
  · rw [h5 i i0 i1, List.getD_eq_getElem?_getD, List.getD_eq_getElem?_getD, List.getElem?_set_ne]
    have hn : D 158 3 ≤ c := by rw [h4]; split <;> omega
    omega
  · rw [List.getD_eq_getElem?_getD, List.getElem?_set_self h1]
    rfl
/-- what an act of the loop leaves -/
def Lo (D : eD) (L : List Int64) (c T : Int) (D2 : eD) (r : Int) : Prop := (r < 0 ∧ Eq8 D2 D ∧ Iv D2 L c (T + 200)) ∨ (¬ r < 0 ∧ Iv D2 L (c + 1) (T + 200))
theorem ac_0 (hS : S.length ≤ 2048) (hI : Iv D L c T) (hL : L.getD c.toNat 0 = sn (D 159)) (hk : kind = 0) : ∃ (D2 : eD) (r : Int), Lo D L c T D2 r ∧ ∀ Q, (wp 111 82 [.inr (.inl 7), .inr (.inl (8 + G.length)), .inr (.inl (158 + G.length)), .inl c, .inl k, .inl x, .inl kind, .inl u, .inl soc, l9] [] (em G [(104, lgs L)] (hp S D)) Q ↔ wp 111 305 [.inr (.inl 7), .inr (.inl (8 + G.length)), .inr (.inl (158 + G.length)), .inl c, .inl k, .inl x, .inl kind, .inl u, .inl soc, l9] [.inl r] (em G [(104, lgs L)] (hp S D2)) Q) := by
  obtain ⟨p1, r1⟩ := l_part0 ((Int32.ofInt x >>> (Int32.ofInt 4 &&& 31)).toInt) (n := 4) (by decide)
  obtain ⟨p2, r2⟩ := l_part0 ((Int32.ofInt x >>> (Int32.ofInt 7 &&& 31)).toInt) (n := 6) (by decide)
  obtain ⟨D2, r, hd, e⟩ := cl_loop (G := G) (W := [(104, lgs L)]) (s_set (S := S) (w := p1) (v := p2) hS hI.1) (ro_set hI.1.2.1 hI.2.2.2.2.1) hI hL
  have e2 : ∀ Q, (wp 68 0 [.inr (.inl (8 + G.length)), .inl p1, .inl p2, .inr (.inl 0)] [] (em G [(104, lgs L)] (hp S D)) Q ↔ Q (some (.inl r)) (em G [(104, lgs L)] (hp S D2))) := e
  refine ⟨D2, r, hd, fun Q => ?_⟩
  simp (disch := first | assumption | omega | decide | exact b2i_01 _ | (unfold lx; omega)) only [s111_82, s111_84, s111_87, s111_88, s111_90, s111_91, s111_92, s111_93, s111_96, s111_98, s111_100, s111_101, s111_103, s111_106, s111_109, kont_some, kont_none, w32_of, if_true, if_false, tdv, tmd, setA_eq, up_setA, rd_hi, Int.reduceToNat, if_neg (show ¬ (1 : Int) = 0 by decide), if_pos hk, r1, r2, e2]
theorem ac_1 (hS : S.length ≤ 2048) (hI : Iv D L c T) (hL : L.getD c.toNat 0 = sn (D 159)) (hk : kind = 1) : ∃ (D2 : eD) (r : Int), Lo D L c T D2 r ∧ ∀ Q, (wp 111 112 [.inr (.inl 7), .inr (.inl (8 + G.length)), .inr (.inl (158 + G.length)), .inl c, .inl k, .inl x, .inl kind, .inl u, .inl soc, l9] [] (em G [(104, lgs L)] (hp S D)) Q ↔ wp 111 305 [.inr (.inl 7), .inr (.inl (8 + G.length)), .inr (.inl (158 + G.length)), .inl c, .inl k, .inl x, .inl kind, .inl u, .inl soc, l9] [.inl r] (em G [(104, lgs L)] (hp S D2)) Q) := by
  obtain ⟨p1, r1⟩ := l_part0 ((Int32.ofInt x >>> (Int32.ofInt 4 &&& 31)).toInt) (n := 48) (by decide)
  obtain ⟨p2, r2⟩ := l_part0 ((Int32.ofInt x >>> (Int32.ofInt 10 &&& 31)).toInt) (n := 48) (by decide)
  obtain ⟨D2, r, hd, e⟩ := cl_loop (G := G) (W := [(104, lgs L)]) (s_setNight (S := S) (w := p1) (v := p2) hS hI.1) ro_setNight hI hL
  have e2 : ∀ Q, (wp 69 0 [.inr (.inl (8 + G.length)), .inl p1, .inl p2] [] (em G [(104, lgs L)] (hp S D)) Q ↔ Q (some (.inl r)) (em G [(104, lgs L)] (hp S D2))) := e
  refine ⟨D2, r, hd, fun Q => ?_⟩
  simp (disch := first | assumption | omega | decide | exact b2i_01 _ | (unfold lx; omega)) only [s111_112, s111_114, s111_115, s111_118, s111_119, s111_121, s111_122, s111_123, s111_125, s111_128, s111_130, s111_132, s111_133, s111_135, s111_138, s111_141, kont_some, kont_none, w32_of, if_true, if_false, tdv, tmd, setA_eq, up_setA, rd_hi, Int.reduceToNat, if_neg (show ¬ (1 : Int) = 0 by decide), if_pos hk, r1, r2, e2]
theorem ac_2 (hS : S.length ≤ 2048) (hI : Iv D L c T) (hL : L.getD c.toNat 0 = sn (D 159)) (hk : kind = 2) : ∃ (D2 : eD) (r : Int), Lo D L c T D2 r ∧ ∀ Q, (wp 111 144 [.inr (.inl 7), .inr (.inl (8 + G.length)), .inr (.inl (158 + G.length)), .inl c, .inl k, .inl x, .inl kind, .inl u, .inl soc, l9] [] (em G [(104, lgs L)] (hp S D)) Q ↔ wp 111 305 [.inr (.inl 7), .inr (.inl (8 + G.length)), .inr (.inl (158 + G.length)), .inl c, .inl k, .inl x, .inl kind, .inl u, .inl soc, l9] [.inl r] (em G [(104, lgs L)] (hp S D2)) Q) := by
  obtain ⟨p1, r1⟩ := l_part0 ((Int32.ofInt x >>> (Int32.ofInt 7 &&& 31)).toInt) (n := 3) (by decide)
  obtain ⟨p2, r2⟩ := l_part0 ((Int32.ofInt x >>> (Int32.ofInt 9 &&& 31)).toInt) (n := 101) (by decide)
  obtain ⟨D2, r, hd, e⟩ := cl_loop (G := G) (W := [(104, lgs L)]) (s_putIn (S := S) (s := soc) (a := p1) (b := w32 (50 + p2)) hS hI.1) (ro_putIn hI.2.2.2.2.1) hI hL
  have e2 : ∀ Q, (wp 70 0 [.inr (.inl (8 + G.length)), .inl soc, .inl p1, .inl (w32 (50 + p2)), .inr (.inl 0)] [] (em G [(104, lgs L)] (hp S D)) Q ↔ Q (some (.inl r)) (em G [(104, lgs L)] (hp S D2))) := e
  refine ⟨D2, r, hd, fun Q => ?_⟩
  simp (disch := first | assumption | omega | decide | exact b2i_01 _ | (unfold lx; omega)) only [s111_144, s111_146, s111_147, s111_150, s111_151, s111_153, s111_155, s111_157, s111_158, s111_159, s111_162, s111_164, s111_166, s111_168, s111_169, s111_171, s111_174, s111_175, s111_178, kont_some, kont_none, w32_of, if_true, if_false, tdv, tmd, setA_eq, up_setA, rd_hi, Int.reduceToNat, if_neg (show ¬ (1 : Int) = 0 by decide), if_pos hk, r1, r2, e2]
theorem ac_3 (hS : S.length ≤ 2048) (hI : Iv D L c T) (hL : L.getD c.toNat 0 = sn (D 159)) (hk : kind = 3) : ∃ (D2 : eD) (r : Int), Lo D L c T D2 r ∧ ∀ Q, (wp 111 181 [.inr (.inl 7), .inr (.inl (8 + G.length)), .inr (.inl (158 + G.length)), .inl c, .inl k, .inl x, .inl kind, .inl u, .inl soc, l9] [] (em G [(104, lgs L)] (hp S D)) Q ↔ wp 111 305 [.inr (.inl 7), .inr (.inl (8 + G.length)), .inr (.inl (158 + G.length)), .inl c, .inl k, .inl x, .inl kind, .inl u, .inl soc, l9] [.inl r] (em G [(104, lgs L)] (hp S D2)) Q) := by
  obtain ⟨D2, r, hd, e⟩ := cl_loop (G := G) (W := [(104, lgs L)]) (s_takeOut (S := S) (s := soc) hS hI.1) (ro_takeOut hI.1.2.1 hI.2.2.2.2.1) hI hL
  have e2 : ∀ Q, (wp 71 0 [.inr (.inl (8 + G.length)), .inl soc, .inr (.inl 0), .inr (.inl 0)] [] (em G [(104, lgs L)] (hp S D)) Q ↔ Q (some (.inl r)) (em G [(104, lgs L)] (hp S D2))) := e
  refine ⟨D2, r, hd, fun Q => ?_⟩
  simp (disch := first | assumption | omega | decide | exact b2i_01 _ | (unfold lx; omega)) only [s111_181, s111_183, s111_184, s111_187, s111_188, s111_190, s111_193, kont_some, kont_none, w32_of, if_true, if_false, tdv, tmd, setA_eq, up_setA, rd_hi, Int.reduceToNat, if_neg (show ¬ (1 : Int) = 0 by decide), if_pos hk, e2]
theorem ac_4 (hS : S.length ≤ 2048) (hI : Iv D L c T) (hL : L.getD c.toNat 0 = sn (D 159)) (hk : kind = 4) : ∃ (D2 : eD) (r : Int), Lo D L c T D2 r ∧ ∀ Q, (wp 111 196 [.inr (.inl 7), .inr (.inl (8 + G.length)), .inr (.inl (158 + G.length)), .inl c, .inl k, .inl x, .inl kind, .inl u, .inl soc, l9] [] (em G [(104, lgs L)] (hp S D)) Q ↔ wp 111 305 [.inr (.inl 7), .inr (.inl (8 + G.length)), .inr (.inl (158 + G.length)), .inl c, .inl k, .inl x, .inl kind, .inl u, .inl soc, l9] [.inl r] (em G [(104, lgs L)] (hp S D2)) Q) := by
  obtain ⟨D2, r, hd, e⟩ := cl_loop (G := G) (W := [(104, lgs L)]) (s_turnTo (S := S) (s := soc) hS hI.1) (ro_turnTo hI.1.2.1 hI.2.2.2.2.1) hI hL
  have e2 : ∀ Q, (wp 72 0 [.inr (.inl (8 + G.length)), .inl soc] [] (em G [(104, lgs L)] (hp S D)) Q ↔ Q (some (.inl r)) (em G [(104, lgs L)] (hp S D2))) := e
  refine ⟨D2, r, hd, fun Q => ?_⟩
  simp (disch := first | assumption | omega | decide | exact b2i_01 _ | (unfold lx; omega)) only [s111_196, s111_198, s111_199, s111_202, s111_203, s111_205, s111_208, kont_some, kont_none, w32_of, if_true, if_false, tdv, tmd, setA_eq, up_setA, rd_hi, Int.reduceToNat, if_neg (show ¬ (1 : Int) = 0 by decide), if_pos hk, e2]
theorem ac_5 (hS : S.length ≤ 2048) (hI : Iv D L c T) (hL : L.getD c.toNat 0 = sn (D 159)) (hk : kind = 5) : ∃ (D2 : eD) (r : Int), Lo D L c T D2 r ∧ ∀ Q, (wp 111 211 [.inr (.inl 7), .inr (.inl (8 + G.length)), .inr (.inl (158 + G.length)), .inl c, .inl k, .inl x, .inl kind, .inl u, .inl soc, l9] [] (em G [(104, lgs L)] (hp S D)) Q ↔ wp 111 305 [.inr (.inl 7), .inr (.inl (8 + G.length)), .inr (.inl (158 + G.length)), .inl c, .inl k, .inl x, .inl kind, .inl u, .inl soc, l9] [.inl r] (em G [(104, lgs L)] (hp S D2)) Q) := by
  obtain ⟨p1, r1⟩ := l_part0 ((Int32.ofInt x >>> (Int32.ofInt 4 &&& 31)).toInt) (n := 3) (by decide)
  obtain ⟨p2, r2⟩ := l_part0 ((Int32.ofInt x >>> (Int32.ofInt 6 &&& 31)).toInt) (n := 6) (by decide)
  obtain ⟨D2, r, hd, e⟩ := cl_loop (G := G) (W := [(104, lgs L)]) (s_stock (S := S) (a := p1) (b := w32 (1 + p2)) hS hI.1) (ro_stock hI.1.2.1 hI.2.2.2.2.1) hI hL
  have e2 : ∀ Q, (wp 73 0 [.inr (.inl (8 + G.length)), .inl p1, .inl (w32 (1 + p2)), .inr (.inl 0)] [] (em G [(104, lgs L)] (hp S D)) Q ↔ Q (some (.inl r)) (em G [(104, lgs L)] (hp S D2))) := e
  refine ⟨D2, r, hd, fun Q => ?_⟩
  simp (disch := first | assumption | omega | decide | exact b2i_01 _ | (unfold lx; omega)) only [s111_211, s111_213, s111_214, s111_217, s111_218, s111_220, s111_221, s111_222, s111_223, s111_226, s111_227, s111_229, s111_231, s111_232, s111_234, s111_237, s111_238, s111_241, kont_some, kont_none, w32_of, if_true, if_false, tdv, tmd, setA_eq, up_setA, rd_hi, Int.reduceToNat, if_neg (show ¬ (1 : Int) = 0 by decide), if_pos hk, r1, r2, e2]
theorem ac_6 (hS : S.length ≤ 2048) (hI : Iv D L c T) (hL : L.getD c.toNat 0 = sn (D 159)) (hk : kind = 6) : ∃ (D2 : eD) (r : Int), Lo D L c T D2 r ∧ ∀ Q, (wp 111 244 [.inr (.inl 7), .inr (.inl (8 + G.length)), .inr (.inl (158 + G.length)), .inl c, .inl k, .inl x, .inl kind, .inl u, .inl soc, l9] [] (em G [(104, lgs L)] (hp S D)) Q ↔ wp 111 305 [.inr (.inl 7), .inr (.inl (8 + G.length)), .inr (.inl (158 + G.length)), .inl c, .inl k, .inl x, .inl kind, .inl u, .inl soc, l9] [.inl r] (em G [(104, lgs L)] (hp S D2)) Q) := by
  obtain ⟨p1, r1⟩ := l_part0 ((Int32.ofInt x >>> (Int32.ofInt 4 &&& 31)).toInt) (n := 900) (by decide)
  obtain ⟨p2, r2⟩ := l_part0 ((Int32.ofInt x >>> (Int32.ofInt 14 &&& 31)).toInt) (n := 3) (by decide)
  obtain ⟨p3, r3⟩ := l_part0 ((Int32.ofInt x >>> (Int32.ofInt 16 &&& 31)).toInt) (n := 6) (by decide)
  obtain ⟨D2, r, hd, e⟩ := cl_loop (G := G) (W := [(104, lgs L)]) (s_boat (S := S) (t := p1) (a := p2) (b := w32 (1 + p3)) hS hI.1) (ro_boat hI.1.2.1 hI.2.2.2.2.1) hI hL
  have e2 : ∀ Q, (wp 74 0 [.inr (.inl (8 + G.length)), .inl p1, .inl p2, .inl (w32 (1 + p3))] [] (em G [(104, lgs L)] (hp S D)) Q ↔ Q (some (.inl r)) (em G [(104, lgs L)] (hp S D2))) := e
  refine ⟨D2, r, hd, fun Q => ?_⟩
  simp (disch := first | assumption | omega | decide | exact b2i_01 _ | (unfold lx; omega)) only [s111_244, s111_246, s111_248, s111_251, s111_252, s111_254, s111_255, s111_256, s111_259, s111_262, s111_264, s111_266, s111_267, s111_268, s111_271, s111_272, s111_274, s111_276, s111_277, s111_279, s111_282, s111_283, s111_286, kont_some, kont_none, w32_of, if_true, if_false, tdv, tmd, setA_eq, up_setA, rd_hi, Int.reduceToNat, if_neg (show ¬ (1 : Int) = 0 by decide), if_pos hk, r1, r2, r3, e2]
theorem ac_7 (hS : S.length ≤ 2048) (hI : Iv D L c T) (hL : L.getD c.toNat 0 = sn (D 159)) : ∃ (D2 : eD) (r : Int), Lo D L c T D2 r ∧ ∀ Q, (wp 111 289 [.inr (.inl 7), .inr (.inl (8 + G.length)), .inr (.inl (158 + G.length)), .inl c, .inl k, .inl x, .inl kind, .inl u, .inl soc, l9] [] (em G [(104, lgs L)] (hp S D)) Q ↔ wp 111 305 [.inr (.inl 7), .inr (.inl (8 + G.length)), .inr (.inl (158 + G.length)), .inl c, .inl k, .inl x, .inl kind, .inl u, .inl soc, l9] [.inl r] (em G [(104, lgs L)] (hp S D2)) Q) := by
  obtain ⟨p1, r1⟩ := l_part0 ((Int32.ofInt x >>> (Int32.ofInt 4 &&& 31)).toInt) (n := 200) (by decide)
  obtain ⟨D2, r, hd, e⟩ := cl_loop (G := G) (W := [(104, lgs L)]) (s_pass (S := S) (v := w32 (1 + p1)) hS hI.1) (ro_pass hI.1.2.1 hI.2.2.2.2.1) hI hL
  have e2 : ∀ Q, (wp 76 0 [.inr (.inl (8 + G.length)), .inl (w32 (1 + p1)), .inr (.inl 0), .inr (.inl 0)] [] (em G [(104, lgs L)] (hp S D)) Q ↔ Q (some (.inl r)) (em G [(104, lgs L)] (hp S D2))) := e
  refine ⟨D2, r, hd, fun Q => ?_⟩
  simp (disch := first | assumption | omega | decide | exact b2i_01 _ | (unfold lx; omega)) only [s111_289, s111_290, s111_291, s111_293, s111_294, s111_295, s111_298, s111_301, s111_302, kont_some, kont_none, w32_of, if_true, if_false, tdv, tmd, setA_eq, up_setA, rd_hi, Int.reduceToNat, if_neg (show ¬ (1 : Int) = 0 by decide), r1, e2]
theorem ac_all (hS : S.length ≤ 2048) (hI : Iv D L c T) (hL : L.getD c.toNat 0 = sn (D 159)) : ∃ (D2 : eD) (r : Int), Lo D L c T D2 r ∧ ∀ Q, (wp 111 82 [.inr (.inl 7), .inr (.inl (8 + G.length)), .inr (.inl (158 + G.length)), .inl c, .inl k, .inl x, .inl kind, .inl u, .inl soc, l9] [] (em G [(104, lgs L)] (hp S D)) Q ↔ wp 111 305 [.inr (.inl 7), .inr (.inl (8 + G.length)), .inr (.inl (158 + G.length)), .inl c, .inl k, .inl x, .inl kind, .inl u, .inl soc, l9] [.inl r] (em G [(104, lgs L)] (hp S D2)) Q) := by
  by_cases k0 : kind = 0
  · exact ac_0 hS hI hL k0
  by_cases k1 : kind = 1
  · obtain ⟨D2, r, hd, e⟩ := ac_1 (k := k) (x := x) (u := u) (soc := soc) (l9 := l9) hS hI hL k1
    refine ⟨D2, r, hd, fun Q => ?_⟩
    rw [← e Q]
    simp (disch := first | assumption | omega | decide | exact b2i_01 _ | (unfold lx; omega)) only [s111_82, s111_84, kont_some, kont_none, w32_of, if_true, if_false, tdv, tmd, setA_eq, up_setA, rd_hi, Int.reduceToNat, if_neg (show ¬ (1 : Int) = 0 by decide), if_neg k0]
  by_cases k2 : kind = 2
  · obtain ⟨D2, r, hd, e⟩ := ac_2 (k := k) (x := x) (u := u) (soc := soc) (l9 := l9) hS hI hL k2
    refine ⟨D2, r, hd, fun Q => ?_⟩
    rw [← e Q]
    simp (disch := first | assumption | omega | decide | exact b2i_01 _ | (unfold lx; omega)) only [s111_82, s111_84, s111_112, s111_114, s111_115, kont_some, kont_none, w32_of, if_true, if_false, tdv, tmd, setA_eq, up_setA, rd_hi, Int.reduceToNat, if_neg (show ¬ (1 : Int) = 0 by decide), if_neg k0, if_neg k1]
  by_cases k3 : kind = 3
  · obtain ⟨D2, r, hd, e⟩ := ac_3 (k := k) (x := x) (u := u) (soc := soc) (l9 := l9) hS hI hL k3
    refine ⟨D2, r, hd, fun Q => ?_⟩
    rw [← e Q]
    simp (disch := first | assumption | omega | decide | exact b2i_01 _ | (unfold lx; omega)) only [s111_82, s111_84, s111_112, s111_114, s111_115, s111_144, s111_146, s111_147, kont_some, kont_none, w32_of, if_true, if_false, tdv, tmd, setA_eq, up_setA, rd_hi, Int.reduceToNat, if_neg (show ¬ (1 : Int) = 0 by decide), if_neg k0, if_neg k1, if_neg k2]
  by_cases k4 : kind = 4
  · obtain ⟨D2, r, hd, e⟩ := ac_4 (k := k) (x := x) (u := u) (soc := soc) (l9 := l9) hS hI hL k4
    refine ⟨D2, r, hd, fun Q => ?_⟩
    rw [← e Q]
    simp (disch := first | assumption | omega | decide | exact b2i_01 _ | (unfold lx; omega)) only [s111_82, s111_84, s111_112, s111_114, s111_115, s111_144, s111_146, s111_147, s111_181, s111_183, s111_184, kont_some, kont_none, w32_of, if_true, if_false, tdv, tmd, setA_eq, up_setA, rd_hi, Int.reduceToNat, if_neg (show ¬ (1 : Int) = 0 by decide), if_neg k0, if_neg k1, if_neg k2, if_neg k3]
  by_cases k5 : kind = 5
  · obtain ⟨D2, r, hd, e⟩ := ac_5 (k := k) (x := x) (u := u) (soc := soc) (l9 := l9) hS hI hL k5
    refine ⟨D2, r, hd, fun Q => ?_⟩
    rw [← e Q]
    simp (disch := first | assumption | omega | decide | exact b2i_01 _ | (unfold lx; omega)) only [s111_82, s111_84, s111_112, s111_114, s111_115, s111_144, s111_146, s111_147, s111_181, s111_183, s111_184, s111_196, s111_198, s111_199, kont_some, kont_none, w32_of, if_true, if_false, tdv, tmd, setA_eq, up_setA, rd_hi, Int.reduceToNat, if_neg (show ¬ (1 : Int) = 0 by decide), if_neg k0, if_neg k1, if_neg k2, if_neg k3, if_neg k4]
  by_cases k6 : kind = 6
  · obtain ⟨D2, r, hd, e⟩ := ac_6 (k := k) (x := x) (u := u) (soc := soc) (l9 := l9) hS hI hL k6
    refine ⟨D2, r, hd, fun Q => ?_⟩
    rw [← e Q]
    simp (disch := first | assumption | omega | decide | exact b2i_01 _ | (unfold lx; omega)) only [s111_82, s111_84, s111_112, s111_114, s111_115, s111_144, s111_146, s111_147, s111_181, s111_183, s111_184, s111_196, s111_198, s111_199, s111_211, s111_213, s111_214, kont_some, kont_none, w32_of, if_true, if_false, tdv, tmd, setA_eq, up_setA, rd_hi, Int.reduceToNat, if_neg (show ¬ (1 : Int) = 0 by decide), if_neg k0, if_neg k1, if_neg k2, if_neg k3, if_neg k4, if_neg k5]
  obtain ⟨D2, r, hd, e⟩ := ac_7 (k := k) (x := x) (u := u) (soc := soc) (l9 := l9) (kind := kind) hS hI hL
  refine ⟨D2, r, hd, fun Q => ?_⟩
  rw [← e Q]
  simp (disch := first | assumption | omega | decide | exact b2i_01 _ | (unfold lx; omega)) only [s111_82, s111_84, s111_112, s111_114, s111_115, s111_144, s111_146, s111_147, s111_181, s111_183, s111_184, s111_196, s111_198, s111_199, s111_211, s111_213, s111_214, s111_244, s111_246, s111_248, kont_some, kont_none, w32_of, if_true, if_false, tdv, tmd, setA_eq, up_setA, rd_hi, Int.reduceToNat, if_neg (show ¬ (1 : Int) = 0 by decide), if_neg k0, if_neg k1, if_neg k2, if_neg k3, if_neg k4, if_neg k5, if_neg k6]
/-- behind the act: what is held goes on -/
theorem af_all (hS : S.length ≤ 2048) {D2 : eD} {r : Int} (hL : L.getD c.toNat 0 = sn (D 159)) (hd : Lo D L c T D2 r) (hu : u = D 158 3) (c0 : 0 ≤ c) (c9 : c ≤ 24) (k0 : 0 ≤ k) (k9 : k ≤ 24) (hl : L.length = 64) :
    ∃ c2 : Int, Iv D2 L c2 (T + 200) ∧ c2 ≤ c + 1 ∧ ∀ Q, (wp 111 305 [.inr (.inl 7), .inr (.inl (8 + G.length)), .inr (.inl (158 + G.length)), .inl c, .inl k, .inl x, .inl kind, .inl u, .inl soc, l9] [.inl r] (em G [(104, lgs L)] (hp S D2)) Q ↔ wp 111 32 [.inr (.inl 7), .inr (.inl (8 + G.length)), .inr (.inl (158 + G.length)), .inl c2, .inl (k + 1), .inl x, .inl kind, .inl u, .inl soc, .inl r] [] (em G [(104, lgs L)] (hp S D2)) Q) := by
  subst hu
  rcases hd with ⟨hr, he, hI⟩ | ⟨hr, hI⟩
  · have v := he 159 (by decide)
    have c1 : m161 D2 12 = D 158 3 := by rw [← he 158 (by decide)]; rfl
    refine ⟨c, hI, by omega, fun Q => ?_⟩
    simp (disch := first | assumption | omega | decide | exact b2i_01 _ | (unfold lx; omega)) only [s111_305, s111_307, s111_309, s111_312, s111_313, s111_315, s111_318, s111_320, s111_323, s111_324, s111_327, s111_328, s111_329, s111_330, s111_331, s111_334, s111_335, s111_336, s111_337, s111_339, s111_342, s111_343, s111_346, s111_347, s111_348, s111_349, s111_352, kont_some, kont_none, w32_of, if_true, if_false, tdv, tmd, setA_eq, up_setA, rd_hi, Int.reduceToNat, if_neg (show ¬ (1 : Int) = 0 by decide), if_pos hr, l_count hS hI.1, l_seen hS hI.1, v, c1, hL, lc_0, Int.add_zero, Int.zero_add]
  · refine ⟨c + 1, hI, by omega, fun Q => ?_⟩
    simp (disch := first | assumption | omega | decide | exact b2i_01 _ | (unfold lx; omega)) only [s111_305, s111_307, s111_309, s111_312, s111_313, s111_315, s111_318, s111_320, s111_323, s111_324, s111_327, s111_328, s111_329, s111_330, s111_331, s111_334, s111_335, s111_336, s111_337, s111_339, s111_342, s111_343, s111_346, s111_347, s111_348, s111_349, s111_352, kont_some, kont_none, w32_of, if_true, if_false, tdv, tmd, setA_eq, up_setA, rd_hi, Int.reduceToNat, if_neg (show ¬ (1 : Int) = 0 by decide), if_neg hr]
theorem lp_all (hS : S.length ≤ 2048) (m : Nat) : ∀ (k c T : Int) (D : eD) (L : List Int64) (l5 l6 l7 l8 l9 : eV), k + m = 24 → 0 ≤ k → c ≤ k → Iv D L c T → T ≤ 200 * k → L.length = 64 →
    ∃ (D2 : eD) (L2 : List Int64) (c2 : Int) (m5 m6 m7 m8 m9 : eV), Iv D2 L2 c2 4800 ∧ c2 ≤ 24 ∧ L2.length = 64 ∧ ∀ Q, (wp 111 32 [.inr (.inl 7), .inr (.inl (8 + G.length)), .inr (.inl (158 + G.length)), .inl c, .inl k, l5, l6, l7, l8, l9] [] (em G [(104, lgs L)] (hp S D)) Q ↔ wp 111 355 [.inr (.inl 7), .inr (.inl (8 + G.length)), .inr (.inl (158 + G.length)), .inl c2, .inl 24, m5, m6, m7, m8, m9] [] (em G [(104, lgs L2)] (hp S D2)) Q) := by
  induction m with
  | zero =>
    intro k c T D L l5 l6 l7 l8 l9 hk k0 hc hI hT hl
    have h2 : k = 24 := by omega
    subst h2
    refine ⟨D, L, c, l5, l6, l7, l8, l9, Iv_eq8 hI hI.1 (fun _ _ => rfl) (by omega), hc, hl, fun Q => ?_⟩
    rw [s111_32]
    simp (disch := first | assumption | omega | decide | exact b2i_01 _ | (unfold lx; omega)) only [s111_34, s111_36, kont_some, kont_none, w32_of, if_true, if_false, tdv, tmd, setA_eq, up_setA, rd_hi, Int.reduceToNat, if_neg (show ¬ (1 : Int) = 0 by decide), Int.lt_irrefl]
  | succ m ih =>
    intro k c T D L l5 l6 l7 l8 l9 hk k0 hc hI hT hl
    have h1 : k < 24 := by omega
    have hc0 : 0 ≤ c := hI.2.2.2.2.2.2
    obtain ⟨x, rx⟩ := l_drawn (S := S) (D := D) (G := G) (W := [(104, lgs L)]) (k := k) hS k0 (by omega)
    obtain ⟨kd, rk⟩ := l_part0 x (n := 9) (by decide)
    obtain ⟨so, rs⟩ := l_part0 ((Int32.ofInt x >>> (Int32.ofInt 4 &&& 31)).toInt) (n := 6) (by decide)
    have c1 : m161 D 12 = D 158 3 := rfl
    obtain ⟨hI2, hL2⟩ := Iv_set (w := sn (D 159)) hI (by omega)
    have hl2 : (L.set c.toNat (sn (D 159))).length = 64 := by rw [List.length_set]; exact hl
    obtain ⟨D2, r, hd, e1⟩ := ac_all (G := G) (k := k) (x := x) (u := D 158 3) (soc := so) (kind := kd) (l9 := l9) hS hI2 hL2
    obtain ⟨c2, hI3, hc2, e2⟩ := af_all (G := G) (k := k) (x := x) (u := D 158 3) (soc := so) (kind := kd) (l9 := l9) hS hL2 hd rfl hc0 (by omega) k0 (by omega) hl2
    obtain ⟨D3, L3, c3, m5, m6, m7, m8, m9, q1, q2, q3, e3⟩ := ih (k + 1) c2 (T + 200) D2 _ (.inl x) (.inl kd) (.inl (D 158 3)) (.inl so) (.inl r) (by omega) (by omega) (by omega) hI3 (by omega) hl2
    refine ⟨D3, L3, c3, m5, m6, m7, m8, m9, q1, q2, q3, fun Q => ?_⟩
    rw [← e3 Q, ← e2 Q, ← e1 Q, s111_32]
    simp (disch := first | assumption | omega | decide | exact b2i_01 _ | (unfold lx; omega)) only [s111_34, s111_36, s111_39, s111_40, s111_42, s111_45, s111_47, s111_49, s111_51, s111_54, s111_56, s111_57, s111_58, s111_59, s111_62, s111_63, s111_64, s111_66, s111_69, s111_71, s111_73, s111_74, s111_75, s111_77, s111_80, kont_some, kont_none, w32_of, if_true, if_false, tdv, tmd, setA_eq, up_setA, rd_hi, Int.reduceToNat, if_neg (show ¬ (1 : Int) = 0 by decide), if_pos h1, rx, rk, rs, l_seen hS hI.1, l_count hS hI.1, c1]
end SPEC89
