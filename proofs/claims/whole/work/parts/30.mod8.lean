/-! the check's own beacon: a tick walks -/
section SPEC30
variable {S : List Int} {D : eD} {h : eH} {Q : Option eV → eH → Prop} {r : Nat} {s p v x fr a ab : Int} {F : eRow}
theorem c128a (ha : tg r = 100) (hl : ln S r = 111) (h8 : 8 ≤ r) (hs : St F) {l1 l2 l3 l4 l5 l6 : eV} : wp 128 0 [.inr r, l1, l2, l3, l4, l5, l6] [] (hp S (setA D r F)) Q ↔ wp 128 38 [.inr r, l1, l2, l3, l4, l5, l6] [] (hp S (setA D r (pw1 F))) Q := by
  have h0 := tg_ne0 ha (by decide)
  obtain ⟨a0, a1, a2, a3, a4, a5, a6, a7, a8, a9, a10, a11, a12, a13, a14, a15, a16, a17, a18, a19, a20, a21⟩ := hs
  unfold pw1
  by_cases h1 : F 8 = -5
  · rw [if_pos h1]
    simp (disch := first | assumption | omega | decide | exact b2i_01 _ | (unfold lx; omega)) only [s128_0, s128_1, s128_3, s128_4, s128_6, s128_9, s128_10, s128_12, s128_13, s128_14, s128_15, s128_16, s128_17, s128_18, s128_20, s128_21, s128_24, s128_25, s128_27, s128_28, s128_30, s128_31, s128_32, s128_33, s128_35, s128_37, kont_some, kont_none, w32_of, if_true, if_false, b2i_eq0, ite_not, tdv, tmd, setA_eq, up_setA, fu_eq, fu_ne, rd_hi, Int.reduceToNat, h1]
  · rw [if_neg h1]
    by_cases h2 : F 9 - 1 = 0
    · rw [if_pos h2]
      simp (disch := first | assumption | omega | decide | exact b2i_01 _ | (unfold lx; omega)) only [s128_0, s128_1, s128_3, s128_4, s128_6, s128_9, s128_10, s128_12, s128_13, s128_14, s128_15, s128_16, s128_17, s128_18, s128_20, s128_21, s128_24, s128_25, s128_27, s128_28, s128_30, s128_31, s128_32, s128_33, s128_35, s128_37, kont_some, kont_none, w32_of, if_true, if_false, b2i_eq0, ite_not, tdv, tmd, setA_eq, up_setA, fu_eq, fu_ne, rd_hi, Int.reduceToNat, h1, if_pos h2]
    · rw [if_neg h2]
      simp (disch := first | assumption | omega | decide | exact b2i_01 _ | (unfold lx; omega)) only [s128_0, s128_1, s128_3, s128_4, s128_6, s128_9, s128_10, s128_12, s128_13, s128_14, s128_15, s128_16, s128_17, s128_18, s128_20, s128_21, s128_24, s128_25, s128_27, s128_28, s128_30, s128_31, s128_32, s128_33, s128_35, s128_37, kont_some, kont_none, w32_of, if_true, if_false, b2i_eq0, ite_not, tdv, tmd, setA_eq, up_setA, fu_eq, fu_ne, rd_hi, Int.reduceToNat, h1, if_neg h2]
theorem c128b (ha : tg r = 100) (hl : ln S r = 111) (h8 : 8 ≤ r) (hs : St F) (h47 : F 47 + 5 ≤ 4000000) {l1 l2 l3 l4 l5 l6 : eV} : ∃ l3' l4' : eV, (wp 128 38 [.inr r, l1, l2, l3, l4, l5, l6] [] (hp S (setA D r F)) Q ↔ wp 128 108 [.inr r, l1, .inl (b2i (nigF F)), l3', l4', .inl (b2i (pdk F)), l6] [] (hp S (setA D r (pl2 F))) Q) := by
  have h0 := tg_ne0 ha (by decide)
  have hs' := hs
  obtain ⟨a0, a1, a2, a3, a4, a5, a6, a7, a8, a9, a10, a11, a12, a13, a14, a15, a16, a17, a18, a19, a20, a21⟩ := hs'
  obtain ⟨t0, t1⟩ := a1
  obtain ⟨u0, u1⟩ := a2
  obtain ⟨w0, w1⟩ := a3
  have e : ∀ n d, b2i (nigF F) = n → b2i (pdk F) = d → (∃ l3' l4' : eV, (wp 128 38 [.inr r, l1, l2, l3, l4, l5, l6] [] (hp S (setA D r F)) Q ↔ wp 128 108 [.inr r, l1, .inl n, l3', l4', .inl d, l6] [] (hp S (setA D r (pl2 F))) Q)) → ∃ l3' l4' : eV, (wp 128 38 [.inr r, l1, l2, l3, l4, l5, l6] [] (hp S (setA D r F)) Q ↔ wp 128 108 [.inr r, l1, .inl (b2i (nigF F)), l3', l4', .inl (b2i (pdk F)), l6] [] (hp S (setA D r (pl2 F))) Q) := by
    rintro n d rfl rfl hq
    exact hq
  by_cases hst : F 8 = -5
  · by_cases hn : nigF F
    · have e2 : pl2 F = (litF F).2 := by unfold pl2; rw [if_pos hst, if_pos hn]
      have e1 : pl1 F = (litF F).1 := if_pos ⟨hn, hst⟩
      rcases lit_01 (F := F) with hli | hli
      · refine e 1 1 (b2i_t hn) (b2i_t ⟨hn, by rw [e1, hli]; decide⟩) ⟨.inl 1, .inl 0, ?_⟩
        rw [e2]
        simp (disch := first | assumption | omega | decide | exact b2i_01 _ | (unfold lx; omega)) only [s128_38, s128_39, s128_42, s128_43, s128_44, s128_46, s128_47, s128_49, s128_52, s128_53, s128_56, s128_57, s128_58, s128_59, s128_62, s128_63, s128_66, s128_67, s128_70, s128_73, s128_74, s128_77, s128_78, s128_80, s128_81, s128_84, s128_85, s128_88, s128_89, s128_92, s128_93, s128_96, s128_98, s128_101, s128_102, s128_105, s128_106, kont_some, kont_none, w32_of, if_true, if_false, tdv, tmd, setA_eq, up_setA, rd_hi, Int.reduceToNat, if_neg (show ¬ (1 : Int) = 0 by decide), c122, c124, b2i_t hn, hst, hli]
      · refine e 1 0 (b2i_t hn) (b2i_f (fun q => q.2 (by rw [e1, hli]))) ⟨.inl 1, .inl 1, ?_⟩
        rw [e2]
        simp (disch := first | assumption | omega | decide | exact b2i_01 _ | (unfold lx; omega)) only [s128_38, s128_39, s128_42, s128_43, s128_44, s128_46, s128_47, s128_49, s128_52, s128_53, s128_56, s128_57, s128_58, s128_59, s128_62, s128_63, s128_66, s128_67, s128_70, s128_73, s128_74, s128_77, s128_78, s128_80, s128_81, s128_84, s128_85, s128_88, s128_89, s128_92, s128_93, s128_96, s128_98, s128_101, s128_102, s128_105, s128_106, kont_some, kont_none, w32_of, if_true, if_false, tdv, tmd, setA_eq, up_setA, rd_hi, Int.reduceToNat, if_neg (show ¬ (1 : Int) = 0 by decide), c122, c124, b2i_t hn, hst, hli]
    · have e2 : pl2 F = dayF F := by unfold pl2; rw [if_pos hst, if_neg hn]
      refine e 0 0 (b2i_f hn) (b2i_f (fun q => hn q.1)) ⟨.inl 1, .inl 0, ?_⟩
      rw [e2]
      simp (disch := first | assumption | omega | decide | exact b2i_01 _ | (unfold lx; omega)) only [s128_38, s128_39, s128_42, s128_43, s128_44, s128_46, s128_47, s128_49, s128_52, s128_53, s128_56, s128_57, s128_58, s128_59, s128_62, s128_63, s128_66, s128_67, s128_70, s128_73, s128_74, s128_77, s128_78, s128_80, s128_81, s128_84, s128_85, s128_88, s128_89, s128_92, s128_93, s128_96, s128_98, s128_101, s128_102, s128_105, s128_106, kont_some, kont_none, w32_of, if_true, if_false, tdv, tmd, setA_eq, up_setA, rd_hi, Int.reduceToNat, if_neg (show ¬ (1 : Int) = 0 by decide), c122, c125, b2i_f hn, hst]
  · have e2 : pl2 F = F := if_neg hst
    by_cases hn : nigF F
    · have e1 : pl1 F = 0 := if_neg (fun q => hst q.2)
      refine e 1 1 (b2i_t hn) (b2i_t ⟨hn, by rw [e1]; decide⟩) ⟨.inl 0, .inl 0, ?_⟩
      rw [e2]
      simp (disch := first | assumption | omega | decide | exact b2i_01 _ | (unfold lx; omega)) only [s128_38, s128_39, s128_42, s128_43, s128_44, s128_46, s128_47, s128_49, s128_52, s128_53, s128_56, s128_57, s128_58, s128_59, s128_62, s128_63, s128_66, s128_67, s128_70, s128_73, s128_74, s128_77, s128_78, s128_80, s128_81, s128_84, s128_85, s128_88, s128_89, s128_92, s128_93, s128_96, s128_98, s128_101, s128_102, s128_105, s128_106, kont_some, kont_none, w32_of, if_true, if_false, tdv, tmd, setA_eq, up_setA, rd_hi, Int.reduceToNat, if_neg (show ¬ (1 : Int) = 0 by decide), c122, b2i_t hn, hst]
    · refine e 0 0 (b2i_f hn) (b2i_f (fun q => hn q.1)) ⟨.inl 0, .inl 0, ?_⟩
      rw [e2]
      simp (disch := first | assumption | omega | decide | exact b2i_01 _ | (unfold lx; omega)) only [s128_38, s128_39, s128_42, s128_43, s128_44, s128_46, s128_47, s128_49, s128_52, s128_53, s128_56, s128_57, s128_58, s128_59, s128_62, s128_63, s128_66, s128_67, s128_70, s128_73, s128_74, s128_77, s128_78, s128_80, s128_81, s128_84, s128_85, s128_88, s128_89, s128_92, s128_93, s128_96, s128_98, s128_101, s128_102, s128_105, s128_106, kont_some, kont_none, w32_of, if_true, if_false, tdv, tmd, setA_eq, up_setA, rd_hi, Int.reduceToNat, if_neg (show ¬ (1 : Int) = 0 by decide), c122, b2i_f hn, hst]
theorem c128c (ha : tg r = 100) (hl : ln S r = 111) (h8 : 8 ≤ r) (hs : St F) (h44 : F 44 + 1 ≤ 1000000) (h45 : F 45 + 1 ≤ 1000000) {d n : Prop} [Decidable d] [Decidable n] {l1 l3 l4 l6 : eV} : wp 128 108 [.inr r, l1, .inl (b2i n), l3, l4, .inl (b2i d), l6] [] (hp S (setA D r F)) Q ↔ wp 128 184 [.inr r, l1, .inl (b2i n), l3, l4, .inl (b2i d), .inl 0] [] (hp S (setA D r (pc1 F d n))) Q := by
  have h0 := tg_ne0 ha (by decide)
  obtain ⟨a0, a1, a2, a3, a4, a5, a6, a7, a8, a9, a10, a11, a12, a13, a14, a15, a16, a17, a18, a19, a20, a21⟩ := hs
  unfold pc1
  by_cases hd : d
  · simp only [b2i_t hd, if_pos hd]
    by_cases h1 : F 46 < F 45 + 1
    · simp only [if_pos h1]
      simp (disch := first | assumption | omega | decide | exact b2i_01 _ | (unfold lx; omega)) only [s128_108, s128_109, s128_111, s128_112, s128_113, s128_115, s128_118, s128_119, s128_122, s128_123, s128_124, s128_125, s128_126, s128_128, s128_130, s128_133, s128_134, s128_136, s128_137, s128_138, s128_139, s128_142, s128_143, s128_146, s128_147, s128_150, s128_151, s128_153, s128_154, s128_155, s128_156, s128_158, s128_159, s128_161, s128_162, s128_163, s128_165, s128_166, s128_169, s128_170, s128_172, s128_173, s128_176, s128_177, s128_179, s128_180, s128_181, s128_182, kont_some, kont_none, w32_of, if_true, if_false, b2i_eq0, ite_not, tdv, tmd, setA_eq, up_setA, fu_eq, fu_ne, rd_hi, Int.reduceToNat, if_pos h1, if_neg (show ¬ (1 : Int) = 0 by decide)]
    · simp only [if_neg h1]
      simp (disch := first | assumption | omega | decide | exact b2i_01 _ | (unfold lx; omega)) only [s128_108, s128_109, s128_111, s128_112, s128_113, s128_115, s128_118, s128_119, s128_122, s128_123, s128_124, s128_125, s128_126, s128_128, s128_130, s128_133, s128_134, s128_136, s128_137, s128_138, s128_139, s128_142, s128_143, s128_146, s128_147, s128_150, s128_151, s128_153, s128_154, s128_155, s128_156, s128_158, s128_159, s128_161, s128_162, s128_163, s128_165, s128_166, s128_169, s128_170, s128_172, s128_173, s128_176, s128_177, s128_179, s128_180, s128_181, s128_182, kont_some, kont_none, w32_of, if_true, if_false, b2i_eq0, ite_not, tdv, tmd, setA_eq, up_setA, fu_eq, fu_ne, rd_hi, Int.reduceToNat, if_neg h1, if_neg (show ¬ (1 : Int) = 0 by decide)]
  · simp only [b2i_f hd, if_neg hd]
    by_cases hn : n
    · simp only [b2i_t hn, if_pos hn]
      by_cases h1 : F 46 < 0
      · omega
      · simp only [if_neg h1]
        simp (disch := first | assumption | omega | decide | exact b2i_01 _ | (unfold lx; omega)) only [s128_108, s128_109, s128_111, s128_112, s128_113, s128_115, s128_118, s128_119, s128_122, s128_123, s128_124, s128_125, s128_126, s128_128, s128_130, s128_133, s128_134, s128_136, s128_137, s128_138, s128_139, s128_142, s128_143, s128_146, s128_147, s128_150, s128_151, s128_153, s128_154, s128_155, s128_156, s128_158, s128_159, s128_161, s128_162, s128_163, s128_165, s128_166, s128_169, s128_170, s128_172, s128_173, s128_176, s128_177, s128_179, s128_180, s128_181, s128_182, kont_some, kont_none, w32_of, if_true, if_false, b2i_eq0, ite_not, tdv, tmd, setA_eq, up_setA, fu_eq, fu_ne, rd_hi, Int.reduceToNat, if_neg h1, if_neg (show ¬ (1 : Int) = 0 by decide), Int.add_zero]
    · simp only [b2i_f hn, if_neg hn]
      by_cases h1 : F 46 < F 45
      · simp only [if_pos h1]
        simp (disch := first | assumption | omega | decide | exact b2i_01 _ | (unfold lx; omega)) only [s128_108, s128_109, s128_111, s128_112, s128_113, s128_115, s128_118, s128_119, s128_122, s128_123, s128_124, s128_125, s128_126, s128_128, s128_130, s128_133, s128_134, s128_136, s128_137, s128_138, s128_139, s128_142, s128_143, s128_146, s128_147, s128_150, s128_151, s128_153, s128_154, s128_155, s128_156, s128_158, s128_159, s128_161, s128_162, s128_163, s128_165, s128_166, s128_169, s128_170, s128_172, s128_173, s128_176, s128_177, s128_179, s128_180, s128_181, s128_182, kont_some, kont_none, w32_of, if_true, if_false, b2i_eq0, ite_not, tdv, tmd, setA_eq, up_setA, fu_eq, fu_ne, rd_hi, Int.reduceToNat, if_pos h1, Int.add_zero]
      · simp only [if_neg h1]
        simp (disch := first | assumption | omega | decide | exact b2i_01 _ | (unfold lx; omega)) only [s128_108, s128_109, s128_111, s128_112, s128_113, s128_115, s128_118, s128_119, s128_122, s128_123, s128_124, s128_125, s128_126, s128_128, s128_130, s128_133, s128_134, s128_136, s128_137, s128_138, s128_139, s128_142, s128_143, s128_146, s128_147, s128_150, s128_151, s128_153, s128_154, s128_155, s128_156, s128_158, s128_159, s128_161, s128_162, s128_163, s128_165, s128_166, s128_169, s128_170, s128_172, s128_173, s128_176, s128_177, s128_179, s128_180, s128_181, s128_182, kont_some, kont_none, w32_of, if_true, if_false, b2i_eq0, ite_not, tdv, tmd, setA_eq, up_setA, fu_eq, fu_ne, rd_hi, Int.reduceToNat, if_neg h1, Int.add_zero]
theorem c128d (ha : tg r = 100) (hl : ln S r = 111) (h8 : 8 ≤ r) {l2 l3 l4 l5 : eV} (n : Nat) : ∀ (k : Int) (F : eRow), 0 ≤ k → k + n = F 49 → St F → F 48 + n ≤ 10000000 →
    ∃ l6 : eV, (wp 128 184 [.inr r, .inl 1, l2, l3, l4, l5, .inl k] [] (hp S (setA D r F)) Q ↔ wp 128 229 [.inr r, .inl 1, l2, l3, l4, l5, l6] [] (hp S (setA D r (pbF n k F))) Q) := by
  have h0 := tg_ne0 ha (by decide)
  induction n with
  | zero =>
    intro k F k0 hk hs _
    have h1 : ¬ k < F 49 := by omega
    refine ⟨.inl k, ?_⟩
    rw [s128_184]
    simp (disch := first | assumption | omega | decide | exact b2i_01 _ | (unfold lx; omega)) only [s128_186, s128_187, s128_189, s128_190, kont_some, kont_none, w32_of, if_true, if_false, tdv, tmd, setA_eq, up_setA, rd_hi, Int.reduceToNat, if_neg (show ¬ (1 : Int) = 0 by decide), h1]
    rfl
  | succ n ih =>
    intro k F k0 hk hs h48
    have h1 : k < F 49 := by omega
    have hs' := hs
    obtain ⟨a0, a1, a2, a3, a4, a5, a6, a7, a8, a9, a10, a11, a12, a13, a14, a15, a16, a17, a18, a19, a20, a21⟩ := hs'
    have k10 : k < 10 := by omega
    have hA := Atb_of hs k0 h1
    have c48 : F 48 + 1 ≤ 10000000 := by omega
    unfold pbF
    rw [s128_184]
    by_cases hc : F (50 + 3 * k).toNat = F 0
    · rw [if_pos hc]
      have hL := St_lan hs hA c48
      have e49 : lanF F (50 + 3 * k) 49 = F 49 := lan_ne hs hA (by omega)
      have e48 := lan_48 hs hA
      obtain ⟨l6, h6⟩ := ih (k + 1) (lanF F (50 + 3 * k)) (by omega) (by rw [e49]; omega) hL (by omega)
      refine ⟨l6, ?_⟩
      simp (disch := first | assumption | omega | decide | exact b2i_01 _ | (unfold lx; omega)) only [s128_186, s128_187, s128_189, s128_190, s128_193, s128_194, s128_197, s128_198, s128_200, s128_201, s128_203, s128_204, s128_205, s128_206, s128_207, s128_208, s128_209, s128_212, s128_213, s128_215, s128_216, s128_218, s128_219, s128_220, s128_223, s128_226, kont_some, kont_none, w32_of, if_true, if_false, tdv, tmd, setA_eq, up_setA, rd_hi, Int.reduceToNat, if_neg (show ¬ (1 : Int) = 0 by decide), h1, c127, if_pos hc]
      exact h6
    · rw [if_neg hc]
      obtain ⟨l6, h6⟩ := ih (k + 1) F (by omega) (by omega) hs (by omega)
      refine ⟨l6, ?_⟩
      simp (disch := first | assumption | omega | decide | exact b2i_01 _ | (unfold lx; omega)) only [s128_186, s128_187, s128_189, s128_190, s128_193, s128_194, s128_197, s128_198, s128_200, s128_201, s128_203, s128_204, s128_205, s128_206, s128_207, s128_208, s128_209, s128_212, s128_213, s128_215, s128_216, s128_218, s128_219, s128_220, s128_223, s128_226, kont_some, kont_none, w32_of, if_true, if_false, tdv, tmd, setA_eq, up_setA, rd_hi, Int.reduceToNat, if_neg (show ¬ (1 : Int) = 0 by decide), h1, if_neg hc]
      exact h6
theorem c128e (ha : tg r = 100) (hl : ln S r = 111) (h8 : 8 ≤ r) (h1 : 0 ≤ F 0) (h2 : F 0 ≤ 1000000) (hv : v = 0 ∨ v = 1) {l1 l2 l3 l4 l6 : eV} : wp 128 229 [.inr r, l1, l2, l3, l4, .inl v, l6] [] (hp S (setA D r F)) Q ↔ Q (some (.inl v)) (hp S (setA D r (fu F 0 (F 0 + 1)))) := by
  have h0 := tg_ne0 ha (by decide)
  simp (disch := first | assumption | omega | decide | exact b2i_01 _ | (unfold lx; omega)) only [s128_229, s128_230, s128_231, s128_232, s128_233, s128_234, s128_235, s128_236, s128_238, kont_some, kont_none, w32_of, if_true, if_false, b2i_eq0, ite_not, tdv, tmd, setA_eq, up_setA, fu_eq, fu_ne, rd_hi, Int.reduceToNat]
theorem c128 (ha : tg r = 100) (hl : ln S r = 111) (h8 : 8 ≤ r) (hs : St F) (hc : Ct F) (h0b : F 0 ≤ 900000) (hab : ab = 0 ∨ ab = 1) : wp 128 0 [.inr r, .inl ab, .inr 0, .inr 0, .inr 0, .inr 0, .inr 0] [] (hp S (setA D r F)) Q ↔ Q (some (.inl (b2i (pdk (pw1 F))))) (hp S (setA D r (pasF F ab))) := by
  have h0 := tg_ne0 ha (by decide)
  obtain ⟨d1, d2, d3, d4, d5⟩ := hc
  have s1 := St_pw1 hs
  have e47 : pw1 F 47 = F 47 := pw1_ne (by omega)
  have e0 : pw1 F 0 = F 0 := pw1_ne (by omega)
  obtain ⟨s2, m1, m2⟩ := St_pl2 s1 (by omega)
  have n2 : ∀ j, j < 8 ∨ (40 < j ∧ j < 47) ∨ (47 < j ∧ j < 80) → pl2 (pw1 F) j = pw1 F j := fun j hj => pl2_ne s1 (by omega) hj
  have e44 : pl2 (pw1 F) 44 = F 44 := (n2 44 (by omega)).trans (pw1_ne (by omega))
  have e45 : pl2 (pw1 F) 45 = F 45 := (n2 45 (by omega)).trans (pw1_ne (by omega))
  have e48 : pl2 (pw1 F) 48 = F 48 := (n2 48 (by omega)).trans (pw1_ne (by omega))
  have e49 : pl2 (pw1 F) 49 = F 49 := (n2 49 (by omega)).trans (pw1_ne (by omega))
  have e00 : pl2 (pw1 F) 0 = F 0 := (n2 0 (by omega)).trans e0
  have s3 := St_pc1 (d := pdk (pw1 F)) (n := nigF (pw1 F)) s2 (by omega) (by omega)
  have f48 : pc1 (pl2 (pw1 F)) (pdk (pw1 F)) (nigF (pw1 F)) 48 = F 48 := (pc1_ne (by omega)).trans e48
  have f49 : pc1 (pl2 (pw1 F)) (pdk (pw1 F)) (nigF (pw1 F)) 49 = F 49 := (pc1_ne (by omega)).trans e49
  have f0 : pc1 (pl2 (pw1 F)) (pdk (pw1 F)) (nigF (pw1 F)) 0 = F 0 := (pc1_ne (by omega)).trans e00
  have b49 : 0 ≤ F 49 ∧ F 49 ≤ 10 := hs.2.2.2.2.2.2.2.2.2.2.2.2.2.2.2.2.2.2.2.1
  have b0 : 0 ≤ F 0 := hs.2.1.1
  rw [c128a ha hl h8 hs]
  obtain ⟨l3', l4', eb⟩ := c128b (D := D) (Q := Q) (F := pw1 F) (l1 := .inl ab) (l2 := .inr 0) (l3 := .inr 0) (l4 := .inr 0) (l5 := .inr 0) (l6 := .inr 0) ha hl h8 s1 (by omega)
  rw [eb, c128c ha hl h8 s2 (by omega) (by omega)]
  rcases hab with rfl | rfl
  · have eX : ∀ G : eRow, (wp 128 184 [.inr r, .inl 0, .inl (b2i (nigF (pw1 F))), l3', l4', .inl (b2i (pdk (pw1 F))), .inl 0] [] (hp S (setA D r G)) Q ↔ wp 128 229 [.inr r, .inl 0, .inl (b2i (nigF (pw1 F))), l3', l4', .inl (b2i (pdk (pw1 F))), .inl 0] [] (hp S (setA D r G)) Q) := by
      intro G
      by_cases hG : 0 < G 49
      · simp (disch := first | assumption | omega | decide | exact b2i_01 _ | (unfold lx; omega)) only [s128_184, s128_186, s128_187, s128_189, s128_190, s128_193, s128_194, kont_some, kont_none, w32_of, if_true, if_false, tdv, tmd, setA_eq, up_setA, rd_hi, Int.reduceToNat, if_neg (show ¬ (1 : Int) = 0 by decide), if_pos hG]
      · simp (disch := first | assumption | omega | decide | exact b2i_01 _ | (unfold lx; omega)) only [s128_184, s128_186, s128_187, s128_189, s128_190, s128_193, s128_194, kont_some, kont_none, w32_of, if_true, if_false, tdv, tmd, setA_eq, up_setA, rd_hi, Int.reduceToNat, if_neg (show ¬ (1 : Int) = 0 by decide), if_neg hG]
    rw [eX, c128e ha hl h8 (by rw [f0]; exact b0) (by rw [f0]; omega) (b2i_01 _), f0]
    rfl
  · obtain ⟨l6, ed⟩ := c128d (D := D) (Q := Q) (l2 := .inl (b2i (nigF (pw1 F)))) (l3 := l3') (l4 := l4') (l5 := .inl (b2i (pdk (pw1 F)))) ha hl h8 (F 49).toNat 0 (pc1 (pl2 (pw1 F)) (pdk (pw1 F)) (nigF (pw1 F))) (by omega) (by rw [f49]; omega) s3 (by omega)
    have hp2 := pb_all (F 49).toNat 0 (pc1 (pl2 (pw1 F)) (pdk (pw1 F)) (nigF (pw1 F))) (by omega) (by rw [f49]; omega) s3 (by omega)
    have g0 : pbF (F 49).toNat 0 (pc1 (pl2 (pw1 F)) (pdk (pw1 F)) (nigF (pw1 F))) 0 = F 0 := (hp2.2.1 0 (by omega)).trans f0
    rw [ed, c128e ha hl h8 (by rw [g0]; exact b0) (by rw [g0]; omega) (b2i_01 _), g0]
    rfl
end SPEC30
