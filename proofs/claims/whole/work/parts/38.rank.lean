/-! the check's own ranks and counts -/
def leF (F : eRow) (s : Int) : Int := lfF F s - F (lx s 2)
abbrev ahdF (F : eRow) (k j : Int) : Prop := goF F j 0 ∧ (leF F k < leF F j ∨ (leF F j = leF F k ∧ j < k))
def aheF (F : eRow) (k : Int) : Nat → Int → Int
  | 0, _ => 0
  | n + 1, j => b2i (ahdF F k j) + aheF F k n (j + 1)
def rkF (F : eRow) (p : Int) : Nat → Int → Int
  | 0, _ => -5
  | n + 1, k => if goF F k 0 ∧ aheF F k 6 0 = p then k else rkF F p n (k + 1)
def m157 (D : eD) (p : Int) : Int := if p < 0 then -2 else rkF (D 159) p 6 0
def m161 (D : eD) (w : Int) : Int :=
  if w = 0 then D 159 0 else if w = 1 then cntF (D 159) w 6 0 else if w = 2 then cntF (D 159) w 6 0 else if w = 3 then cntF (D 159) w 6 0 else if w = 4 then D 159 41 else if w = 5 then D 159 42 else if w = 6 then D 159 43 else if w = 7 then D 159 44 else if w = 8 then D 159 46 else if w = 9 then D 159 47 else if w = 10 then D 159 48 else if w = 11 then D 159 49 else if w = 12 then D 158 3 else if w = 13 then D 158 7 else -2
section SPEC38
variable {S : List Int} {D : eD} {h : eH} {Q : Option eV → eH → Prop} {v w x s p t a b k : Int} {r : Nat} {F : eRow}
theorem c161 (hF : St (D 159)) : wp 161 0 [.inr 158, .inl w] [] (hp S D) Q ↔ Q (some (.inl (m161 D w))) (hp S D) := by
  have t1 : tg 158 = 8 := rfl
  have t2 : tg 159 = 100 := rfl
  have l3 : ln S 159 = 111 := rfl
  unfold m161
  rw [s161_0, s161_1]
  by_cases w0 : w = 0
  · simp only [if_pos w0]
    simp (disch := first | assumption | omega | decide | exact b2i_01 _ | (unfold lx; omega)) only [s161_72, s161_73, s161_76, s161_77, s161_78, s161_79, s161_80, s161_81, s161_84, s161_85, s161_86, s161_89, s161_91, s161_92, s161_93, s161_94, s161_95, s161_96, s161_97, s161_98, s161_101, s161_103, s161_104, s161_105, s161_106, s161_109, s161_111, s161_112, s161_113, s161_114, s161_117, s161_119, s161_120, s161_121, s161_122, s161_125, s161_127, s161_128, s161_129, s161_130, s161_133, s161_135, s161_136, s161_137, s161_138, s161_141, s161_142, s161_143, s161_146, s161_147, s161_149, kont_some, kont_none, w32_of, if_true, if_false, tdv, tmd, setA_eq, up_setA, rd_hi, Int.reduceToNat, if_neg (show ¬ (1 : Int) = 0 by decide), Nat.reduceAdd]
  by_cases w1 : w = 1
  · simp only [if_neg w0, if_pos w1]
    simp (disch := first | assumption | omega | decide | exact b2i_01 _ | (unfold lx; omega)) only [s161_72, s161_73, s161_76, s161_77, s161_78, s161_79, s161_80, s161_81, s161_84, s161_85, s161_86, s161_89, s161_91, s161_92, s161_93, s161_94, s161_95, s161_96, s161_97, s161_98, s161_101, s161_103, s161_104, s161_105, s161_106, s161_109, s161_111, s161_112, s161_113, s161_114, s161_117, s161_119, s161_120, s161_121, s161_122, s161_125, s161_127, s161_128, s161_129, s161_130, s161_133, s161_135, s161_136, s161_137, s161_138, s161_141, s161_142, s161_143, s161_146, s161_147, s161_149, kont_some, kont_none, w32_of, if_true, if_false, tdv, tmd, setA_eq, up_setA, rd_hi, Int.reduceToNat, if_neg (show ¬ (1 : Int) = 0 by decide), Nat.reduceAdd, c160]
  by_cases w2 : w = 2
  · simp only [if_neg w0, if_neg w1, if_pos w2]
    simp (disch := first | assumption | omega | decide | exact b2i_01 _ | (unfold lx; omega)) only [s161_72, s161_73, s161_76, s161_77, s161_78, s161_79, s161_80, s161_81, s161_84, s161_85, s161_86, s161_89, s161_91, s161_92, s161_93, s161_94, s161_95, s161_96, s161_97, s161_98, s161_101, s161_103, s161_104, s161_105, s161_106, s161_109, s161_111, s161_112, s161_113, s161_114, s161_117, s161_119, s161_120, s161_121, s161_122, s161_125, s161_127, s161_128, s161_129, s161_130, s161_133, s161_135, s161_136, s161_137, s161_138, s161_141, s161_142, s161_143, s161_146, s161_147, s161_149, kont_some, kont_none, w32_of, if_true, if_false, tdv, tmd, setA_eq, up_setA, rd_hi, Int.reduceToNat, if_neg (show ¬ (1 : Int) = 0 by decide), Nat.reduceAdd, c160]
  by_cases w3 : w = 3
  · simp only [if_neg w0, if_neg w1, if_neg w2, if_pos w3]
    simp (disch := first | assumption | omega | decide | exact b2i_01 _ | (unfold lx; omega)) only [s161_72, s161_73, s161_76, s161_77, s161_78, s161_79, s161_80, s161_81, s161_84, s161_85, s161_86, s161_89, s161_91, s161_92, s161_93, s161_94, s161_95, s161_96, s161_97, s161_98, s161_101, s161_103, s161_104, s161_105, s161_106, s161_109, s161_111, s161_112, s161_113, s161_114, s161_117, s161_119, s161_120, s161_121, s161_122, s161_125, s161_127, s161_128, s161_129, s161_130, s161_133, s161_135, s161_136, s161_137, s161_138, s161_141, s161_142, s161_143, s161_146, s161_147, s161_149, kont_some, kont_none, w32_of, if_true, if_false, tdv, tmd, setA_eq, up_setA, rd_hi, Int.reduceToNat, if_neg (show ¬ (1 : Int) = 0 by decide), Nat.reduceAdd, c160]
  by_cases w4 : w = 4
  · have e : (41 + w - 4).toNat = 41 := by omega
    simp only [if_neg w0, if_neg w1, if_neg w2, if_neg w3, if_pos w4]
    simp (disch := first | assumption | omega | decide | exact b2i_01 _ | (unfold lx; omega)) only [s161_72, s161_73, s161_76, s161_77, s161_78, s161_79, s161_80, s161_81, s161_84, s161_85, s161_86, s161_89, s161_91, s161_92, s161_93, s161_94, s161_95, s161_96, s161_97, s161_98, s161_101, s161_103, s161_104, s161_105, s161_106, s161_109, s161_111, s161_112, s161_113, s161_114, s161_117, s161_119, s161_120, s161_121, s161_122, s161_125, s161_127, s161_128, s161_129, s161_130, s161_133, s161_135, s161_136, s161_137, s161_138, s161_141, s161_142, s161_143, s161_146, s161_147, s161_149, kont_some, kont_none, w32_of, if_true, if_false, tdv, tmd, setA_eq, up_setA, rd_hi, Int.reduceToNat, if_neg (show ¬ (1 : Int) = 0 by decide), Nat.reduceAdd, e]
  by_cases w5 : w = 5
  · have e : (41 + w - 4).toNat = 42 := by omega
    simp only [if_neg w0, if_neg w1, if_neg w2, if_neg w3, if_neg w4, if_pos w5]
    simp (disch := first | assumption | omega | decide | exact b2i_01 _ | (unfold lx; omega)) only [s161_72, s161_73, s161_76, s161_77, s161_78, s161_79, s161_80, s161_81, s161_84, s161_85, s161_86, s161_89, s161_91, s161_92, s161_93, s161_94, s161_95, s161_96, s161_97, s161_98, s161_101, s161_103, s161_104, s161_105, s161_106, s161_109, s161_111, s161_112, s161_113, s161_114, s161_117, s161_119, s161_120, s161_121, s161_122, s161_125, s161_127, s161_128, s161_129, s161_130, s161_133, s161_135, s161_136, s161_137, s161_138, s161_141, s161_142, s161_143, s161_146, s161_147, s161_149, kont_some, kont_none, w32_of, if_true, if_false, tdv, tmd, setA_eq, up_setA, rd_hi, Int.reduceToNat, if_neg (show ¬ (1 : Int) = 0 by decide), Nat.reduceAdd, e]
  by_cases w6 : w = 6
  · have e : (41 + w - 4).toNat = 43 := by omega
    simp only [if_neg w0, if_neg w1, if_neg w2, if_neg w3, if_neg w4, if_neg w5, if_pos w6]
    simp (disch := first | assumption | omega | decide | exact b2i_01 _ | (unfold lx; omega)) only [s161_72, s161_73, s161_76, s161_77, s161_78, s161_79, s161_80, s161_81, s161_84, s161_85, s161_86, s161_89, s161_91, s161_92, s161_93, s161_94, s161_95, s161_96, s161_97, s161_98, s161_101, s161_103, s161_104, s161_105, s161_106, s161_109, s161_111, s161_112, s161_113, s161_114, s161_117, s161_119, s161_120, s161_121, s161_122, s161_125, s161_127, s161_128, s161_129, s161_130, s161_133, s161_135, s161_136, s161_137, s161_138, s161_141, s161_142, s161_143, s161_146, s161_147, s161_149, kont_some, kont_none, w32_of, if_true, if_false, tdv, tmd, setA_eq, up_setA, rd_hi, Int.reduceToNat, if_neg (show ¬ (1 : Int) = 0 by decide), Nat.reduceAdd, e]
  by_cases w7 : w = 7
  · simp only [if_neg w0, if_neg w1, if_neg w2, if_neg w3, if_neg w4, if_neg w5, if_neg w6, if_pos w7]
    simp (disch := first | assumption | omega | decide | exact b2i_01 _ | (unfold lx; omega)) only [s161_72, s161_73, s161_76, s161_77, s161_78, s161_79, s161_80, s161_81, s161_84, s161_85, s161_86, s161_89, s161_91, s161_92, s161_93, s161_94, s161_95, s161_96, s161_97, s161_98, s161_101, s161_103, s161_104, s161_105, s161_106, s161_109, s161_111, s161_112, s161_113, s161_114, s161_117, s161_119, s161_120, s161_121, s161_122, s161_125, s161_127, s161_128, s161_129, s161_130, s161_133, s161_135, s161_136, s161_137, s161_138, s161_141, s161_142, s161_143, s161_146, s161_147, s161_149, kont_some, kont_none, w32_of, if_true, if_false, tdv, tmd, setA_eq, up_setA, rd_hi, Int.reduceToNat, if_neg (show ¬ (1 : Int) = 0 by decide), Nat.reduceAdd]
  by_cases w8 : w = 8
  · simp only [if_neg w0, if_neg w1, if_neg w2, if_neg w3, if_neg w4, if_neg w5, if_neg w6, if_neg w7, if_pos w8]
    simp (disch := first | assumption | omega | decide | exact b2i_01 _ | (unfold lx; omega)) only [s161_72, s161_73, s161_76, s161_77, s161_78, s161_79, s161_80, s161_81, s161_84, s161_85, s161_86, s161_89, s161_91, s161_92, s161_93, s161_94, s161_95, s161_96, s161_97, s161_98, s161_101, s161_103, s161_104, s161_105, s161_106, s161_109, s161_111, s161_112, s161_113, s161_114, s161_117, s161_119, s161_120, s161_121, s161_122, s161_125, s161_127, s161_128, s161_129, s161_130, s161_133, s161_135, s161_136, s161_137, s161_138, s161_141, s161_142, s161_143, s161_146, s161_147, s161_149, kont_some, kont_none, w32_of, if_true, if_false, tdv, tmd, setA_eq, up_setA, rd_hi, Int.reduceToNat, if_neg (show ¬ (1 : Int) = 0 by decide), Nat.reduceAdd]
  by_cases w9 : w = 9
  · simp only [if_neg w0, if_neg w1, if_neg w2, if_neg w3, if_neg w4, if_neg w5, if_neg w6, if_neg w7, if_neg w8, if_pos w9]
    simp (disch := first | assumption | omega | decide | exact b2i_01 _ | (unfold lx; omega)) only [s161_72, s161_73, s161_76, s161_77, s161_78, s161_79, s161_80, s161_81, s161_84, s161_85, s161_86, s161_89, s161_91, s161_92, s161_93, s161_94, s161_95, s161_96, s161_97, s161_98, s161_101, s161_103, s161_104, s161_105, s161_106, s161_109, s161_111, s161_112, s161_113, s161_114, s161_117, s161_119, s161_120, s161_121, s161_122, s161_125, s161_127, s161_128, s161_129, s161_130, s161_133, s161_135, s161_136, s161_137, s161_138, s161_141, s161_142, s161_143, s161_146, s161_147, s161_149, kont_some, kont_none, w32_of, if_true, if_false, tdv, tmd, setA_eq, up_setA, rd_hi, Int.reduceToNat, if_neg (show ¬ (1 : Int) = 0 by decide), Nat.reduceAdd]
  by_cases w10 : w = 10
  · simp only [if_neg w0, if_neg w1, if_neg w2, if_neg w3, if_neg w4, if_neg w5, if_neg w6, if_neg w7, if_neg w8, if_neg w9, if_pos w10]
    simp (disch := first | assumption | omega | decide | exact b2i_01 _ | (unfold lx; omega)) only [s161_72, s161_73, s161_76, s161_77, s161_78, s161_79, s161_80, s161_81, s161_84, s161_85, s161_86, s161_89, s161_91, s161_92, s161_93, s161_94, s161_95, s161_96, s161_97, s161_98, s161_101, s161_103, s161_104, s161_105, s161_106, s161_109, s161_111, s161_112, s161_113, s161_114, s161_117, s161_119, s161_120, s161_121, s161_122, s161_125, s161_127, s161_128, s161_129, s161_130, s161_133, s161_135, s161_136, s161_137, s161_138, s161_141, s161_142, s161_143, s161_146, s161_147, s161_149, kont_some, kont_none, w32_of, if_true, if_false, tdv, tmd, setA_eq, up_setA, rd_hi, Int.reduceToNat, if_neg (show ¬ (1 : Int) = 0 by decide), Nat.reduceAdd]
  by_cases w11 : w = 11
  · simp only [if_neg w0, if_neg w1, if_neg w2, if_neg w3, if_neg w4, if_neg w5, if_neg w6, if_neg w7, if_neg w8, if_neg w9, if_neg w10, if_pos w11]
    simp (disch := first | assumption | omega | decide | exact b2i_01 _ | (unfold lx; omega)) only [s161_72, s161_73, s161_76, s161_77, s161_78, s161_79, s161_80, s161_81, s161_84, s161_85, s161_86, s161_89, s161_91, s161_92, s161_93, s161_94, s161_95, s161_96, s161_97, s161_98, s161_101, s161_103, s161_104, s161_105, s161_106, s161_109, s161_111, s161_112, s161_113, s161_114, s161_117, s161_119, s161_120, s161_121, s161_122, s161_125, s161_127, s161_128, s161_129, s161_130, s161_133, s161_135, s161_136, s161_137, s161_138, s161_141, s161_142, s161_143, s161_146, s161_147, s161_149, kont_some, kont_none, w32_of, if_true, if_false, tdv, tmd, setA_eq, up_setA, rd_hi, Int.reduceToNat, if_neg (show ¬ (1 : Int) = 0 by decide), Nat.reduceAdd]
  by_cases w12 : w = 12
  · simp only [if_neg w0, if_neg w1, if_neg w2, if_neg w3, if_neg w4, if_neg w5, if_neg w6, if_neg w7, if_neg w8, if_neg w9, if_neg w10, if_neg w11, if_pos w12]
    simp (disch := first | assumption | omega | decide | exact b2i_01 _ | (unfold lx; omega)) only [s161_72, s161_73, s161_76, s161_77, s161_78, s161_79, s161_80, s161_81, s161_84, s161_85, s161_86, s161_89, s161_91, s161_92, s161_93, s161_94, s161_95, s161_96, s161_97, s161_98, s161_101, s161_103, s161_104, s161_105, s161_106, s161_109, s161_111, s161_112, s161_113, s161_114, s161_117, s161_119, s161_120, s161_121, s161_122, s161_125, s161_127, s161_128, s161_129, s161_130, s161_133, s161_135, s161_136, s161_137, s161_138, s161_141, s161_142, s161_143, s161_146, s161_147, s161_149, kont_some, kont_none, w32_of, if_true, if_false, tdv, tmd, setA_eq, up_setA, rd_hi, Int.reduceToNat, if_neg (show ¬ (1 : Int) = 0 by decide), Nat.reduceAdd]
  by_cases w13 : w = 13
  · simp only [if_neg w0, if_neg w1, if_neg w2, if_neg w3, if_neg w4, if_neg w5, if_neg w6, if_neg w7, if_neg w8, if_neg w9, if_neg w10, if_neg w11, if_neg w12, if_pos w13]
    simp (disch := first | assumption | omega | decide | exact b2i_01 _ | (unfold lx; omega)) only [s161_72, s161_73, s161_76, s161_77, s161_78, s161_79, s161_80, s161_81, s161_84, s161_85, s161_86, s161_89, s161_91, s161_92, s161_93, s161_94, s161_95, s161_96, s161_97, s161_98, s161_101, s161_103, s161_104, s161_105, s161_106, s161_109, s161_111, s161_112, s161_113, s161_114, s161_117, s161_119, s161_120, s161_121, s161_122, s161_125, s161_127, s161_128, s161_129, s161_130, s161_133, s161_135, s161_136, s161_137, s161_138, s161_141, s161_142, s161_143, s161_146, s161_147, s161_149, kont_some, kont_none, w32_of, if_true, if_false, tdv, tmd, setA_eq, up_setA, rd_hi, Int.reduceToNat, if_neg (show ¬ (1 : Int) = 0 by decide), Nat.reduceAdd]
  · simp only [if_neg w0, if_neg w1, if_neg w2, if_neg w3, if_neg w4, if_neg w5, if_neg w6, if_neg w7, if_neg w8, if_neg w9, if_neg w10, if_neg w11, if_neg w12, if_neg w13]
    simp (disch := first | assumption | omega | decide | exact b2i_01 _ | (unfold lx; omega)) only [s161_72, s161_73, s161_76, s161_77, s161_78, s161_79, s161_80, s161_81, s161_84, s161_85, s161_86, s161_89, s161_91, s161_92, s161_93, s161_94, s161_95, s161_96, s161_97, s161_98, s161_101, s161_103, s161_104, s161_105, s161_106, s161_109, s161_111, s161_112, s161_113, s161_114, s161_117, s161_119, s161_120, s161_121, s161_122, s161_125, s161_127, s161_128, s161_129, s161_130, s161_133, s161_135, s161_136, s161_137, s161_138, s161_141, s161_142, s161_143, s161_146, s161_147, s161_149, kont_some, kont_none, w32_of, if_true, if_false, tdv, tmd, setA_eq, up_setA, rd_hi, Int.reduceToNat, if_neg (show ¬ (1 : Int) = 0 by decide), Nat.reduceAdd]
theorem c157a (hF : St (D 159)) (hk0 : 0 ≤ k) (hk5 : k ≤ 5) (hg : goF (D 159) k 0) {l1 : eV} (n : Nat) : ∀ (j m : Int) (l5 : eV), j = 6 - n → n ≤ 6 → 0 ≤ m → m ≤ j → ∃ l4' l5', (wp 157 20 [.inr 158, l1, .inl k, .inl m, .inl j, l5] [] (hp S D) Q ↔ wp 157 112 [.inr 158, l1, .inl k, .inl (m + aheF (D 159) k n j), l4', l5'] [] (hp S D) Q) := by
  have t1 : tg 158 = 8 := rfl
  have t2 : tg 159 = 100 := rfl
  have l3 : ln S 159 = 111 := rfl
  have hAk := (hF.1 k hk0 hk5).a
  induction n with
  | zero =>
    intro j m l5 hj hn hm hm2
    have h1 : ¬ j < 6 := by omega
    refine ⟨.inl j, l5, ?_⟩
    rw [s157_20]
    simp (disch := first | assumption | omega | decide | exact b2i_01 _ | (unfold lx; omega)) only [s157_22, s157_24, s157_27, s157_28, s157_31, s157_32, s157_33, s157_36, s157_39, s157_40, s157_43, s157_45, s157_46, s157_49, s157_52, s157_53, s157_55, s157_58, s157_59, s157_60, s157_63, s157_66, s157_67, s157_69, s157_72, s157_73, s157_74, s157_77, s157_80, s157_82, s157_83, s157_86, s157_87, s157_90, s157_91, s157_93, s157_94, s157_96, s157_99, s157_100, s157_103, s157_104, s157_105, s157_106, s157_109, kont_some, kont_none, w32_of, if_true, if_false, tdv, tmd, setA_eq, up_setA, rd_hi, Int.reduceToNat, if_neg (show ¬ (1 : Int) = 0 by decide), Nat.reduceAdd, if_neg h1, aheF, Int.add_zero]
  | succ n ih =>
    intro j m l5 hj hn hm hm2
    have h1 : j < 6 := by omega
    have j0 : 0 ≤ j := by omega
    have j5 : j ≤ 5 := by omega
    have hA := (hF.1 j j0 j5).a
    have e : ∀ c : Int, c = b2i (ahdF (D 159) k j) → (∀ Q', wp 157 39 [.inr 158, l1, .inl k, .inl m, .inl j, l5] [] (hp S D) Q' ↔ wp 157 20 [.inr 158, l1, .inl k, .inl (m + c), .inl (j + 1), .inl c] [] (hp S D) Q') → ∃ l4' l5', (wp 157 20 [.inr 158, l1, .inl k, .inl m, .inl j, l5] [] (hp S D) Q ↔ wp 157 112 [.inr 158, l1, .inl k, .inl (m + aheF (D 159) k (n + 1) j), l4', l5'] [] (hp S D) Q) := by
      rintro c rfl hq
      have hb := b2i_b (c := ahdF (D 159) k j)
      obtain ⟨l4', l5', ih'⟩ := ih (j + 1) (m + b2i (ahdF (D 159) k j)) (.inl (b2i (ahdF (D 159) k j))) (by omega) (by omega) (by omega) (by omega)
      refine ⟨l4', l5', ?_⟩
      rw [Int.add_assoc] at ih'
      show _ ↔ wp 157 112 [.inr 158, l1, .inl k, .inl (m + (b2i (ahdF (D 159) k j) + aheF (D 159) k n (j + 1))), l4', l5'] [] (hp S D) Q
      rw [← ih', ← hq Q, s157_20]
      simp (disch := first | assumption | omega | decide | exact b2i_01 _ | (unfold lx; omega)) only [s157_22, s157_24, s157_27, s157_28, s157_31, s157_32, s157_33, s157_36, kont_some, kont_none, w32_of, if_true, if_false, tdv, tmd, setA_eq, up_setA, rd_hi, Int.reduceToNat, if_neg (show ¬ (1 : Int) = 0 by decide), Nat.reduceAdd, if_pos h1, d117, b2i_t hg]
    by_cases h2 : goF (D 159) j 0
    · by_cases h3 : leF (D 159) k < leF (D 159) j
      · refine e 1 (b2i_t ⟨h2, Or.inl h3⟩).symm (fun Q' => ?_)
        unfold leF at h3
        simp (disch := first | assumption | omega | decide | exact b2i_01 _ | (unfold lx; omega)) only [s157_39, s157_40, s157_43, s157_45, s157_46, s157_49, s157_52, s157_53, s157_55, s157_58, s157_59, s157_60, s157_63, s157_66, s157_67, s157_69, s157_72, s157_73, s157_74, s157_77, s157_80, s157_82, s157_83, s157_86, s157_87, s157_90, s157_91, s157_93, s157_94, s157_96, s157_99, s157_100, s157_103, s157_104, s157_105, s157_106, s157_109, kont_some, kont_none, w32_of, if_true, if_false, tdv, tmd, setA_eq, up_setA, rd_hi, Int.reduceToNat, if_neg (show ¬ (1 : Int) = 0 by decide), Nat.reduceAdd, d117, b2i_t h2, c156, if_pos h3]
      · by_cases h4 : leF (D 159) j = leF (D 159) k
        · by_cases h5 : j < k
          · refine e 1 (b2i_t ⟨h2, Or.inr ⟨h4, h5⟩⟩).symm (fun Q' => ?_)
            unfold leF at h3 h4
            simp (disch := first | assumption | omega | decide | exact b2i_01 _ | (unfold lx; omega)) only [s157_39, s157_40, s157_43, s157_45, s157_46, s157_49, s157_52, s157_53, s157_55, s157_58, s157_59, s157_60, s157_63, s157_66, s157_67, s157_69, s157_72, s157_73, s157_74, s157_77, s157_80, s157_82, s157_83, s157_86, s157_87, s157_90, s157_91, s157_93, s157_94, s157_96, s157_99, s157_100, s157_103, s157_104, s157_105, s157_106, s157_109, kont_some, kont_none, w32_of, if_true, if_false, tdv, tmd, setA_eq, up_setA, rd_hi, Int.reduceToNat, if_neg (show ¬ (1 : Int) = 0 by decide), Nat.reduceAdd, d117, b2i_t h2, c156, if_neg h3, if_pos h4, if_pos h5]
          · refine e 0 (b2i_f (fun q => q.2.elim h3 (fun q => h5 q.2))).symm (fun Q' => ?_)
            unfold leF at h3 h4
            simp (disch := first | assumption | omega | decide | exact b2i_01 _ | (unfold lx; omega)) only [s157_39, s157_40, s157_43, s157_45, s157_46, s157_49, s157_52, s157_53, s157_55, s157_58, s157_59, s157_60, s157_63, s157_66, s157_67, s157_69, s157_72, s157_73, s157_74, s157_77, s157_80, s157_82, s157_83, s157_86, s157_87, s157_90, s157_91, s157_93, s157_94, s157_96, s157_99, s157_100, s157_103, s157_104, s157_105, s157_106, s157_109, kont_some, kont_none, w32_of, if_true, if_false, tdv, tmd, setA_eq, up_setA, rd_hi, Int.reduceToNat, if_neg (show ¬ (1 : Int) = 0 by decide), Nat.reduceAdd, d117, b2i_t h2, c156, if_neg h3, if_pos h4, if_neg h5, Int.add_zero]
        · refine e 0 (b2i_f (fun q => q.2.elim h3 (fun q => h4 q.1))).symm (fun Q' => ?_)
          unfold leF at h3 h4
          simp (disch := first | assumption | omega | decide | exact b2i_01 _ | (unfold lx; omega)) only [s157_39, s157_40, s157_43, s157_45, s157_46, s157_49, s157_52, s157_53, s157_55, s157_58, s157_59, s157_60, s157_63, s157_66, s157_67, s157_69, s157_72, s157_73, s157_74, s157_77, s157_80, s157_82, s157_83, s157_86, s157_87, s157_90, s157_91, s157_93, s157_94, s157_96, s157_99, s157_100, s157_103, s157_104, s157_105, s157_106, s157_109, kont_some, kont_none, w32_of, if_true, if_false, tdv, tmd, setA_eq, up_setA, rd_hi, Int.reduceToNat, if_neg (show ¬ (1 : Int) = 0 by decide), Nat.reduceAdd, d117, b2i_t h2, c156, if_neg h3, if_neg h4, Int.add_zero]
    · refine e 0 (b2i_f (fun q => h2 q.1)).symm (fun Q' => ?_)
      simp (disch := first | assumption | omega | decide | exact b2i_01 _ | (unfold lx; omega)) only [s157_39, s157_40, s157_43, s157_45, s157_46, s157_49, s157_52, s157_53, s157_55, s157_58, s157_59, s157_60, s157_63, s157_66, s157_67, s157_69, s157_72, s157_73, s157_74, s157_77, s157_80, s157_82, s157_83, s157_86, s157_87, s157_90, s157_91, s157_93, s157_94, s157_96, s157_99, s157_100, s157_103, s157_104, s157_105, s157_106, s157_109, kont_some, kont_none, w32_of, if_true, if_false, tdv, tmd, setA_eq, up_setA, rd_hi, Int.reduceToNat, if_neg (show ¬ (1 : Int) = 0 by decide), Nat.reduceAdd, d117, b2i_f h2, Int.add_zero]
theorem c157b (hF : St (D 159)) (n : Nat) : ∀ (k : Int) (l3' l4' l5' : eV), k = 6 - n → n ≤ 6 → (wp 157 9 [.inr 158, .inl p, .inl k, l3', l4', l5'] [] (hp S D) Q ↔ Q (some (.inl (rkF (D 159) p n k))) (hp S D)) := by
  have t1 : tg 158 = 8 := rfl
  have t2 : tg 159 = 100 := rfl
  have l3 : ln S 159 = 111 := rfl
  induction n with
  | zero =>
    intro k l3' l4' l5' hk hn
    have h1 : ¬ k < 6 := by omega
    rw [s157_9]
    simp (disch := first | assumption | omega | decide | exact b2i_01 _ | (unfold lx; omega)) only [s157_10, s157_12, s157_15, s157_16, s157_17, s157_18, s157_137, s157_139, kont_some, kont_none, w32_of, if_true, if_false, tdv, tmd, setA_eq, up_setA, rd_hi, Int.reduceToNat, if_neg (show ¬ (1 : Int) = 0 by decide), Nat.reduceAdd, if_neg h1, rkF]
  | succ n ih =>
    intro k l3' l4' l5' hk hn
    have h1 : k < 6 := by omega
    have k0 : 0 ≤ k := by omega
    have k5 : k ≤ 5 := by omega
    have hA := (hF.1 k k0 k5).a
    unfold rkF
    rw [s157_9]
    by_cases hg : goF (D 159) k 0
    · obtain ⟨m4, m5, e⟩ := c157a (S := S) (D := D) (Q := Q) (l1 := .inl p) hF k0 k5 hg 6 0 0 l5' (by omega) (by omega) (by omega) (by omega)
      rw [Int.zero_add] at e
      have ea : wp 157 10 [.inr 158, .inl p, .inl k, l3', l4', l5'] [.inl k] (hp S D) Q ↔ wp 157 20 [.inr 158, .inl p, .inl k, .inl 0, .inl 0, l5'] [] (hp S D) Q := by
        simp (disch := first | assumption | omega | decide | exact b2i_01 _ | (unfold lx; omega)) only [s157_10, s157_12, s157_15, s157_16, s157_17, s157_18, kont_some, kont_none, w32_of, if_true, if_false, tdv, tmd, setA_eq, up_setA, rd_hi, Int.reduceToNat, if_neg (show ¬ (1 : Int) = 0 by decide), Nat.reduceAdd, if_pos h1]
      rw [ea, e]
      by_cases h2 : aheF (D 159) k 6 0 = p
      · rw [if_pos ⟨hg, h2⟩]
        simp (disch := first | assumption | omega | decide | exact b2i_01 _ | (unfold lx; omega)) only [s157_112, s157_113, s157_116, s157_117, s157_118, s157_121, s157_124, s157_125, s157_126, s157_129, s157_130, s157_131, s157_134, kont_some, kont_none, w32_of, if_true, if_false, tdv, tmd, setA_eq, up_setA, rd_hi, Int.reduceToNat, if_neg (show ¬ (1 : Int) = 0 by decide), Nat.reduceAdd, d117, b2i_t hg, if_pos h2]
      · rw [if_neg (fun q => h2 q.2)]
        simp (disch := first | assumption | omega | decide | exact b2i_01 _ | (unfold lx; omega)) only [s157_112, s157_113, s157_116, s157_117, s157_118, s157_121, s157_124, s157_125, s157_126, s157_129, s157_130, s157_131, s157_134, kont_some, kont_none, w32_of, if_true, if_false, tdv, tmd, setA_eq, up_setA, rd_hi, Int.reduceToNat, if_neg (show ¬ (1 : Int) = 0 by decide), Nat.reduceAdd, d117, b2i_t hg, if_neg h2]
        exact ih (k + 1) _ _ _ (by omega) (by omega)
    · rw [if_neg (fun q => hg q.1)]
      have ea : wp 157 10 [.inr 158, .inl p, .inl k, l3', l4', l5'] [.inl k] (hp S D) Q ↔ wp 157 20 [.inr 158, .inl p, .inl k, .inl 0, .inl 0, l5'] [] (hp S D) Q := by
        simp (disch := first | assumption | omega | decide | exact b2i_01 _ | (unfold lx; omega)) only [s157_10, s157_12, s157_15, s157_16, s157_17, s157_18, kont_some, kont_none, w32_of, if_true, if_false, tdv, tmd, setA_eq, up_setA, rd_hi, Int.reduceToNat, if_neg (show ¬ (1 : Int) = 0 by decide), Nat.reduceAdd, if_pos h1]
      rw [ea]
      simp (disch := first | assumption | omega | decide | exact b2i_01 _ | (unfold lx; omega)) only [s157_20, s157_22, s157_24, s157_27, s157_28, s157_31, s157_32, s157_33, s157_36, s157_112, s157_113, s157_116, s157_117, s157_118, s157_121, s157_124, s157_125, s157_126, s157_129, s157_130, s157_131, s157_134, kont_some, kont_none, w32_of, if_true, if_false, tdv, tmd, setA_eq, up_setA, rd_hi, Int.reduceToNat, if_neg (show ¬ (1 : Int) = 0 by decide), Nat.reduceAdd, d117, b2i_f hg, if_pos (show (0 : Int) < 6 by decide)]
      exact ih (k + 1) _ _ _ (by omega) (by omega)
theorem c157 (hF : St (D 159)) : wp 157 0 [.inr 158, .inl p, .inr 0, .inr 0, .inr 0, .inr 0] [] (hp S D) Q ↔ Q (some (.inl (m157 D p))) (hp S D) := by
  unfold m157
  by_cases h1 : p < 0
  · rw [if_pos h1]
    simp (disch := first | assumption | omega | decide | exact b2i_01 _ | (unfold lx; omega)) only [s157_0, s157_1, s157_4, s157_6, s157_7, s157_8, kont_some, kont_none, w32_of, if_true, if_false, tdv, tmd, setA_eq, up_setA, rd_hi, Int.reduceToNat, if_neg (show ¬ (1 : Int) = 0 by decide), if_pos h1]
  · rw [if_neg h1, ← c157b (S := S) (D := D) (Q := Q) (p := p) hF 6 0 (.inr 0) (.inr 0) (.inr 0) (by omega) (by omega)]
    simp (disch := first | assumption | omega | decide | exact b2i_01 _ | (unfold lx; omega)) only [s157_0, s157_1, s157_4, s157_6, s157_7, s157_8, kont_some, kont_none, w32_of, if_true, if_false, tdv, tmd, setA_eq, up_setA, rd_hi, Int.reduceToNat, if_neg (show ¬ (1 : Int) = 0 by decide), if_neg h1]
end SPEC38
