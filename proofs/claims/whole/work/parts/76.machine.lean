/-! the text read by the class, sign by sign, against the check's reading, boat by boat -/
/-- 152 the text: 1 length, 2 too many, 3 place, 4 digits, 5 tick, 6 kind -/
def TxC (D E : eD) : Prop := D 152 1 = E 158 7 ∧ ∀ i : Nat, (i : Int) < E 158 7 → D 153 i = E 163 i
def MS (D : eD) (pl dg tk : Int) : Prop := D 152 3 = pl ∧ D 152 4 = dg ∧ D 152 5 = tk
/-- within a boat -/
def MF (D1 D : eD) : Prop := D1 152 1 = D 152 1 ∧ D1 152 2 = D 152 2 ∧ ∀ K, K ≠ 152 → D1 K = D K
theorem MF_r {D : eD} : MF D D := ⟨rfl, rfl, fun _ _ => rfl⟩
theorem MF_t {A B C : eD} (h : MF A B) (g : MF B C) : MF A C := ⟨h.1.trans g.1, h.2.1.trans g.2.1, fun K hK => (h.2.2 K hK).trans (g.2.2 K hK)⟩
theorem TxC_f {D D1 E : eD} (h : TxC D E) (f : MF D1 D) : TxC D1 E := ⟨f.1.trans h.1, fun i hi => by rw [f.2.2 153 (by decide)]; exact h.2 i hi⟩
theorem MF_up {D : eD} {j : Nat} {v : Int} (h : 2 < j) : MF (up D 152 j v) D := ⟨up_ne2 (by omega), up_ne2 (by omega), fun K hK => by funext i; exact up_ne1 hK⟩
section SPEC76
variable {S : List Int} {D E : eD} {h : eH} {Q : Option eV → eH → Prop} {F G P T X : eRow} {w v s t a b p c pl dg tk : Int}
theorem c46 : wp 46 0 [.inr 152] [] (hp S D) Q ↔ Q none (hp S (up (up (up D 152 3 0) 152 4 0) 152 5 0)) := by
  have t1 : tg 152 = 5 := rfl
  simp (disch := first | assumption | omega | decide | exact b2i_01 _ | (unfold lx; omega)) only [s46_0, s46_1, s46_2, s46_5, s46_6, s46_7, s46_10, s46_11, s46_12, s46_15, kont_some, kont_none, w32_of, if_true, if_false, tdv, tmd, setA_eq, up_setA, rd_hi, Int.reduceToNat, if_neg (show ¬ (1 : Int) = 0 by decide)]
/-- the end of the text -/
theorem c45e (h1 : p = D 152 1) : wp 45 15 [.inr 152, .inr 154, .inl p] [] (hp S D) Q ↔ Q (some (.inl (if D 152 3 = 4 then -1 else p))) (hp S D) := by
  have t1 : tg 152 = 5 := rfl
  have h2 : ¬ p < D 152 1 := by omega
  rw [s45_15]
  by_cases h3 : D 152 3 = 4
  · rw [if_pos h3]
    simp (disch := first | assumption | omega | decide | exact b2i_01 _ | (unfold lx; omega)) only [s45_16, s45_17, s45_20, s45_54, s45_55, s45_58, s45_59, s45_62, s45_63, s45_66, s45_67, s45_70, kont_some, kont_none, w32_of, if_true, if_false, tdv, tmd, setA_eq, up_setA, rd_hi, Int.reduceToNat, if_neg (show ¬ (1 : Int) = 0 by decide), if_neg h2, if_pos h3]
  · rw [if_neg h3]
    simp (disch := first | assumption | omega | decide | exact b2i_01 _ | (unfold lx; omega)) only [s45_16, s45_17, s45_20, s45_54, s45_55, s45_58, s45_59, s45_62, s45_63, s45_66, s45_67, s45_70, kont_some, kont_none, w32_of, if_true, if_false, tdv, tmd, setA_eq, up_setA, rd_hi, Int.reduceToNat, if_neg (show ¬ (1 : Int) = 0 by decide), if_neg h2, if_neg h3]
    rw [h1]
/-- a sign -/
theorem c45s (hS : S.length ≤ 2048) (h0 : 0 ≤ p) (h1 : p < D 152 1) (h2 : D 152 1 ≤ 60) {r : Int} {D1 : eD} (hr : r = 0 ∨ r = 1) (hc : ∀ Q', wp 47 0 [.inr 152, .inl (D 153 p.toNat), .inr 154] [] (hp S D) Q' ↔ Q' (some (.inl r)) (hp S D1)) : wp 45 15 [.inr 152, .inr 154, .inl p] [] (hp S D) Q ↔ if r = 0 then Q (some (.inl p)) (hp S D1) else wp 45 15 [.inr 152, .inr 154, .inl (p + 1)] [] (hp S D1) Q := by
  have t1 : tg 152 = 5 := rfl
  have t2 : tg 153 = 101 := rfl
  have t4 : tg 154 = 4 := rfl
  have l2 : ln S 153 = 60 := rfl
  have h3 : p < ((60 : Nat) : Int) := by omega
  rw [s45_15]
  rcases hr with rfl | rfl
  · rw [if_pos rfl]
    simp (disch := first | assumption | omega | decide | exact b2i_01 _ | (unfold lx; omega)) only [s45_16, s45_17, s45_20, s45_23, s45_24, s45_25, s45_28, s45_29, s45_32, s45_33, s45_34, s45_37, s45_38, s45_39, s45_40, s45_43, s45_46, s45_47, kont_some, kont_none, w32_of, if_true, if_false, tdv, tmd, setA_eq, up_setA, rd_hi, Int.reduceToNat, if_neg (show ¬ (1 : Int) = 0 by decide), Nat.reduceAdd, if_pos h1, l2, if_pos h3, hc]
  · rw [if_neg (by decide)]
    simp (disch := first | assumption | omega | decide | exact b2i_01 _ | (unfold lx; omega)) only [s45_16, s45_17, s45_20, s45_23, s45_24, s45_25, s45_28, s45_29, s45_32, s45_33, s45_34, s45_37, s45_38, s45_39, s45_40, s45_43, s45_46, s45_47, s45_48, s45_51, kont_some, kont_none, w32_of, if_true, if_false, tdv, tmd, setA_eq, up_setA, rd_hi, Int.reduceToNat, if_neg (show ¬ (1 : Int) = 0 by decide), Nat.reduceAdd, if_pos h1, l2, if_pos h3, hc]
/-- in the tick: the colon -/
theorem c47a (hm : D 152 3 = 0) : wp 47 0 [.inr 152, .inl 58, .inr 154] [] (hp S D) Q ↔ Q (some (.inl (b2i (0 < D 152 4)))) (hp S (up D 152 3 1)) := by
  have t1 : tg 152 = 5 := rfl
  by_cases h1 : 0 < D 152 4
  · rw [b2i_t h1]
    simp (disch := first | assumption | omega | decide | exact b2i_01 _ | (unfold lx; omega)) only [s47_0, s47_1, kont_some, kont_none, w32_of, if_true, if_false, tdv, tmd, setA_eq, up_setA, rd_hi, Int.reduceToNat, if_neg (show ¬ (1 : Int) = 0 by decide), hm]
    rw [s47_4]
    simp (disch := first | assumption | omega | decide | exact b2i_01 _ | (unfold lx; omega)) only [s47_36, s47_37, s47_38, s47_41, s48_0, s48_1, s48_3, s48_6, s48_7, s48_8, s48_11, s48_12, s48_15, s48_18, s48_19, s48_22, s48_23, s48_24, s48_25, s48_28, s48_31, s48_32, s48_35, s48_38, s48_39, s48_42, s48_43, s48_44, s48_45, s48_47, s48_49, s48_52, s48_55, s48_56, s48_59, s48_60, s48_63, s48_64, s48_67, s48_68, s48_69, s48_70, s48_72, s48_73, s48_76, s48_77, s48_78, s48_79, s48_81, s48_82, s48_85, s48_86, s48_87, s48_90, s48_91, s48_92, s48_95, s48_96, kont_some, kont_none, w32_of, if_true, if_false, tdv, tmd, setA_eq, up_setA, rd_hi, Int.reduceToNat, if_neg (show ¬ (1 : Int) = 0 by decide), up_ne2, if_pos h1]
  · rw [b2i_f h1]
    simp (disch := first | assumption | omega | decide | exact b2i_01 _ | (unfold lx; omega)) only [s47_0, s47_1, kont_some, kont_none, w32_of, if_true, if_false, tdv, tmd, setA_eq, up_setA, rd_hi, Int.reduceToNat, if_neg (show ¬ (1 : Int) = 0 by decide), hm]
    rw [s47_4]
    simp (disch := first | assumption | omega | decide | exact b2i_01 _ | (unfold lx; omega)) only [s47_36, s47_37, s47_38, s47_41, s48_0, s48_1, s48_3, s48_6, s48_7, s48_8, s48_11, s48_12, s48_15, s48_18, s48_19, s48_22, s48_23, s48_24, s48_25, s48_28, s48_31, s48_32, s48_35, s48_38, s48_39, s48_42, s48_43, s48_44, s48_45, s48_47, s48_49, s48_52, s48_55, s48_56, s48_59, s48_60, s48_63, s48_64, s48_67, s48_68, s48_69, s48_70, s48_72, s48_73, s48_76, s48_77, s48_78, s48_79, s48_81, s48_82, s48_85, s48_86, s48_87, s48_90, s48_91, s48_92, s48_95, s48_96, kont_some, kont_none, w32_of, if_true, if_false, tdv, tmd, setA_eq, up_setA, rd_hi, Int.reduceToNat, if_neg (show ¬ (1 : Int) = 0 by decide), up_ne2, if_neg h1]
theorem c47b (hm : D 152 3 = 0) (hc : ¬ c = 58) (hd : 0 ≤ D 152 4 ∧ D 152 4 ≤ 4) (ht : 0 ≤ D 152 5 ∧ D 152 5 ≤ 9999) (hc0 : 0 ≤ c ∧ c < 65536) : wp 47 0 [.inr 152, .inl c, .inr 154] [] (hp S D) Q ↔ if (48 ≤ c ∧ c ≤ 57) ∧ D 152 4 < 4 ∧ ¬ (0 < D 152 4 ∧ D 152 5 = 0) then Q (some (.inl 1)) (hp S (up (up D 152 5 (10 * D 152 5 + c - 48)) 152 4 (D 152 4 + 1))) else Q (some (.inl 0)) (hp S D) := by
  have t1 : tg 152 = 5 := rfl
  have st : wp 47 0 [.inr 152, .inl c, .inr 154] [] (hp S D) Q ↔ wp 47 36 [.inr 152, .inl c, .inr 154] [] (hp S D) Q := by
    simp (disch := first | assumption | omega | decide | exact b2i_01 _ | (unfold lx; omega)) only [s47_0, s47_1, kont_some, kont_none, w32_of, if_true, if_false, tdv, tmd, setA_eq, up_setA, rd_hi, Int.reduceToNat, if_neg (show ¬ (1 : Int) = 0 by decide), hm]
    rw [s47_4]
    simp only [if_true]
  rw [st]
  by_cases h1 : 48 ≤ c ∧ c ≤ 57
  · by_cases h2 : D 152 4 < 4
    · by_cases h3 : 0 < D 152 4
      · by_cases h4 : D 152 5 = 0
        · rw [if_neg (fun z => z.2.2 ⟨h3, h4⟩)]
          simp (disch := first | assumption | omega | decide | exact b2i_01 _ | (unfold lx; omega)) only [s47_36, s47_37, s47_38, s47_41, s48_0, s48_1, s48_3, s48_6, s48_7, s48_8, s48_11, s48_12, s48_15, s48_18, s48_19, s48_22, s48_23, s48_24, s48_25, s48_28, s48_31, s48_32, s48_35, s48_38, s48_39, s48_42, s48_43, s48_44, s48_45, s48_47, s48_49, s48_52, s48_55, s48_56, s48_59, s48_60, s48_63, s48_64, s48_67, s48_68, s48_69, s48_70, s48_72, s48_73, s48_76, s48_77, s48_78, s48_79, s48_81, s48_82, s48_85, s48_86, s48_87, s48_90, s48_91, s48_92, s48_95, s48_96, kont_some, kont_none, w32_of, if_true, if_false, tdv, tmd, setA_eq, up_setA, rd_hi, Int.reduceToNat, if_neg (show ¬ (1 : Int) = 0 by decide), if_neg hc, if_pos h3, if_pos h4, c91, b2i_t h1, if_pos h2]
        · rw [if_pos ⟨h1, h2, fun z => h4 z.2⟩]
          simp (disch := first | assumption | omega | decide | exact b2i_01 _ | (unfold lx; omega)) only [s47_36, s47_37, s47_38, s47_41, s48_0, s48_1, s48_3, s48_6, s48_7, s48_8, s48_11, s48_12, s48_15, s48_18, s48_19, s48_22, s48_23, s48_24, s48_25, s48_28, s48_31, s48_32, s48_35, s48_38, s48_39, s48_42, s48_43, s48_44, s48_45, s48_47, s48_49, s48_52, s48_55, s48_56, s48_59, s48_60, s48_63, s48_64, s48_67, s48_68, s48_69, s48_70, s48_72, s48_73, s48_76, s48_77, s48_78, s48_79, s48_81, s48_82, s48_85, s48_86, s48_87, s48_90, s48_91, s48_92, s48_95, s48_96, kont_some, kont_none, w32_of, if_true, if_false, tdv, tmd, setA_eq, up_setA, rd_hi, Int.reduceToNat, if_neg (show ¬ (1 : Int) = 0 by decide), if_neg hc, if_pos h3, if_neg h4, c91, b2i_t h1, if_pos h2, up_ne2]
      · rw [if_pos ⟨h1, h2, fun z => h3 z.1⟩]
        simp (disch := first | assumption | omega | decide | exact b2i_01 _ | (unfold lx; omega)) only [s47_36, s47_37, s47_38, s47_41, s48_0, s48_1, s48_3, s48_6, s48_7, s48_8, s48_11, s48_12, s48_15, s48_18, s48_19, s48_22, s48_23, s48_24, s48_25, s48_28, s48_31, s48_32, s48_35, s48_38, s48_39, s48_42, s48_43, s48_44, s48_45, s48_47, s48_49, s48_52, s48_55, s48_56, s48_59, s48_60, s48_63, s48_64, s48_67, s48_68, s48_69, s48_70, s48_72, s48_73, s48_76, s48_77, s48_78, s48_79, s48_81, s48_82, s48_85, s48_86, s48_87, s48_90, s48_91, s48_92, s48_95, s48_96, kont_some, kont_none, w32_of, if_true, if_false, tdv, tmd, setA_eq, up_setA, rd_hi, Int.reduceToNat, if_neg (show ¬ (1 : Int) = 0 by decide), if_neg hc, if_neg h3, c91, b2i_t h1, if_pos h2, up_ne2]
    · rw [if_neg (fun z => h2 z.2.1)]
      by_cases h3 : 0 < D 152 4
      · by_cases h4 : D 152 5 = 0
        · simp (disch := first | assumption | omega | decide | exact b2i_01 _ | (unfold lx; omega)) only [s47_36, s47_37, s47_38, s47_41, s48_0, s48_1, s48_3, s48_6, s48_7, s48_8, s48_11, s48_12, s48_15, s48_18, s48_19, s48_22, s48_23, s48_24, s48_25, s48_28, s48_31, s48_32, s48_35, s48_38, s48_39, s48_42, s48_43, s48_44, s48_45, s48_47, s48_49, s48_52, s48_55, s48_56, s48_59, s48_60, s48_63, s48_64, s48_67, s48_68, s48_69, s48_70, s48_72, s48_73, s48_76, s48_77, s48_78, s48_79, s48_81, s48_82, s48_85, s48_86, s48_87, s48_90, s48_91, s48_92, s48_95, s48_96, kont_some, kont_none, w32_of, if_true, if_false, tdv, tmd, setA_eq, up_setA, rd_hi, Int.reduceToNat, if_neg (show ¬ (1 : Int) = 0 by decide), if_neg hc, if_pos h3, if_pos h4, c91, b2i_t h1, if_neg h2]
        · simp (disch := first | assumption | omega | decide | exact b2i_01 _ | (unfold lx; omega)) only [s47_36, s47_37, s47_38, s47_41, s48_0, s48_1, s48_3, s48_6, s48_7, s48_8, s48_11, s48_12, s48_15, s48_18, s48_19, s48_22, s48_23, s48_24, s48_25, s48_28, s48_31, s48_32, s48_35, s48_38, s48_39, s48_42, s48_43, s48_44, s48_45, s48_47, s48_49, s48_52, s48_55, s48_56, s48_59, s48_60, s48_63, s48_64, s48_67, s48_68, s48_69, s48_70, s48_72, s48_73, s48_76, s48_77, s48_78, s48_79, s48_81, s48_82, s48_85, s48_86, s48_87, s48_90, s48_91, s48_92, s48_95, s48_96, kont_some, kont_none, w32_of, if_true, if_false, tdv, tmd, setA_eq, up_setA, rd_hi, Int.reduceToNat, if_neg (show ¬ (1 : Int) = 0 by decide), if_neg hc, if_pos h3, if_neg h4, c91, b2i_t h1, if_neg h2]
      · omega
  · rw [if_neg (fun z => h1 z.1)]
    by_cases h3 : 0 < D 152 4
    · by_cases h4 : D 152 5 = 0
      · simp (disch := first | assumption | omega | decide | exact b2i_01 _ | (unfold lx; omega)) only [s47_36, s47_37, s47_38, s47_41, s48_0, s48_1, s48_3, s48_6, s48_7, s48_8, s48_11, s48_12, s48_15, s48_18, s48_19, s48_22, s48_23, s48_24, s48_25, s48_28, s48_31, s48_32, s48_35, s48_38, s48_39, s48_42, s48_43, s48_44, s48_45, s48_47, s48_49, s48_52, s48_55, s48_56, s48_59, s48_60, s48_63, s48_64, s48_67, s48_68, s48_69, s48_70, s48_72, s48_73, s48_76, s48_77, s48_78, s48_79, s48_81, s48_82, s48_85, s48_86, s48_87, s48_90, s48_91, s48_92, s48_95, s48_96, kont_some, kont_none, w32_of, if_true, if_false, tdv, tmd, setA_eq, up_setA, rd_hi, Int.reduceToNat, if_neg (show ¬ (1 : Int) = 0 by decide), if_neg hc, if_pos h3, if_pos h4, c91, b2i_f h1]
      · simp (disch := first | assumption | omega | decide | exact b2i_01 _ | (unfold lx; omega)) only [s47_36, s47_37, s47_38, s47_41, s48_0, s48_1, s48_3, s48_6, s48_7, s48_8, s48_11, s48_12, s48_15, s48_18, s48_19, s48_22, s48_23, s48_24, s48_25, s48_28, s48_31, s48_32, s48_35, s48_38, s48_39, s48_42, s48_43, s48_44, s48_45, s48_47, s48_49, s48_52, s48_55, s48_56, s48_59, s48_60, s48_63, s48_64, s48_67, s48_68, s48_69, s48_70, s48_72, s48_73, s48_76, s48_77, s48_78, s48_79, s48_81, s48_82, s48_85, s48_86, s48_87, s48_90, s48_91, s48_92, s48_95, s48_96, kont_some, kont_none, w32_of, if_true, if_false, tdv, tmd, setA_eq, up_setA, rd_hi, Int.reduceToNat, if_neg (show ¬ (1 : Int) = 0 by decide), if_neg hc, if_pos h3, if_neg h4, c91, b2i_f h1]
    · simp (disch := first | assumption | omega | decide | exact b2i_01 _ | (unfold lx; omega)) only [s47_36, s47_37, s47_38, s47_41, s48_0, s48_1, s48_3, s48_6, s48_7, s48_8, s48_11, s48_12, s48_15, s48_18, s48_19, s48_22, s48_23, s48_24, s48_25, s48_28, s48_31, s48_32, s48_35, s48_38, s48_39, s48_42, s48_43, s48_44, s48_45, s48_47, s48_49, s48_52, s48_55, s48_56, s48_59, s48_60, s48_63, s48_64, s48_67, s48_68, s48_69, s48_70, s48_72, s48_73, s48_76, s48_77, s48_78, s48_79, s48_81, s48_82, s48_85, s48_86, s48_87, s48_90, s48_91, s48_92, s48_95, s48_96, kont_some, kont_none, w32_of, if_true, if_false, tdv, tmd, setA_eq, up_setA, rd_hi, Int.reduceToNat, if_neg (show ¬ (1 : Int) = 0 by decide), if_neg hc, if_neg h3, c91, b2i_f h1]
theorem c47c (hm : D 152 3 = 1) (hc0 : 0 ≤ c ∧ c < 65536) : wp 47 0 [.inr 152, .inl c, .inr 154] [] (hp S D) Q ↔ Q (some (.inl (b2i (0 ≤ c - 48 ∧ c - 48 ≤ 2)))) (hp S (up (up D 152 6 (c - 48)) 152 3 2)) := by
  have t1 : tg 152 = 5 := rfl
  have st : wp 47 0 [.inr 152, .inl c, .inr 154] [] (hp S D) Q ↔ wp 47 42 [.inr 152, .inl c, .inr 154] [] (hp S D) Q := by
    simp (disch := first | assumption | omega | decide | exact b2i_01 _ | (unfold lx; omega)) only [s47_0, s47_1, kont_some, kont_none, w32_of, if_true, if_false, tdv, tmd, setA_eq, up_setA, rd_hi, Int.reduceToNat, if_neg (show ¬ (1 : Int) = 0 by decide), hm]
    rw [s47_4]
    simp only [if_neg (show ¬ (1 : Int) = 0 by decide), if_true]
  rw [st]
  simp (disch := first | assumption | omega | decide | exact b2i_01 _ | (unfold lx; omega)) only [s47_42, s47_43, s47_44, s47_47, s49_0, s49_1, s49_2, s49_4, s49_5, s49_8, s49_9, s49_10, s49_13, s49_14, s49_17, s49_20, kont_some, kont_none, w32_of, if_true, if_false, tdv, tmd, setA_eq, up_setA, rd_hi, Int.reduceToNat, if_neg (show ¬ (1 : Int) = 0 by decide), up_eq, up_ne2, c95]
theorem c47d (hm : D 152 3 = 2) : wp 47 0 [.inr 152, .inl c, .inr 154] [] (hp S D) Q ↔ Q (some (.inl (b2i (c = 120)))) (hp S (up D 152 3 3)) := by
  have t1 : tg 152 = 5 := rfl
  have st : wp 47 0 [.inr 152, .inl c, .inr 154] [] (hp S D) Q ↔ wp 47 48 [.inr 152, .inl c, .inr 154] [] (hp S D) Q := by
    simp (disch := first | assumption | omega | decide | exact b2i_01 _ | (unfold lx; omega)) only [s47_0, s47_1, kont_some, kont_none, w32_of, if_true, if_false, tdv, tmd, setA_eq, up_setA, rd_hi, Int.reduceToNat, if_neg (show ¬ (1 : Int) = 0 by decide), hm]
    rw [s47_4]
    simp only [if_neg (show ¬ (2 : Int) = 0 by decide), if_neg (show ¬ (2 : Int) = 1 by decide), if_true]
  rw [st]
  by_cases h1 : c = 120
  · rw [b2i_t h1]
    simp (disch := first | assumption | omega | decide | exact b2i_01 _ | (unfold lx; omega)) only [s47_48, s47_49, s47_50, s47_53, s47_54, s47_56, s47_59, s47_60, s47_63, s47_64, kont_some, kont_none, w32_of, if_true, if_false, tdv, tmd, setA_eq, up_setA, rd_hi, Int.reduceToNat, if_neg (show ¬ (1 : Int) = 0 by decide), if_pos h1]
  · rw [b2i_f h1]
    simp (disch := first | assumption | omega | decide | exact b2i_01 _ | (unfold lx; omega)) only [s47_48, s47_49, s47_50, s47_53, s47_54, s47_56, s47_59, s47_60, s47_63, s47_64, kont_some, kont_none, w32_of, if_true, if_false, tdv, tmd, setA_eq, up_setA, rd_hi, Int.reduceToNat, if_neg (show ¬ (1 : Int) = 0 by decide), if_neg h1]
theorem c47e (hS : S.length ≤ 2048) (hm : D 152 3 = 3) (hc0 : 0 ≤ c ∧ c < 65536) (hr : 0 ≤ D 154 3 ∧ D 154 3 < 10) : wp 47 0 [.inr 152, .inl c, .inr 154] [] (hp S D) Q ↔ if 1 ≤ c - 48 ∧ c - 48 ≤ 6 then Q (some (.inl 1)) (hp S (up (entD D 154 (D 152 5) (D 152 6) (c - 48)) 152 3 4)) else Q (some (.inl 0)) (hp S D) := by
  have t1 : tg 152 = 5 := rfl
  have t4 : tg 154 = 4 := rfl
  have st : wp 47 0 [.inr 152, .inl c, .inr 154] [] (hp S D) Q ↔ wp 47 65 [.inr 152, .inl c, .inr 154] [] (hp S D) Q := by
    simp (disch := first | assumption | omega | decide | exact b2i_01 _ | (unfold lx; omega)) only [s47_0, s47_1, kont_some, kont_none, w32_of, if_true, if_false, tdv, tmd, setA_eq, up_setA, rd_hi, Int.reduceToNat, if_neg (show ¬ (1 : Int) = 0 by decide), hm]
    rw [s47_4]
    simp only [if_neg (show ¬ (3 : Int) = 0 by decide), if_neg (show ¬ (3 : Int) = 1 by decide), if_neg (show ¬ (3 : Int) = 2 by decide), if_true]
  have c39' := fun Q' => c39 (S := S) (D := D) (Q := Q') (t := D 152 5) t4 hS (by omega)
  rw [b2i_t (Or.inl hr.2)] at c39'
  have c40' := fun Q' => c40 (S := S) (D := D) (Q := Q') (t := D 152 5) (a := D 152 6) (b := c - 48) t4 hS (by omega) (Or.inl hr.2)
  rw [st]
  by_cases h1 : 1 ≤ c - 48 ∧ c - 48 ≤ 6
  · rw [if_pos h1]
    simp (disch := first | assumption | omega | decide | exact b2i_01 _ | (unfold lx; omega)) only [s47_65, s47_66, s47_67, s47_68, s47_71, s50_0, s50_1, s50_3, s50_4, s50_5, s50_6, s50_9, s50_12, s50_13, s50_14, s50_15, s50_16, s50_19, s50_22, s50_25, s50_26, s50_27, s50_30, s50_31, s50_34, s50_35, s50_38, s50_41, s50_42, s50_43, s50_46, s50_47, s50_48, s50_51, s50_52, kont_some, kont_none, w32_of, if_true, if_false, tdv, tmd, setA_eq, up_setA, rd_hi, Int.reduceToNat, if_neg (show ¬ (1 : Int) = 0 by decide), c96, b2i_t h1, c39', c40']
  · rw [if_neg h1]
    simp (disch := first | assumption | omega | decide | exact b2i_01 _ | (unfold lx; omega)) only [s47_65, s47_66, s47_67, s47_68, s47_71, s50_0, s50_1, s50_3, s50_4, s50_5, s50_6, s50_9, s50_12, s50_13, s50_14, s50_15, s50_16, s50_19, s50_22, s50_25, s50_26, s50_27, s50_30, s50_31, s50_34, s50_35, s50_38, s50_41, s50_42, s50_43, s50_46, s50_47, s50_48, s50_51, s50_52, kont_some, kont_none, w32_of, if_true, if_false, tdv, tmd, setA_eq, up_setA, rd_hi, Int.reduceToNat, if_neg (show ¬ (1 : Int) = 0 by decide), c96, b2i_f h1]
theorem c47f (hm : D 152 3 = 4) : wp 47 0 [.inr 152, .inl c, .inr 154] [] (hp S D) Q ↔ Q (some (.inl (b2i (c = 44)))) (hp S (up (up (up D 152 3 0) 152 4 0) 152 5 0)) := by
  have t1 : tg 152 = 5 := rfl
  have st : wp 47 0 [.inr 152, .inl c, .inr 154] [] (hp S D) Q ↔ wp 47 72 [.inr 152, .inl c, .inr 154] [] (hp S D) Q := by
    simp (disch := first | assumption | omega | decide | exact b2i_01 _ | (unfold lx; omega)) only [s47_0, s47_1, kont_some, kont_none, w32_of, if_true, if_false, tdv, tmd, setA_eq, up_setA, rd_hi, Int.reduceToNat, if_neg (show ¬ (1 : Int) = 0 by decide), hm]
    rw [s47_4]
    simp only [if_neg (show ¬ (4 : Int) = 0 by decide), if_neg (show ¬ (4 : Int) = 1 by decide), if_neg (show ¬ (4 : Int) = 2 by decide), if_neg (show ¬ (4 : Int) = 3 by decide)]
  rw [st]
  by_cases h1 : c = 44
  · rw [b2i_t h1]
    simp (disch := first | assumption | omega | decide | exact b2i_01 _ | (unfold lx; omega)) only [s47_72, s47_73, s47_76, s47_77, s47_79, s47_82, s47_83, s47_86, s47_87, kont_some, kont_none, w32_of, if_true, if_false, tdv, tmd, setA_eq, up_setA, rd_hi, Int.reduceToNat, if_neg (show ¬ (1 : Int) = 0 by decide), c46, if_pos h1]
  · rw [b2i_f h1]
    simp (disch := first | assumption | omega | decide | exact b2i_01 _ | (unfold lx; omega)) only [s47_72, s47_73, s47_76, s47_77, s47_79, s47_82, s47_83, s47_86, s47_87, kont_some, kont_none, w32_of, if_true, if_false, tdv, tmd, setA_eq, up_setA, rd_hi, Int.reduceToNat, if_neg (show ¬ (1 : Int) = 0 by decide), c46, if_neg h1]
end SPEC76
