/-! the check's own plan, and its counts -/
def plcF (F : eRow) (t : Int) : Nat → Int → Int
  | 0, k => k
  | n + 1, k => if k < F 49 ∧ F (50 + 3 * k).toNat < t then plcF F t n (k + 1) else k
theorem plc_b {F : eRow} {t : Int} (n : Nat) : ∀ k : Int, 0 ≤ k → k ≤ F 49 → k ≤ plcF F t n k ∧ plcF F t n k ≤ F 49 := by
  induction n with
  | zero => exact fun k h1 h2 => ⟨Int.le_refl _, h2⟩
  | succ n ih =>
    intro k h1 h2
    unfold plcF
    split
    · next h =>
      obtain ⟨i1, i2⟩ := ih (k + 1) (by omega) (by omega)
      exact ⟨by omega, i2⟩
    · exact ⟨Int.le_refl _, h2⟩
abbrev pldF (F : eRow) (t : Int) : Prop := plcF F t 10 0 < F 49 ∧ F (50 + 3 * plcF F t 10 0).toNat = t
def rsI (q : Nat) : Nat → eRow → eRow
  | 0, F => F
  | n + 1, F => rsI q n (fu F (q + n + 3) (F (q + n)))
theorem rsI_eq {q : Nat} (n : Nat) : ∀ (F : eRow) (j : Nat), rsI q n F j = if q + 3 ≤ j ∧ j < q + 3 + n then F (j - 3) else F j := by
  induction n with
  | zero =>
    intro F j
    unfold rsI
    rw [if_neg (by omega)]
  | succ n ih =>
    intro F j
    unfold rsI
    rw [ih]
    by_cases h1 : j = q + n + 3
    · rw [if_neg (by omega), if_pos (by omega), h1, fu_eq]
      congr 1
    · by_cases h2 : q + 3 ≤ j ∧ j < q + 3 + n
      · rw [if_pos h2, if_pos (by omega), fu_ne (by omega)]
      · rw [if_neg h2, if_neg (by omega), fu_ne h1]
def plnF (F : eRow) (t a b : Int) : eRow :=
  fu (fu (fu (if pldF F t then F else fu (rsI (50 + 3 * plcF F t 10 0).toNat (3 * (F 49 - plcF F t 10 0)).toNat F) 49 (F 49 + 1)) (50 + 3 * plcF F t 10 0).toNat t) (50 + 3 * plcF F t 10 0 + 1).toNat a) (50 + 3 * plcF F t 10 0 + 2).toNat b
def m140 (D : eD) (t a b : Int) : Int × eD :=
  if 0 ≤ t ∧ t ≤ 9999 then (if 0 ≤ a ∧ a ≤ 2 then (if 1 ≤ b ∧ b ≤ 6 then (if D 159 49 = 10 ∧ ¬ pldF (D 159) t then (-3, D) else (plnF (D 159) t a b 49, setA (recD D) 159 (plnF (D 159) t a b))) else (-2, D)) else (-2, D)) else (-2, D)
section SPEC36
variable {S : List Int} {D : eD} {h : eH} {Q : Option eV → eH → Prop} {v w x s p t a b : Int} {r : Nat} {F : eRow}
theorem c137a (hF : 0 ≤ D 159 49 ∧ D 159 49 ≤ 10) (n : Nat) : ∀ k : Int, k = 10 - n → n ≤ 10 → k ≤ D 159 49 → (wp 137 2 [.inr 158, .inl t, .inl k] [] (hp S D) Q ↔ Q (some (.inl (plcF (D 159) t n k))) (hp S D)) := by
  have t1 : tg 158 = 8 := rfl
  have t2 : tg 159 = 100 := rfl
  have l3 : ln S 159 = 111 := rfl
  induction n with
  | zero =>
    intro k hk hn hb
    have h1 : ¬ k < D 159 49 := by omega
    rw [s137_2]
    simp (disch := first | assumption | omega | decide | exact b2i_01 _ | (unfold lx; omega)) only [s137_0, s137_1, s137_3, s137_4, s137_7, s137_9, s137_10, s137_13, s137_14, s137_17, s137_19, s137_20, s137_21, s137_22, s137_23, s137_24, s137_25, s137_28, s137_31, s137_34, s137_35, kont_some, kont_none, w32_of, if_true, if_false, tdv, tmd, setA_eq, up_setA, rd_hi, Int.reduceToNat, if_neg (show ¬ (1 : Int) = 0 by decide), Nat.reduceAdd, if_neg h1]
    rfl
  | succ n ih =>
    intro k hk hn hb
    unfold plcF
    rw [s137_2]
    by_cases h1 : k < D 159 49
    · by_cases h2 : D 159 (50 + 3 * k).toNat < t
      · rw [if_pos ⟨h1, h2⟩]
        simp (disch := first | assumption | omega | decide | exact b2i_01 _ | (unfold lx; omega)) only [s137_0, s137_1, s137_3, s137_4, s137_7, s137_9, s137_10, s137_13, s137_14, s137_17, s137_19, s137_20, s137_21, s137_22, s137_23, s137_24, s137_25, s137_28, s137_31, s137_34, s137_35, kont_some, kont_none, w32_of, if_true, if_false, tdv, tmd, setA_eq, up_setA, rd_hi, Int.reduceToNat, if_neg (show ¬ (1 : Int) = 0 by decide), Nat.reduceAdd, if_pos h1, if_pos h2]
        exact ih (k + 1) (by omega) (by omega) (by omega)
      · rw [if_neg (fun q => h2 q.2)]
        simp (disch := first | assumption | omega | decide | exact b2i_01 _ | (unfold lx; omega)) only [s137_0, s137_1, s137_3, s137_4, s137_7, s137_9, s137_10, s137_13, s137_14, s137_17, s137_19, s137_20, s137_21, s137_22, s137_23, s137_24, s137_25, s137_28, s137_31, s137_34, s137_35, kont_some, kont_none, w32_of, if_true, if_false, tdv, tmd, setA_eq, up_setA, rd_hi, Int.reduceToNat, if_neg (show ¬ (1 : Int) = 0 by decide), Nat.reduceAdd, if_pos h1, if_neg h2]
    · rw [if_neg (fun q => h1 q.1)]
      simp (disch := first | assumption | omega | decide | exact b2i_01 _ | (unfold lx; omega)) only [s137_0, s137_1, s137_3, s137_4, s137_7, s137_9, s137_10, s137_13, s137_14, s137_17, s137_19, s137_20, s137_21, s137_22, s137_23, s137_24, s137_25, s137_28, s137_31, s137_34, s137_35, kont_some, kont_none, w32_of, if_true, if_false, tdv, tmd, setA_eq, up_setA, rd_hi, Int.reduceToNat, if_neg (show ¬ (1 : Int) = 0 by decide), Nat.reduceAdd, if_neg h1]
theorem c137 (hF : 0 ≤ D 159 49 ∧ D 159 49 ≤ 10) : wp 137 0 [.inr 158, .inl t, .inr 0] [] (hp S D) Q ↔ Q (some (.inl (plcF (D 159) t 10 0))) (hp S D) := by
  rw [← c137a (S := S) (D := D) (Q := Q) (t := t) hF 10 0 (by omega) (by omega) (by omega)]
  simp (disch := first | assumption | omega | decide | exact b2i_01 _ | (unfold lx; omega)) only [s137_0, s137_1, kont_some, kont_none, w32_of, if_true, if_false, tdv, tmd, setA_eq, up_setA, rd_hi, Int.reduceToNat, if_neg (show ¬ (1 : Int) = 0 by decide)]
theorem c138 (hF : 0 ≤ D 159 49 ∧ D 159 49 ≤ 10) : wp 138 0 [.inr 158, .inl t, .inr 0] [] (hp S D) Q ↔ Q (some (.inl (b2i (pldF (D 159) t)))) (hp S D) := by
  have t1 : tg 158 = 8 := rfl
  have t2 : tg 159 = 100 := rfl
  have l3 : ln S 159 = 111 := rfl
  obtain ⟨p1, p2⟩ := plc_b (F := D 159) (t := t) 10 0 (by omega) (by omega)
  by_cases h1 : plcF (D 159) t 10 0 < D 159 49
  · by_cases h2 : D 159 (50 + 3 * plcF (D 159) t 10 0).toNat = t
    · rw [b2i_t ⟨h1, h2⟩]
      simp (disch := first | assumption | omega | decide | exact b2i_01 _ | (unfold lx; omega)) only [s138_0, s138_1, s138_2, s138_5, s138_6, s138_7, s138_8, s138_11, s138_13, s138_14, s138_17, s138_18, s138_21, s138_23, s138_24, s138_25, s138_26, s138_27, s138_28, s138_29, s138_32, s138_33, s138_36, s138_37, kont_some, kont_none, w32_of, if_true, if_false, tdv, tmd, setA_eq, up_setA, rd_hi, Int.reduceToNat, if_neg (show ¬ (1 : Int) = 0 by decide), Nat.reduceAdd, c137, if_pos h1, if_pos h2]
    · rw [b2i_f (fun q => h2 q.2)]
      simp (disch := first | assumption | omega | decide | exact b2i_01 _ | (unfold lx; omega)) only [s138_0, s138_1, s138_2, s138_5, s138_6, s138_7, s138_8, s138_11, s138_13, s138_14, s138_17, s138_18, s138_21, s138_23, s138_24, s138_25, s138_26, s138_27, s138_28, s138_29, s138_32, s138_33, s138_36, s138_37, kont_some, kont_none, w32_of, if_true, if_false, tdv, tmd, setA_eq, up_setA, rd_hi, Int.reduceToNat, if_neg (show ¬ (1 : Int) = 0 by decide), Nat.reduceAdd, c137, if_pos h1, if_neg h2]
  · rw [b2i_f (fun q => h1 q.1)]
    simp (disch := first | assumption | omega | decide | exact b2i_01 _ | (unfold lx; omega)) only [s138_0, s138_1, s138_2, s138_5, s138_6, s138_7, s138_8, s138_11, s138_13, s138_14, s138_17, s138_18, s138_21, s138_23, s138_24, s138_25, s138_26, s138_27, s138_28, s138_29, s138_32, s138_33, s138_36, s138_37, kont_some, kont_none, w32_of, if_true, if_false, tdv, tmd, setA_eq, up_setA, rd_hi, Int.reduceToNat, if_neg (show ¬ (1 : Int) = 0 by decide), Nat.reduceAdd, c137, if_neg h1]
theorem c139a {q : Nat} (hq : q ≤ 80) (hq0 : 50 ≤ q) {l1 l2 l3 : eV} (n : Nat) : ∀ (k : Int) (F : eRow), k = q - 1 + n → q + n ≤ 77 → ∃ l5, (wp 139 36 [.inr 158, l1, l2, l3, .inl (q : Int), .inl k] [] (hp S (setA D 159 F)) Q ↔ wp 139 65 [.inr 158, l1, l2, l3, .inl (q : Int), l5] [] (hp S (setA D 159 (rsI q n F))) Q) := by
  have t1 : tg 158 = 8 := rfl
  have t2 : tg 159 = 100 := rfl
  have l3 : ln S 159 = 111 := rfl
  induction n with
  | zero =>
    intro k F hk hn
    have h1 : k < (q : Int) := by omega
    refine ⟨.inl k, ?_⟩
    rw [s139_36]
    simp (disch := first | assumption | omega | decide | exact b2i_01 _ | (unfold lx; omega)) only [s139_38, s139_40, s139_43, s139_44, s139_47, s139_49, s139_50, s139_51, s139_52, s139_55, s139_57, s139_58, s139_59, s139_62, kont_some, kont_none, w32_of, if_true, if_false, tdv, tmd, setA_eq, up_setA, rd_hi, Int.reduceToNat, if_neg (show ¬ (1 : Int) = 0 by decide), Nat.reduceAdd, if_pos h1]
    rfl
  | succ n ih =>
    intro k F hk hn
    have h1 : ¬ k < (q : Int) := by omega
    have e2 : (k + 3).toNat = q + n + 3 := by omega
    have e3 : k.toNat = q + n := by omega
    obtain ⟨l5, e⟩ := ih (k - 1) (fu F (q + n + 3) (F (q + n))) (by omega) (by omega)
    refine ⟨l5, ?_⟩
    have e' : k + -1 = k - 1 := by omega
    rw [s139_36]
    simp (disch := first | assumption | omega | decide | exact b2i_01 _ | (unfold lx; omega)) only [s139_38, s139_40, s139_43, s139_44, s139_47, s139_49, s139_50, s139_51, s139_52, s139_55, s139_57, s139_58, s139_59, s139_62, kont_some, kont_none, w32_of, if_true, if_false, tdv, tmd, setA_eq, up_setA, rd_hi, Int.reduceToNat, if_neg (show ¬ (1 : Int) = 0 by decide), Nat.reduceAdd, if_neg h1, e2, e3, e']
    exact e
theorem c139 (hF : St (D 159)) (h10 : D 159 49 < 10 ∨ pldF (D 159) t) : wp 139 0 [.inr 158, .inl t, .inl a, .inl b, .inr 0, .inr 0] [] (hp S D) Q ↔ Q none (hp S (setA D 159 (plnF (D 159) t a b))) := by
  have t1 : tg 158 = 8 := rfl
  have t2 : tg 159 = 100 := rfl
  have l3 : ln S 159 = 111 := rfl
  have f49 : 0 ≤ D 159 49 ∧ D 159 49 ≤ 10 := hF.2.2.2.2.2.2.2.2.2.2.2.2.2.2.2.2.2.2.2.1
  obtain ⟨p1, p2⟩ := plc_b (F := D 159) (t := t) 10 0 (by omega) (by omega)
  unfold plnF
  by_cases h1 : pldF (D 159) t
  · rw [if_pos h1]
    have h2 := h1.1
    simp (disch := first | assumption | omega | decide | exact b2i_01 _ | (unfold lx; omega)) only [s139_0, s139_2, s139_3, s139_4, s139_5, s139_8, s139_9, s139_10, s139_12, s139_13, s139_14, s139_17, s139_20, s139_22, s139_23, s139_24, s139_27, s139_29, s139_30, s139_31, s139_32, s139_33, s139_34, s139_38, s139_40, s139_43, s139_44, s139_47, s139_49, s139_50, s139_51, s139_52, s139_55, s139_57, s139_58, s139_59, s139_62, s139_65, s139_66, s139_69, s139_71, s139_72, s139_73, s139_74, s139_75, s139_76, s139_77, s139_80, s139_82, s139_83, s139_84, s139_85, s139_88, s139_90, s139_91, s139_92, s139_93, s139_94, s139_95, s139_98, s139_100, s139_101, s139_102, s139_103, s139_104, kont_some, kont_none, w32_of, if_true, if_false, tdv, tmd, setA_eq, up_setA, rd_hi, Int.reduceToNat, if_neg (show ¬ (1 : Int) = 0 by decide), Nat.reduceAdd, c137, c138, b2i_t h1, up_as]
    simp only [setA_eq, setA_setA]
  · rw [if_neg h1]
    have h2 := h10.resolve_right h1
    have z : 3 * plcF (D 159) t 10 0 = plcF (D 159) t 10 0 * 3 := by omega
    obtain ⟨l5, e⟩ := c139a (S := S) (D := D) (Q := Q) (q := (50 + 3 * plcF (D 159) t 10 0).toNat) (l1 := .inl t) (l2 := .inl a) (l3 := .inl b) (by omega) (by omega) (3 * (D 159 49 - plcF (D 159) t 10 0)).toNat (50 + 3 * D 159 49 - 1) (D 159) (by omega) (by omega)
    rw [setA_self, show (((50 + 3 * plcF (D 159) t 10 0).toNat : Nat) : Int) = 50 + 3 * plcF (D 159) t 10 0 by omega] at e
    have ea : wp 139 0 [.inr 158, .inl t, .inl a, .inl b, .inr 0, .inr 0] [] (hp S D) Q ↔ wp 139 36 [.inr 158, .inl t, .inl a, .inl b, .inl (50 + 3 * plcF (D 159) t 10 0), .inl (50 + 3 * D 159 49 - 1)] [] (hp S D) Q := by
      simp (disch := first | assumption | omega | decide | exact b2i_01 _ | (unfold lx; omega)) only [s139_0, s139_2, s139_3, s139_4, s139_5, s139_8, s139_9, s139_10, s139_12, s139_13, s139_14, s139_17, s139_20, s139_22, s139_23, s139_24, s139_27, s139_29, s139_30, s139_31, s139_32, s139_33, s139_34, kont_some, kont_none, w32_of, if_true, if_false, tdv, tmd, setA_eq, up_setA, rd_hi, Int.reduceToNat, if_neg (show ¬ (1 : Int) = 0 by decide), Nat.reduceAdd, c137, c138, b2i_f h1]
    have e49 : rsI (50 + 3 * plcF (D 159) t 10 0).toNat (3 * (D 159 49 - plcF (D 159) t 10 0)).toNat (D 159) 49 = D 159 49 := by
      rw [rsI_eq, if_neg (by omega)]
    rw [ea, e]
    simp (disch := first | assumption | omega | decide | exact b2i_01 _ | (unfold lx; omega)) only [s139_65, s139_66, s139_69, s139_71, s139_72, s139_73, s139_74, s139_75, s139_76, s139_77, s139_80, s139_82, s139_83, s139_84, s139_85, s139_88, s139_90, s139_91, s139_92, s139_93, s139_94, s139_95, s139_98, s139_100, s139_101, s139_102, s139_103, s139_104, kont_some, kont_none, w32_of, if_true, if_false, tdv, tmd, setA_eq, up_setA, rd_hi, Int.reduceToNat, if_neg (show ¬ (1 : Int) = 0 by decide), Nat.reduceAdd, e49]
theorem c142 (hl : 0 ≤ D 158 7 ∧ D 158 7 ≤ 60) (hv : 0 ≤ v ∧ v < 65536) : wp 142 0 [.inr 158, .inl v] [] (hp S D) Q ↔ Q (some (.inl (if D 158 7 = 60 then -3 else D 158 7 + 1))) (hp S (if D 158 7 = 60 then D else setA (setA D 163 (fu (D 163) (D 158 7).toNat v)) 158 (fu (D 158) 7 (D 158 7 + 1)))) := by
  have t1 : tg 158 = 8 := rfl
  have t2 : tg 163 = 101 := rfl
  have l3 : ln S 163 = 60 := rfl
  by_cases h1 : D 158 7 = 60
  · rw [if_pos h1, if_pos h1]
    simp (disch := first | assumption | omega | decide | exact b2i_01 _ | (unfold lx; omega)) only [s142_0, s142_1, s142_4, s142_6, s142_9, s142_11, s142_12, s142_13, s142_16, s142_17, s142_20, s142_21, s142_22, s142_23, s142_24, s142_27, s142_28, s142_29, s142_32, s142_33, s142_36, kont_some, kont_none, w32_of, if_true, if_false, tdv, tmd, setA_eq, up_setA, rd_hi, Int.reduceToNat, if_neg (show ¬ (1 : Int) = 0 by decide), Nat.reduceAdd, if_pos h1]
  · rw [if_neg h1, if_neg h1]
    simp (disch := first | assumption | omega | decide | exact b2i_01 _ | (unfold lx; omega)) only [s142_0, s142_1, s142_4, s142_6, s142_9, s142_11, s142_12, s142_13, s142_16, s142_17, s142_20, s142_21, s142_22, s142_23, s142_24, s142_27, s142_28, s142_29, s142_32, s142_33, s142_36, kont_some, kont_none, w32_of, if_true, if_false, tdv, tmd, setA_eq, up_setA, rd_hi, Int.reduceToNat, if_neg (show ¬ (1 : Int) = 0 by decide), Nat.reduceAdd, if_neg h1, up_as, setA_ne, fu_eq]
theorem c143 : wp 143 0 [.inr 158, .inr 0] [] (hp S D) Q ↔ Q (some (.inl (D 158 7))) (hp S (setA D 158 (fu (D 158) 7 0))) := by
  have t1 : tg 158 = 8 := rfl
  simp (disch := first | assumption | omega | decide | exact b2i_01 _ | (unfold lx; omega)) only [s143_0, s143_1, s143_4, s143_5, s143_6, s143_7, s143_10, s143_11, kont_some, kont_none, w32_of, if_true, if_false, tdv, tmd, setA_eq, up_setA, rd_hi, Int.reduceToNat, if_neg (show ¬ (1 : Int) = 0 by decide), Nat.reduceAdd, up_as]
end SPEC36
