/-! the check's own ticks: many, and ahead -/
def drkF : Nat → eRow → Int
  | 0, _ => 0
  | n + 1, F => b2i (pdk (pw1 F)) + drkF n (pasF F 1)
def itF (ab : Int) : Nat → eRow → eRow
  | 0, F => F
  | n + 1, F => itF ab n (pasF F ab)
theorem it_all {ab : Int} (n : Nat) : ∀ F : eRow, St F → Ct F → F 0 + n ≤ 900000 → St (itF ab n F) ∧ Ct (itF ab n F) ∧ itF ab n F 0 = F 0 + n := by
  induction n with
  | zero => exact fun F h1 h2 _ => ⟨h1, h2, by show F 0 = _; omega⟩
  | succ n ih =>
    intro F h1 h2 h3
    obtain ⟨p1, p2, p3, _⟩ := pas_all (ab := ab) h1 h2 (by omega)
    obtain ⟨i1, i2, i3⟩ := ih (pasF F ab) p1 p2 (by omega)
    exact ⟨i1, i2, by show itF ab n (pasF F ab) 0 = _; omega⟩
theorem drk_b (n : Nat) : ∀ F : eRow, 0 ≤ drkF n F ∧ drkF n F ≤ n := by
  induction n with
  | zero => exact fun F => ⟨Int.le_refl _, Int.le_refl _⟩
  | succ n ih =>
    intro F
    have := ih (pasF F 1)
    have hb := b2i_b (c := pdk (pw1 F))
    unfold drkF
    omega
def m141 (D : eD) (v : Int) : Int × eD :=
  if 1 ≤ v ∧ v ≤ 200 then (if 99999 < D 159 0 + v then (-3, D) else (drkF v.toNat (D 159), setA (recD D) 159 (itF 1 v.toNat (D 159)))) else (-2, D)
/-- how many ticks until it is dark, of n from k on, and the row then -/
def dinF : Nat → Int → eRow → Int × eRow
  | 0, _, F => (-5, F)
  | n + 1, k, F => if pdk (pw1 F) then (k, pasF F 0) else dinF n (k + 1) (pasF F 0)
/-- how many ticks until it is tired -/
def tinF (s : Int) : Nat → Int → eRow → Int × eRow
  | 0, k, F => (k, F)
  | n + 1, k, F => if F (lx s 3) = 0 ∧ ¬ outF F s then tinF s n (k + 1) (brnF F s) else (k, F)
theorem brn_lm {F : eRow} {s : Int} {j : Nat} (h1 : 0 ≤ s) (h2 : s ≤ 5) (hs : St F) (hw : F (lx s 2) ≤ 1065) (h47 : F 47 + 2 ≤ 4000000) (h : 10 < j ∧ j < 41) (n3 : j ≠ lx s 3) (n4 : j ≠ lx s 4) : brnF F s j = brn1 F s j := by
  have q2 := lx_b (p := 2) h1 h2 (by omega) (by omega)
  have q3 := lx_b (p := 3) h1 h2 (by omega) (by omega)
  have q4 := lx_b (p := 4) h1 h2 (by omega) (by omega)
  obtain ⟨s1, w1⟩ := St_brn1 hs h1 h2 hw
  have s2 := St_brn2 s1 h1 h2 w1
  have e2 : brn2 (brn1 F s) s j = brn1 F s j := by conv => lhs; unfold brn2
                                                   rw [fu_ne n4]
  have f47 : brn2 (brn1 F s) s 47 = F 47 := by unfold brn2 brn1; rw [fu_ne (by omega), fu_ne (by omega)]
  have s3 := St_brn3 s2 h1 h2 (by omega)
  have z2 : 0 ≤ brn2 (brn1 F s) s 80 := s2.2.2.2.2.2.2.2.2.2.2.2.2.2.2.2.2.2.2.2.2.1.1
  have z3 : 0 ≤ brn3 (brn2 (brn1 F s) s) s 80 := s3.2.2.2.2.2.2.2.2.2.2.2.2.2.2.2.2.2.2.2.2.1.1
  have e3 : brn3 (brn2 (brn1 F s) s) s j = brn1 F s j := by
    rw [← e2]
    conv => lhs; unfold brn3
    split
    · rw [hapF_lo (by rw [fu_ne (by omega)]; exact z2) (by omega), fu_ne n3]
    · rfl
  unfold brnF
  rw [← e3]
  conv => lhs; unfold brn4
  split
  · rw [fu_ne (by omega), hapF_lo (by rw [fu_ne (by decide)]; exact z3) (by omega), fu_ne (by omega)]
  · rw [fu_ne (by omega)]
theorem brn_lf {F : eRow} {s : Int} (h1 : 0 ≤ s) (h2 : s ≤ 5) (hs : St F) (hw : F (lx s 2) ≤ 1065) (h47 : F 47 + 2 ≤ 4000000) : brnF F s (lx s 0) = F (lx s 0) ∧ brnF F s (lx s 1) = F (lx s 1) ∧ brnF F s (lx s 2) = F (lx s 2) + 1 ∧ lfF (brnF F s) s = lfF F s := by
  have q0 := lx_b (p := 0) h1 h2 (by omega) (by omega)
  have q1 := lx_b (p := 1) h1 h2 (by omega) (by omega)
  have q2 := lx_b (p := 2) h1 h2 (by omega) (by omega)
  have e0 : brnF F s (lx s 0) = F (lx s 0) := by
    rw [brn_lm h1 h2 hs hw h47 (by omega) (by unfold lx; omega) (by unfold lx; omega)]
    exact fu_ne (by unfold lx; omega)
  have e1 : brnF F s (lx s 1) = F (lx s 1) := by
    rw [brn_lm h1 h2 hs hw h47 (by omega) (by unfold lx; omega) (by unfold lx; omega)]
    exact fu_ne (by unfold lx; omega)
  refine ⟨e0, e1, ?_, ?_⟩
  · rw [brn_lm h1 h2 hs hw h47 (by omega) (by unfold lx; omega) (by unfold lx; omega)]
    exact fu_eq
  · unfold lfF
    rw [e0, e1]
def m154 (D : eD) (s : Int) : Int × eD :=
  if 0 ≤ s ∧ s ≤ 5 then (if goF (D 159) s 0 then ((if (tinF s 1100 0 (D 159)).2 (lx s 3) = 1 then (tinF s 1100 0 (D 159)).1 else -5), setA D 160 (tinF s 1100 0 (D 159)).2) else (-4, D)) else (-1, D)
section SPEC37
variable {S : List Int} {D : eD} {h : eH} {Q : Option eV → eH → Prop} {v w x s p t a b : Int} {r : Nat} {F : eRow}
theorem c140 (hs : 0 ≤ D 158 3 ∧ D 158 3 ≤ 4) (hF : St (D 159)) : wp 140 0 [.inr 158, .inl t, .inl a, .inl b] [] (hp S D) Q ↔ Q (some (.inl (m140 D t a b).1)) (hp S (m140 D t a b).2) := by
  have t1 : tg 158 = 8 := rfl
  have t2 : tg 159 = 100 := rfl
  have l3 : ln S 159 = 111 := rfl
  have f49 : 0 ≤ D 159 49 ∧ D 159 49 ≤ 10 := hF.2.2.2.2.2.2.2.2.2.2.2.2.2.2.2.2.2.2.2.1
  have hFr : St (recD D 159) := by rw [rec_159]; exact hF
  unfold m140
  by_cases h1 : 0 ≤ t ∧ t ≤ 9999
  · rw [if_pos h1]
    by_cases h2 : 0 ≤ a ∧ a ≤ 2
    · rw [if_pos h2]
      by_cases h3 : 1 ≤ b ∧ b ≤ 6
      · rw [if_pos h3]
        by_cases h4 : D 159 49 = 10
        · by_cases h5 : pldF (D 159) t
          · rw [if_neg (fun q => q.2 h5)]
            have h6 : recD D 159 49 < 10 ∨ pldF (recD D 159) t := by rw [rec_159]; exact Or.inr h5
            simp (disch := first | assumption | omega | decide | exact b2i_01 _ | (unfold lx; omega)) only [s140_0, s140_1, s140_2, s140_5, s140_8, s140_11, s140_12, s140_15, s140_18, s140_19, s140_20, s140_22, s140_25, s140_28, s140_30, s140_31, s140_32, s140_35, s140_37, s140_38, s140_40, s140_43, s140_44, s140_45, s140_48, s140_51, s140_53, s140_54, s140_55, s140_58, s140_59, s140_60, s140_61, s140_62, s140_65, s140_66, s140_69, s140_71, s140_72, kont_some, kont_none, w32_of, if_true, if_false, tdv, tmd, setA_eq, up_setA, rd_hi, Int.reduceToNat, if_neg (show ¬ (1 : Int) = 0 by decide), Nat.reduceAdd, c99, c132, b2i_t h1, b2i_t h2, b2i_t h3, if_pos h4, c138, b2i_t h5, c102, c139, rec_159]
          · rw [if_pos ⟨h4, h5⟩]
            simp (disch := first | assumption | omega | decide | exact b2i_01 _ | (unfold lx; omega)) only [s140_0, s140_1, s140_2, s140_5, s140_8, s140_11, s140_12, s140_15, s140_18, s140_19, s140_20, s140_22, s140_25, s140_28, s140_30, s140_31, s140_32, s140_35, s140_37, s140_38, s140_40, s140_43, s140_44, s140_45, s140_48, s140_51, s140_53, s140_54, s140_55, s140_58, s140_59, s140_60, s140_61, s140_62, s140_65, s140_66, s140_69, s140_71, s140_72, kont_some, kont_none, w32_of, if_true, if_false, tdv, tmd, setA_eq, up_setA, rd_hi, Int.reduceToNat, if_neg (show ¬ (1 : Int) = 0 by decide), Nat.reduceAdd, c99, c132, b2i_t h1, b2i_t h2, b2i_t h3, if_pos h4, c138, b2i_f h5]
        · rw [if_neg (fun q => h4 q.1)]
          have h6 : recD D 159 49 < 10 ∨ pldF (recD D 159) t := by rw [rec_159]; exact Or.inl (by omega)
          simp (disch := first | assumption | omega | decide | exact b2i_01 _ | (unfold lx; omega)) only [s140_0, s140_1, s140_2, s140_5, s140_8, s140_11, s140_12, s140_15, s140_18, s140_19, s140_20, s140_22, s140_25, s140_28, s140_30, s140_31, s140_32, s140_35, s140_37, s140_38, s140_40, s140_43, s140_44, s140_45, s140_48, s140_51, s140_53, s140_54, s140_55, s140_58, s140_59, s140_60, s140_61, s140_62, s140_65, s140_66, s140_69, s140_71, s140_72, kont_some, kont_none, w32_of, if_true, if_false, tdv, tmd, setA_eq, up_setA, rd_hi, Int.reduceToNat, if_neg (show ¬ (1 : Int) = 0 by decide), Nat.reduceAdd, c99, c132, b2i_t h1, b2i_t h2, b2i_t h3, if_neg h4, c102, c139, rec_159]
      · rw [if_neg h3]
        simp (disch := first | assumption | omega | decide | exact b2i_01 _ | (unfold lx; omega)) only [s140_0, s140_1, s140_2, s140_5, s140_8, s140_11, s140_12, s140_15, s140_18, s140_19, s140_20, s140_22, s140_25, s140_28, s140_30, s140_31, s140_32, s140_35, s140_37, s140_38, s140_40, s140_43, s140_44, s140_45, s140_48, s140_51, s140_53, s140_54, s140_55, s140_58, s140_59, s140_60, s140_61, s140_62, s140_65, s140_66, s140_69, s140_71, s140_72, kont_some, kont_none, w32_of, if_true, if_false, tdv, tmd, setA_eq, up_setA, rd_hi, Int.reduceToNat, if_neg (show ¬ (1 : Int) = 0 by decide), Nat.reduceAdd, c99, c132, b2i_t h1, b2i_t h2, b2i_f h3]
    · rw [if_neg h2]
      simp (disch := first | assumption | omega | decide | exact b2i_01 _ | (unfold lx; omega)) only [s140_0, s140_1, s140_2, s140_5, s140_8, s140_11, s140_12, s140_15, s140_18, s140_19, s140_20, s140_22, s140_25, s140_28, s140_30, s140_31, s140_32, s140_35, s140_37, s140_38, s140_40, s140_43, s140_44, s140_45, s140_48, s140_51, s140_53, s140_54, s140_55, s140_58, s140_59, s140_60, s140_61, s140_62, s140_65, s140_66, s140_69, s140_71, s140_72, kont_some, kont_none, w32_of, if_true, if_false, tdv, tmd, setA_eq, up_setA, rd_hi, Int.reduceToNat, if_neg (show ¬ (1 : Int) = 0 by decide), Nat.reduceAdd, c99, c132, b2i_t h1, b2i_f h2]
  · rw [if_neg h1]
    simp (disch := first | assumption | omega | decide | exact b2i_01 _ | (unfold lx; omega)) only [s140_0, s140_1, s140_2, s140_5, s140_8, s140_11, s140_12, s140_15, s140_18, s140_19, s140_20, s140_22, s140_25, s140_28, s140_30, s140_31, s140_32, s140_35, s140_37, s140_38, s140_40, s140_43, s140_44, s140_45, s140_48, s140_51, s140_53, s140_54, s140_55, s140_58, s140_59, s140_60, s140_61, s140_62, s140_65, s140_66, s140_69, s140_71, s140_72, kont_some, kont_none, w32_of, if_true, if_false, tdv, tmd, setA_eq, up_setA, rd_hi, Int.reduceToNat, if_neg (show ¬ (1 : Int) = 0 by decide), Nat.reduceAdd, c99, b2i_f h1]
theorem c141a (n : Nat) : ∀ (k m : Int) (F : eRow), k + n = v → 0 ≤ k → v ≤ 200 → 0 ≤ m → m ≤ k → St F → Ct F → F 0 + n ≤ 900000 → ∃ l3, (wp 141 38 [.inr 158, .inl v, .inl m, .inl k] [] (hp S (setA D 159 F)) Q ↔ wp 141 68 [.inr 158, .inl v, .inl (m + drkF n F), l3] [] (hp S (setA D 159 (itF 1 n F))) Q) := by
  have t1 : tg 158 = 8 := rfl
  have t2 : tg 159 = 100 := rfl
  have l3 : ln S 159 = 111 := rfl
  induction n with
  | zero =>
    intro k m F hk k0 hv hm hm2 hF hC h0
    have h1 : ¬ k < v := by omega
    refine ⟨.inl k, ?_⟩
    rw [s141_38]
    simp (disch := first | assumption | omega | decide | exact b2i_01 _ | (unfold lx; omega)) only [s141_39, s141_40, s141_43, s141_44, s141_45, s141_48, s141_49, s141_52, s141_55, s141_56, s141_59, s141_60, s141_61, s141_62, s141_65, kont_some, kont_none, w32_of, if_true, if_false, tdv, tmd, setA_eq, up_setA, rd_hi, Int.reduceToNat, if_neg (show ¬ (1 : Int) = 0 by decide), Nat.reduceAdd, if_neg h1, drkF, itF, Int.add_zero]
  | succ n ih =>
    intro k m F hk k0 hv hm hm2 hF hC h0
    have h1 : k < v := by omega
    have hb := b2i_b (c := pdk (pw1 F))
    obtain ⟨p1, p2, p3, _⟩ := pas_all (ab := 1) hF hC (by omega)
    obtain ⟨l3', e⟩ := ih (k + 1) (m + b2i (pdk (pw1 F))) (pasF F 1) (by omega) (by omega) hv (by omega) (by omega) p1 p2 (by omega)
    refine ⟨l3', ?_⟩
    unfold drkF itF
    rw [← Int.add_assoc, ← e, s141_38]
    have h0' : F 0 ≤ 900000 := by omega
    by_cases hp' : pdk (pw1 F)
    · simp (disch := first | assumption | omega | decide | exact b2i_01 _ | (unfold lx; omega)) only [s141_39, s141_40, s141_43, s141_44, s141_45, s141_48, s141_49, s141_52, s141_55, s141_56, s141_59, s141_60, s141_61, s141_62, s141_65, kont_some, kont_none, w32_of, if_true, if_false, tdv, tmd, setA_eq, up_setA, rd_hi, Int.reduceToNat, if_neg (show ¬ (1 : Int) = 0 by decide), Nat.reduceAdd, if_pos h1, c128, b2i_t hp']
    · simp (disch := first | assumption | omega | decide | exact b2i_01 _ | (unfold lx; omega)) only [s141_39, s141_40, s141_43, s141_44, s141_45, s141_48, s141_49, s141_52, s141_55, s141_56, s141_59, s141_60, s141_61, s141_62, s141_65, kont_some, kont_none, w32_of, if_true, if_false, tdv, tmd, setA_eq, up_setA, rd_hi, Int.reduceToNat, if_neg (show ¬ (1 : Int) = 0 by decide), Nat.reduceAdd, if_pos h1, c128, b2i_f hp', Int.add_zero]
theorem c141 (hs : 0 ≤ D 158 3 ∧ D 158 3 ≤ 4) (hF : St (D 159)) (hC : Ct (D 159)) : wp 141 0 [.inr 158, .inl v, .inr 0, .inr 0] [] (hp S D) Q ↔ Q (some (.inl (m141 D v).1)) (hp S (m141 D v).2) := by
  have t1 : tg 158 = 8 := rfl
  have t2 : tg 159 = 100 := rfl
  have l3 : ln S 159 = 111 := rfl
  have f0 : 0 ≤ D 159 0 ∧ D 159 0 ≤ 1000000 := hF.2.1
  unfold m141
  by_cases h1 : 1 ≤ v ∧ v ≤ 200
  · rw [if_pos h1]
    by_cases h2 : 99999 < D 159 0 + v
    · rw [if_pos h2]
      simp (disch := first | assumption | omega | decide | exact b2i_01 _ | (unfold lx; omega)) only [s141_0, s141_1, s141_2, s141_5, s141_8, s141_11, s141_13, s141_14, s141_15, s141_18, s141_19, s141_20, s141_21, s141_22, s141_24, s141_27, s141_29, s141_30, s141_31, s141_34, s141_35, s141_36, s141_37, s141_39, s141_40, s141_43, s141_44, s141_45, s141_48, s141_49, s141_52, s141_55, s141_56, s141_59, s141_60, s141_61, s141_62, s141_65, s141_68, s141_69, kont_some, kont_none, w32_of, if_true, if_false, tdv, tmd, setA_eq, up_setA, rd_hi, Int.reduceToNat, if_neg (show ¬ (1 : Int) = 0 by decide), Nat.reduceAdd, c99, b2i_t h1, if_pos h2]
    · rw [if_neg h2]
      obtain ⟨l3', e⟩ := c141a (S := S) (D := recD D) (Q := Q) (v := v) v.toNat 0 0 (D 159) (by omega) (by omega) h1.2 (by omega) (by omega) hF hC (by omega)
      have hsr : setA (recD D) 159 (D 159) = recD D := by
        have e := setA_self (D := recD D) (r := 159)
        rw [rec_159] at e
        exact e
      rw [hsr, Int.zero_add] at e
      have ea : wp 141 0 [.inr 158, .inl v, .inr 0, .inr 0] [] (hp S D) Q ↔ wp 141 38 [.inr 158, .inl v, .inl 0, .inl 0] [] (hp S (recD D)) Q := by
        simp (disch := first | assumption | omega | decide | exact b2i_01 _ | (unfold lx; omega)) only [s141_0, s141_1, s141_2, s141_5, s141_8, s141_11, s141_13, s141_14, s141_15, s141_18, s141_19, s141_20, s141_21, s141_22, s141_24, s141_27, s141_29, s141_30, s141_31, s141_34, s141_35, s141_36, s141_37, kont_some, kont_none, w32_of, if_true, if_false, tdv, tmd, setA_eq, up_setA, rd_hi, Int.reduceToNat, if_neg (show ¬ (1 : Int) = 0 by decide), Nat.reduceAdd, c99, b2i_t h1, if_neg h2, c102]
      rw [ea, e]
      simp (disch := first | assumption | omega | decide | exact b2i_01 _ | (unfold lx; omega)) only [s141_68, s141_69, kont_some, kont_none, w32_of, if_true, if_false, tdv, tmd, setA_eq, up_setA, rd_hi, Int.reduceToNat, if_neg (show ¬ (1 : Int) = 0 by decide)]
  · rw [if_neg h1]
    simp (disch := first | assumption | omega | decide | exact b2i_01 _ | (unfold lx; omega)) only [s141_0, s141_1, s141_2, s141_5, s141_8, s141_11, s141_13, s141_14, s141_15, s141_18, s141_19, s141_20, s141_21, s141_22, s141_24, s141_27, s141_29, s141_30, s141_31, s141_34, s141_35, s141_36, s141_37, s141_39, s141_40, s141_43, s141_44, s141_45, s141_48, s141_49, s141_52, s141_55, s141_56, s141_59, s141_60, s141_61, s141_62, s141_65, s141_68, s141_69, kont_some, kont_none, w32_of, if_true, if_false, tdv, tmd, setA_eq, up_setA, rd_hi, Int.reduceToNat, if_neg (show ¬ (1 : Int) = 0 by decide), Nat.reduceAdd, c99, b2i_f h1]
theorem c155a (n : Nat) : ∀ (k : Int) (F : eRow), k + n = 3001 → 0 ≤ k → St F → Ct F → F 0 + n ≤ 900000 → (wp 155 15 [.inr 158, .inl k] [] (hp S (setA D 160 F)) Q ↔ Q (some (.inl (dinF n k F).1)) (hp S (setA D 160 (dinF n k F).2))) := by
  have t1 : tg 158 = 8 := rfl
  have t2 : tg 160 = 100 := rfl
  have l3 : ln S 160 = 111 := rfl
  induction n with
  | zero =>
    intro k F hk k0 hF hC h0
    have h1 : 3000 < k := by omega
    rw [s155_15]
    simp (disch := first | assumption | omega | decide | exact b2i_01 _ | (unfold lx; omega)) only [s155_16, s155_19, s155_22, s155_23, s155_26, s155_27, s155_30, s155_33, s155_34, s155_35, s155_38, s155_41, s155_43, kont_some, kont_none, w32_of, if_true, if_false, tdv, tmd, setA_eq, up_setA, rd_hi, Int.reduceToNat, if_neg (show ¬ (1 : Int) = 0 by decide), Nat.reduceAdd, if_pos h1, dinF]
  | succ n ih =>
    intro k F hk k0 hF hC h0
    have h1 : ¬ 3000 < k := by omega
    have h0' : F 0 ≤ 900000 := by omega
    obtain ⟨p1, p2, p3, _⟩ := pas_all (ab := 0) hF hC (by omega)
    unfold dinF
    rw [s155_15]
    by_cases hp' : pdk (pw1 F)
    · rw [if_pos hp']
      simp (disch := first | assumption | omega | decide | exact b2i_01 _ | (unfold lx; omega)) only [s155_16, s155_19, s155_22, s155_23, s155_26, s155_27, s155_30, s155_33, s155_34, s155_35, s155_38, s155_41, s155_43, kont_some, kont_none, w32_of, if_true, if_false, tdv, tmd, setA_eq, up_setA, rd_hi, Int.reduceToNat, if_neg (show ¬ (1 : Int) = 0 by decide), Nat.reduceAdd, if_neg h1, c128, b2i_t hp']
    · rw [if_neg hp']
      simp (disch := first | assumption | omega | decide | exact b2i_01 _ | (unfold lx; omega)) only [s155_16, s155_19, s155_22, s155_23, s155_26, s155_27, s155_30, s155_33, s155_34, s155_35, s155_38, s155_41, s155_43, kont_some, kont_none, w32_of, if_true, if_false, tdv, tmd, setA_eq, up_setA, rd_hi, Int.reduceToNat, if_neg (show ¬ (1 : Int) = 0 by decide), Nat.reduceAdd, if_neg h1, c128, b2i_f hp']
      exact ih (k + 1) (pasF F 0) (by omega) (by omega) p1 p2 (by omega)
theorem cpA_111 {a b : Nat} (ha : tg a = 100) (hl : ln S a = 111) (h8 : 8 ≤ a) : hp S (setA D a (cpA (D a) (D b) 0 0 111)) = hp S (setA D a (D b)) := by
  refine hp_ext (fun k j hk => ?_)
  by_cases h1 : k = a
  · subst h1
    rw [setA_eq, setA_eq]
    exact cpA_at (by have := hk.2.2.1; omega)
  · rw [setA_ne h1, setA_ne h1]
theorem c155 (hF : St (D 159)) (hC : Ct (D 159)) (h0 : D 159 0 ≤ 800000) : wp 155 0 [.inr 158, .inr 0] [] (hp S D) Q ↔ Q (some (.inl (dinF 3001 0 (D 159)).1)) (hp S (setA D 160 (dinF 3001 0 (D 159)).2)) := by
  have t1 : tg 158 = 8 := rfl
  have t2 : tg 159 = 100 := rfl
  have t3 : tg 160 = 100 := rfl
  have l3 : ln S 159 = 111 := rfl
  have l4 : ln S 160 = 111 := rfl
  have e := c155a (S := S) (D := D) (Q := Q) 3001 0 (D 159) (by omega) (by omega) hF hC (by omega)
  rw [← e, ← cpA_111 (D := D) (b := 159) t3 l4 (by omega)]
  simp (disch := first | assumption | omega | decide | exact b2i_01 _ | (unfold lx; omega)) only [s155_0, s155_1, s155_4, s155_5, s155_6, s155_9, s155_10, s155_13, s155_14, kont_some, kont_none, w32_of, if_true, if_false, tdv, tmd, setA_eq, up_setA, rd_hi, Int.reduceToNat, if_neg (show ¬ (1 : Int) = 0 by decide), Nat.reduceAdd, c101i]
theorem c154a (h1 : 0 ≤ s) (h2 : s ≤ 5) (n : Nat) : ∀ (k : Int) (F : eRow), 0 ≤ k → k + n ≤ 1100 → lfF F s - F (lx s 2) < n → St F → 50 ≤ F (lx s 1) → F 47 + 2 * n ≤ 4000000 → (wp 154 39 [.inr 158, .inl s, .inl k] [] (hp S (setA D 160 F)) Q ↔ wp 154 76 [.inr 158, .inl s, .inl (tinF s n k F).1] [] (hp S (setA D 160 (tinF s n k F).2)) Q) := by
  have t1 : tg 158 = 8 := rfl
  have t2 : tg 160 = 100 := rfl
  have l3 : ln S 160 = 111 := rfl
  induction n with
  | zero =>
    intro k F k0 hk hf hF h50 h47
    have hA := (hF.1 s h1 h2).a
    have ho : lfF F s ≤ F (lx s 2) := by omega
    rw [s154_39 (by decide)]
    by_cases ht : F (lx s 3) = 0
    · simp (disch := first | assumption | omega | decide | exact b2i_01 _ | (unfold lx; omega)) only [s154_40, s154_43, s154_44, s154_45, s154_48, s154_51, s154_52, s154_55, s154_56, s154_59, s154_62, s154_63, s154_66, s154_67, s154_70, s154_73, kont_some, kont_none, w32_of, if_true, if_false, tdv, tmd, setA_eq, up_setA, rd_hi, Int.reduceToNat, if_neg (show ¬ (1 : Int) = 0 by decide), Nat.reduceAdd, c106, if_pos ht, c114, b2i_t ho, tinF]
    · simp (disch := first | assumption | omega | decide | exact b2i_01 _ | (unfold lx; omega)) only [s154_40, s154_43, s154_44, s154_45, s154_48, s154_51, s154_52, s154_55, s154_56, s154_59, s154_62, s154_63, s154_66, s154_67, s154_70, s154_73, kont_some, kont_none, w32_of, if_true, if_false, tdv, tmd, setA_eq, up_setA, rd_hi, Int.reduceToNat, if_neg (show ¬ (1 : Int) = 0 by decide), Nat.reduceAdd, c106, if_neg ht, tinF]
  | succ n ih =>
    intro k F k0 hk hf hF h50 h47
    have hB := hF.1 s h1 h2
    have hA := hB.a
    obtain ⟨g1, g2, g3, g4, g5, g6, g7, g8⟩ := hB
    have hl := lifeF_b0 (kind := F (lx s 0)) g1 g2
    have hl' : 0 ≤ lfF F s ∧ lfF F s ≤ 1050 := hl
    rw [s154_39 (by decide)]
    unfold tinF
    by_cases ht : F (lx s 3) = 0
    · by_cases ho : lfF F s ≤ F (lx s 2)
      · rw [if_neg (fun q => q.2 ho)]
        simp (disch := first | assumption | omega | decide | exact b2i_01 _ | (unfold lx; omega)) only [s154_40, s154_43, s154_44, s154_45, s154_48, s154_51, s154_52, s154_55, s154_56, s154_59, s154_62, s154_63, s154_66, s154_67, s154_70, s154_73, kont_some, kont_none, w32_of, if_true, if_false, tdv, tmd, setA_eq, up_setA, rd_hi, Int.reduceToNat, if_neg (show ¬ (1 : Int) = 0 by decide), Nat.reduceAdd, c106, if_pos ht, c114, b2i_t ho]
      · rw [if_pos ⟨ht, ho⟩]
        have hB' : Bok F s := St_Bok (fr := 0) hF h1 h2 h50
        have hw : F (lx s 2) ≤ 1065 := by omega
        obtain ⟨b0, b1, b2, b3⟩ := brn_lf h1 h2 hF hw (by omega)
        have hS := St_brn hF h1 h2 hw (by omega)
        have h7 := brnF_47 (F := F) h1 h2
        simp (disch := first | assumption | omega | decide | exact b2i_01 _ | (unfold lx; omega)) only [s154_40, s154_43, s154_44, s154_45, s154_48, s154_51, s154_52, s154_55, s154_56, s154_59, s154_62, s154_63, s154_66, s154_67, s154_70, s154_73, kont_some, kont_none, w32_of, if_true, if_false, tdv, tmd, setA_eq, up_setA, rd_hi, Int.reduceToNat, if_neg (show ¬ (1 : Int) = 0 by decide), Nat.reduceAdd, c106, if_pos ht, c114, b2i_f ho, c123]
        exact ih (k + 1) (brnF F s) (by omega) (by omega) (by rw [b3, b2]; omega) hS (by omega) (by omega)
    · rw [if_neg (fun q => ht q.1)]
      simp (disch := first | assumption | omega | decide | exact b2i_01 _ | (unfold lx; omega)) only [s154_40, s154_43, s154_44, s154_45, s154_48, s154_51, s154_52, s154_55, s154_56, s154_59, s154_62, s154_63, s154_66, s154_67, s154_70, s154_73, kont_some, kont_none, w32_of, if_true, if_false, tdv, tmd, setA_eq, up_setA, rd_hi, Int.reduceToNat, if_neg (show ¬ (1 : Int) = 0 by decide), Nat.reduceAdd, c106, if_neg ht]
theorem c154 (hF : St (D 159)) (hC : Ct (D 159)) (h0 : D 159 0 ≤ 800000) : wp 154 0 [.inr 158, .inl s, .inr 0] [] (hp S D) Q ↔ Q (some (.inl (m154 D s).1)) (hp S (m154 D s).2) := by
  have t1 : tg 158 = 8 := rfl
  have t2 : tg 159 = 100 := rfl
  have t3 : tg 160 = 100 := rfl
  have l3 : ln S 159 = 111 := rfl
  have l4 : ln S 160 = 111 := rfl
  obtain ⟨d1, d2, d3, d4, d5⟩ := hC
  unfold m154
  by_cases h1 : 0 ≤ s ∧ s ≤ 5
  · rw [if_pos h1]
    have hB := hF.1 s h1.1 h1.2
    have hA := hB.a
    by_cases h2 : goF (D 159) s 0
    · rw [if_pos h2]
      obtain ⟨g1, g2, g3, g4, g5, g6, g7, g8⟩ := hB
      have hl : 0 ≤ lfF (D 159) s ∧ lfF (D 159) s ≤ 1050 := lifeF_b0 (kind := D 159 (lx s 0)) g1 g2
      have h50 := (g8.resolve_left h2.1.1).2.2
      have e := c154a (S := S) (D := D) (Q := Q) h1.1 h1.2 1100 0 (D 159) (by omega) (by omega) (by omega) hF h50 (by omega)
      have ea : wp 154 0 [.inr 158, .inl s, .inr 0] [] (hp S D) Q ↔ wp 154 39 [.inr 158, .inl s, .inl 0] [] (hp S (setA D 160 (D 159))) Q := by
        rw [← cpA_111 (D := D) (b := 159) t3 l4 (by omega)]
        simp (disch := first | assumption | omega | decide | exact b2i_01 _ | (unfold lx; omega)) only [s154_0, s154_1, s154_4, s154_7, s154_8, s154_9, s154_10, s154_13, s154_14, s154_15, s154_18, s154_21, s154_23, s154_24, s154_25, s154_28, s154_29, s154_30, s154_33, s154_34, s154_37, s154_38, kont_some, kont_none, w32_of, if_true, if_false, tdv, tmd, setA_eq, up_setA, rd_hi, Int.reduceToNat, if_neg (show ¬ (1 : Int) = 0 by decide), Nat.reduceAdd, c100, b2i_t h1, d117, b2i_t h2, c101i]
      rw [ea, e]
      by_cases h3 : (tinF s 1100 0 (D 159)).2 (lx s 3) = 1
      · rw [if_pos h3]
        simp (disch := first | assumption | omega | decide | exact b2i_01 _ | (unfold lx; omega)) only [s154_76, s154_77, s154_80, s154_81, s154_82, s154_85, s154_86, s154_89, s154_90, s154_93, s154_95, kont_some, kont_none, w32_of, if_true, if_false, tdv, tmd, setA_eq, up_setA, rd_hi, Int.reduceToNat, if_neg (show ¬ (1 : Int) = 0 by decide), Nat.reduceAdd, c106, if_pos h3]
      · rw [if_neg h3]
        simp (disch := first | assumption | omega | decide | exact b2i_01 _ | (unfold lx; omega)) only [s154_76, s154_77, s154_80, s154_81, s154_82, s154_85, s154_86, s154_89, s154_90, s154_93, s154_95, kont_some, kont_none, w32_of, if_true, if_false, tdv, tmd, setA_eq, up_setA, rd_hi, Int.reduceToNat, if_neg (show ¬ (1 : Int) = 0 by decide), Nat.reduceAdd, c106, if_neg h3]
    · rw [if_neg h2]
      simp (disch := first | assumption | omega | decide | exact b2i_01 _ | (unfold lx; omega)) only [s154_0, s154_1, s154_4, s154_7, s154_8, s154_9, s154_10, s154_13, s154_14, s154_15, s154_18, s154_21, s154_23, s154_24, s154_25, s154_28, s154_29, s154_30, s154_33, s154_34, s154_37, s154_38, kont_some, kont_none, w32_of, if_true, if_false, tdv, tmd, setA_eq, up_setA, rd_hi, Int.reduceToNat, if_neg (show ¬ (1 : Int) = 0 by decide), Nat.reduceAdd, c100, b2i_t h1, d117, b2i_f h2]
  · rw [if_neg h1]
    simp (disch := first | assumption | omega | decide | exact b2i_01 _ | (unfold lx; omega)) only [s154_0, s154_1, s154_4, s154_7, s154_8, s154_9, s154_10, s154_13, s154_14, s154_15, s154_18, s154_21, s154_23, s154_24, s154_25, s154_28, s154_29, s154_30, s154_33, s154_34, s154_37, s154_38, kont_some, kont_none, w32_of, if_true, if_false, tdv, tmd, setA_eq, up_setA, rd_hi, Int.reduceToNat, if_neg (show ¬ (1 : Int) = 0 by decide), Nat.reduceAdd, c100, b2i_f h1]
end SPEC37
