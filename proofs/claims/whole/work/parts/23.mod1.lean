/-! the check's own beacon: what its methods do to a row -/
def fndF (F : eRow) (fr : Int) : Nat → Int → Int
  | 0, _ => -5
  | n + 1, k => if goF F ((F 7 + k) % 6) fr then (F 7 + k) % 6 else fndF F fr n (k + 1)
def nxtF (F : eRow) : Int := if fndF F 1 6 1 = -5 then fndF F 0 6 1 else fndF F 1 6 1
def shK (F : eRow) (k : Int) : eRow := fun j => if 81 ≤ j ∧ (j : Int) < k then F (j + 3) else F j
def hapA (F : eRow) (what who : Int) : eRow := fu (fu (fu (fu (fu F (81 + 3 * F 80).toNat what) (82 + 3 * F 80).toNat who) (83 + 3 * F 80).toNat (F 0)) 80 (F 80 + 1)) 47 (F 47 + (if what < 4 then 1 else 0))
def hapF (F : eRow) (what who : Int) : eRow := if F 80 = 10 then hapA (fu (shK F 108) 80 9) what who else hapA F what who
def turF (F : eRow) (s : Int) : eRow := fu (fu (fu F 8 s) 9 ((s - F 7 + 6) % 6 * F 5)) 10 0
abbrev nigF (F : eRow) : Prop := (F 0 % 48 - F 1 + 48) % 48 < (F 2 - F 1 + 48) % 48
section SPEC23
variable {S : List Int} {D : eD} {h : eH} {Q : Option eV → eH → Prop} {r : Nat} {s p v x fr : Int} {F : eRow}
theorem c118_loop (ha : tg r = 100) (hl : ln S r = 111) (h8 : 8 ≤ r) (hL : ∀ s, 0 ≤ s → s ≤ 5 → LmA F s) (h70 : 0 ≤ F 7) (h75 : F 7 ≤ 5) (hfr : fr = 0 ∨ fr = 1) (n : Nat) : ∀ (k : Int) (x3 : eV), k = 7 - n → n ≤ 6 →
    wp 118 2 [.inr r, .inl fr, .inl k, x3] [] (hp S (setA D r F)) (fun q h' => q = some (.inl (fndF F fr n k)) ∧ h' = hp S (setA D r F)) := by
  have h0 := tg_ne0 ha (by decide)
  induction n with
  | zero =>
    intro k x3 hk _
    have h1 : 6 < k := by omega
    rw [s118_2]
    simp (disch := first | assumption | omega | decide | exact b2i_01 _ | (unfold lx; omega)) only [s118_0, s118_1, s118_3, s118_5, s118_8, s118_9, s118_11, s118_12, s118_13, s118_14, s118_16, s118_17, s118_18, s118_19, s118_20, s118_21, s118_24, s118_27, s118_28, s118_29, s118_32, s118_35, s118_37, kont_some, kont_none, w32_of, if_true, if_false, b2i_eq0, ite_not, tdv, tmd, setA_eq, up_setA, fu_eq, fu_ne, rd_hi, Int.reduceToNat, h1]
    (first | done | trivial | exact ⟨rfl, trivial⟩ | exact ⟨rfl, rfl⟩ | exact ⟨trivial, trivial⟩ | rfl | (simp; done) | fail "stuck")
  | succ n ih =>
    intro k x3 hk hn
    have h1 : ¬ 6 < k := by omega
    have hLk := hL ((F 7 + k) % 6) (by omega) (by omega)
    rw [s118_2]
    simp (disch := first | assumption | omega | decide | exact b2i_01 _ | (unfold lx; omega)) only [s118_0, s118_1, s118_3, s118_5, s118_8, s118_9, s118_11, s118_12, s118_13, s118_14, s118_16, s118_17, s118_18, s118_19, s118_20, s118_21, s118_24, s118_27, s118_28, s118_29, s118_32, s118_35, s118_37, kont_some, kont_none, w32_of, if_true, if_false, b2i_eq0, ite_not, tdv, tmd, setA_eq, up_setA, fu_eq, fu_ne, rd_hi, Int.reduceToNat, c117, h1]
    unfold fndF
    split
    · (first | done | trivial | exact ⟨rfl, trivial⟩ | exact ⟨rfl, rfl⟩ | exact ⟨trivial, trivial⟩ | rfl | (simp; done) | fail "stuck")
    · exact ih (k + 1) _ (by omega) (by omega)
theorem c118 (ha : tg r = 100) (hl : ln S r = 111) (h8 : 8 ≤ r) (hL : ∀ s, 0 ≤ s → s ≤ 5 → LmA F s) (h70 : 0 ≤ F 7) (h75 : F 7 ≤ 5) (hfr : fr = 0 ∨ fr = 1) : wp 118 0 [.inr r, .inl fr, .inr 0, .inr 0] [] (hp S (setA D r F)) Q ↔ Q (some (.inl (fndF F fr 6 1))) (hp S (setA D r F)) := by
  refine wp_iff ?_ Q
  rw [s118_0, s118_1]
  exact c118_loop ha hl h8 hL h70 h75 hfr 6 1 _ (by omega) (by omega)
theorem c119 (ha : tg r = 100) (hl : ln S r = 111) (h8 : 8 ≤ r) (hL : ∀ s, 0 ≤ s → s ≤ 5 → LmA F s) (h70 : 0 ≤ F 7) (h75 : F 7 ≤ 5) : wp 119 0 [.inr r, .inr 0] [] (hp S (setA D r F)) Q ↔ Q (some (.inl (nxtF F))) (hp S (setA D r F)) := by
  have h0 := tg_ne0 ha (by decide)
  refine wp_iff ?_ Q
  unfold nxtF
  by_cases h1 : fndF F 1 6 1 = -5
  · rw [if_pos h1]; simp (disch := first | assumption | omega | decide | exact b2i_01 _ | (unfold lx; omega)) only [s119_0, s119_1, s119_2, s119_5, s119_6, s119_7, s119_9, s119_12, s119_13, s119_14, s119_17, s119_20, s119_21, kont_some, kont_none, w32_of, if_true, if_false, b2i_eq0, ite_not, tdv, tmd, setA_eq, up_setA, fu_eq, fu_ne, rd_hi, Int.reduceToNat, c118, h1]; (first | done | trivial | exact ⟨rfl, trivial⟩ | exact ⟨rfl, rfl⟩ | exact ⟨trivial, trivial⟩ | rfl | (simp; done) | fail "stuck")
  · rw [if_neg h1]; simp (disch := first | assumption | omega | decide | exact b2i_01 _ | (unfold lx; omega)) only [s119_0, s119_1, s119_2, s119_5, s119_6, s119_7, s119_9, s119_12, s119_13, s119_14, s119_17, s119_20, s119_21, kont_some, kont_none, w32_of, if_true, if_false, b2i_eq0, ite_not, tdv, tmd, setA_eq, up_setA, fu_eq, fu_ne, rd_hi, Int.reduceToNat, c118, h1]; (first | done | trivial | exact ⟨rfl, trivial⟩ | exact ⟨rfl, rfl⟩ | exact ⟨trivial, trivial⟩ | rfl | (simp; done) | fail "stuck")
theorem shK_0 : shK F 81 = F := by
  funext j
  unfold shK
  rw [if_neg (by omega)]
theorem shK_s {k : Int} (h1 : 81 ≤ k) : fu (shK F k) k.toNat (shK F k (k + 3).toNat) = shK F (k + 1) := by
  funext j
  unfold fu shK
  by_cases h2 : j = k.toNat
  · subst h2
    rw [if_pos rfl, if_neg (by omega), if_pos (by omega)]
    congr 1
    omega
  · rw [if_neg h2]
    by_cases h3 : 81 ≤ j ∧ (j : Int) < k
    · rw [if_pos h3, if_pos (by omega)]
    · rw [if_neg h3, if_neg (by omega)]
theorem shK_lo {k : Int} {j : Nat} (h : j < 81) : shK F k j = F j := by
  unfold shK
  rw [if_neg (by omega)]
theorem c120_loop (ha : tg r = 100) (hl : ln S r = 111) (h8 : 8 ≤ r) {l1 l2 : eV} (n : Nat) : ∀ (k : Int), k = 108 - n → n ≤ 27 →
    (wp 120 12 [.inr r, l1, l2, .inl k] [] (hp S (setA D r (shK F k))) Q ↔ wp 120 32 [.inr r, l1, l2, .inl 108] [] (hp S (setA D r (shK F 108))) Q) := by
  have h0 := tg_ne0 ha (by decide)
  induction n with
  | zero =>
    intro k hk _
    have h1 : ¬ k < 108 := by omega
    have h2 : k = 108 := by omega
    subst h2
    rw [s120_12]
    simp (disch := first | assumption | omega | decide | exact b2i_01 _ | (unfold lx; omega)) only [s120_13, s120_15, kont_some, kont_none, w32_of, if_true, if_false, b2i_eq0, ite_not, tdv, tmd, setA_eq, up_setA, fu_eq, fu_ne, rd_hi, Int.reduceToNat, h1]
  | succ n ih =>
    intro k hk hn
    have h1 : k < 108 := by omega
    rw [s120_12]
    simp (disch := first | assumption | omega | decide | exact b2i_01 _ | (unfold lx; omega)) only [s120_13, s120_15, s120_18, s120_19, s120_20, s120_21, s120_22, s120_23, s120_24, s120_25, s120_26, s120_29, kont_some, kont_none, w32_of, if_true, if_false, b2i_eq0, ite_not, tdv, tmd, setA_eq, up_setA, fu_eq, fu_ne, rd_hi, Int.reduceToNat, h1]
    rw [shK_s (by omega)]
    exact ih (k + 1) (by omega) (by omega)
theorem c120 (ha : tg r = 100) (hl : ln S r = 111) (h8 : 8 ≤ r) (h1 : 0 ≤ F 80) (h2 : F 80 ≤ 10) (h3 : 0 ≤ F 47) (h4 : F 47 ≤ 2000000000) : wp 120 0 [.inr r, .inl v, .inl x, .inr 0] [] (hp S (setA D r F)) Q ↔ Q none (hp S (setA D r (hapF F v x))) := by
  have h0 := tg_ne0 ha (by decide)
  have main : ∀ (F : eRow) (x3 : eV), 0 ≤ F 80 → F 80 ≤ 9 → 0 ≤ F 47 → F 47 ≤ 2000000000 → (wp 120 40 [.inr r, .inl v, .inl x, x3] [] (hp S (setA D r F)) Q ↔ Q none (hp S (setA D r (hapA F v x)))) := by
    intro F x3 h1 h2 h3 h4
    refine wp_iff ?_ Q
    unfold hapA
    have e1 : (81 + 3 * F 80 + 1).toNat = (82 + 3 * F 80).toNat := by omega
    have e2 : (81 + 3 * F 80 + 2).toNat = (83 + 3 * F 80).toNat := by omega
    by_cases h5 : v < 4
    · rw [if_pos h5]
      simp (disch := first | assumption | omega | decide | exact b2i_01 _ | (unfold lx; omega)) only [s120_0, s120_1, s120_3, s120_4, s120_6, s120_9, s120_11, s120_13, s120_15, s120_18, s120_19, s120_20, s120_21, s120_22, s120_23, s120_24, s120_25, s120_26, s120_29, s120_32, s120_33, s120_35, s120_36, s120_37, s120_38, s120_39, s120_40, s120_42, s120_43, s120_44, s120_46, s120_47, s120_48, s120_49, s120_50, s120_51, s120_52, s120_53, s120_54, s120_55, s120_56, s120_57, s120_58, s120_59, s120_60, s120_61, s120_62, s120_63, s120_64, s120_65, s120_66, s120_67, s120_68, s120_69, s120_71, s120_72, s120_73, s120_74, s120_75, s120_76, s120_77, s120_79, s120_80, s120_81, s120_82, s120_83, s120_86, s120_87, s120_90, s120_91, s120_92, s120_93, kont_some, kont_none, w32_of, if_true, if_false, b2i_eq0, ite_not, tdv, tmd, setA_eq, up_setA, fu_eq, fu_ne, rd_hi, Int.reduceToNat, h5, e1, e2]
      (first | done | trivial | exact ⟨rfl, trivial⟩ | exact ⟨rfl, rfl⟩ | exact ⟨trivial, trivial⟩ | rfl | (simp; done) | fail "stuck")
    · rw [if_neg h5]
      simp (disch := first | assumption | omega | decide | exact b2i_01 _ | (unfold lx; omega)) only [s120_0, s120_1, s120_3, s120_4, s120_6, s120_9, s120_11, s120_13, s120_15, s120_18, s120_19, s120_20, s120_21, s120_22, s120_23, s120_24, s120_25, s120_26, s120_29, s120_32, s120_33, s120_35, s120_36, s120_37, s120_38, s120_39, s120_40, s120_42, s120_43, s120_44, s120_46, s120_47, s120_48, s120_49, s120_50, s120_51, s120_52, s120_53, s120_54, s120_55, s120_56, s120_57, s120_58, s120_59, s120_60, s120_61, s120_62, s120_63, s120_64, s120_65, s120_66, s120_67, s120_68, s120_69, s120_71, s120_72, s120_73, s120_74, s120_75, s120_76, s120_77, s120_79, s120_80, s120_81, s120_82, s120_83, s120_86, s120_87, s120_90, s120_91, s120_92, s120_93, kont_some, kont_none, w32_of, if_true, if_false, b2i_eq0, ite_not, tdv, tmd, setA_eq, up_setA, fu_eq, fu_ne, rd_hi, Int.reduceToNat, h5, e1, e2]
      (first | done | trivial | exact ⟨rfl, trivial⟩ | exact ⟨rfl, rfl⟩ | exact ⟨trivial, trivial⟩ | rfl | (simp; done) | fail "stuck")
  unfold hapF
  by_cases h5 : F 80 = 10
  · rw [if_pos h5]
    have e := c120_loop (D := D) (F := F) (Q := Q) ha hl h8 (l1 := .inl v) (l2 := .inl x) 27 81 (by omega) (by omega)
    rw [shK_0] at e
    have e80 : shK F 108 80 = F 80 := shK_lo (by omega)
    have e47 : shK F 108 47 = F 47 := shK_lo (by omega)
    simp (disch := first | assumption | omega | decide | exact b2i_01 _ | (unfold lx; omega)) only [s120_0, s120_1, s120_3, s120_4, s120_6, s120_9, s120_11, kont_some, kont_none, w32_of, if_true, if_false, b2i_eq0, ite_not, tdv, tmd, setA_eq, up_setA, fu_eq, fu_ne, rd_hi, Int.reduceToNat, h5]
    rw [e]
    simp (disch := first | assumption | omega | decide | exact b2i_01 _ | (unfold lx; omega)) only [s120_32, s120_33, s120_35, s120_36, s120_37, s120_38, s120_39, kont_some, kont_none, w32_of, if_true, if_false, b2i_eq0, ite_not, tdv, tmd, setA_eq, up_setA, fu_eq, fu_ne, rd_hi, Int.reduceToNat, e80, h5]
    exact main _ _ (by rw [fu_eq]; omega) (by rw [fu_eq]; omega) (by rw [fu_ne (by decide), e47]; omega) (by rw [fu_ne (by decide), e47]; omega)
  · rw [if_neg h5]
    simp (disch := first | assumption | omega | decide | exact b2i_01 _ | (unfold lx; omega)) only [s120_0, s120_1, s120_3, s120_4, s120_6, kont_some, kont_none, w32_of, if_true, if_false, b2i_eq0, ite_not, tdv, tmd, setA_eq, up_setA, fu_eq, fu_ne, rd_hi, Int.reduceToNat, h5]
    exact main _ _ h1 (by omega) h3 h4
theorem c121 (ha : tg r = 100) (hl : ln S r = 111) (h8 : 8 ≤ r) (h1 : 0 ≤ s) (h2 : s ≤ 5) (h3 : 0 ≤ F 7) (h4 : F 7 ≤ 5) (h5 : 0 ≤ F 5) (h6 : F 5 ≤ 10) : wp 121 0 [.inr r, .inl s] [] (hp S (setA D r F)) Q ↔ Q none (hp S (setA D r (turF F s))) := by
  have h0 := tg_ne0 ha (by decide)
  have hm : 0 ≤ (s - F 7 + 6) % 6 * F 5 ∧ (s - F 7 + 6) % 6 * F 5 ≤ 50 := by
    constructor
    · exact Int.mul_nonneg (by omega) h5
    · have := Int.mul_le_mul (show (s - F 7 + 6) % 6 ≤ 5 by omega) h6 h5 (by omega : (0 : Int) ≤ 5)
      omega
  simp (disch := first | assumption | omega | decide | exact b2i_01 _ | (unfold lx; omega)) only [s121_0, s121_1, s121_3, s121_4, s121_5, s121_6, s121_8, s121_9, s121_10, s121_12, s121_13, s121_14, s121_16, s121_17, s121_19, s121_20, s121_21, s121_22, s121_23, s121_24, s121_25, s121_26, s121_28, s121_29, s121_30, kont_some, kont_none, w32_of, if_true, if_false, b2i_eq0, ite_not, tdv, tmd, setA_eq, up_setA, fu_eq, fu_ne, rd_hi, Int.reduceToNat]
  rfl
theorem c122 (ha : tg r = 100) (hl : ln S r = 111) (h8 : 8 ≤ r) (h1 : 0 ≤ F 0) (h2 : F 0 ≤ 1000000) (h3 : 0 ≤ F 1) (h4 : F 1 ≤ 47) (h5 : 0 ≤ F 2) (h6 : F 2 ≤ 47) : wp 122 0 [.inr r, .inr 0] [] (hp S (setA D r F)) Q ↔ Q (some (.inl (b2i (nigF F)))) (hp S (setA D r F)) := by
  have h0 := tg_ne0 ha (by decide)
  refine wp_iff ?_ Q
  by_cases h7 : nigF F
  · rw [b2i_t h7]
    have h7' : (F 0 % 48 - F 1 + 48) % 48 < (F 2 - F 1 + 48) % 48 := h7
    simp (disch := first | assumption | omega | decide | exact b2i_01 _ | (unfold lx; omega)) only [s122_0, s122_1, s122_2, s122_3, s122_5, s122_6, s122_7, s122_8, s122_9, s122_10, s122_11, s122_12, s122_14, s122_15, s122_17, s122_18, s122_19, s122_20, s122_21, s122_22, s122_23, s122_24, s122_25, s122_27, s122_28, s122_30, s122_31, s122_34, s122_35, s122_38, s122_39, kont_some, kont_none, w32_of, if_true, if_false, b2i_eq0, ite_not, tdv, tmd, setA_eq, up_setA, fu_eq, fu_ne, rd_hi, Int.reduceToNat, h7']
    (first | done | trivial | exact ⟨rfl, trivial⟩ | exact ⟨rfl, rfl⟩ | exact ⟨trivial, trivial⟩ | rfl | (simp; done) | fail "stuck")
  · rw [b2i_f h7]
    have h7' : ¬ (F 0 % 48 - F 1 + 48) % 48 < (F 2 - F 1 + 48) % 48 := h7
    simp (disch := first | assumption | omega | decide | exact b2i_01 _ | (unfold lx; omega)) only [s122_0, s122_1, s122_2, s122_3, s122_5, s122_6, s122_7, s122_8, s122_9, s122_10, s122_11, s122_12, s122_14, s122_15, s122_17, s122_18, s122_19, s122_20, s122_21, s122_22, s122_23, s122_24, s122_25, s122_27, s122_28, s122_30, s122_31, s122_34, s122_35, s122_38, s122_39, kont_some, kont_none, w32_of, if_true, if_false, b2i_eq0, ite_not, tdv, tmd, setA_eq, up_setA, fu_eq, fu_ne, rd_hi, Int.reduceToNat, h7']
    (first | done | trivial | exact ⟨rfl, trivial⟩ | exact ⟨rfl, rfl⟩ | exact ⟨trivial, trivial⟩ | rfl | (simp; done) | fail "stuck")
end SPEC23
