/-! the check's own beacon: a boat comes -/
def tk1 (F : eRow) (k : Int) : eRow := if ¬ F (lx k 0) = -5 ∧ ¬ (F 10 = 1 ∧ k = F 7) ∧ ¬ goF F k (b2i (F 6 = 1)) then fu F (lx k 0) (-5) else F
def tkF : Nat → Int → eRow → eRow
  | 0, _, F => F
  | n + 1, k, F => tkF n (k + 1) (tk1 F k)
def fl1 (F : eRow) (k : Int) : eRow := fu (comF F k (lowF F) 100) (41 + lowF F).toNat (F (41 + lowF F).toNat - 1)
def flF : Nat → Int → eRow → Int → eRow × Int
  | 0, _, F, m => (F, m)
  | n + 1, k, F, m => if F (lx k 0) = -5 ∧ ¬ lowF F = -5 then flF n (k + 1) (fl1 F k) (m + 1) else flF n (k + 1) F m
def lan1 (F : eRow) (a : Int) : eRow := fu F (41 + F (a + 1).toNat).toNat (if 99 < F (41 + F (a + 1).toNat).toNat + F (a + 2).toNat then 99 else F (41 + F (a + 1).toNat).toNat + F (a + 2).toNat)
def lan2 (F : eRow) : eRow × Int := flF 6 0 (tkF 6 0 F) 0
def lanF (F : eRow) (a : Int) : eRow := hapF (fu (lan2 (lan1 F a)).1 48 ((lan2 (lan1 F a)).1 48 + 1)) 4 (lan2 (lan1 F a)).2
theorem low_b {F : eRow} : lowF F = -5 ∨ (0 ≤ lowF F ∧ lowF F ≤ 2 ∧ 0 < F (41 + lowF F).toNat) := by
  unfold lowF
  split
  · next h => exact Or.inr ⟨by omega, by omega, h⟩
  · split
    · next h => exact Or.inr ⟨by omega, by omega, h⟩
    · split
      · next h => exact Or.inr ⟨by omega, by omega, h⟩
      · exact Or.inl rfl
theorem St_tk1 {F : eRow} {k : Int} (h : St F) (h1 : 0 ≤ k) (h2 : k ≤ 5) : St (tk1 F k) := by
  unfold tk1
  split
  · have hl := h.1 k h1 h2
    obtain ⟨b1, b2, b3, b4, b5, b6, b7, b8⟩ := hl
    have n1 : lx k 1 ≠ lx k 0 := by unfold lx; omega
    have n2 : lx k 2 ≠ lx k 0 := by unfold lx; omega
    have n3 : lx k 3 ≠ lx k 0 := by unfold lx; omega
    have n4 : lx k 4 ≠ lx k 0 := by unfold lx; omega
    refine St_l1 h h1 h2 (fun j hj => fu_ne (by unfold lx at hj ⊢; omega)) ?_
    unfold LmB
    rw [fu_ne n1, fu_ne n2, fu_ne n3, fu_ne n4, fu_eq]
    omega
  · exact h
/-- one number of the stock -/
theorem St_stk {F : eRow} {i v : Int} (h : St F) (h1 : 0 ≤ i) (h2 : i ≤ 2) (hv : 0 ≤ v ∧ v ≤ 99) : St (fu F (41 + i).toNat v) := by
  obtain ⟨a0, a1, a2, a3, a4, a5, a6, a7, a8, a9, a10, a11, a12, a13, a14, a15, a16, a17, a18, a19, a20, a21⟩ := h
  have e : ∀ j, (j < 41 ∨ 43 < j) → fu F (41 + i).toNat v j = F j := fun j hj => fu_ne (by omega)
  refine ⟨fun s g1 g2 => LmB_of (a0 s g1 g2) (fun j _ _ => e j (by omega)) g1 g2, ?_, ?_, ?_, ?_, ?_, ?_, ?_, ?_, ?_, ?_, ?_, ?_, ?_, ?_, ?_, ?_, ?_, ?_, ?_, ?_, ?_⟩
  · rw [e 0 (by omega)]; exact a1
  · rw [e 1 (by omega)]; exact a2
  · rw [e 2 (by omega)]; exact a3
  · rw [e 3 (by omega)]; exact a4
  · rw [e 4 (by omega)]; exact a5
  · rw [e 5 (by omega)]; exact a6
  · rw [e 6 (by omega)]; exact a7
  · rw [e 7 (by omega)]; exact a8
  · rw [e 8 (by omega), e 9 (by omega)]; exact a9
  · rw [e 10 (by omega)]; exact a10
  · unfold fu; split <;> assumption
  · unfold fu; split <;> assumption
  · unfold fu; split <;> assumption
  · rw [e 44 (by omega)]; exact a14
  · rw [e 45 (by omega)]; exact a15
  · rw [e 46 (by omega)]; exact a16
  · rw [e 47 (by omega)]; exact a17
  · rw [e 48 (by omega)]; exact a18
  · rw [e 49 (by omega)]; exact a19
  · rw [e 80 (by omega)]; exact a20
  · rw [e 49 (by omega)]
    exact fun k g1 g2 => Bt_of (a21 k g1 g2) (fun j h3 h4 => e j (by omega)) g1 (by omega)
theorem comF_ne {F : eRow} {k a b : Int} {j : Nat} (h1 : 0 ≤ k) (h : j < lx k 0 ∨ lx k 4 < j) : comF F k a b j = F j := by
  unfold comF
  unfold lx at h ⊢
  rw [fu_ne (by omega), fu_ne (by omega), fu_ne (by omega), fu_ne (by omega), fu_ne (by omega)]
theorem comF_at {F : eRow} {k a b : Int} (h1 : 0 ≤ k) : comF F k a b (lx k 0) = a ∧ comF F k a b (lx k 1) = b ∧ comF F k a b (lx k 2) = 0 ∧ comF F k a b (lx k 3) = 0 ∧ comF F k a b (lx k 4) = 0 := by
  have n : ∀ p q : Int, 0 ≤ p → 0 ≤ q → p ≠ q → lx k p ≠ lx k q := fun p q _ _ _ => by unfold lx; omega
  unfold comF
  refine ⟨?_, ?_, ?_, ?_, ?_⟩
  · rw [fu_ne (n 0 4 (by omega) (by omega) (by omega)), fu_ne (n 0 3 (by omega) (by omega) (by omega)), fu_ne (n 0 2 (by omega) (by omega) (by omega)), fu_ne (n 0 1 (by omega) (by omega) (by omega)), fu_eq]
  · rw [fu_ne (n 1 4 (by omega) (by omega) (by omega)), fu_ne (n 1 3 (by omega) (by omega) (by omega)), fu_ne (n 1 2 (by omega) (by omega) (by omega)), fu_eq]
  · rw [fu_ne (n 2 4 (by omega) (by omega) (by omega)), fu_ne (n 2 3 (by omega) (by omega) (by omega)), fu_eq]
  · rw [fu_ne (n 3 4 (by omega) (by omega) (by omega)), fu_eq]
  · rw [fu_eq]
theorem St_com {F : eRow} {k a b : Int} (h : St F) (h1 : 0 ≤ k) (h2 : k ≤ 5) (h3 : 0 ≤ a) (h4 : a ≤ 2) (h5 : 50 ≤ b) (h6 : b ≤ 150) : St (comF F k a b) := by
  refine St_l1 h h1 h2 (fun j hj => comF_ne h1 hj) ?_
  obtain ⟨e0, e1, e2, e3, e4⟩ := comF_at (F := F) (k := k) (a := a) (b := b) h1
  unfold LmB
  rw [e0, e1, e2, e3, e4]
  omega
theorem St_fl1 {F : eRow} {k : Int} (h : St F) (h1 : 0 ≤ k) (h2 : k ≤ 5) (h3 : ¬ lowF F = -5) : St (fl1 F k) := by
  have hb := (low_b (F := F)).resolve_left h3
  have hc := St_com (a := lowF F) (b := 100) h h1 h2 hb.1 hb.2.1 (by omega) (by omega)
  have h' := h
  obtain ⟨a0, a1, a2, a3, a4, a5, a6, a7, a8, a9, a10, a11, a12, a13, a14, a15, a16, a17, a18, a19, a20, a21⟩ := h'
  unfold fl1
  refine St_stk hc hb.1 hb.2.1 ?_
  rcases (show lowF F = 0 ∨ lowF F = 1 ∨ lowF F = 2 by omega) with e | e | e
  · rw [e] at hb ⊢
    have : F (41 + (0 : Int)).toNat = F 41 := rfl
    omega
  · rw [e] at hb ⊢
    have : F (41 + (1 : Int)).toNat = F 42 := rfl
    omega
  · rw [e] at hb ⊢
    have : F (41 + (2 : Int)).toNat = F 43 := rfl
    omega
section SPEC27
variable {S : List Int} {D : eD} {h : eH} {Q : Option eV → eH → Prop} {r : Nat} {s p v x fr a : Int} {F : eRow}
theorem c127_l1 (ha : tg r = 100) (hl : ln S r = 111) (h8 : 8 ≤ r) {l1 l2 l3 x6 : eV} (n : Nat) : ∀ (k : Int) (x5 : eV) (F : eRow), k = 6 - n → n ≤ 6 → St F →
    (wp 127 40 [.inr r, l1, l2, l3, .inl k, x5, x6] [] (hp S (setA D r F)) Q ↔ wp 127 125 [.inr r, l1, l2, l3, .inl 0, .inl 0, x6] [] (hp S (setA D r (tkF n k F))) Q) := by
  have h0 := tg_ne0 ha (by decide)
  induction n with
  | zero =>
    intro k x5 F hk _ _
    have h1 : ¬ k < 6 := by omega
    rw [s127_40]
    simp (disch := first | assumption | omega | decide | exact b2i_01 _ | (unfold lx; omega)) only [s127_42, s127_44, s127_119, s127_120, s127_122, s127_123, kont_some, kont_none, w32_of, if_true, if_false, tdv, tmd, setA_eq, up_setA, rd_hi, Int.reduceToNat, if_neg (show ¬ (1 : Int) = 0 by decide), h1]
    rfl
  | succ n ih =>
    intro k x5 F hk hn hs
    have h1 : k < 6 := by omega
    have k0 : 0 ≤ k := by omega
    have k5 : k ≤ 5 := by omega
    have hL := (hs.1 k k0 k5).a
    have fin : ∀ x5, wp 127 40 [.inr r, l1, l2, l3, .inl (k + 1), x5, x6] [] (hp S (setA D r (tk1 F k))) Q ↔ wp 127 125 [.inr r, l1, l2, l3, .inl 0, .inl 0, x6] [] (hp S (setA D r (tkF n (k + 1) (tk1 F k)))) Q :=
      fun x5 => ih (k + 1) x5 _ (by omega) (by omega) (St_tk1 hs k0 k5)
    unfold tkF
    rw [s127_40]
    by_cases hth : F (lx k 0) = -5
    · have e : tk1 F k = F := if_neg (fun q => q.1 hth)
      have hth2 : ¬ ¬ F (lx k 0) = -5 := fun q => q hth
      rw [e] at fin ⊢
      by_cases h10 : F 10 = 1
      · by_cases h7 : k = F 7
        · simp (disch := first | assumption | omega | decide | exact b2i_01 _ | (unfold lx; omega)) only [s127_42, s127_44, s127_47, s127_48, s127_50, s127_51, s127_52, s127_55, s127_57, s127_58, s127_60, s127_61, s127_64, s127_65, s127_68, s127_69, s127_71, s127_72, s127_74, s127_77, s127_80, s127_82, s127_85, s127_86, s127_88, s127_89, s127_91, s127_92, s127_93, s127_96, s127_97, s127_100, s127_101, s127_104, s127_107, s127_108, s127_110, s127_113, s127_116, kont_some, kont_none, w32_of, if_true, if_false, tdv, tmd, setA_eq, up_setA, rd_hi, Int.reduceToNat, if_neg (show ¬ (1 : Int) = 0 by decide), h1, h10, if_pos h7, c109, b2i_f hth2]
          exact fin _
        · simp (disch := first | assumption | omega | decide | exact b2i_01 _ | (unfold lx; omega)) only [s127_42, s127_44, s127_47, s127_48, s127_50, s127_51, s127_52, s127_55, s127_57, s127_58, s127_60, s127_61, s127_64, s127_65, s127_68, s127_69, s127_71, s127_72, s127_74, s127_77, s127_80, s127_82, s127_85, s127_86, s127_88, s127_89, s127_91, s127_92, s127_93, s127_96, s127_97, s127_100, s127_101, s127_104, s127_107, s127_108, s127_110, s127_113, s127_116, kont_some, kont_none, w32_of, if_true, if_false, tdv, tmd, setA_eq, up_setA, rd_hi, Int.reduceToNat, if_neg (show ¬ (1 : Int) = 0 by decide), h1, h10, if_neg h7, c109, b2i_f hth2]
          exact fin _
      · simp (disch := first | assumption | omega | decide | exact b2i_01 _ | (unfold lx; omega)) only [s127_42, s127_44, s127_47, s127_48, s127_50, s127_51, s127_52, s127_55, s127_57, s127_58, s127_60, s127_61, s127_64, s127_65, s127_68, s127_69, s127_71, s127_72, s127_74, s127_77, s127_80, s127_82, s127_85, s127_86, s127_88, s127_89, s127_91, s127_92, s127_93, s127_96, s127_97, s127_100, s127_101, s127_104, s127_107, s127_108, s127_110, s127_113, s127_116, kont_some, kont_none, w32_of, if_true, if_false, tdv, tmd, setA_eq, up_setA, rd_hi, Int.reduceToNat, if_neg (show ¬ (1 : Int) = 0 by decide), h1, h10, c109, b2i_f hth2]
        exact fin _
    · by_cases h10 : F 10 = 1
      · by_cases h7 : k = F 7
        · have e : tk1 F k = F := if_neg (fun q => q.2.1 ⟨h10, h7⟩)
          rw [e] at fin ⊢
          simp (disch := first | assumption | omega | decide | exact b2i_01 _ | (unfold lx; omega)) only [s127_42, s127_44, s127_47, s127_48, s127_50, s127_51, s127_52, s127_55, s127_57, s127_58, s127_60, s127_61, s127_64, s127_65, s127_68, s127_69, s127_71, s127_72, s127_74, s127_77, s127_80, s127_82, s127_85, s127_86, s127_88, s127_89, s127_91, s127_92, s127_93, s127_96, s127_97, s127_100, s127_101, s127_104, s127_107, s127_108, s127_110, s127_113, s127_116, kont_some, kont_none, w32_of, if_true, if_false, tdv, tmd, setA_eq, up_setA, rd_hi, Int.reduceToNat, if_neg (show ¬ (1 : Int) = 0 by decide), h1, h10, if_pos h7, c109, b2i_t hth]
          exact fin _
        · by_cases h6 : F 6 = 1
          · by_cases hg : (¬ F (lx k 0) = -5 ∧ F (lx k 2) < lfF F k) ∧ ¬ F (lx k 3) = 1
            · have e : tk1 F k = F := if_neg (fun q => q.2.2 ⟨hg.1, fun z => hg.2 z.2⟩)
              rw [e] at fin ⊢
              simp (disch := first | assumption | omega | decide | exact b2i_01 _ | (unfold lx; omega)) only [s127_42, s127_44, s127_47, s127_48, s127_50, s127_51, s127_52, s127_55, s127_57, s127_58, s127_60, s127_61, s127_64, s127_65, s127_68, s127_69, s127_71, s127_72, s127_74, s127_77, s127_80, s127_82, s127_85, s127_86, s127_88, s127_89, s127_91, s127_92, s127_93, s127_96, s127_97, s127_100, s127_101, s127_104, s127_107, s127_108, s127_110, s127_113, s127_116, kont_some, kont_none, w32_of, if_true, if_false, tdv, tmd, setA_eq, up_setA, rd_hi, Int.reduceToNat, if_neg (show ¬ (1 : Int) = 0 by decide), h1, h10, if_neg h7, h6, c109, c117, true_and, b2i_t hth, b2i_t hg]
              exact fin _
            · have e : tk1 F k = fu F (lx k 0) (-5) := if_pos ⟨hth, fun q => h7 q.2, fun q => hg ⟨q.1, fun z => q.2 ⟨b2i_t h6, z⟩⟩⟩
              rw [e] at fin ⊢
              simp (disch := first | assumption | omega | decide | exact b2i_01 _ | (unfold lx; omega)) only [s127_42, s127_44, s127_47, s127_48, s127_50, s127_51, s127_52, s127_55, s127_57, s127_58, s127_60, s127_61, s127_64, s127_65, s127_68, s127_69, s127_71, s127_72, s127_74, s127_77, s127_80, s127_82, s127_85, s127_86, s127_88, s127_89, s127_91, s127_92, s127_93, s127_96, s127_97, s127_100, s127_101, s127_104, s127_107, s127_108, s127_110, s127_113, s127_116, kont_some, kont_none, w32_of, if_true, if_false, tdv, tmd, setA_eq, up_setA, rd_hi, Int.reduceToNat, if_neg (show ¬ (1 : Int) = 0 by decide), h1, h10, if_neg h7, h6, c109, c117, c108, true_and, b2i_t hth, b2i_f hg]
              exact fin _
          · by_cases hg : ¬ F (lx k 0) = -5 ∧ F (lx k 2) < lfF F k
            · have e : tk1 F k = F := if_neg (fun q => q.2.2 ⟨hg, fun z => by rw [b2i_f h6] at z; omega⟩)
              have hg2 : (¬ F (lx k 0) = -5 ∧ F (lx k 2) < lfF F k) ∧ ¬ ((0 : Int) = 1 ∧ F (lx k 3) = 1) := ⟨hg, fun z => by omega⟩
              rw [e] at fin ⊢
              simp (disch := first | assumption | omega | decide | exact b2i_01 _ | (unfold lx; omega)) only [s127_42, s127_44, s127_47, s127_48, s127_50, s127_51, s127_52, s127_55, s127_57, s127_58, s127_60, s127_61, s127_64, s127_65, s127_68, s127_69, s127_71, s127_72, s127_74, s127_77, s127_80, s127_82, s127_85, s127_86, s127_88, s127_89, s127_91, s127_92, s127_93, s127_96, s127_97, s127_100, s127_101, s127_104, s127_107, s127_108, s127_110, s127_113, s127_116, kont_some, kont_none, w32_of, if_true, if_false, tdv, tmd, setA_eq, up_setA, rd_hi, Int.reduceToNat, if_neg (show ¬ (1 : Int) = 0 by decide), h1, h10, if_neg h7, h6, c109, c117, b2i_t hth, b2i_t hg2]
              exact fin _
            · have e : tk1 F k = fu F (lx k 0) (-5) := if_pos ⟨hth, fun q => h7 q.2, fun q => hg q.1⟩
              have hg2 : ¬ ((¬ F (lx k 0) = -5 ∧ F (lx k 2) < lfF F k) ∧ ¬ ((0 : Int) = 1 ∧ F (lx k 3) = 1)) := fun q => hg q.1
              rw [e] at fin ⊢
              simp (disch := first | assumption | omega | decide | exact b2i_01 _ | (unfold lx; omega)) only [s127_42, s127_44, s127_47, s127_48, s127_50, s127_51, s127_52, s127_55, s127_57, s127_58, s127_60, s127_61, s127_64, s127_65, s127_68, s127_69, s127_71, s127_72, s127_74, s127_77, s127_80, s127_82, s127_85, s127_86, s127_88, s127_89, s127_91, s127_92, s127_93, s127_96, s127_97, s127_100, s127_101, s127_104, s127_107, s127_108, s127_110, s127_113, s127_116, kont_some, kont_none, w32_of, if_true, if_false, tdv, tmd, setA_eq, up_setA, rd_hi, Int.reduceToNat, if_neg (show ¬ (1 : Int) = 0 by decide), h1, h10, if_neg h7, h6, c109, c117, c108, b2i_t hth, b2i_f hg2]
              exact fin _
      · by_cases h6 : F 6 = 1
        · by_cases hg : (¬ F (lx k 0) = -5 ∧ F (lx k 2) < lfF F k) ∧ ¬ F (lx k 3) = 1
          · have e : tk1 F k = F := if_neg (fun q => q.2.2 ⟨hg.1, fun z => hg.2 z.2⟩)
            rw [e] at fin ⊢
            simp (disch := first | assumption | omega | decide | exact b2i_01 _ | (unfold lx; omega)) only [s127_42, s127_44, s127_47, s127_48, s127_50, s127_51, s127_52, s127_55, s127_57, s127_58, s127_60, s127_61, s127_64, s127_65, s127_68, s127_69, s127_71, s127_72, s127_74, s127_77, s127_80, s127_82, s127_85, s127_86, s127_88, s127_89, s127_91, s127_92, s127_93, s127_96, s127_97, s127_100, s127_101, s127_104, s127_107, s127_108, s127_110, s127_113, s127_116, kont_some, kont_none, w32_of, if_true, if_false, tdv, tmd, setA_eq, up_setA, rd_hi, Int.reduceToNat, if_neg (show ¬ (1 : Int) = 0 by decide), h1, h10, h6, c109, c117, true_and, b2i_t hth, b2i_t hg]
            exact fin _
          · have e : tk1 F k = fu F (lx k 0) (-5) := if_pos ⟨hth, fun q => h10 q.1, fun q => hg ⟨q.1, fun z => q.2 ⟨b2i_t h6, z⟩⟩⟩
            rw [e] at fin ⊢
            simp (disch := first | assumption | omega | decide | exact b2i_01 _ | (unfold lx; omega)) only [s127_42, s127_44, s127_47, s127_48, s127_50, s127_51, s127_52, s127_55, s127_57, s127_58, s127_60, s127_61, s127_64, s127_65, s127_68, s127_69, s127_71, s127_72, s127_74, s127_77, s127_80, s127_82, s127_85, s127_86, s127_88, s127_89, s127_91, s127_92, s127_93, s127_96, s127_97, s127_100, s127_101, s127_104, s127_107, s127_108, s127_110, s127_113, s127_116, kont_some, kont_none, w32_of, if_true, if_false, tdv, tmd, setA_eq, up_setA, rd_hi, Int.reduceToNat, if_neg (show ¬ (1 : Int) = 0 by decide), h1, h10, h6, c109, c117, c108, true_and, b2i_t hth, b2i_f hg]
            exact fin _
        · by_cases hg : ¬ F (lx k 0) = -5 ∧ F (lx k 2) < lfF F k
          · have e : tk1 F k = F := if_neg (fun q => q.2.2 ⟨hg, fun z => by rw [b2i_f h6] at z; omega⟩)
            have hg2 : (¬ F (lx k 0) = -5 ∧ F (lx k 2) < lfF F k) ∧ ¬ ((0 : Int) = 1 ∧ F (lx k 3) = 1) := ⟨hg, fun z => by omega⟩
            rw [e] at fin ⊢
            simp (disch := first | assumption | omega | decide | exact b2i_01 _ | (unfold lx; omega)) only [s127_42, s127_44, s127_47, s127_48, s127_50, s127_51, s127_52, s127_55, s127_57, s127_58, s127_60, s127_61, s127_64, s127_65, s127_68, s127_69, s127_71, s127_72, s127_74, s127_77, s127_80, s127_82, s127_85, s127_86, s127_88, s127_89, s127_91, s127_92, s127_93, s127_96, s127_97, s127_100, s127_101, s127_104, s127_107, s127_108, s127_110, s127_113, s127_116, kont_some, kont_none, w32_of, if_true, if_false, tdv, tmd, setA_eq, up_setA, rd_hi, Int.reduceToNat, if_neg (show ¬ (1 : Int) = 0 by decide), h1, h10, h6, c109, c117, b2i_t hth, b2i_t hg2]
            exact fin _
          · have e : tk1 F k = fu F (lx k 0) (-5) := if_pos ⟨hth, fun q => h10 q.1, fun q => hg q.1⟩
            have hg2 : ¬ ((¬ F (lx k 0) = -5 ∧ F (lx k 2) < lfF F k) ∧ ¬ ((0 : Int) = 1 ∧ F (lx k 3) = 1)) := fun q => hg q.1
            rw [e] at fin ⊢
            simp (disch := first | assumption | omega | decide | exact b2i_01 _ | (unfold lx; omega)) only [s127_42, s127_44, s127_47, s127_48, s127_50, s127_51, s127_52, s127_55, s127_57, s127_58, s127_60, s127_61, s127_64, s127_65, s127_68, s127_69, s127_71, s127_72, s127_74, s127_77, s127_80, s127_82, s127_85, s127_86, s127_88, s127_89, s127_91, s127_92, s127_93, s127_96, s127_97, s127_100, s127_101, s127_104, s127_107, s127_108, s127_110, s127_113, s127_116, kont_some, kont_none, w32_of, if_true, if_false, tdv, tmd, setA_eq, up_setA, rd_hi, Int.reduceToNat, if_neg (show ¬ (1 : Int) = 0 by decide), h1, h10, h6, c109, c117, c108, b2i_t hth, b2i_f hg2]
            exact fin _
theorem St_tkF (n : Nat) : ∀ (k : Int) (F : eRow), k = 6 - n → n ≤ 6 → St F → St (tkF n k F) := by
  induction n with
  | zero => exact fun _ _ _ _ h => h
  | succ n ih => exact fun k F hk hn h => ih (k + 1) _ (by omega) (by omega) (St_tk1 h (by omega) (by omega))
theorem c127_l2 (ha : tg r = 100) (hl : ln S r = 111) (h8 : 8 ≤ r) {l1 l2 l3 : eV} (n : Nat) : ∀ (k m : Int) (x6 : eV) (F : eRow), k = 6 - n → n ≤ 6 → St F → 0 ≤ m → m ≤ 6 - n →
    ∃ x6' : eV, (wp 127 125 [.inr r, l1, l2, l3, .inl m, .inl k, x6] [] (hp S (setA D r F)) Q ↔ wp 127 184 [.inr r, l1, l2, l3, .inl (flF n k F m).2, .inl 6, x6'] [] (hp S (setA D r (flF n k F m).1)) Q) := by
  have h0 := tg_ne0 ha (by decide)
  induction n with
  | zero =>
    intro k m x6 F hk _ _ _ _
    have h1 : ¬ k < 6 := by omega
    have h2 : k = 6 := by omega
    subst h2
    refine ⟨x6, ?_⟩
    rw [s127_125]
    simp (disch := first | assumption | omega | decide | exact b2i_01 _ | (unfold lx; omega)) only [s127_127, s127_129, kont_some, kont_none, w32_of, if_true, if_false, tdv, tmd, setA_eq, up_setA, rd_hi, Int.reduceToNat, if_neg (show ¬ (1 : Int) = 0 by decide), h1]
    rfl
  | succ n ih =>
    intro k m x6 F hk hn hs m0 m6
    have h1 : k < 6 := by omega
    have k0 : 0 ≤ k := by omega
    have k5 : k ≤ 5 := by omega
    unfold flF
    rw [s127_125]
    by_cases hth : F (lx k 0) = -5
    · have hth2 : ¬ ¬ F (lx k 0) = -5 := fun q => q hth
      by_cases hlw : lowF F = -5
      · rw [if_neg (fun q => q.2 hlw)]
        obtain ⟨x6', h6⟩ := ih (k + 1) m (.inl (-5)) F (by omega) (by omega) hs m0 (by omega)
        refine ⟨x6', ?_⟩
        simp (disch := first | assumption | omega | decide | exact b2i_01 _ | (unfold lx; omega)) only [s127_127, s127_129, s127_132, s127_133, s127_136, s127_138, s127_139, s127_141, s127_144, s127_147, s127_149, s127_151, s127_154, s127_155, s127_157, s127_159, s127_161, s127_164, s127_165, s127_167, s127_169, s127_170, s127_171, s127_172, s127_173, s127_174, s127_175, s127_178, s127_181, kont_some, kont_none, w32_of, if_true, if_false, tdv, tmd, setA_eq, up_setA, rd_hi, Int.reduceToNat, if_neg (show ¬ (1 : Int) = 0 by decide), h1, c126, c109, b2i_f hth2, hlw]
        exact h6
      · rw [if_pos ⟨hth, hlw⟩]
        obtain ⟨x6', h6⟩ := ih (k + 1) (m + 1) (.inl (lowF F)) (fl1 F k) (by omega) (by omega) (St_fl1 hs k0 k5 hlw) (by omega) (by omega)
        refine ⟨x6', ?_⟩
        have hb := (low_b (F := F)).resolve_left hlw
        obtain ⟨b0, b2, bp⟩ := hb
        have hs' := hs
        obtain ⟨a0, a1, a2, a3, a4, a5, a6, a7, a8, a9, a10, a11, a12, a13, a14, a15, a16, a17, a18, a19, a20, a21⟩ := hs'
        have e41 : comF F k (lowF F) 100 (41 + lowF F).toNat = F (41 + lowF F).toNat := comF_ne k0 (by unfold lx; omega)
        have bq : F (41 + lowF F).toNat ≤ 99 := by
          rcases (show lowF F = 0 ∨ lowF F = 1 ∨ lowF F = 2 by omega) with e | e | e <;> rw [e]
          · exact a11.2
          · exact a12.2
          · exact a13.2
        simp (disch := first | assumption | omega | decide | exact b2i_01 _ | (unfold lx; omega)) only [s127_127, s127_129, s127_132, s127_133, s127_136, s127_138, s127_139, s127_141, s127_144, s127_147, s127_149, s127_151, s127_154, s127_155, s127_157, s127_159, s127_161, s127_164, s127_165, s127_167, s127_169, s127_170, s127_171, s127_172, s127_173, s127_174, s127_175, s127_178, s127_181, kont_some, kont_none, w32_of, if_true, if_false, tdv, tmd, setA_eq, up_setA, rd_hi, Int.reduceToNat, if_neg (show ¬ (1 : Int) = 0 by decide), h1, c126, c109, c110, b2i_f hth2, hlw, e41]
        exact h6
    · rw [if_neg (fun q => hth q.1)]
      obtain ⟨x6', h6⟩ := ih (k + 1) m (.inl (lowF F)) F (by omega) (by omega) hs m0 (by omega)
      refine ⟨x6', ?_⟩
      simp (disch := first | assumption | omega | decide | exact b2i_01 _ | (unfold lx; omega)) only [s127_127, s127_129, s127_132, s127_133, s127_136, s127_138, s127_139, s127_141, s127_144, s127_147, s127_149, s127_151, s127_154, s127_155, s127_157, s127_159, s127_161, s127_164, s127_165, s127_167, s127_169, s127_170, s127_171, s127_172, s127_173, s127_174, s127_175, s127_178, s127_181, kont_some, kont_none, w32_of, if_true, if_false, tdv, tmd, setA_eq, up_setA, rd_hi, Int.reduceToNat, if_neg (show ¬ (1 : Int) = 0 by decide), h1, c126, c109, b2i_t hth]
      exact h6
end SPEC27
