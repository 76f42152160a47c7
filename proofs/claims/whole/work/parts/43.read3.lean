/-! the check's own readPlan -/
section SPEC43
variable {S : List Int} {D E : eD} {h : eH} {Q : Option eV → eH → Prop} {v w x s p m t a b k : Int} {r j : Nat} {F R : eRow}
theorem c151a (hR : BtR R m) (hm : m ≤ 10) (hE : E 158 10 = m) (hE4 : E 164 = R) (n : Nat) : ∀ (k : Int) (F : eRow), k + n = m → 0 ≤ k → St F → F 49 ≤ k → ∃ l1, (wp 151 41 [.inr 158, .inl k] [] (hp S (setA E 159 F)) Q ↔ wp 151 87 [.inr 158, l1] [] (hp S (setA E 159 (plsF R n k F))) Q) := by
  have t1 : tg 158 = 8 := rfl
  have t2 : tg 164 = 100 := rfl
  have t3 : tg 159 = 100 := rfl
  have l3 : ln S 164 = 48 := rfl
  induction n with
  | zero =>
    intro k F hk k0 hF h49
    have h1 : ¬ k < m := by omega
    refine ⟨.inl k, ?_⟩
    rw [s151_41]
    simp (disch := first | assumption | omega | decide | exact b2i_01 _ | (unfold lx; omega)) only [s151_42, s151_43, s151_46, s151_49, s151_50, s151_51, s151_54, s151_55, s151_56, s151_57, s151_58, s151_59, s151_62, s151_63, s151_64, s151_65, s151_66, s151_67, s151_68, s151_69, s151_72, s151_73, s151_74, s151_75, s151_76, s151_77, s151_78, s151_81, s151_84, kont_some, kont_none, w32_of, if_true, if_false, tdv, tmd, setA_eq, up_setA, rd_hi, Int.reduceToNat, if_neg (show ¬ (1 : Int) = 0 by decide), setA_ne, hE, if_neg h1]
    rfl
  | succ n ih =>
    intro k F hk k0 hF h49
    have h1 : k < m := by omega
    obtain ⟨g1, g2, g3⟩ := hR k k0 (by omega)
    have f49 : 0 ≤ F 49 ∧ F 49 ≤ 10 := hF.2.2.2.2.2.2.2.2.2.2.2.2.2.2.2.2.2.2.2.1
    have hS := St_pln (t := R (3 * k).toNat) (a := R (3 * k + 1).toNat) (b := R (3 * k + 2).toNat) hF (Or.inl (by omega)) g1 g2 g3
    have e49 := pln_49 (F := F) (t := R (3 * k).toNat) (a := R (3 * k + 1).toNat) (b := R (3 * k + 2).toNat) f49
    obtain ⟨l1, e⟩ := ih (k + 1) _ (by omega) (by omega) hS (by rw [e49]; split <;> omega)
    have hFs : St (setA E 159 F 159) := by rw [setA_eq]; exact hF
    have h10 : setA E 159 F 159 49 < 10 ∨ pldF (setA E 159 F 159) (R (3 * k).toNat) := Or.inl (by rw [setA_eq]; omega)
    have c := fun Q' => c139 (S := S) (D := setA E 159 F) (Q := Q') (t := R (3 * k).toNat) (a := R (3 * k + 1).toNat) (b := R (3 * k + 2).toNat) hFs h10
    refine ⟨l1, ?_⟩
    show _ ↔ wp 151 87 [.inr 158, l1] [] (hp S (setA E 159 (plsF R n (k + 1) (plnF F (R (3 * k).toNat) (R (3 * k + 1).toNat) (R (3 * k + 2).toNat))))) Q
    rw [s151_41, ← e]
    simp (disch := first | assumption | omega | decide | exact b2i_01 _ | (unfold lx; omega)) only [s151_42, s151_43, s151_46, s151_49, s151_50, s151_51, s151_54, s151_55, s151_56, s151_57, s151_58, s151_59, s151_62, s151_63, s151_64, s151_65, s151_66, s151_67, s151_68, s151_69, s151_72, s151_73, s151_74, s151_75, s151_76, s151_77, s151_78, s151_81, s151_84, kont_some, kont_none, w32_of, if_true, if_false, tdv, tmd, setA_eq, up_setA, rd_hi, Int.reduceToNat, if_neg (show ¬ (1 : Int) = 0 by decide), Nat.reduceAdd, setA_ne, hE, hE4, if_pos h1, c, setA_setA]
theorem c151 (hs : 0 ≤ D 158 3 ∧ D 158 3 ≤ 4) (hT : Tx D) (hF : St (D 159)) : wp 151 0 [.inr 158, .inr 0] [] (hp S D) Q ↔ Q (some (.inl (m151 D).1)) (hp S (m151 D).2) := by
  have t1 : tg 158 = 8 := rfl
  have t3 : tg 159 = 100 := rfl
  have l3 : ln S 159 = 111 := rfl
  obtain ⟨i1, i2, i3, i4, i5⟩ := tx_all hT 11 0 0 (D 164) (by omega) (by omega) (by omega) (by omega) (fun k h1 h2 => absurd h1 (by omega))
  unfold m151
  have z01 : ∀ z : Int, z = 0 → ¬ z = 1 := fun z h1 => by omega
  generalize hr : txF D 11 0 0 (D 164) = r at i1 i2 i3 i4 i5 ⊢
  by_cases h1 : r.1 = 0
  · rw [if_pos h1]
    simp (disch := first | assumption | omega | decide | exact b2i_01 _ | (unfold lx; omega)) only [s151_0, s151_1, s151_4, s151_7, s151_9, s151_10, s151_13, s151_14, kont_some, kont_none, w32_of, if_true, if_false, tdv, tmd, setA_eq, up_setA, rd_hi, Int.reduceToNat, if_neg (show ¬ (1 : Int) = 0 by decide), c149, hr, if_pos h1, tx_8]
  · rw [if_neg h1]
    have hs' : 0 ≤ txD D r.2.1 r.2.2.1 r.2.2.2 158 3 ∧ txD D r.2.1 r.2.2.1 r.2.2.2 158 3 ≤ 4 := by rw [tx_3]; exact hs
    have e9 : recD (txD D r.2.1 r.2.2.1 r.2.2.2) 159 = D 159 := by rw [rec_159, tx_159]
    have eA : recD (txD D r.2.1 r.2.2.1 r.2.2.2) 158 10 = r.2.2.1 := by
      unfold recD
      rw [setA_ne (by decide), setA_eq, fu_ne (by decide), tx_10]
    have eB : recD (txD D r.2.1 r.2.2.1 r.2.2.2) 164 = r.2.2.2 := by
      unfold recD
      rw [setA_ne (by decide), setA_ne (by decide), tx_164]
    obtain ⟨u, hu, eu⟩ := c150 (S := S) (D := D) (Q := kont 151 19 [.inr 158, .inr 0] [] Q) (p := r.2.1) (m := r.2.2.1) (R := r.2.2.2) i3 i4
    have hu' : ¬ 10 < u := by omega
    obtain ⟨l1, e⟩ := c151a (S := S) (E := recD (txD D r.2.1 r.2.2.1 r.2.2.2)) (Q := Q) i5 i4 eA eB r.2.2.1.toNat 0 (fu (D 159) 49 0) (by omega) (by omega) (St_49 hF) (by rw [fu_eq]; omega)
    have ea : wp 151 0 [.inr 158, .inr 0] [] (hp S D) Q ↔ wp 150 0 [.inr 158, .inr 0, .inr 0, .inr 0, .inr 0] [] (hp S (txD D r.2.1 r.2.2.1 r.2.2.2)) (kont 151 19 [.inr 158, .inr 0] [] Q) := by
      simp (disch := first | assumption | omega | decide | exact b2i_01 _ | (unfold lx; omega)) only [s151_0, s151_1, s151_4, s151_7, s151_9, s151_10, s151_13, s151_14, s151_15, s151_16, kont_some, kont_none, w32_of, if_true, if_false, tdv, tmd, setA_eq, up_setA, rd_hi, Int.reduceToNat, if_neg (show ¬ (1 : Int) = 0 by decide), c149, hr, if_neg h1]
    rw [ea, eu]
    have eb : kont 151 19 [.inr 158, .inr 0] [] Q (some (.inl u)) (hp S (txD D r.2.1 r.2.2.1 r.2.2.2)) ↔ wp 151 41 [.inr 158, .inl 0] [] (hp S (setA (recD (txD D r.2.1 r.2.2.1 r.2.2.2)) 159 (fu (D 159) 49 0))) Q := by
      simp (disch := first | assumption | omega | decide | exact b2i_01 _ | (unfold lx; omega)) only [s151_19, s151_21, s151_24, s151_26, s151_27, s151_28, s151_31, s151_32, s151_35, s151_37, s151_38, s151_39, s151_40, kont_some, kont_none, w32_of, if_true, if_false, tdv, tmd, setA_eq, up_setA, rd_hi, Int.reduceToNat, if_neg (show ¬ (1 : Int) = 0 by decide), Nat.reduceAdd, if_neg hu', c102, up_as, e9]
    rw [eb, e]
    simp (disch := first | assumption | omega | decide | exact b2i_01 _ | (unfold lx; omega)) only [s151_87, s151_88, s151_91, s151_93, s151_94, kont_some, kont_none, w32_of, if_true, if_false, tdv, tmd, setA_eq, up_setA, rd_hi, Int.reduceToNat, if_neg (show ¬ (1 : Int) = 0 by decide), Nat.reduceAdd]
end SPEC43
