/-! the check's own plan read from the text -/
def BtR (R : eRow) (m : Int) : Prop := ∀ k : Int, 0 ≤ k → k < m → (0 ≤ R (3 * k).toNat ∧ R (3 * k).toNat ≤ 9999) ∧ (0 ≤ R (3 * k + 1).toNat ∧ R (3 * k + 1).toNat ≤ 2) ∧ (1 ≤ R (3 * k + 2).toNat ∧ R (3 * k + 2).toNat ≤ 6)
theorem rdR_at {R : eRow} {m t a b : Int} (hm : 0 ≤ m) : rdR R m t a b (3 * m).toNat = t ∧ rdR R m t a b (3 * m + 1).toNat = a ∧ rdR R m t a b (3 * m + 2).toNat = b ∧ ∀ j : Nat, (j : Int) < 3 * m → rdR R m t a b j = R j := by
  unfold rdR
  refine ⟨?_, ?_, fu_eq, fun j hj => ?_⟩
  · rw [fu_ne (by omega), fu_ne (by omega), fu_eq]
  · rw [fu_ne (by omega), fu_eq]
  · rw [fu_ne (by omega), fu_ne (by omega), fu_ne (by omega)]
theorem BtR_rd {R : eRow} {m t a b : Int} (hR : BtR R m) (hm : 0 ≤ m) (h1 : 0 ≤ t ∧ t ≤ 9999) (h2 : 0 ≤ a ∧ a ≤ 2) (h3 : 1 ≤ b ∧ b ≤ 6) : BtR (rdR R m t a b) (m + 1) := by
  intro k k0 k1
  obtain ⟨e0, e1, e2, e3⟩ := rdR_at (R := R) (t := t) (a := a) (b := b) hm
  by_cases q : k = m
  · subst q
    rw [e0, e1, e2]
    exact ⟨h1, h2, h3⟩
  · rw [e3 _ (by omega), e3 _ (by omega), e3 _ (by omega)]
    exact hR k k0 (by omega)
theorem tx_all {D : eD} (hT : Tx D) (n : Nat) : ∀ (p m : Int) (R : eRow), 0 ≤ p → p ≤ 60 → 0 ≤ m → 6 * m ≤ p → BtR R m → 0 ≤ (txF D n p m R).2.1 ∧ (txF D n p m R).2.1 ≤ 60 ∧ 0 ≤ (txF D n p m R).2.2.1 ∧ (txF D n p m R).2.2.1 ≤ 10 ∧ BtR (txF D n p m R).2.2.2 (txF D n p m R).2.2.1 := by
  induction n with
  | zero =>
    intro p m R h1 h2 h3 h4 h5
    exact ⟨h1, h2, h3, by show m ≤ 10; omega, h5⟩
  | succ n ih =>
    intro p m R h1 h2 h3 h4 h5
    have hT' := hT
    obtain ⟨b1, b2, b3⟩ := hT'
    obtain ⟨r1, r2, r3⟩ := rb_b hT h1 h2
    unfold txF
    by_cases q1 : (rbF D p).1 = 1
    · obtain ⟨r4, r5, r6, r7, r8⟩ := r3.resolve_left (by omega)
      have hB := BtR_rd h5 h3 r6 r7 r8
      simp only [if_pos q1]
      by_cases q2 : seeF D (rbF D p).2.1 44 44
      · have q2' := q2.1
        simp only [if_pos q2]
        exact ih ((rbF D p).2.1 + 1) (m + 1) _ (by omega) (by omega) (by omega) (by omega) hB
      · simp only [if_neg q2]
        exact ⟨by omega, r2, by omega, by omega, hB⟩
    · simp only [if_neg q1]
      exact ⟨by omega, r2, h3, by omega, h5⟩
def plsF (R : eRow) : Nat → Int → eRow → eRow
  | 0, _, F => F
  | n + 1, k, F => plsF R n (k + 1) (plnF F (R (3 * k).toNat) (R (3 * k + 1).toNat) (R (3 * k + 2).toNat))
def m151 (D : eD) : Int × eD :=
  if (txF D 11 0 0 (D 164)).1 = 0 then (-100 - (txF D 11 0 0 (D 164)).2.1, txD D (txF D 11 0 0 (D 164)).2.1 (txF D 11 0 0 (D 164)).2.2.1 (txF D 11 0 0 (D 164)).2.2.2)
  else (plsF (txF D 11 0 0 (D 164)).2.2.2 (txF D 11 0 0 (D 164)).2.2.1.toNat 0 (fu (D 159) 49 0) 49, setA (recD (txD D (txF D 11 0 0 (D 164)).2.1 (txF D 11 0 0 (D 164)).2.2.1 (txF D 11 0 0 (D 164)).2.2.2)) 159 (plsF (txF D 11 0 0 (D 164)).2.2.2 (txF D 11 0 0 (D 164)).2.2.1.toNat 0 (fu (D 159) 49 0)))
theorem pls_all {R : eRow} {m : Int} (hR : BtR R m) (hm : m ≤ 10) (n : Nat) : ∀ (k : Int) (F : eRow), 0 ≤ k → k + n = m → St F → F 49 ≤ k → St (plsF R n k F) ∧ plsF R n k F 49 ≤ m ∧ ∀ j, j < 49 ∨ 80 ≤ j → plsF R n k F j = F j := by
  induction n with
  | zero => exact fun k F h1 h2 h3 h4 => ⟨h3, by show F 49 ≤ m; omega, fun _ _ => rfl⟩
  | succ n ih =>
    intro k F h1 h2 h3 h4
    obtain ⟨g1, g2, g3⟩ := hR k h1 (by omega)
    have f49 : 0 ≤ F 49 ∧ F 49 ≤ 10 := h3.2.2.2.2.2.2.2.2.2.2.2.2.2.2.2.2.2.2.2.1
    have hS := St_pln (t := R (3 * k).toNat) (a := R (3 * k + 1).toNat) (b := R (3 * k + 2).toNat) h3 (Or.inl (by omega)) g1 g2 g3
    have e49 := pln_49 (F := F) (t := R (3 * k).toNat) (a := R (3 * k + 1).toNat) (b := R (3 * k + 2).toNat) f49
    obtain ⟨i1, i2, i3⟩ := ih (k + 1) _ (by omega) (by omega) hS (by rw [e49]; split <;> omega)
    exact ⟨i1, i2, fun j hj => (i3 j hj).trans (pln_ne f49 (Or.inl (by omega)) hj)⟩
section SPEC42
variable {S : List Int} {D E : eD} {h : eH} {Q : Option eV → eH → Prop} {v w x s p m t a b k : Int} {r j : Nat} {F R : eRow}
theorem c150a (hk0 : 0 ≤ k) (hk : k ≤ 10) {l1 : eV} (n : Nat) : ∀ (i w : Int), i + n = k → 0 ≤ i → (w = 0 ∨ w = 1) → ∃ (w' : Int) (l4 : eV), (w' = 0 ∨ w' = 1) ∧ (wp 150 17 [.inr 158, l1, .inl k, .inl w, .inl i] [] (hp S (txD D p m R)) Q ↔ wp 150 59 [.inr 158, l1, .inl k, .inl w', l4] [] (hp S (txD D p m R)) Q) := by
  have t1 : tg 158 = 8 := rfl
  have t2 : tg 164 = 100 := rfl
  have l3 : ln S 164 = 48 := rfl
  induction n with
  | zero =>
    intro i w hi i0 hw
    have h1 : ¬ i < k := by omega
    refine ⟨w, .inl i, hw, ?_⟩
    rw [s150_17]
    simp (disch := first | assumption | omega | decide | exact b2i_01 _ | (unfold lx; omega)) only [s150_19, s150_20, s150_23, s150_24, s150_27, s150_28, s150_31, s150_32, s150_34, s150_35, s150_36, s150_37, s150_40, s150_41, s150_42, s150_43, s150_44, s150_47, s150_48, s150_51, s150_52, s150_53, s150_56, kont_some, kont_none, w32_of, if_true, if_false, tdv, tmd, setA_eq, up_setA, rd_hi, Int.reduceToNat, if_neg (show ¬ (1 : Int) = 0 by decide), if_neg h1]
  | succ n ih =>
    intro i w hi i0 hw
    have h1 : i < k := by omega
    rcases hw with rfl | rfl
    · obtain ⟨w', l4, hw', e⟩ := ih (i + 1) 0 (by omega) (by omega) (Or.inl rfl)
      refine ⟨w', l4, hw', ?_⟩
      rw [s150_17, ← e]
      simp (disch := first | assumption | omega | decide | exact b2i_01 _ | (unfold lx; omega)) only [s150_19, s150_20, s150_23, s150_24, s150_27, s150_28, s150_31, s150_32, s150_34, s150_35, s150_36, s150_37, s150_40, s150_41, s150_42, s150_43, s150_44, s150_47, s150_48, s150_51, s150_52, s150_53, s150_56, kont_some, kont_none, w32_of, if_true, if_false, tdv, tmd, setA_eq, up_setA, rd_hi, Int.reduceToNat, if_neg (show ¬ (1 : Int) = 0 by decide), if_pos h1]
    · by_cases h2 : R (3 * i).toNat = R (3 * k).toNat
      · obtain ⟨w', l4, hw', e⟩ := ih (i + 1) 0 (by omega) (by omega) (Or.inl rfl)
        refine ⟨w', l4, hw', ?_⟩
        rw [s150_17, ← e]
        simp (disch := first | assumption | omega | decide | exact b2i_01 _ | (unfold lx; omega)) only [s150_19, s150_20, s150_23, s150_24, s150_27, s150_28, s150_31, s150_32, s150_34, s150_35, s150_36, s150_37, s150_40, s150_41, s150_42, s150_43, s150_44, s150_47, s150_48, s150_51, s150_52, s150_53, s150_56, kont_some, kont_none, w32_of, if_true, if_false, tdv, tmd, setA_eq, up_setA, rd_hi, Int.reduceToNat, if_neg (show ¬ (1 : Int) = 0 by decide), Nat.reduceAdd, if_pos h1, tx_164, if_pos h2]
      · obtain ⟨w', l4, hw', e⟩ := ih (i + 1) 1 (by omega) (by omega) (Or.inr rfl)
        refine ⟨w', l4, hw', ?_⟩
        rw [s150_17, ← e]
        simp (disch := first | assumption | omega | decide | exact b2i_01 _ | (unfold lx; omega)) only [s150_19, s150_20, s150_23, s150_24, s150_27, s150_28, s150_31, s150_32, s150_34, s150_35, s150_36, s150_37, s150_40, s150_41, s150_42, s150_43, s150_44, s150_47, s150_48, s150_51, s150_52, s150_53, s150_56, kont_some, kont_none, w32_of, if_true, if_false, tdv, tmd, setA_eq, up_setA, rd_hi, Int.reduceToNat, if_neg (show ¬ (1 : Int) = 0 by decide), Nat.reduceAdd, if_pos h1, tx_164, if_neg h2]
theorem c150b (hm : m ≤ 10) (n : Nat) : ∀ (k u : Int) (l3 l4 : eV), k + n = m → 0 ≤ k → 0 ≤ u → u ≤ k → ∃ u' : Int, (0 ≤ u' ∧ u' ≤ m) ∧ (wp 150 4 [.inr 158, .inl u, .inl k, l3, l4] [] (hp S (txD D p m R)) Q ↔ Q (some (.inl u')) (hp S (txD D p m R))) := by
  have t1 : tg 158 = 8 := rfl
  induction n with
  | zero =>
    intro k u l3 l4 hk k0 u0 u1
    have h1 : ¬ k < m := by omega
    refine ⟨u, by omega, ?_⟩
    rw [s150_4]
    simp (disch := first | assumption | omega | decide | exact b2i_01 _ | (unfold lx; omega)) only [s150_5, s150_6, s150_9, s150_12, s150_13, s150_14, s150_15, s150_77, s150_78, kont_some, kont_none, w32_of, if_true, if_false, tdv, tmd, setA_eq, up_setA, rd_hi, Int.reduceToNat, if_neg (show ¬ (1 : Int) = 0 by decide), tx_10, if_neg h1]
  | succ n ih =>
    intro k u l3 l4 hk k0 u0 u1
    have h1 : k < m := by omega
    obtain ⟨w', l4', hw', e⟩ := c150a (S := S) (D := D) (Q := Q) (p := p) (m := m) (R := R) (l1 := .inl u) k0 (by omega) k.toNat 0 1 (by omega) (by omega) (Or.inr rfl)
    have ea : wp 150 4 [.inr 158, .inl u, .inl k, l3, l4] [] (hp S (txD D p m R)) Q ↔ wp 150 17 [.inr 158, .inl u, .inl k, .inl 1, .inl 0] [] (hp S (txD D p m R)) Q := by
      rw [s150_4]
      simp (disch := first | assumption | omega | decide | exact b2i_01 _ | (unfold lx; omega)) only [s150_5, s150_6, s150_9, s150_12, s150_13, s150_14, s150_15, kont_some, kont_none, w32_of, if_true, if_false, tdv, tmd, setA_eq, up_setA, rd_hi, Int.reduceToNat, if_neg (show ¬ (1 : Int) = 0 by decide), tx_10, if_pos h1]
    rcases hw' with rfl | rfl
    · obtain ⟨u', hu, e2⟩ := ih (k + 1) u (.inl 0) l4' (by omega) (by omega) u0 (by omega)
      refine ⟨u', hu, ?_⟩
      rw [ea, e, ← e2]
      simp (disch := first | assumption | omega | decide | exact b2i_01 _ | (unfold lx; omega)) only [s150_59, s150_60, s150_61, s150_64, s150_65, s150_68, s150_69, s150_70, s150_71, s150_74, kont_some, kont_none, w32_of, if_true, if_false, tdv, tmd, setA_eq, up_setA, rd_hi, Int.reduceToNat, if_neg (show ¬ (1 : Int) = 0 by decide), Int.add_zero]
    · obtain ⟨u', hu, e2⟩ := ih (k + 1) (u + 1) (.inl 1) l4' (by omega) (by omega) (by omega) (by omega)
      refine ⟨u', hu, ?_⟩
      rw [ea, e, ← e2]
      simp (disch := first | assumption | omega | decide | exact b2i_01 _ | (unfold lx; omega)) only [s150_59, s150_60, s150_61, s150_64, s150_65, s150_68, s150_69, s150_70, s150_71, s150_74, kont_some, kont_none, w32_of, if_true, if_false, tdv, tmd, setA_eq, up_setA, rd_hi, Int.reduceToNat, if_neg (show ¬ (1 : Int) = 0 by decide)]
theorem c150 (hm0 : 0 ≤ m) (hm : m ≤ 10) : ∃ u' : Int, (0 ≤ u' ∧ u' ≤ m) ∧ (wp 150 0 [.inr 158, .inr 0, .inr 0, .inr 0, .inr 0] [] (hp S (txD D p m R)) Q ↔ Q (some (.inl u')) (hp S (txD D p m R))) := by
  obtain ⟨u', hu, e⟩ := c150b (S := S) (D := D) (Q := Q) (p := p) (m := m) (R := R) hm m.toNat 0 0 (.inr 0) (.inr 0) (by omega) (by omega) (by omega) (by omega)
  refine ⟨u', hu, ?_⟩
  rw [← e]
  simp (disch := first | assumption | omega | decide | exact b2i_01 _ | (unfold lx; omega)) only [s150_0, s150_1, s150_2, s150_3, kont_some, kont_none, w32_of, if_true, if_false, tdv, tmd, setA_eq, up_setA, rd_hi, Int.reduceToNat, if_neg (show ¬ (1 : Int) = 0 by decide)]
end SPEC42
