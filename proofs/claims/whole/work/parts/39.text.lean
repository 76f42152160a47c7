/-! the check's own reading of the text: 158 (7 length, 8 spot, 10 readMany), 163 text, 164 read -/
def txD (D : eD) (p m : Int) (R : eRow) : eD := setA (setA D 158 (fu (fu (D 158) 8 p) 10 m)) 164 R
abbrev seeF (D : eD) (p a b : Int) : Prop := p < D 158 7 ∧ a ≤ D 163 p.toNat ∧ D 163 p.toNat ≤ b
def nlF (D : eD) : Nat → Int → Int → Int × Int
  | 0, v, p => (v, p)
  | n + 1, v, p => if 0 < v ∧ seeF D p 48 57 then nlF D n (10 * v + (D 163 p.toNat - 48)) (p + 1) else (v, p)
def nuF (D : eD) (p : Int) : Int × Int := if seeF D p 48 57 then nlF D 3 (D 163 p.toNat - 48) (p + 1) else (-5, p)
/-- a boat: whether it is one, where the reading stands then, tick, kind, load -/
def rbF (D : eD) (p : Int) : Int × Int × Int × Int × Int :=
  if (nuF D p).1 < 0 then (0, (nuF D p).2, 0, 0, 0)
  else if ¬ seeF D (nuF D p).2 58 58 then (0, (nuF D p).2, 0, 0, 0)
  else if ¬ seeF D ((nuF D p).2 + 1) 48 50 then (0, (nuF D p).2 + 1, 0, 0, 0)
  else if ¬ seeF D ((nuF D p).2 + 1 + 1) 120 120 then (0, (nuF D p).2 + 1 + 1, 0, 0, 0)
  else if ¬ seeF D ((nuF D p).2 + 1 + 1 + 1) 49 54 then (0, (nuF D p).2 + 1 + 1 + 1, 0, 0, 0)
  else (1, (nuF D p).2 + 1 + 1 + 1 + 1, (nuF D p).1, D 163 ((nuF D p).2 + 1).toNat - 48, D 163 ((nuF D p).2 + 1 + 1 + 1).toNat - 48)
/-- the text within its bounds -/
def Tx (D : eD) : Prop := 0 ≤ D 158 7 ∧ D 158 7 ≤ 60 ∧ ∀ j, 0 ≤ D 163 j ∧ D 163 j < 65536
section SPEC39
variable {S : List Int} {D : eD} {h : eH} {Q : Option eV → eH → Prop} {v w x s p m t a b k : Int} {r j : Nat} {F R : eRow}
theorem tx_7 : txD D p m R 158 7 = D 158 7 := by unfold txD; rw [setA_ne (by decide), setA_eq, fu_ne (by decide), fu_ne (by decide)]
theorem tx_8 : txD D p m R 158 8 = p := by unfold txD; rw [setA_ne (by decide), setA_eq, fu_ne (by decide), fu_eq]
theorem tx_10 : txD D p m R 158 10 = m := by unfold txD; rw [setA_ne (by decide), setA_eq, fu_eq]
theorem tx_3 : txD D p m R 158 3 = D 158 3 := by unfold txD; rw [setA_ne (by decide), setA_eq, fu_ne (by decide), fu_ne (by decide)]
theorem tx_163 : txD D p m R 163 = D 163 := by unfold txD; rw [setA_ne (by decide), setA_ne (by decide)]
theorem tx_159 : txD D p m R 159 = D 159 := by unfold txD; rw [setA_ne (by decide), setA_ne (by decide)]
theorem tx_164 : txD D p m R 164 = R := setA_eq
theorem tx_u8 : up (txD D p m R) 158 8 v = txD D v m R := by
  unfold txD
  rw [up_as, setA_ne (by decide), setA_eq, setA_comm (by decide), setA_setA]
  congr 2
  funext i
  unfold fu
  by_cases h1 : i = 8
  · simp [h1]
  · simp [h1]
theorem tx_u10 : up (txD D p m R) 158 10 v = txD D p v R := by
  unfold txD
  rw [up_as, setA_ne (by decide), setA_eq, setA_comm (by decide), setA_setA, fu_fu]
theorem tx_u164 : up (txD D p m R) 164 j v = txD D p m (fu R j v) := up_setA
theorem c144 (hT : Tx D) (h1 : 0 ≤ p) (h2 : p ≤ 60) : wp 144 0 [.inr 158, .inl a, .inl b] [] (hp S (txD D p m R)) Q ↔ Q (some (.inl (b2i (seeF D p a b)))) (hp S (txD D p m R)) := by
  have t1 : tg 158 = 8 := rfl
  have t2 : tg 163 = 101 := rfl
  have l3 : ln S 163 = 60 := rfl
  obtain ⟨b1, b2, b3⟩ := hT
  by_cases h3 : p < D 158 7
  · by_cases h4 : a ≤ D 163 p.toNat ∧ D 163 p.toNat ≤ b
    · rw [b2i_t ⟨h3, h4⟩]
      simp (disch := first | assumption | omega | decide | exact b2i_01 _ | (unfold lx; omega)) only [s144_0, s144_1, s144_4, s144_5, s144_8, s144_11, s144_12, s144_15, s144_16, s144_19, s144_20, s144_21, s144_22, s144_25, s144_28, s144_29, s144_32, s144_33, kont_some, kont_none, w32_of, if_true, if_false, tdv, tmd, setA_eq, up_setA, rd_hi, Int.reduceToNat, if_neg (show ¬ (1 : Int) = 0 by decide), Nat.reduceAdd, tx_7, tx_8, tx_163, if_pos h3, c99, b2i_t h4]
    · rw [b2i_f (fun q => h4 q.2)]
      simp (disch := first | assumption | omega | decide | exact b2i_01 _ | (unfold lx; omega)) only [s144_0, s144_1, s144_4, s144_5, s144_8, s144_11, s144_12, s144_15, s144_16, s144_19, s144_20, s144_21, s144_22, s144_25, s144_28, s144_29, s144_32, s144_33, kont_some, kont_none, w32_of, if_true, if_false, tdv, tmd, setA_eq, up_setA, rd_hi, Int.reduceToNat, if_neg (show ¬ (1 : Int) = 0 by decide), Nat.reduceAdd, tx_7, tx_8, tx_163, if_pos h3, c99, b2i_f h4]
  · rw [b2i_f (fun q => h3 q.1)]
    simp (disch := first | assumption | omega | decide | exact b2i_01 _ | (unfold lx; omega)) only [s144_0, s144_1, s144_4, s144_5, s144_8, s144_11, s144_12, s144_15, s144_16, s144_19, s144_20, s144_21, s144_22, s144_25, s144_28, s144_29, s144_32, s144_33, kont_some, kont_none, w32_of, if_true, if_false, tdv, tmd, setA_eq, up_setA, rd_hi, Int.reduceToNat, if_neg (show ¬ (1 : Int) = 0 by decide), Nat.reduceAdd, tx_7, tx_8, if_neg h3]
theorem c145 (hT : Tx D) (h1 : 0 ≤ p) (h2 : p ≤ 60) : wp 145 0 [.inr 158, .inl a, .inr 0] [] (hp S (txD D p m R)) Q ↔ Q (some (.inl (b2i (seeF D p a a)))) (hp S (txD D (p + b2i (seeF D p a a)) m R)) := by
  have t1 : tg 158 = 8 := rfl
  by_cases h3 : seeF D p a a
  · simp (disch := first | assumption | omega | decide | exact b2i_01 _ | (unfold lx; omega)) only [s145_0, s145_1, s145_2, s145_3, s145_6, s145_7, s145_8, s145_9, s145_12, s145_13, s145_16, s145_17, s145_20, s145_21, s145_22, s145_25, s145_26, kont_some, kont_none, w32_of, if_true, if_false, tdv, tmd, setA_eq, up_setA, rd_hi, Int.reduceToNat, if_neg (show ¬ (1 : Int) = 0 by decide), Nat.reduceAdd, c144, b2i_t h3, tx_8, tx_u8]
  · simp (disch := first | assumption | omega | decide | exact b2i_01 _ | (unfold lx; omega)) only [s145_0, s145_1, s145_2, s145_3, s145_6, s145_7, s145_8, s145_9, s145_12, s145_13, s145_16, s145_17, s145_20, s145_21, s145_22, s145_25, s145_26, kont_some, kont_none, w32_of, if_true, if_false, tdv, tmd, setA_eq, up_setA, rd_hi, Int.reduceToNat, if_neg (show ¬ (1 : Int) = 0 by decide), Nat.reduceAdd, c144, b2i_f h3, tx_8, tx_u8, Int.add_zero]
theorem c146 (hT : Tx D) (h1 : 0 ≤ p) (h2 : p ≤ 60) : wp 146 0 [.inr 158, .inl a, .inl b] [] (hp S (txD D p m R)) Q ↔ Q (some (.inl (if seeF D p a b then D 163 p.toNat - 48 else -5))) (hp S (txD D (if seeF D p a b then p + 1 else p) m R)) := by
  have t1 : tg 158 = 8 := rfl
  have t2 : tg 163 = 101 := rfl
  have l3 : ln S 163 = 60 := rfl
  have hT' := hT
  obtain ⟨b1, b2, b3⟩ := hT'
  have b4 := b3 p.toNat
  have e : p + 1 - 1 = p := by omega
  by_cases h3 : seeF D p a b
  · have h4 := h3.1
    rw [if_pos h3, if_pos h3]
    simp (disch := first | assumption | omega | decide | exact b2i_01 _ | (unfold lx; omega)) only [s146_0, s146_1, s146_2, s146_3, s146_6, s146_9, s146_11, s146_12, s146_13, s146_14, s146_17, s146_18, s146_19, s146_22, s146_23, s146_26, s146_27, s146_30, s146_31, s146_32, s146_33, s146_35, s146_36, kont_some, kont_none, w32_of, if_true, if_false, tdv, tmd, setA_eq, up_setA, rd_hi, Int.reduceToNat, if_neg (show ¬ (1 : Int) = 0 by decide), Nat.reduceAdd, c144, b2i_t h3, tx_8, tx_u8, tx_163, e]
  · rw [if_neg h3, if_neg h3]
    simp (disch := first | assumption | omega | decide | exact b2i_01 _ | (unfold lx; omega)) only [s146_0, s146_1, s146_2, s146_3, s146_6, s146_9, s146_11, s146_12, s146_13, s146_14, s146_17, s146_18, s146_19, s146_22, s146_23, s146_26, s146_27, s146_30, s146_31, s146_32, s146_33, s146_35, s146_36, kont_some, kont_none, w32_of, if_true, if_false, tdv, tmd, setA_eq, up_setA, rd_hi, Int.reduceToNat, if_neg (show ¬ (1 : Int) = 0 by decide), Nat.reduceAdd, c144, b2i_f h3]
theorem nl_b (hT : Tx D) (n : Nat) : ∀ (v p : Int), 0 ≤ p → p ≤ 60 → 0 ≤ v → p ≤ (nlF D n v p).2 ∧ (nlF D n v p).2 ≤ 60 ∧ 0 ≤ (nlF D n v p).1 := by
  obtain ⟨b1, b2, b3⟩ := hT
  induction n with
  | zero => exact fun v p h1 h2 h3 => ⟨Int.le_refl _, h2, h3⟩
  | succ n ih =>
    intro v p h1 h2 h3
    unfold nlF
    split
    · next h =>
      obtain ⟨h4, h5, h6, h7⟩ := h
      obtain ⟨i1, i2, i3⟩ := ih (10 * v + (D 163 p.toNat - 48)) (p + 1) (by omega) (by omega) (by omega)
      exact ⟨by omega, i2, i3⟩
    · exact ⟨Int.le_refl _, h2, h3⟩
theorem nu_b (hT : Tx D) (h1 : 0 ≤ p) (h2 : p ≤ 60) : p ≤ (nuF D p).2 ∧ (nuF D p).2 ≤ 60 ∧ (0 ≤ (nuF D p).1 → p + 1 ≤ (nuF D p).2) := by
  have hT' := hT
  obtain ⟨b1, b2, b3⟩ := hT'
  unfold nuF
  split
  · next h =>
    obtain ⟨h4, h5, h6⟩ := h
    obtain ⟨i1, i2, i3⟩ := nl_b hT 3 (D 163 p.toNat - 48) (p + 1) (by omega) (by omega) (by omega)
    exact ⟨by omega, i2, fun _ => i1⟩
  · exact ⟨Int.le_refl _, h2, fun h => absurd h (show ¬ (0 : Int) ≤ -5 by decide)⟩
theorem c147a (hT : Tx D) (n : Nat) : ∀ (k v p : Int), k = 4 - n → n ≤ 3 → 0 ≤ p → p ≤ 60 → -5 ≤ v → v + 1 ≤ 1000000 / (if n = 0 then 1 else if n = 1 then 10 else if n = 2 then 100 else 1000) → ∃ l2, (wp 147 11 [.inr 158, .inl v, .inl k] [] (hp S (txD D p m R)) Q ↔ wp 147 51 [.inr 158, .inl (nlF D n v p).1, l2] [] (hp S (txD D (nlF D n v p).2 m R)) Q) := by
  have t1 : tg 158 = 8 := rfl
  have hT' := hT
  obtain ⟨b1, b2, b3⟩ := hT'
  induction n with
  | zero =>
    intro k v p hk hn h1 h2 h3 h4
    have hk' : ¬ k < 4 := by omega
    refine ⟨.inl k, ?_⟩
    rw [s147_11]
    simp (disch := first | assumption | omega | decide | exact b2i_01 _ | (unfold lx; omega)) only [s147_12, s147_13, s147_16, s147_17, s147_20, s147_21, s147_23, s147_25, s147_28, s147_31, s147_33, s147_34, s147_35, s147_36, s147_38, s147_40, s147_43, s147_44, s147_45, s147_48, kont_some, kont_none, w32_of, if_true, if_false, tdv, tmd, setA_eq, up_setA, rd_hi, Int.reduceToNat, if_neg (show ¬ (1 : Int) = 0 by decide), if_neg hk', nlF]
  | succ n ih =>
    intro k v p hk hn h1 h2 h3 h4
    have hk' : k < 4 := by omega
    unfold nlF
    by_cases hv : 0 < v
    · by_cases hs : seeF D p 48 57
      · have hs' := hs
        obtain ⟨s1, s2, s3⟩ := hs'
        obtain ⟨l2, e⟩ := ih (k + 1) (10 * v + (D 163 p.toNat - 48)) (p + 1) (by omega) (by omega) (by omega) (by omega) (by omega) (by
          rcases (show n = 0 ∨ n = 1 ∨ n = 2 by omega) with rfl | rfl | rfl <;> simp at h4 ⊢ <;> omega)
        have hvb : v ≤ 1000000 := by
          rcases (show n = 0 ∨ n = 1 ∨ n = 2 by omega) with rfl | rfl | rfl <;> simp at h4 <;> omega
        refine ⟨l2, ?_⟩
        rw [if_pos ⟨hv, hs⟩, s147_11]
        simp (disch := first | assumption | omega | decide | exact b2i_01 _ | (unfold lx; omega)) only [s147_12, s147_13, s147_16, s147_17, s147_20, s147_21, s147_23, s147_25, s147_28, s147_31, s147_33, s147_34, s147_35, s147_36, s147_38, s147_40, s147_43, s147_44, s147_45, s147_48, kont_some, kont_none, w32_of, if_true, if_false, tdv, tmd, setA_eq, up_setA, rd_hi, Int.reduceToNat, if_neg (show ¬ (1 : Int) = 0 by decide), if_pos hk', if_pos hv, c144, c146, b2i_t hs, if_pos hs]
        exact e
      · refine ⟨.inl k, ?_⟩
        rw [if_neg (fun q => hs q.2), s147_11]
        simp (disch := first | assumption | omega | decide | exact b2i_01 _ | (unfold lx; omega)) only [s147_12, s147_13, s147_16, s147_17, s147_20, s147_21, s147_23, s147_25, s147_28, s147_31, s147_33, s147_34, s147_35, s147_36, s147_38, s147_40, s147_43, s147_44, s147_45, s147_48, kont_some, kont_none, w32_of, if_true, if_false, tdv, tmd, setA_eq, up_setA, rd_hi, Int.reduceToNat, if_neg (show ¬ (1 : Int) = 0 by decide), if_pos hk', if_pos hv, c144, b2i_f hs]
    · refine ⟨.inl k, ?_⟩
      rw [if_neg (fun q => hv q.1), s147_11]
      simp (disch := first | assumption | omega | decide | exact b2i_01 _ | (unfold lx; omega)) only [s147_12, s147_13, s147_16, s147_17, s147_20, s147_21, s147_23, s147_25, s147_28, s147_31, s147_33, s147_34, s147_35, s147_36, s147_38, s147_40, s147_43, s147_44, s147_45, s147_48, kont_some, kont_none, w32_of, if_true, if_false, tdv, tmd, setA_eq, up_setA, rd_hi, Int.reduceToNat, if_neg (show ¬ (1 : Int) = 0 by decide), if_pos hk', if_neg hv]
theorem c147 (hT : Tx D) (h1 : 0 ≤ p) (h2 : p ≤ 60) : wp 147 0 [.inr 158, .inr 0, .inr 0] [] (hp S (txD D p m R)) Q ↔ Q (some (.inl (nuF D p).1)) (hp S (txD D (nuF D p).2 m R)) := by
  have t1 : tg 158 = 8 := rfl
  have hT' := hT
  obtain ⟨b1, b2, b3⟩ := hT'
  unfold nuF
  by_cases hs : seeF D p 48 57
  · have hs' := hs
    obtain ⟨s1, s2, s3⟩ := hs'
    rw [if_pos hs]
    obtain ⟨l2, e⟩ := c147a (S := S) (D := D) (Q := Q) (m := m) (R := R) hT 3 1 (D 163 p.toNat - 48) (p + 1) (by omega) (by omega) (by omega) (by omega) (by omega) (by simp; omega)
    have ea : wp 147 0 [.inr 158, .inr 0, .inr 0] [] (hp S (txD D p m R)) Q ↔ wp 147 11 [.inr 158, .inl (D 163 p.toNat - 48), .inl 1] [] (hp S (txD D (p + 1) m R)) Q := by
      simp (disch := first | assumption | omega | decide | exact b2i_01 _ | (unfold lx; omega)) only [s147_0, s147_1, s147_3, s147_5, s147_8, s147_9, s147_10, kont_some, kont_none, w32_of, if_true, if_false, tdv, tmd, setA_eq, up_setA, rd_hi, Int.reduceToNat, if_neg (show ¬ (1 : Int) = 0 by decide), c146, if_pos hs]
    rw [ea, e]
    simp (disch := first | assumption | omega | decide | exact b2i_01 _ | (unfold lx; omega)) only [s147_51, s147_52, kont_some, kont_none, w32_of, if_true, if_false, tdv, tmd, setA_eq, up_setA, rd_hi, Int.reduceToNat, if_neg (show ¬ (1 : Int) = 0 by decide)]
  · rw [if_neg hs]
    have ea : wp 147 0 [.inr 158, .inr 0, .inr 0] [] (hp S (txD D p m R)) Q ↔ wp 147 11 [.inr 158, .inl (-5), .inl 1] [] (hp S (txD D p m R)) Q := by
      simp (disch := first | assumption | omega | decide | exact b2i_01 _ | (unfold lx; omega)) only [s147_0, s147_1, s147_3, s147_5, s147_8, s147_9, s147_10, kont_some, kont_none, w32_of, if_true, if_false, tdv, tmd, setA_eq, up_setA, rd_hi, Int.reduceToNat, if_neg (show ¬ (1 : Int) = 0 by decide), c146, if_neg hs]
    rw [ea, s147_11]
    simp (disch := first | assumption | omega | decide | exact b2i_01 _ | (unfold lx; omega)) only [s147_12, s147_13, s147_16, s147_17, s147_51, s147_52, kont_some, kont_none, w32_of, if_true, if_false, tdv, tmd, setA_eq, up_setA, rd_hi, Int.reduceToNat, if_neg (show ¬ (1 : Int) = 0 by decide), if_pos (show (1 : Int) < 4 by decide), if_neg (show ¬ (0 : Int) < -5 by decide)]
theorem c148 (hT : Tx D) (h1 : 0 ≤ p) (h2 : p ≤ 60) (hm0 : 0 ≤ m) (hm : m ≤ 15) : wp 148 0 [.inr 158, .inr 0, .inr 0, .inr 0] [] (hp S (txD D p m R)) Q ↔ Q (some (.inl (rbF D p).1)) (hp S (txD D (rbF D p).2.1 (m + (rbF D p).1) (if (rbF D p).1 = 1 then fu (fu (fu R (3 * m).toNat (rbF D p).2.2.1) (3 * m + 1).toNat (rbF D p).2.2.2.1) (3 * m + 2).toNat (rbF D p).2.2.2.2 else R))) := by
  have t1 : tg 158 = 8 := rfl
  have t2 : tg 164 = 100 := rfl
  have l3 : ln S 164 = 48 := rfl
  have hT' := hT
  obtain ⟨b1, b2, b3⟩ := hT'
  obtain ⟨n1, n2, n3⟩ := nu_b hT h1 h2
  have n1' : 0 ≤ (nuF D p).2 := by omega
  have z01 : ¬ (0 : Int) = 1 := by decide
  unfold rbF
  by_cases q1 : (nuF D p).1 < 0
  · simp only [if_pos q1]
    simp (disch := first | assumption | omega | decide | exact b2i_01 _ | (unfold lx; omega)) only [s148_0, s148_1, s148_4, s148_5, s148_6, s148_9, s148_10, s148_12, s148_15, s148_18, s148_19, s148_20, s148_21, s148_23, s148_25, s148_28, s148_29, s148_30, s148_33, s148_34, s148_36, s148_39, s148_42, s148_43, s148_44, s148_45, s148_47, s148_49, s148_52, s148_53, s148_54, s148_57, s148_58, s148_59, s148_60, s148_63, s148_64, s148_65, s148_68, s148_69, s148_70, s148_71, s148_72, s148_75, s148_76, s148_77, s148_80, s148_81, s148_82, s148_83, s148_84, s148_85, s148_86, s148_89, s148_90, s148_91, s148_94, s148_95, s148_96, s148_97, s148_98, s148_99, s148_100, s148_101, s148_104, s148_105, s148_106, s148_109, s148_110, kont_some, kont_none, w32_of, if_true, if_false, tdv, tmd, setA_eq, up_setA, rd_hi, Int.reduceToNat, if_neg (show ¬ (1 : Int) = 0 by decide), c147, if_pos q1, if_neg z01, Int.add_zero]
  simp only [if_neg q1]
  by_cases q2 : seeF D (nuF D p).2 58 58
  rotate_left
  · simp only [if_pos q2]
    simp (disch := first | assumption | omega | decide | exact b2i_01 _ | (unfold lx; omega)) only [s148_0, s148_1, s148_4, s148_5, s148_6, s148_9, s148_10, s148_12, s148_15, s148_18, s148_19, s148_20, s148_21, s148_23, s148_25, s148_28, s148_29, s148_30, s148_33, s148_34, s148_36, s148_39, s148_42, s148_43, s148_44, s148_45, s148_47, s148_49, s148_52, s148_53, s148_54, s148_57, s148_58, s148_59, s148_60, s148_63, s148_64, s148_65, s148_68, s148_69, s148_70, s148_71, s148_72, s148_75, s148_76, s148_77, s148_80, s148_81, s148_82, s148_83, s148_84, s148_85, s148_86, s148_89, s148_90, s148_91, s148_94, s148_95, s148_96, s148_97, s148_98, s148_99, s148_100, s148_101, s148_104, s148_105, s148_106, s148_109, s148_110, kont_some, kont_none, w32_of, if_true, if_false, tdv, tmd, setA_eq, up_setA, rd_hi, Int.reduceToNat, if_neg (show ¬ (1 : Int) = 0 by decide), c147, if_neg q1, c145, b2i_f q2, if_neg z01, Int.add_zero]
  have q2' := q2.1
  simp only [if_neg (not_not_intro q2)]
  have p1 : (nuF D p).2 + 1 ≤ 60 := by omega
  have p1' : 0 ≤ (nuF D p).2 + 1 := by omega
  by_cases q3 : seeF D ((nuF D p).2 + 1) 48 50
  rotate_left
  · simp only [if_pos q3]
    simp (disch := first | assumption | omega | decide | exact b2i_01 _ | (unfold lx; omega)) only [s148_0, s148_1, s148_4, s148_5, s148_6, s148_9, s148_10, s148_12, s148_15, s148_18, s148_19, s148_20, s148_21, s148_23, s148_25, s148_28, s148_29, s148_30, s148_33, s148_34, s148_36, s148_39, s148_42, s148_43, s148_44, s148_45, s148_47, s148_49, s148_52, s148_53, s148_54, s148_57, s148_58, s148_59, s148_60, s148_63, s148_64, s148_65, s148_68, s148_69, s148_70, s148_71, s148_72, s148_75, s148_76, s148_77, s148_80, s148_81, s148_82, s148_83, s148_84, s148_85, s148_86, s148_89, s148_90, s148_91, s148_94, s148_95, s148_96, s148_97, s148_98, s148_99, s148_100, s148_101, s148_104, s148_105, s148_106, s148_109, s148_110, kont_some, kont_none, w32_of, if_true, if_false, tdv, tmd, setA_eq, up_setA, rd_hi, Int.reduceToNat, if_neg (show ¬ (1 : Int) = 0 by decide), c147, if_neg q1, c145, b2i_t q2, c146, if_neg q3, if_pos (show (-5 : Int) < 0 by decide), if_neg z01, Int.add_zero]
  have q3' := q3.1
  have q3a := q3.2.1
  have d3 : ¬ D 163 ((nuF D p).2 + 1).toNat - 48 < 0 := by omega
  simp only [if_neg (not_not_intro q3)]
  have p2 : (nuF D p).2 + 1 + 1 ≤ 60 := by omega
  have p2' : 0 ≤ (nuF D p).2 + 1 + 1 := by omega
  by_cases q4 : seeF D ((nuF D p).2 + 1 + 1) 120 120
  rotate_left
  · simp only [if_pos q4]
    simp (disch := first | assumption | omega | decide | exact b2i_01 _ | (unfold lx; omega)) only [s148_0, s148_1, s148_4, s148_5, s148_6, s148_9, s148_10, s148_12, s148_15, s148_18, s148_19, s148_20, s148_21, s148_23, s148_25, s148_28, s148_29, s148_30, s148_33, s148_34, s148_36, s148_39, s148_42, s148_43, s148_44, s148_45, s148_47, s148_49, s148_52, s148_53, s148_54, s148_57, s148_58, s148_59, s148_60, s148_63, s148_64, s148_65, s148_68, s148_69, s148_70, s148_71, s148_72, s148_75, s148_76, s148_77, s148_80, s148_81, s148_82, s148_83, s148_84, s148_85, s148_86, s148_89, s148_90, s148_91, s148_94, s148_95, s148_96, s148_97, s148_98, s148_99, s148_100, s148_101, s148_104, s148_105, s148_106, s148_109, s148_110, kont_some, kont_none, w32_of, if_true, if_false, tdv, tmd, setA_eq, up_setA, rd_hi, Int.reduceToNat, if_neg (show ¬ (1 : Int) = 0 by decide), c147, if_neg q1, c145, b2i_t q2, c146, if_pos q3, if_neg d3, b2i_f q4, if_neg z01, Int.add_zero]
  have q4' := q4.1
  simp only [if_neg (not_not_intro q4)]
  have p3 : (nuF D p).2 + 1 + 1 + 1 ≤ 60 := by omega
  have p3' : 0 ≤ (nuF D p).2 + 1 + 1 + 1 := by omega
  by_cases q5 : seeF D ((nuF D p).2 + 1 + 1 + 1) 49 54
  rotate_left
  · simp only [if_pos q5]
    simp (disch := first | assumption | omega | decide | exact b2i_01 _ | (unfold lx; omega)) only [s148_0, s148_1, s148_4, s148_5, s148_6, s148_9, s148_10, s148_12, s148_15, s148_18, s148_19, s148_20, s148_21, s148_23, s148_25, s148_28, s148_29, s148_30, s148_33, s148_34, s148_36, s148_39, s148_42, s148_43, s148_44, s148_45, s148_47, s148_49, s148_52, s148_53, s148_54, s148_57, s148_58, s148_59, s148_60, s148_63, s148_64, s148_65, s148_68, s148_69, s148_70, s148_71, s148_72, s148_75, s148_76, s148_77, s148_80, s148_81, s148_82, s148_83, s148_84, s148_85, s148_86, s148_89, s148_90, s148_91, s148_94, s148_95, s148_96, s148_97, s148_98, s148_99, s148_100, s148_101, s148_104, s148_105, s148_106, s148_109, s148_110, kont_some, kont_none, w32_of, if_true, if_false, tdv, tmd, setA_eq, up_setA, rd_hi, Int.reduceToNat, if_neg (show ¬ (1 : Int) = 0 by decide), c147, if_neg q1, c145, b2i_t q2, c146, if_pos q3, if_neg d3, b2i_t q4, if_neg q5, if_pos (show (-5 : Int) < 0 by decide), if_neg z01, Int.add_zero]
  have q5a := q5.2.1
  have d5 : ¬ D 163 ((nuF D p).2 + 1 + 1 + 1).toNat - 48 < 0 := by omega
  simp only [if_neg (not_not_intro q5)]
  simp (disch := first | assumption | omega | decide | exact b2i_01 _ | (unfold lx; omega)) only [s148_0, s148_1, s148_4, s148_5, s148_6, s148_9, s148_10, s148_12, s148_15, s148_18, s148_19, s148_20, s148_21, s148_23, s148_25, s148_28, s148_29, s148_30, s148_33, s148_34, s148_36, s148_39, s148_42, s148_43, s148_44, s148_45, s148_47, s148_49, s148_52, s148_53, s148_54, s148_57, s148_58, s148_59, s148_60, s148_63, s148_64, s148_65, s148_68, s148_69, s148_70, s148_71, s148_72, s148_75, s148_76, s148_77, s148_80, s148_81, s148_82, s148_83, s148_84, s148_85, s148_86, s148_89, s148_90, s148_91, s148_94, s148_95, s148_96, s148_97, s148_98, s148_99, s148_100, s148_101, s148_104, s148_105, s148_106, s148_109, s148_110, kont_some, kont_none, w32_of, if_true, if_false, tdv, tmd, setA_eq, up_setA, rd_hi, Int.reduceToNat, if_neg (show ¬ (1 : Int) = 0 by decide), Nat.reduceAdd, c147, if_neg q1, c145, b2i_t q2, c146, if_pos q3, if_neg d3, b2i_t q4, if_pos q5, if_neg d5, tx_10, tx_u10, tx_u164]
end SPEC39
