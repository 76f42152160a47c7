/-! the check's own reading, on -/
theorem nl_v {D : eD} (n : Nat) : ∀ (v p : Int), n ≤ 3 → 0 ≤ v → v + 1 ≤ 10000 / (if n = 0 then 1 else if n = 1 then 10 else if n = 2 then 100 else 1000) → (nlF D n v p).1 ≤ 9999 := by
  induction n with
  | zero => intro v p _ h1 h2; simp at h2; show v ≤ 9999; omega
  | succ n ih =>
    intro v p hn h1 h2
    unfold nlF
    split
    · next h =>
      obtain ⟨h4, h5, h6, h7⟩ := h
      refine ih _ _ (by omega) (by omega) ?_
      rcases (show n = 0 ∨ n = 1 ∨ n = 2 by omega) with rfl | rfl | rfl <;> simp at h2 ⊢ <;> omega
    · show v ≤ 9999
      rcases (show n = 0 ∨ n = 1 ∨ n = 2 by omega) with rfl | rfl | rfl <;> simp at h2 <;> omega
theorem nu_v {D : eD} {p : Int} : (nuF D p).1 ≤ 9999 := by
  unfold nuF
  split
  · next h =>
    obtain ⟨h4, h5, h6⟩ := h
    exact nl_v 3 _ _ (by omega) (by omega) (by simp; omega)
  · show (-5 : Int) ≤ 9999; decide
/-- what a boat that is read is like -/
theorem rb_b {D : eD} {p : Int} (hT : Tx D) (h1 : 0 ≤ p) (h2 : p ≤ 60) : p ≤ (rbF D p).2.1 ∧ (rbF D p).2.1 ≤ 60 ∧ ((rbF D p).1 = 0 ∨ ((rbF D p).1 = 1 ∧ p + 5 ≤ (rbF D p).2.1 ∧ (0 ≤ (rbF D p).2.2.1 ∧ (rbF D p).2.2.1 ≤ 9999) ∧ (0 ≤ (rbF D p).2.2.2.1 ∧ (rbF D p).2.2.2.1 ≤ 2) ∧ (1 ≤ (rbF D p).2.2.2.2 ∧ (rbF D p).2.2.2.2 ≤ 6))) := by
  have hT' := hT
  obtain ⟨b1, b2, b3⟩ := hT'
  obtain ⟨n1, n2, n3⟩ := nu_b hT h1 h2
  have n4 := @nu_v D p
  unfold rbF
  by_cases q1 : (nuF D p).1 < 0
  · simp only [if_pos q1]
    exact ⟨n1, n2, Or.inl trivial⟩
  simp only [if_neg q1]
  by_cases q2 : seeF D (nuF D p).2 58 58
  rotate_left
  · simp only [if_pos q2]
    exact ⟨n1, n2, Or.inl trivial⟩
  have q2' := q2.1
  simp only [if_neg (not_not_intro q2)]
  by_cases q3 : seeF D ((nuF D p).2 + 1) 48 50
  rotate_left
  · simp only [if_pos q3]
    exact ⟨by omega, by omega, Or.inl trivial⟩
  obtain ⟨q3', q3a, q3b⟩ := q3
  have q3 : seeF D ((nuF D p).2 + 1) 48 50 := ⟨q3', q3a, q3b⟩
  simp only [if_neg (not_not_intro q3)]
  by_cases q4 : seeF D ((nuF D p).2 + 1 + 1) 120 120
  rotate_left
  · simp only [if_pos q4]
    exact ⟨by omega, by omega, Or.inl trivial⟩
  have q4' := q4.1
  simp only [if_neg (not_not_intro q4)]
  by_cases q5 : seeF D ((nuF D p).2 + 1 + 1 + 1) 49 54
  rotate_left
  · simp only [if_pos q5]
    exact ⟨by omega, by omega, Or.inl trivial⟩
  obtain ⟨q5', q5a, q5b⟩ := q5
  have q5 : seeF D ((nuF D p).2 + 1 + 1 + 1) 49 54 := ⟨q5', q5a, q5b⟩
  simp only [if_neg (not_not_intro q5)]
  exact ⟨by omega, by omega, Or.inr ⟨trivial, by omega, ⟨by omega, n4⟩, ⟨by omega, by omega⟩, ⟨by omega, by omega⟩⟩⟩
def rdR (R : eRow) (m t a b : Int) : eRow := fu (fu (fu R (3 * m).toNat t) (3 * m + 1).toNat a) (3 * m + 2).toNat b
/-- the whole text: whether it is one, where, how many boats, which -/
def txF (D : eD) : Nat → Int → Int → eRow → Int × Int × Int × eRow
  | 0, p, m, R => (0, p, m, R)
  | n + 1, p, m, R =>
    if (rbF D p).1 = 1 then
      (if seeF D (rbF D p).2.1 44 44 then txF D n ((rbF D p).2.1 + 1) (m + 1) (rdR R m (rbF D p).2.2.1 (rbF D p).2.2.2.1 (rbF D p).2.2.2.2)
       else (b2i ((rbF D p).2.1 = D 158 7), (rbF D p).2.1, m + 1, rdR R m (rbF D p).2.2.1 (rbF D p).2.2.2.1 (rbF D p).2.2.2.2))
    else (0, (rbF D p).2.1, m, R)
section SPEC41
variable {S : List Int} {D : eD} {h : eH} {Q : Option eV → eH → Prop} {v w x s p m t a b k : Int} {r j : Nat} {F R : eRow}
theorem c149a (hT : Tx D) (n : Nat) : ∀ (p m : Int) (R : eRow), 0 ≤ p → p ≤ 60 → 0 ≤ m → 6 * m ≤ p → 11 ≤ m + n → (wp 149 12 [.inr 158, .inl 1] [] (hp S (txD D p m R)) Q ↔ Q (some (.inl (txF D n p m R).1)) (hp S (txD D (txF D n p m R).2.1 (txF D n p m R).2.2.1 (txF D n p m R).2.2.2))) := by
  have t1 : tg 158 = 8 := rfl
  induction n with
  | zero =>
    intro p m R h1 h2 h3 h4 h5
    omega
  | succ n ih =>
    intro p m R h1 h2 h3 h4 h5
    have hT' := hT
    obtain ⟨b1, b2, b3⟩ := hT'
    have m15 : m ≤ 15 := by omega
    obtain ⟨r1, r2, r3⟩ := rb_b hT h1 h2
    have r0 : 0 ≤ (rbF D p).2.1 := by omega
    unfold txF
    rw [s149_12]
    by_cases q1 : (rbF D p).1 = 1
    · have r4 := (r3.resolve_left (by omega)).2.1
      simp only [if_pos q1]
      by_cases q2 : seeF D (rbF D p).2.1 44 44
      · have q2' := q2.1
        simp only [if_pos q2]
        rw [← ih ((rbF D p).2.1 + 1) (m + 1) _ (by omega) (by omega) (by omega) (by omega) (by omega)]
        simp (disch := first | assumption | omega | decide | exact b2i_01 _ | (unfold lx; omega)) only [s149_13, s149_16, s149_17, s149_20, s149_23, s149_24, s149_25, s149_26, s149_28, s149_31, s149_32, kont_some, kont_none, w32_of, if_true, if_false, tdv, tmd, setA_eq, up_setA, rd_hi, Int.reduceToNat, if_neg (show ¬ (1 : Int) = 0 by decide), c148, q1, c145, b2i_t q2]
        rfl
      · simp only [if_neg q2]
        have e : wp 149 13 [.inr 158, .inl 1] [.inl 1] (hp S (txD D p m R)) Q ↔ wp 149 12 [.inr 158, .inl 0] [] (hp S (txD D (rbF D p).2.1 (m + 1) (rdR R m (rbF D p).2.2.1 (rbF D p).2.2.2.1 (rbF D p).2.2.2.2))) Q := by
          simp (disch := first | assumption | omega | decide | exact b2i_01 _ | (unfold lx; omega)) only [s149_13, s149_16, s149_17, s149_20, s149_23, s149_24, s149_25, s149_26, s149_28, s149_31, s149_32, kont_some, kont_none, w32_of, if_true, if_false, tdv, tmd, setA_eq, up_setA, rd_hi, Int.reduceToNat, if_neg (show ¬ (1 : Int) = 0 by decide), c148, q1, c145, b2i_f q2, Int.add_zero]
          rfl
        rw [e, s149_12]
        by_cases q3 : (rbF D p).2.1 = D 158 7
        · rw [b2i_t q3]
          simp (disch := first | assumption | omega | decide | exact b2i_01 _ | (unfold lx; omega)) only [s149_13, s149_35, s149_36, s149_39, s149_40, s149_43, s149_46, s149_47, s149_50, s149_51, kont_some, kont_none, w32_of, if_true, if_false, tdv, tmd, setA_eq, up_setA, rd_hi, Int.reduceToNat, if_neg (show ¬ (1 : Int) = 0 by decide), tx_7, tx_8, if_pos q3]
        · rw [b2i_f q3]
          simp (disch := first | assumption | omega | decide | exact b2i_01 _ | (unfold lx; omega)) only [s149_13, s149_35, s149_36, s149_39, s149_40, s149_43, s149_46, s149_47, s149_50, s149_51, kont_some, kont_none, w32_of, if_true, if_false, tdv, tmd, setA_eq, up_setA, rd_hi, Int.reduceToNat, if_neg (show ¬ (1 : Int) = 0 by decide), tx_7, tx_8, if_neg q3]
    · have q0 : (rbF D p).1 = 0 := r3.elim id (fun q => absurd q.1 q1)
      have z01 : ¬ (0 : Int) = 1 := by decide
      simp only [if_neg q1]
      simp (disch := first | assumption | omega | decide | exact b2i_01 _ | (unfold lx; omega)) only [s149_13, s149_16, s149_17, s149_20, s149_23, s149_24, s149_25, s149_26, s149_28, s149_31, s149_32, kont_some, kont_none, w32_of, if_true, if_false, tdv, tmd, setA_eq, up_setA, rd_hi, Int.reduceToNat, if_neg (show ¬ (1 : Int) = 0 by decide), c148, q0, if_neg z01, Int.add_zero]
theorem tx_0 : setA (setA D 158 (fu (D 158) 8 0)) 158 (fu (fu (D 158) 8 0) 10 0) = txD D 0 0 (D 164) := by
  unfold txD
  rw [setA_setA, ← setA_self (D := setA D 158 (fu (fu (D 158) 8 0) 10 0)) (r := 164), setA_ne (by decide), setA_setA]
theorem c149 (hT : Tx D) : wp 149 0 [.inr 158, .inr 0] [] (hp S D) Q ↔ Q (some (.inl (txF D 11 0 0 (D 164)).1)) (hp S (txD D (txF D 11 0 0 (D 164)).2.1 (txF D 11 0 0 (D 164)).2.2.1 (txF D 11 0 0 (D 164)).2.2.2)) := by
  have t1 : tg 158 = 8 := rfl
  rw [← c149a (S := S) (Q := Q) hT 11 0 0 (D 164) (by omega) (by omega) (by omega) (by omega) (by omega), ← tx_0]
  simp (disch := first | assumption | omega | decide | exact b2i_01 _ | (unfold lx; omega)) only [s149_0, s149_1, s149_2, s149_5, s149_6, s149_7, s149_10, s149_11, kont_some, kont_none, w32_of, if_true, if_false, tdv, tmd, setA_eq, up_setA, rd_hi, Int.reduceToNat, if_neg (show ¬ (1 : Int) = 0 by decide), up_as, setA_eq]
end SPEC41
