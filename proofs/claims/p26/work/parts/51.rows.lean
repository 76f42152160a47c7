/-! the plan's rows -/
theorem pl_tg0 : ∀ q, q < 158 → tg q = 4 → 8 ≤ q ∧ tg (q + 1) = 100 ∧ tg (q + 2) = 100 ∧ tg (q + 3) = 100 ∧ lnL.getD (q + 1) 0 = 10 ∧ lnL.getD (q + 2) 0 = 10 ∧ lnL.getD (q + 3) 0 = 10 := by decide +kernel
def rotF (D : eD) (q : Nat) (t : Int) : Nat → Int → Int
  | 0, _ => -5
  | n + 1, k => if k < D q 3 then (if D (q + 1) k.toNat = t then k else rotF D q t n (k + 1)) else -5
theorem rot_b {D : eD} {q : Nat} {t : Int} (n : Nat) : ∀ k : Int, 0 ≤ k → (rotF D q t n k = -5 ∨ (k ≤ rotF D q t n k ∧ rotF D q t n k < D q 3 ∧ D (q + 1) (rotF D q t n k).toNat = t)) := by
  induction n with
  | zero => exact fun _ _ => Or.inl rfl
  | succ n ih =>
    intro k hk
    unfold rotF
    split
    · next h1 =>
      split
      · next h2 => exact Or.inr ⟨Int.le_refl _, h1, h2⟩
      · rcases ih (k + 1) (by omega) with h | ⟨g1, g2, g3⟩
        · exact Or.inl h
        · exact Or.inr ⟨by omega, g2, g3⟩
    · exact Or.inl rfl
def entD (D : eD) (q : Nat) (t a b : Int) : eD :=
  if rotF D q t 11 0 = -5 then up (up (up (up D q 3 (D q 3 + 1)) (q + 1) (D q 3).toNat t) (q + 2) (D q 3).toNat a) (q + 3) (D q 3).toNat b
  else up (up (up D (q + 1) (rotF D q t 11 0).toNat t) (q + 2) (rotF D q t 11 0).toNat a) (q + 3) (rotF D q t 11 0).toNat b
def bahF (D : eD) (q : Nat) (t : Int) : Nat → Int → Int
  | 0, _ => 0
  | n + 1, k => if k < D q 3 then b2i (D (q + 1) k.toNat < t) + bahF D q t n (k + 1) else 0
section SPEC51
variable {S : List Int} {D E : eD} {h : eH} {Q : Option eV → eH → Prop} {v x s p m t lim pat a b : Int} {r j n w g q : Nat} {F R : eRow} {l0 l1 : eV}
theorem c38a (hq : tg q = 4) (hS : S.length ≤ 2048) (h3 : 0 ≤ D q 3 ∧ D q 3 ≤ 10) (n : Nat) : ∀ k : Int, k = 11 - n → n ≤ 11 → (wp 38 2 [.inr (.inl q), .inl t, .inl k] [] (hp S D) Q ↔ Q (some (.inl (rotF D q t n k))) (hp S D)) := by
  have h0 := tg_ne0 hq (by decide)
  obtain ⟨h8, t1, t2, t3, l1', l2', l3'⟩ := pl_tg0 q (tg_lt (by omega)) hq
  have l1 : ln S (q + 1) = 10 := (ln_hi (by omega)).trans l1'
  induction n with
  | zero =>
    intro k hk hn
    have h1 : ¬ k < D q 3 := by omega
    rw [s38_2]
    simp (disch := first | assumption | omega | decide | exact b2i_01 _ | (unfold lx; omega)) only [s38_3, s38_4, s38_7, s38_30, s38_32, kont_some, kont_none, w32_of, if_true, if_false, tdv, tmd, setA_eq, up_setA, rd_hi, Int.reduceToNat, if_neg (show ¬ (1 : Int) = 0 by decide), if_neg h1, rotF]
  | succ n ih =>
    intro k hk hn
    unfold rotF
    rw [s38_2]
    by_cases h1 : k < D q 3
    · rw [if_pos h1]
      have e : rat S D (q + 1) k = D (q + 1) k.toNat := by
        unfold rat
        rw [if_pos (by omega), rd_hi (by omega)]
      by_cases h2 : D (q + 1) k.toNat = t
      · rw [if_pos h2]
        simp (disch := first | assumption | omega | decide | exact b2i_01 _ | (unfold lx; omega)) only [s38_3, s38_4, s38_7, s38_10, s38_11, s38_14, s38_15, s38_18, s38_19, s38_22, s38_23, s38_24, s38_27, kont_some, kont_none, w32_of, if_true, if_false, tdv, tmd, setA_eq, up_setA, rd_hi, Int.reduceToNat, if_neg (show ¬ (1 : Int) = 0 by decide), if_pos h1, c51, e, if_pos h2]
      · rw [if_neg h2, ← ih (k + 1) (by omega) (by omega)]
        simp (disch := first | assumption | omega | decide | exact b2i_01 _ | (unfold lx; omega)) only [s38_3, s38_4, s38_7, s38_10, s38_11, s38_14, s38_15, s38_18, s38_19, s38_22, s38_23, s38_24, s38_27, kont_some, kont_none, w32_of, if_true, if_false, tdv, tmd, setA_eq, up_setA, rd_hi, Int.reduceToNat, if_neg (show ¬ (1 : Int) = 0 by decide), if_pos h1, c51, e, if_neg h2]
    · rw [if_neg h1]
      simp (disch := first | assumption | omega | decide | exact b2i_01 _ | (unfold lx; omega)) only [s38_3, s38_4, s38_7, s38_30, s38_32, kont_some, kont_none, w32_of, if_true, if_false, tdv, tmd, setA_eq, up_setA, rd_hi, Int.reduceToNat, if_neg (show ¬ (1 : Int) = 0 by decide), if_neg h1]
theorem c38 (hq : tg q = 4) (hS : S.length ≤ 2048) (h3 : 0 ≤ D q 3 ∧ D q 3 ≤ 10) : wp 38 0 [.inr (.inl q), .inl t, .inr (.inl 0)] [] (hp S D) Q ↔ Q (some (.inl (rotF D q t 11 0))) (hp S D) := by
  rw [← c38a (Q := Q) (t := t) hq hS h3 11 0 (by omega) (by omega)]
  simp (disch := first | assumption | omega | decide | exact b2i_01 _ | (unfold lx; omega)) only [s38_0, s38_1, kont_some, kont_none, w32_of, if_true, if_false, tdv, tmd, setA_eq, up_setA, rd_hi, Int.reduceToNat, if_neg (show ¬ (1 : Int) = 0 by decide)]
theorem c39 (hq : tg q = 4) (hS : S.length ≤ 2048) (h3 : 0 ≤ D q 3 ∧ D q 3 ≤ 10) : wp 39 0 [.inr (.inl q), .inl t] [] (hp S D) Q ↔ Q (some (.inl (b2i (D q 3 < 10 ∨ ¬ rotF D q t 11 0 = -5)))) (hp S D) := by
  have h0 := tg_ne0 hq (by decide)
  by_cases h1 : D q 3 < 10
  · rw [b2i_t (Or.inl h1)]
    simp (disch := first | assumption | omega | decide | exact b2i_01 _ | (unfold lx; omega)) only [s39_0, s39_1, s39_4, s39_6, s39_9, s39_10, s39_11, s39_14, s39_16, s39_19, s39_20, s39_23, s39_24, kont_some, kont_none, w32_of, if_true, if_false, tdv, tmd, setA_eq, up_setA, rd_hi, Int.reduceToNat, if_neg (show ¬ (1 : Int) = 0 by decide), if_pos h1]
  · by_cases h2 : rotF D q t 11 0 = -5
    · rw [b2i_f (fun z => z.elim h1 (fun y => y h2))]
      simp (disch := first | assumption | omega | decide | exact b2i_01 _ | (unfold lx; omega)) only [s39_0, s39_1, s39_4, s39_6, s39_9, s39_10, s39_11, s39_14, s39_16, s39_19, s39_20, s39_23, s39_24, kont_some, kont_none, w32_of, if_true, if_false, tdv, tmd, setA_eq, up_setA, rd_hi, Int.reduceToNat, if_neg (show ¬ (1 : Int) = 0 by decide), if_neg h1, c38, if_pos h2]
    · rw [b2i_t (Or.inr h2)]
      simp (disch := first | assumption | omega | decide | exact b2i_01 _ | (unfold lx; omega)) only [s39_0, s39_1, s39_4, s39_6, s39_9, s39_10, s39_11, s39_14, s39_16, s39_19, s39_20, s39_23, s39_24, kont_some, kont_none, w32_of, if_true, if_false, tdv, tmd, setA_eq, up_setA, rd_hi, Int.reduceToNat, if_neg (show ¬ (1 : Int) = 0 by decide), if_neg h1, c38, if_neg h2]
theorem c40 (hq : tg q = 4) (hS : S.length ≤ 2048) (h3 : 0 ≤ D q 3 ∧ D q 3 ≤ 10) (h10 : D q 3 < 10 ∨ ¬ rotF D q t 11 0 = -5) : wp 40 0 [.inr (.inl q), .inl t, .inl a, .inl b, .inr (.inl 0)] [] (hp S D) Q ↔ Q none (hp S (entD D q t a b)) := by
  have h0 := tg_ne0 hq (by decide)
  obtain ⟨h8, t1, t2, t3, l1', l2', l3'⟩ := pl_tg0 q (tg_lt (by omega)) hq
  have l1 : ln S (q + 1) = 10 := (ln_hi (by omega)).trans l1'
  have l2 : ln S (q + 2) = 10 := (ln_hi (by omega)).trans l2'
  have l3 : ln S (q + 3) = 10 := (ln_hi (by omega)).trans l3'
  have n1 : q ≠ q + 1 := by omega
  have n2 : q ≠ q + 2 := by omega
  have n3 : q ≠ q + 3 := by omega
  have ew : ∀ (D' : eD) (z : Nat) (i v : Int), ln S z = 10 → 0 ≤ i → i < 10 → rwr S D' z i v = up D' z i.toNat v := fun D' z i v g1 g2 g3 => if_pos (by omega)
  unfold entD
  by_cases h2 : rotF D q t 11 0 = -5
  · rw [if_pos h2]
    have h9 := h10.resolve_right (fun z => z h2)
    simp (disch := first | assumption | omega | decide | exact b2i_01 _ | (unfold lx; omega)) only [s40_0, s40_1, s40_2, s40_5, s40_7, s40_9, s40_11, s40_14, s40_15, s40_18, s40_20, s40_21, s40_22, s40_25, s40_26, s40_27, s40_30, s40_31, s40_34, s40_36, s40_37, s40_40, s40_41, s40_44, s40_46, s40_47, s40_50, s40_51, s40_54, s40_56, s40_57, s40_60, kont_some, kont_none, w32_of, if_true, if_false, b2i_eq0, ite_not, up_eq, up_ne2, up_ne1, tdv, tmd, c38, if_pos h2, c52, ew]
  · rw [if_neg h2]
    have hb := (rot_b (D := D) (q := q) (t := t) 11 0 (by omega)).resolve_left h2
    have hb1 := hb.1
    have hb2 := hb.2.1
    have hb3 : rotF D q t 11 0 < 10 := by omega
    simp (disch := first | assumption | omega | decide | exact b2i_01 _ | (unfold lx; omega)) only [s40_0, s40_1, s40_2, s40_5, s40_7, s40_9, s40_11, s40_14, s40_15, s40_18, s40_20, s40_21, s40_22, s40_25, s40_26, s40_27, s40_30, s40_31, s40_34, s40_36, s40_37, s40_40, s40_41, s40_44, s40_46, s40_47, s40_50, s40_51, s40_54, s40_56, s40_57, s40_60, kont_some, kont_none, w32_of, if_true, if_false, b2i_eq0, ite_not, up_eq, up_ne2, up_ne1, tdv, tmd, c38, if_neg h2, c52, ew]
theorem c42a (hq : tg q = 4) (hS : S.length ≤ 2048) (h3 : 0 ≤ D q 3 ∧ D q 3 ≤ 10) (n : Nat) : ∀ (k m : Int), k = 11 - n → n ≤ 11 → 0 ≤ m → m ≤ k → (wp 42 4 [.inr (.inl q), .inl t, .inl m, .inl k] [] (hp S D) Q ↔ Q (some (.inl (m + bahF D q t n k))) (hp S D)) := by
  have h0 := tg_ne0 hq (by decide)
  obtain ⟨h8, t1, t2, t3, l1', l2', l3'⟩ := pl_tg0 q (tg_lt (by omega)) hq
  have l1 : ln S (q + 1) = 10 := (ln_hi (by omega)).trans l1'
  induction n with
  | zero =>
    intro k m hk hn hm hm2
    have h1 : ¬ k < D q 3 := by omega
    rw [s42_4]
    simp (disch := first | assumption | omega | decide | exact b2i_01 _ | (unfold lx; omega)) only [s42_5, s42_6, s42_9, s42_41, s42_42, kont_some, kont_none, w32_of, if_true, if_false, tdv, tmd, setA_eq, up_setA, rd_hi, Int.reduceToNat, if_neg (show ¬ (1 : Int) = 0 by decide), if_neg h1, bahF, Int.add_zero]
  | succ n ih =>
    intro k m hk hn hm hm2
    unfold bahF
    rw [s42_4]
    by_cases h1 : k < D q 3
    · rw [if_pos h1]
      have e : rat S D (q + 1) k = D (q + 1) k.toNat := by
        unfold rat
        rw [if_pos (by omega), rd_hi (by omega)]
      by_cases h2 : D (q + 1) k.toNat < t
      · rw [b2i_t h2, show m + (1 + bahF D q t n (k + 1)) = m + 1 + bahF D q t n (k + 1) by omega, ← ih (k + 1) (m + 1) (by omega) (by omega) (by omega) (by omega)]
        simp (disch := first | assumption | omega | decide | exact b2i_01 _ | (unfold lx; omega)) only [s42_5, s42_6, s42_9, s42_12, s42_13, s42_14, s42_17, s42_18, s42_21, s42_22, s42_25, s42_26, s42_29, s42_30, s42_33, s42_34, s42_35, s42_38, kont_some, kont_none, w32_of, if_true, if_false, tdv, tmd, setA_eq, up_setA, rd_hi, Int.reduceToNat, if_neg (show ¬ (1 : Int) = 0 by decide), if_pos h1, c51, e, if_pos h2, c97]
      · rw [b2i_f h2, show m + (0 + bahF D q t n (k + 1)) = m + bahF D q t n (k + 1) by omega, ← ih (k + 1) m (by omega) (by omega) (by omega) (by omega)]
        simp (disch := first | assumption | omega | decide | exact b2i_01 _ | (unfold lx; omega)) only [s42_5, s42_6, s42_9, s42_12, s42_13, s42_14, s42_17, s42_18, s42_21, s42_22, s42_25, s42_26, s42_29, s42_30, s42_33, s42_34, s42_35, s42_38, kont_some, kont_none, w32_of, if_true, if_false, tdv, tmd, setA_eq, up_setA, rd_hi, Int.reduceToNat, if_neg (show ¬ (1 : Int) = 0 by decide), if_pos h1, c51, e, if_neg h2, c97, Int.add_zero]
    · rw [if_neg h1]
      simp (disch := first | assumption | omega | decide | exact b2i_01 _ | (unfold lx; omega)) only [s42_5, s42_6, s42_9, s42_41, s42_42, kont_some, kont_none, w32_of, if_true, if_false, tdv, tmd, setA_eq, up_setA, rd_hi, Int.reduceToNat, if_neg (show ¬ (1 : Int) = 0 by decide), if_neg h1, Int.add_zero]
theorem c42 (hq : tg q = 4) (hS : S.length ≤ 2048) (h3 : 0 ≤ D q 3 ∧ D q 3 ≤ 10) : wp 42 0 [.inr (.inl q), .inl t, .inr (.inl 0), .inr (.inl 0)] [] (hp S D) Q ↔ Q (some (.inl (bahF D q t 11 0))) (hp S D) := by
  have e := c42a (Q := Q) (t := t) hq hS h3 11 0 0 (by omega) (by omega) (by omega) (by omega)
  rw [Int.zero_add] at e
  rw [← e]
  simp (disch := first | assumption | omega | decide | exact b2i_01 _ | (unfold lx; omega)) only [s42_0, s42_1, s42_2, s42_3, kont_some, kont_none, w32_of, if_true, if_false, tdv, tmd, setA_eq, up_setA, rd_hi, Int.reduceToNat, if_neg (show ¬ (1 : Int) = 0 by decide)]
end SPEC51
