/-! a change noted, a turn begun, the stock's lowest kind, a boat by its place -/
def ropF (D : eD) (q : Nat) (p : Int) : Nat → Int → Int
  | 0, _ => -5
  | n + 1, k => if k < D q 3 then (if bahF D q (D (q + 1) k.toNat) 11 0 = p then k else ropF D q p n (k + 1)) else -5
def nchD (D : eD) (b : Nat) (a s : Int) : eD := up (notD D (b + 16) a s (D b 5)) b 10 (D b 10 + 1)
def turD (D : eD) (b : Nat) (a s : Int) : eD := nchD (up (up (up D (b + 3) 5 0) (b + 3) 3 s) (b + 3) 4 ((s - D (b + 3) 2) % 6 * D (b + 1) 2)) b a s
section SPEC52
variable {S : List Int} {D E : eD} {h : eH} {Q : Option eV → eH → Prop} {v x s p m t lim pat a : Int} {r j n w g q b : Nat} {F R : eRow} {l0 l1 : eV}
theorem c41a (hq : tg q = 4) (hS : S.length ≤ 2048) (h3 : 0 ≤ D q 3 ∧ D q 3 ≤ 10) (n : Nat) : ∀ k : Int, k = 11 - n → n ≤ 11 → (wp 41 2 [.inr (.inl q), .inl p, .inl k] [] (hp S D) Q ↔ Q (some (.inl (ropF D q p n k))) (hp S D)) := by
  have h0 := tg_ne0 hq (by decide)
  obtain ⟨h8, t1, t2, t3, l1', l2', l3'⟩ := pl_tg0 q (tg_lt (by omega)) hq
  have l1 : ln S (q + 1) = 10 := (ln_hi (by omega)).trans l1'
  induction n with
  | zero =>
    intro k hk hn
    have h1 : ¬ k < D q 3 := by omega
    rw [s41_2]
    simp (disch := first | assumption | omega | decide | exact b2i_01 _ | (unfold lx; omega)) only [s41_3, s41_4, s41_7, s41_34, s41_36, kont_some, kont_none, w32_of, if_true, if_false, tdv, tmd, setA_eq, up_setA, rd_hi, Int.reduceToNat, if_neg (show ¬ (1 : Int) = 0 by decide), if_neg h1, ropF]
  | succ n ih =>
    intro k hk hn
    unfold ropF
    rw [s41_2]
    by_cases h1 : k < D q 3
    · rw [if_pos h1]
      have e : rat S D (q + 1) k = D (q + 1) k.toNat := by
        unfold rat
        rw [if_pos (by omega), rd_hi (by omega)]
      by_cases h2 : bahF D q (D (q + 1) k.toNat) 11 0 = p
      · rw [if_pos h2]
        simp (disch := first | assumption | omega | decide | exact b2i_01 _ | (unfold lx; omega)) only [s41_3, s41_4, s41_7, s41_10, s41_11, s41_12, s41_15, s41_16, s41_19, s41_22, s41_23, s41_26, s41_27, s41_28, s41_31, kont_some, kont_none, w32_of, if_true, if_false, tdv, tmd, setA_eq, up_setA, rd_hi, Int.reduceToNat, if_neg (show ¬ (1 : Int) = 0 by decide), if_pos h1, c51, e, c42, if_pos h2]
      · rw [if_neg h2, ← ih (k + 1) (by omega) (by omega)]
        simp (disch := first | assumption | omega | decide | exact b2i_01 _ | (unfold lx; omega)) only [s41_3, s41_4, s41_7, s41_10, s41_11, s41_12, s41_15, s41_16, s41_19, s41_22, s41_23, s41_26, s41_27, s41_28, s41_31, kont_some, kont_none, w32_of, if_true, if_false, tdv, tmd, setA_eq, up_setA, rd_hi, Int.reduceToNat, if_neg (show ¬ (1 : Int) = 0 by decide), if_pos h1, c51, e, c42, if_neg h2]
    · rw [if_neg h1]
      simp (disch := first | assumption | omega | decide | exact b2i_01 _ | (unfold lx; omega)) only [s41_3, s41_4, s41_7, s41_34, s41_36, kont_some, kont_none, w32_of, if_true, if_false, tdv, tmd, setA_eq, up_setA, rd_hi, Int.reduceToNat, if_neg (show ¬ (1 : Int) = 0 by decide), if_neg h1]
theorem c41 (hq : tg q = 4) (hS : S.length ≤ 2048) (h3 : 0 ≤ D q 3 ∧ D q 3 ≤ 10) : wp 41 0 [.inr (.inl q), .inl p, .inr (.inl 0)] [] (hp S D) Q ↔ Q (some (.inl (ropF D q p 11 0))) (hp S D) := by
  rw [← c41a (Q := Q) (p := p) hq hS h3 11 0 (by omega) (by omega)]
  simp (disch := first | assumption | omega | decide | exact b2i_01 _ | (unfold lx; omega)) only [s41_0, s41_1, kont_some, kont_none, w32_of, if_true, if_false, tdv, tmd, setA_eq, up_setA, rd_hi, Int.reduceToNat, if_neg (show ¬ (1 : Int) = 0 by decide)]
theorem c37 (hq : tg q = 4) : wp 37 0 [.inr (.inl q)] [] (hp S D) Q ↔ Q none (hp S (up D q 3 0)) := by
  have h0 := tg_ne0 hq (by decide)
  simp (disch := first | assumption | omega | decide | exact b2i_01 _ | (unfold lx; omega)) only [s37_0, s37_1, s37_2, s37_5, kont_some, kont_none, w32_of, if_true, if_false, tdv, tmd, setA_eq, up_setA, rd_hi, Int.reduceToNat, if_neg (show ¬ (1 : Int) = 0 by decide)]
theorem c9 (hb : tg b = 0) (hS : S.length ≤ 2048) (h3 : 0 ≤ D (b + 16) 3 ∧ D (b + 16) 3 ≤ 10) (h4 : 0 ≤ D (b + 16) 4 ∧ D (b + 16) 4 ≤ 9) (h10 : 0 ≤ D b 10 ∧ D b 10 ≤ 10000000) : wp 9 0 [.inr (.inl b), .inl a, .inl s] [] (hp S D) Q ↔ Q none (hp S (nchD D b a s)) := by
  have h0 := tg_ne0 hb (by decide)
  obtain ⟨g8, g1, g2, g3, g12, g16⟩ := be_tg0 b (tg_lt (by omega)) hb
  have e : notD D (b + 16) a s (D b 5) b = D b := (not_g (D := D) (g := b + 16)).2.2.2.2.2 b (by omega)
  unfold nchD
  simp (disch := first | assumption | omega | decide | exact b2i_01 _ | (unfold lx; omega)) only [s9_0, s9_1, s9_4, s9_5, s9_6, s9_7, s9_10, s9_13, s9_14, s9_15, s9_18, s9_19, s9_20, s9_23, kont_some, kont_none, w32_of, if_true, if_false, tdv, tmd, setA_eq, up_setA, rd_hi, Int.reduceToNat, if_neg (show ¬ (1 : Int) = 0 by decide), c17, e]
theorem c8 (hb : tg b = 0) (hS : S.length ≤ 2048) (h3 : 0 ≤ D (b + 16) 3 ∧ D (b + 16) 3 ≤ 10) (h4 : 0 ≤ D (b + 16) 4 ∧ D (b + 16) 4 ≤ 9) (h10 : 0 ≤ D b 10 ∧ D b 10 ≤ 10000000) (hs : 0 ≤ s ∧ s ≤ 5) (hf : 0 ≤ D (b + 3) 2 ∧ D (b + 3) 2 ≤ 5) (ht : 0 ≤ D (b + 1) 2 ∧ D (b + 1) 2 ≤ 10) : wp 8 0 [.inr (.inl b), .inl a, .inl s] [] (hp S D) Q ↔ Q none (hp S (turD D b a s)) := by
  have h0 := tg_ne0 hb (by decide)
  obtain ⟨g8, g1, g2, g3, g12, g16⟩ := be_tg0 b (tg_lt (by omega)) hb
  have l1 : ln S (b + 1) = 4 := (ln_hi (by omega)).trans (be_ln0 b (tg_lt (by omega)) hb).1
  have e : rat S D (b + 1) 2 = D (b + 1) 2 := by
    unfold rat
    rw [if_pos (by omega), rd_hi (by omega)]
    rfl
  have n16 : ∀ (D' : eD) (j : Nat) (v : Int), up D' (b + 3) j v (b + 16) = D' (b + 16) := fun D' j v => by
    funext i; exact up_ne1 (by omega)
  have n0 : ∀ (D' : eD) (j : Nat) (v : Int), up D' (b + 3) j v b = D' b := fun D' j v => by
    funext i; exact up_ne1 (by omega)
  have c := fun Q' => c9 (S := S) (D := up (up (up D (b + 3) 5 0) (b + 3) 3 s) (b + 3) 4 ((s - D (b + 3) 2) % 6 * D (b + 1) 2)) (Q := Q') (a := a) (s := s) hb hS (by rw [n16, n16, n16]; exact h3) (by rw [n16, n16, n16]; exact h4) (by rw [n0, n0, n0]; exact h10)
  obtain ⟨f1, f2⟩ := hf
  obtain ⟨u1, u2⟩ := ht
  obtain ⟨s1, s2⟩ := hs
  unfold turD
  simp (disch := first | assumption | omega | decide | exact b2i_01 _ | (unfold lx; omega)) only [s8_0, s8_1, s8_4, s8_5, s8_6, s8_9, s8_10, s8_13, s8_16, s8_17, s8_18, s8_19, s8_22, kont_some, kont_none, w32_of, if_true, if_false, tdv, tmd, setA_eq, up_setA, rd_hi, Int.reduceToNat, if_neg (show ¬ (1 : Int) = 0 by decide), c51, e, c59, c]
theorem c14 (hb : tg b = 0) (hS : S.length ≤ 2048) : wp 14 0 [.inr (.inl b), .inr (.inl 0)] [] (hp S D) Q ↔ Q (some (.inl (if 0 < D (b + 2) 0 then 0 else if 0 < D (b + 2) 1 then 1 else if 0 < D (b + 2) 2 then 2 else -5))) (hp S D) := by
  have h0 := tg_ne0 hb (by decide)
  obtain ⟨g8, g1, g2, g3, g12, g16⟩ := be_tg0 b (tg_lt (by omega)) hb
  have l2 : ln S (b + 2) = 3 := (ln_hi (by omega)).trans (be_ln0 b (tg_lt (by omega)) hb).2.1
  have e : ∀ i : Int, 0 ≤ i → i < 3 → rat S D (b + 2) i = D (b + 2) i.toNat := fun i i0 i3 => by
    unfold rat
    rw [if_pos (by omega), rd_hi (by omega)]
  have e0 : rat S D (b + 2) 0 = D (b + 2) 0 := e 0 (by decide) (by decide)
  have e1 : rat S D (b + 2) 1 = D (b + 2) 1 := e 1 (by decide) (by decide)
  have e2 : rat S D (b + 2) 2 = D (b + 2) 2 := e 2 (by decide) (by decide)
  by_cases q0 : 0 < D (b + 2) 0
  · rw [if_pos q0]
    simp (disch := first | assumption | omega | decide | exact b2i_01 _ | (unfold lx; omega)) only [s14_0, s14_1, kont_some, kont_none, w32_of, if_true, if_false, tdv, tmd, setA_eq, up_setA, rd_hi, Int.reduceToNat, if_neg (show ¬ (1 : Int) = 0 by decide)]
    rw [s14_2]
    simp (disch := first | assumption | omega | decide | exact b2i_01 _ | (unfold lx; omega)) only [s14_3, s14_4, s14_7, s14_8, s14_11, s14_12, s14_15, s14_18, s14_19, s14_20, s14_23, kont_some, kont_none, w32_of, if_true, if_false, tdv, tmd, setA_eq, up_setA, rd_hi, Int.reduceToNat, if_neg (show ¬ (1 : Int) = 0 by decide), if_pos (show (0 : Int) < 3 by decide), c51, e0, if_pos q0]
  · rw [if_neg q0]
    simp (disch := first | assumption | omega | decide | exact b2i_01 _ | (unfold lx; omega)) only [s14_0, s14_1, kont_some, kont_none, w32_of, if_true, if_false, tdv, tmd, setA_eq, up_setA, rd_hi, Int.reduceToNat, if_neg (show ¬ (1 : Int) = 0 by decide)]
    rw [s14_2]
    simp (disch := first | assumption | omega | decide | exact b2i_01 _ | (unfold lx; omega)) only [s14_3, s14_4, s14_7, s14_8, s14_11, s14_12, s14_15, s14_18, s14_19, s14_20, s14_23, kont_some, kont_none, w32_of, if_true, if_false, tdv, tmd, setA_eq, up_setA, rd_hi, Int.reduceToNat, if_neg (show ¬ (1 : Int) = 0 by decide), if_pos (show (0 : Int) < 3 by decide), c51, e0, if_neg q0, Int.zero_add]
    rw [s14_2]
    by_cases q1 : 0 < D (b + 2) 1
    · rw [if_pos q1]
      simp (disch := first | assumption | omega | decide | exact b2i_01 _ | (unfold lx; omega)) only [s14_3, s14_4, s14_7, s14_8, s14_11, s14_12, s14_15, s14_18, s14_19, s14_20, s14_23, kont_some, kont_none, w32_of, if_true, if_false, tdv, tmd, setA_eq, up_setA, rd_hi, Int.reduceToNat, if_neg (show ¬ (1 : Int) = 0 by decide), if_pos (show (1 : Int) < 3 by decide), c51, e1, if_pos q1]
    · rw [if_neg q1]
      simp (disch := first | assumption | omega | decide | exact b2i_01 _ | (unfold lx; omega)) only [s14_3, s14_4, s14_7, s14_8, s14_11, s14_12, s14_15, s14_18, s14_19, s14_20, s14_23, kont_some, kont_none, w32_of, if_true, if_false, tdv, tmd, setA_eq, up_setA, rd_hi, Int.reduceToNat, if_neg (show ¬ (1 : Int) = 0 by decide), if_pos (show (1 : Int) < 3 by decide), c51, e1, if_neg q1, Int.reduceAdd]
      rw [s14_2]
      by_cases q2 : 0 < D (b + 2) 2
      · rw [if_pos q2]
        simp (disch := first | assumption | omega | decide | exact b2i_01 _ | (unfold lx; omega)) only [s14_3, s14_4, s14_7, s14_8, s14_11, s14_12, s14_15, s14_18, s14_19, s14_20, s14_23, kont_some, kont_none, w32_of, if_true, if_false, tdv, tmd, setA_eq, up_setA, rd_hi, Int.reduceToNat, if_neg (show ¬ (1 : Int) = 0 by decide), if_pos (show (2 : Int) < 3 by decide), c51, e2, if_pos q2]
      · rw [if_neg q2]
        simp (disch := first | assumption | omega | decide | exact b2i_01 _ | (unfold lx; omega)) only [s14_3, s14_4, s14_7, s14_8, s14_11, s14_12, s14_15, s14_18, s14_19, s14_20, s14_23, kont_some, kont_none, w32_of, if_true, if_false, tdv, tmd, setA_eq, up_setA, rd_hi, Int.reduceToNat, if_neg (show ¬ (1 : Int) = 0 by decide), if_pos (show (2 : Int) < 3 by decide), c51, e2, if_neg q2, Int.reduceAdd]
        rw [s14_2]
        simp (disch := first | assumption | omega | decide | exact b2i_01 _ | (unfold lx; omega)) only [s14_3, s14_4, s14_26, s14_28, kont_some, kont_none, w32_of, if_true, if_false, tdv, tmd, setA_eq, up_setA, rd_hi, Int.reduceToNat, if_neg (show ¬ (1 : Int) = 0 by decide), if_neg (show ¬ (3 : Int) < 3 by decide)]
end SPEC52
