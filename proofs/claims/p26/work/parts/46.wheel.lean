/-! a Beacon's cells; the wheel's small methods -/
theorem wh_tg0 : ∀ w, w < 158 → tg w = 6 → 8 ≤ w ∧ tg (w + 1) = 102 ∧ lnL.getD (w + 1) 0 = 6 ∧ tg (w + 2) = 3 ∧ tg (w + 3) = 3 ∧ tg (w + 4) = 3 ∧ tg (w + 5) = 3 ∧ tg (w + 6) = 3 ∧ tg (w + 7) = 3 ∧ tg (w + 8) = 3 := by decide +kernel
theorem wh_tg {w : Nat} (h : tg w = 6) : 8 ≤ w ∧ tg (w + 1) = 102 ∧ lnL.getD (w + 1) 0 = 6 ∧ tg (w + 2) = 3 ∧ tg (w + 3) = 3 ∧ tg (w + 4) = 3 ∧ tg (w + 5) = 3 ∧ tg (w + 6) = 3 ∧ tg (w + 7) = 3 ∧ tg (w + 8) = 3 := wh_tg0 w (tg_lt (by omega)) h
/-- the cell of what lampAt answers -/
def lw (w : Nat) (s : Int) : Nat := if 0 ≤ s ∧ s ≤ 5 then w + 2 + s.toNat else w + 8
theorem lw_tg {w : Nat} {s : Int} (h : tg w = 6) : tg (lw w s) = 3 := by
  obtain ⟨h8, _, _, g2, g3, g4, g5, g6, g7, g0⟩ := wh_tg h
  unfold lw
  split
  · rcases (show s = 0 ∨ s = 1 ∨ s = 2 ∨ s = 3 ∨ s = 4 ∨ s = 5 by omega) with rfl | rfl | rfl | rfl | rfl | rfl
    · exact g2
    · exact g3
    · exact g4
    · exact g5
    · exact g6
    · exact g7
  · exact g0
theorem be_tg0 : ∀ b, b < 158 → tg b = 0 → 8 ≤ b ∧ tg (b + 1) = 100 ∧ tg (b + 2) = 100 ∧ tg (b + 3) = 6 ∧ tg (b + 12) = 4 ∧ tg (b + 16) = 1 := by decide +kernel
theorem be_tg1 : ∀ b, b < 158 → tg b = 0 → tg (b + 13) = 100 ∧ tg (b + 14) = 100 ∧ tg (b + 15) = 100 ∧ tg (b + 17) = 100 ∧ tg (b + 18) = 100 ∧ tg (b + 19) = 100 := by decide +kernel
theorem be_ln0 : ∀ b, b < 158 → tg b = 0 → lnL.getD (b + 1) 0 = 4 ∧ lnL.getD (b + 2) 0 = 3 ∧ lnL.getD (b + 13) 0 = 10 ∧ lnL.getD (b + 14) 0 = 10 ∧ lnL.getD (b + 15) 0 = 10 ∧ lnL.getD (b + 17) 0 = 10 ∧ lnL.getD (b + 18) 0 = 10 ∧ lnL.getD (b + 19) 0 = 10 := by decide +kernel
theorem ln_hi {S : List Int} {k : Nat} (h : 8 ≤ k) : ln S k = lnL.getD k 0 := by
  unfold ln
  rw [if_neg (by omega)]
section SPEC46
variable {S : List Int} {D E : eD} {h : eH} {Q : Option eV → eH → Prop} {v x s p m t lim pat : Int} {r j a b k n w : Nat} {F R : eRow} {l0 l1 : eV}
theorem c56 (hw : tg w = 6) (hS : S.length ≤ 2048) : wp 56 0 [.inr (.inl w), .inl s, .inr (.inl 0)] [] (hp S D) Q ↔ Q (some (.inr (.inl (lw w s)))) (hp S D) := by
  have h0 := tg_ne0 hw (by decide)
  obtain ⟨h8, t1, l1, _⟩ := wh_tg hw
  have l2 : ln S (w + 1) = 6 := (ln_hi (by omega)).trans l1
  unfold lw
  by_cases h1 : s < 0
  · rw [if_neg (by omega)]
    simp (disch := first | assumption | omega | decide | exact b2i_01 _ | (unfold lx; omega)) only [s56_0, s56_1, s56_4, s56_5, s56_6, s56_9, s56_10, s56_13, s56_14, s56_17, s56_18, s56_19, s56_22, s56_23, s56_24, s56_25, s56_26, s56_29, s56_30, s56_33, s56_36, s56_37, kont_some, kont_none, w32_of, if_true, if_false, tdv, tmd, setA_eq, up_setA, rd_hi, Int.reduceToNat, if_neg (show ¬ (1 : Int) = 0 by decide), if_pos h1]
  · by_cases h2 : s < 6
    · rw [if_pos (by omega)]
      have e : w + 1 + (1 + s.toNat) = w + 2 + s.toNat := by omega
      have h2' : s < ((6 : Nat) : Int) := h2
      simp (disch := first | assumption | omega | decide | exact b2i_01 _ | (unfold lx; omega)) only [s56_0, s56_1, s56_4, s56_5, s56_6, s56_9, s56_10, s56_13, s56_14, s56_17, s56_18, s56_19, s56_22, s56_23, s56_24, s56_25, s56_26, s56_29, s56_30, s56_33, s56_36, s56_37, kont_some, kont_none, w32_of, if_true, if_false, tdv, tmd, setA_eq, up_setA, rd_hi, Int.reduceToNat, if_neg (show ¬ (1 : Int) = 0 by decide), if_neg h1, l2, if_pos h2', e]
    · rw [if_neg (by omega)]
      have h2' : ¬ s < ((6 : Nat) : Int) := h2
      simp (disch := first | assumption | omega | decide | exact b2i_01 _ | (unfold lx; omega)) only [s56_0, s56_1, s56_4, s56_5, s56_6, s56_9, s56_10, s56_13, s56_14, s56_17, s56_18, s56_19, s56_22, s56_23, s56_24, s56_25, s56_26, s56_29, s56_30, s56_33, s56_36, s56_37, kont_some, kont_none, w32_of, if_true, if_false, tdv, tmd, setA_eq, up_setA, rd_hi, Int.reduceToNat, if_neg (show ¬ (1 : Int) = 0 by decide), if_neg h1, l2, if_neg h2']
theorem c57 (hw : tg w = 6) : wp 57 0 [.inr (.inl w), .inl s] [] (hp S D) Q ↔ Q (some (.inl (b2i (¬ D w 5 = 0 ∧ D w 2 = s)))) (hp S D) := by
  have h0 := tg_ne0 hw (by decide)
  by_cases h1 : D w 5 = 0
  · rw [b2i_f (fun q => q.1 h1)]
    simp (disch := first | assumption | omega | decide | exact b2i_01 _ | (unfold lx; omega)) only [s57_0, s57_1, s57_4, s57_7, s57_8, s57_11, s57_12, s57_15, s57_16, s57_19, s57_20, kont_some, kont_none, w32_of, if_true, if_false, tdv, tmd, setA_eq, up_setA, rd_hi, Int.reduceToNat, if_neg (show ¬ (1 : Int) = 0 by decide), if_pos h1]
  · by_cases h2 : D w 2 = s
    · rw [b2i_t ⟨h1, h2⟩]
      simp (disch := first | assumption | omega | decide | exact b2i_01 _ | (unfold lx; omega)) only [s57_0, s57_1, s57_4, s57_7, s57_8, s57_11, s57_12, s57_15, s57_16, s57_19, s57_20, kont_some, kont_none, w32_of, if_true, if_false, tdv, tmd, setA_eq, up_setA, rd_hi, Int.reduceToNat, if_neg (show ¬ (1 : Int) = 0 by decide), if_neg h1, if_pos h2]
    · rw [b2i_f (fun q => h2 q.2)]
      simp (disch := first | assumption | omega | decide | exact b2i_01 _ | (unfold lx; omega)) only [s57_0, s57_1, s57_4, s57_7, s57_8, s57_11, s57_12, s57_15, s57_16, s57_19, s57_20, kont_some, kont_none, w32_of, if_true, if_false, tdv, tmd, setA_eq, up_setA, rd_hi, Int.reduceToNat, if_neg (show ¬ (1 : Int) = 0 by decide), if_neg h1, if_neg h2]
theorem c58 (hw : tg w = 6) : wp 58 0 [.inr (.inl w)] [] (hp S D) Q ↔ Q (some (.inl (b2i (¬ D w 3 = -5)))) (hp S D) := by
  have h0 := tg_ne0 hw (by decide)
  by_cases h1 : D w 3 = -5
  · rw [b2i_f (fun q => q h1)]
    simp (disch := first | assumption | omega | decide | exact b2i_01 _ | (unfold lx; omega)) only [s58_0, s58_1, s58_4, s58_6, s58_9, s58_10, s58_13, s58_14, kont_some, kont_none, w32_of, if_true, if_false, tdv, tmd, setA_eq, up_setA, rd_hi, Int.reduceToNat, if_neg (show ¬ (1 : Int) = 0 by decide), if_pos h1]
  · rw [b2i_t h1]
    simp (disch := first | assumption | omega | decide | exact b2i_01 _ | (unfold lx; omega)) only [s58_0, s58_1, s58_4, s58_6, s58_9, s58_10, s58_13, s58_14, kont_some, kont_none, w32_of, if_true, if_false, tdv, tmd, setA_eq, up_setA, rd_hi, Int.reduceToNat, if_neg (show ¬ (1 : Int) = 0 by decide), if_neg h1]
theorem c59 (hw : tg w = 6) (h1 : 0 ≤ s) (h2 : s ≤ 5) (h3 : 0 ≤ D w 2) (h4 : D w 2 ≤ 5) (h5 : 0 ≤ t) (h6 : t ≤ 10) : wp 59 0 [.inr (.inl w), .inl s, .inl t] [] (hp S D) Q ↔ Q none (hp S (up (up (up D w 5 0) w 3 s) w 4 ((s - D w 2) % 6 * t))) := by
  have h0 := tg_ne0 hw (by decide)
  have hb : 0 ≤ (s - D w 2) % 6 ∧ (s - D w 2) % 6 ≤ 5 := by omega
  have hm : 0 ≤ (s - D w 2) % 6 * t ∧ (s - D w 2) % 6 * t ≤ 50 := by
    constructor
    · exact Int.mul_nonneg hb.1 h5
    · have := Int.mul_le_mul hb.2 h6 h5 (by omega : (0 : Int) ≤ 5)
      omega
  simp (disch := first | assumption | omega | decide | exact b2i_01 _ | (unfold lx; omega)) only [s59_0, s59_1, s59_2, s59_5, s59_6, s59_7, s59_10, s59_11, s59_12, s59_13, s59_16, s59_17, s59_19, s59_22, s59_23, s59_24, s59_27, kont_some, kont_none, w32_of, if_true, if_false, b2i_eq0, ite_not, up_eq, up_ne2, up_ne1, tdv, tmd, c163]
theorem c60 (hw : tg w = 6) (h3 : -10 ≤ D w 4) (h4 : D w 4 ≤ 100) : wp 60 0 [.inr (.inl w)] [] (hp S D) Q ↔ Q none (hp S (if D w 3 = -5 then D else if 0 < D w 4 - 1 then up D w 4 (D w 4 - 1) else up (up (up (up D w 4 (D w 4 - 1)) w 4 0) w 2 (D w 3)) w 3 (-5))) := by
  have h0 := tg_ne0 hw (by decide)
  by_cases h1 : D w 3 = -5
  · rw [if_pos h1]
    simp (disch := first | assumption | omega | decide | exact b2i_01 _ | (unfold lx; omega)) only [s60_0, s60_1, s60_4, s60_7, s60_8, s60_9, s60_10, s60_13, s60_14, s60_15, s60_18, s60_19, s60_22, s60_25, s60_26, s60_27, s60_30, s60_31, s60_32, s60_35, s60_38, s60_39, s60_41, s60_44, kont_some, kont_none, w32_of, if_true, if_false, b2i_eq0, ite_not, up_eq, up_ne2, up_ne1, tdv, tmd, c58, b2i_f (fun q : ¬ D w 3 = -5 => q h1)]
  · rw [if_neg h1]
    by_cases h2 : 0 < D w 4 - 1
    · rw [if_pos h2]
      simp (disch := first | assumption | omega | decide | exact b2i_01 _ | (unfold lx; omega)) only [s60_0, s60_1, s60_4, s60_7, s60_8, s60_9, s60_10, s60_13, s60_14, s60_15, s60_18, s60_19, s60_22, s60_25, s60_26, s60_27, s60_30, s60_31, s60_32, s60_35, s60_38, s60_39, s60_41, s60_44, kont_some, kont_none, w32_of, if_true, if_false, tdv, tmd, setA_eq, up_setA, rd_hi, Int.reduceToNat, if_neg (show ¬ (1 : Int) = 0 by decide), up_eq, up_ne2, c58, b2i_t h1, if_pos h2]
    · rw [if_neg h2]
      simp (disch := first | assumption | omega | decide | exact b2i_01 _ | (unfold lx; omega)) only [s60_0, s60_1, s60_4, s60_7, s60_8, s60_9, s60_10, s60_13, s60_14, s60_15, s60_18, s60_19, s60_22, s60_25, s60_26, s60_27, s60_30, s60_31, s60_32, s60_35, s60_38, s60_39, s60_41, s60_44, kont_some, kont_none, w32_of, if_true, if_false, tdv, tmd, setA_eq, up_setA, rd_hi, Int.reduceToNat, if_neg (show ¬ (1 : Int) = 0 by decide), up_eq, up_ne2, c58, b2i_t h1, if_neg h2]
theorem c2 (hb : tg b = 0) (h1 : 0 ≤ D b 6) (h2 : D b 6 ≤ 47) (h3 : 0 ≤ D b 7) (h4 : D b 7 ≤ 47) : wp 2 0 [.inr (.inl b)] [] (hp S D) Q ↔ Q (some (.inl ((D b 7 - D b 6) % 48))) (hp S D) := by
  have h0 := tg_ne0 hb (by decide)
  simp (disch := first | assumption | omega | decide | exact b2i_01 _ | (unfold lx; omega)) only [s2_0, s2_1, s2_4, s2_5, s2_8, s2_9, s2_11, s2_14, kont_some, kont_none, w32_of, if_true, if_false, b2i_eq0, ite_not, up_eq, up_ne2, up_ne1, tdv, tmd, c163]
theorem c3 (hb : tg b = 0) (h1 : 0 ≤ D b 6) (h2 : D b 6 ≤ 47) (h3 : 0 ≤ D b 7) (h4 : D b 7 ≤ 47) (h5 : 0 ≤ D b 5) (h6 : D b 5 ≤ 1000000) : wp 3 0 [.inr (.inl b)] [] (hp S D) Q ↔ Q (some (.inl (b2i ((D b 5 - D b 6) % 48 < (D b 7 - D b 6) % 48)))) (hp S D) := by
  have h0 := tg_ne0 hb (by decide)
  by_cases q : (D b 5 - D b 6) % 48 < (D b 7 - D b 6) % 48
  · rw [b2i_t q]
    simp (disch := first | assumption | omega | decide | exact b2i_01 _ | (unfold lx; omega)) only [s3_0, s3_1, s3_4, s3_5, s3_8, s3_9, s3_11, s3_14, s3_15, s3_18, s3_21, s3_22, s3_25, s3_26, kont_some, kont_none, w32_of, if_true, if_false, tdv, tmd, setA_eq, up_setA, rd_hi, Int.reduceToNat, if_neg (show ¬ (1 : Int) = 0 by decide), c163, c2, if_pos q]
  · rw [b2i_f q]
    simp (disch := first | assumption | omega | decide | exact b2i_01 _ | (unfold lx; omega)) only [s3_0, s3_1, s3_4, s3_5, s3_8, s3_9, s3_11, s3_14, s3_15, s3_18, s3_21, s3_22, s3_25, s3_26, kont_some, kont_none, w32_of, if_true, if_false, tdv, tmd, setA_eq, up_setA, rd_hi, Int.reduceToNat, if_neg (show ¬ (1 : Int) = 0 by decide), c163, c2, if_neg q]
theorem nig_eq {F : eRow} : ((F 0 - F 1) % 48 < (F 2 - F 1) % 48) ↔ nigF F := by
  unfold nigF
  omega
def cntD (D : eD) (b : Nat) : eD := up (up (up D b 8 (D b 8 + 1)) b 12 (D b 12 + 1)) b 9 (if D b 9 < D b 12 + 1 then D b 12 + 1 else D b 9)
theorem c10 (hb : tg b = 0) (hv : v = 0 ∨ v = 1) (h1 : 0 ≤ D b 8 ∧ D b 8 ≤ 1000000) (h2 : 0 ≤ D b 12 ∧ D b 12 ≤ 1000000) : wp 10 0 [.inr (.inl b), .inl v] [] (hp S D) Q ↔ Q none (hp S (if v = 1 then up D b 12 0 else cntD D b)) := by
  have h0 := tg_ne0 hb (by decide)
  rcases hv with rfl | rfl
  · rw [if_neg (by decide)]
    unfold cntD
    simp (disch := first | assumption | omega | decide | exact b2i_01 _ | (unfold lx; omega)) only [s10_0, s10_1, s10_4, s10_5, s10_6, s10_9, s10_10, s10_11, s10_12, s10_15, s10_16, s10_17, s10_20, s10_21, s10_22, s10_25, s10_26, s10_27, s10_30, s10_31, s10_32, s10_35, s10_36, s10_39, s10_42, s10_45, kont_some, kont_none, w32_of, if_true, if_false, tdv, tmd, setA_eq, up_setA, rd_hi, Int.reduceToNat, if_neg (show ¬ (1 : Int) = 0 by decide), up_eq, up_ne2, c164]
  · rw [if_pos rfl]
    simp (disch := first | assumption | omega | decide | exact b2i_01 _ | (unfold lx; omega)) only [s10_0, s10_1, s10_4, s10_5, s10_6, s10_9, s10_10, s10_11, s10_12, s10_15, s10_16, s10_17, s10_20, s10_21, s10_22, s10_25, s10_26, s10_27, s10_30, s10_31, s10_32, s10_35, s10_36, s10_39, s10_42, s10_45, kont_some, kont_none, w32_of, if_true, if_false, tdv, tmd, setA_eq, up_setA, rd_hi, Int.reduceToNat, if_neg (show ¬ (1 : Int) = 0 by decide), if_neg (show ¬ (1 : Int) = 0 by decide)]
end SPEC46
