/-! the wheel's counts and ranks -/
theorem LmR_b {D : eD} {k : Nat} {F : eRow} {s : Int} (h : LmR D k F s) (hB : LmB F s) : (0 ≤ D k 2 ∧ D k 2 ≤ 1050) ∧ (0 ≤ D k 3 ∧ D k 3 ≤ 1066) ∧ (D k 5 = 0 ∨ D k 5 = 1) := by
  rcases h with ⟨h1, h2, h3, h4, h5⟩ | ⟨h1, h2, h3, h4, h5, h6, h7⟩
  · exact ⟨h3, h4, h5⟩
  · obtain ⟨g1, g2, g3, g4, g5, g6, g7, g8⟩ := hB
    have hl : 0 ≤ lfF F s ∧ lfF F s ≤ 1050 := lifeF_b0 (kind := F (lx s 0)) g1 g2
    rw [h4, h5, h6]
    exact ⟨hl, ⟨g3, g4⟩, g5⟩
section SPEC48
variable {S : List Int} {D E : eD} {h : eH} {Q : Option eV → eH → Prop} {v x s p m t lim pat : Int} {r j a b n w : Nat} {F R : eRow} {l0 l1 : eV}
theorem c65a (hw : tg w = 6) (hS : S.length ≤ 2048) (hR : WhR D w F) (n : Nat) : ∀ (k m : Int) (l3 : eV), k = 6 - n → n ≤ 6 → 0 ≤ m → m ≤ k → (wp 65 4 [.inr (.inl w), .inl m, .inl k, l3] [] (hp S D) Q ↔ Q (some (.inl (m + cntF F 2 n k))) (hp S D)) := by
  have h0 := tg_ne0 hw (by decide)
  obtain ⟨⟨e2, e3, e4, e5⟩, hL, hN⟩ := hR
  induction n with
  | zero =>
    intro k m l3 hk hn hm hm2
    have h1 : ¬ k < 6 := by omega
    rw [s65_4]
    simp (disch := first | assumption | omega | decide | exact b2i_01 _ | (unfold lx; omega)) only [s65_5, s65_7, s65_47, s65_48, kont_some, kont_none, w32_of, if_true, if_false, tdv, tmd, setA_eq, up_setA, rd_hi, Int.reduceToNat, if_neg (show ¬ (1 : Int) = 0 by decide), if_neg h1, cntF, Int.add_zero]
  | succ n ih =>
    intro k m l3 hk hn hm hm2
    have h1 : k < 6 := by omega
    have k0 : 0 ≤ k := by omega
    have k5 : k ≤ 5 := by omega
    have t3 : tg (lw w k) = 3 := lw_tg hw
    have tn := tg_ne0 t3 (by decide)
    have ht := LmR_th (hL k k0 k5)
    have hr := hL k k0 k5
    have no : ¬ sortF F 2 k → m + cntF F 2 (n + 1) k = m + cntF F 2 n (k + 1) := fun z => by
      show m + (b2i (sortF F 2 k) + cntF F 2 n (k + 1)) = _
      rw [b2i_f z]; omega
    rw [s65_4]
    by_cases q : ¬ F (lx k 0) = -5
    · have q' := ht.mpr q
      have hp' := hr.resolve_left (fun z => q z.2.1)
      have e2' := hp'.2.2.2.1
      have e3' := hp'.2.2.2.2.1
      by_cases q2 : lfF F k ≤ F (lx k 2)
      · have q2' : D (lw w k) 2 ≤ D (lw w k) 3 := by omega
        have ec : m + cntF F 2 (n + 1) k = m + 1 + cntF F 2 n (k + 1) := by
          show m + (b2i (sortF F 2 k) + cntF F 2 n (k + 1)) = _
          rw [b2i_t (⟨q, Or.inr (Or.inl ⟨rfl, q2⟩)⟩ : sortF F 2 k)]; omega
        rw [ec, ← ih (k + 1) (m + 1) (.inr (.inl (lw w k))) (by omega) (by omega) (by omega) (by omega)]
        simp (disch := first | assumption | omega | decide | exact b2i_01 _ | (unfold lx; omega)) only [s65_5, s65_7, s65_10, s65_11, s65_12, s65_15, s65_16, s65_17, s65_18, s65_21, s65_24, s65_25, s65_28, s65_31, s65_32, s65_35, s65_36, s65_39, s65_40, s65_41, s65_44, kont_some, kont_none, w32_of, if_true, if_false, tdv, tmd, setA_eq, up_setA, rd_hi, Int.reduceToNat, if_neg (show ¬ (1 : Int) = 0 by decide), if_pos h1, c56, c27, b2i_t q', c28, b2i_t q2', c97]
      · have q2' : ¬ D (lw w k) 2 ≤ D (lw w k) 3 := by omega
        rw [no (fun z => z.2.elim (fun y => absurd y (by decide)) (fun y => y.elim (fun y => q2 y.2) (fun y => y.1.2 rfl))), ← ih (k + 1) m (.inr (.inl (lw w k))) (by omega) (by omega) (by omega) (by omega)]
        simp (disch := first | assumption | omega | decide | exact b2i_01 _ | (unfold lx; omega)) only [s65_5, s65_7, s65_10, s65_11, s65_12, s65_15, s65_16, s65_17, s65_18, s65_21, s65_24, s65_25, s65_28, s65_31, s65_32, s65_35, s65_36, s65_39, s65_40, s65_41, s65_44, kont_some, kont_none, w32_of, if_true, if_false, tdv, tmd, setA_eq, up_setA, rd_hi, Int.reduceToNat, if_neg (show ¬ (1 : Int) = 0 by decide), if_pos h1, c56, c27, b2i_t q', c28, b2i_f q2', c97, Int.add_zero]
    · have q' := fun z => q (ht.mp z)
      rw [no (fun z => q z.1), ← ih (k + 1) m (.inr (.inl (lw w k))) (by omega) (by omega) (by omega) (by omega)]
      simp (disch := first | assumption | omega | decide | exact b2i_01 _ | (unfold lx; omega)) only [s65_5, s65_7, s65_10, s65_11, s65_12, s65_15, s65_16, s65_17, s65_18, s65_21, s65_24, s65_25, s65_28, s65_31, s65_32, s65_35, s65_36, s65_39, s65_40, s65_41, s65_44, kont_some, kont_none, w32_of, if_true, if_false, tdv, tmd, setA_eq, up_setA, rd_hi, Int.reduceToNat, if_neg (show ¬ (1 : Int) = 0 by decide), if_pos h1, c56, c27, b2i_f q', c97, Int.add_zero]
theorem c65 (hw : tg w = 6) (hS : S.length ≤ 2048) (hR : WhR D w F) : wp 65 0 [.inr (.inl w), .inr (.inl 0), .inr (.inl 0), .inr (.inl 0)] [] (hp S D) Q ↔ Q (some (.inl (cntF F 2 6 0))) (hp S D) := by
  have e := c65a (Q := Q) hw hS hR 6 0 0 (.inr (.inl 0)) (by omega) (by omega) (by omega) (by omega)
  rw [Int.zero_add] at e
  rw [← e]
  simp (disch := first | assumption | omega | decide | exact b2i_01 _ | (unfold lx; omega)) only [s65_0, s65_1, s65_2, s65_3, kont_some, kont_none, w32_of, if_true, if_false, tdv, tmd, setA_eq, up_setA, rd_hi, Int.reduceToNat, if_neg (show ¬ (1 : Int) = 0 by decide)]
theorem c66a (hw : tg w = 6) (hS : S.length ≤ 2048) (hR : WhR D w F) (hF : St F) (n : Nat) : ∀ (k m : Int) (l3 : eV), k = 6 - n → n ≤ 6 → 0 ≤ m → m ≤ k → (wp 66 4 [.inr (.inl w), .inl m, .inl k, l3] [] (hp S D) Q ↔ Q (some (.inl (m + cntF F 3 n k))) (hp S D)) := by
  have h0 := tg_ne0 hw (by decide)
  obtain ⟨⟨e2, e3, e4, e5⟩, hL, hN⟩ := hR
  induction n with
  | zero =>
    intro k m l3 hk hn hm hm2
    have h1 : ¬ k < 6 := by omega
    rw [s66_4]
    simp (disch := first | assumption | omega | decide | exact b2i_01 _ | (unfold lx; omega)) only [s66_5, s66_7, s66_47, s66_48, kont_some, kont_none, w32_of, if_true, if_false, tdv, tmd, setA_eq, up_setA, rd_hi, Int.reduceToNat, if_neg (show ¬ (1 : Int) = 0 by decide), if_neg h1, cntF, Int.add_zero]
  | succ n ih =>
    intro k m l3 hk hn hm hm2
    have h1 : k < 6 := by omega
    have k0 : 0 ≤ k := by omega
    have k5 : k ≤ 5 := by omega
    have t3 : tg (lw w k) = 3 := lw_tg hw
    have tn := tg_ne0 t3 (by decide)
    have hr := hL k k0 k5
    have hu := LmR_use hr
    have no : ¬ sortF F 3 k → m + cntF F 3 (n + 1) k = m + cntF F 3 n (k + 1) := fun z => by
      show m + (b2i (sortF F 3 k) + cntF F 3 n (k + 1)) = _
      rw [b2i_f z]; omega
    have z31 : ¬ (3 : Int) = 1 := by decide
    have z32 : ¬ (3 : Int) = 2 := by decide
    rw [s66_4]
    by_cases q : goF F k 0
    · have q' := hu.mpr q
      have hp' := hr.resolve_left (fun z => q.1.1 z.2.1)
      have e5' := hp'.2.2.2.2.2.1
      have h3 := (hF.1 k k0 k5).2.2.2.2.1
      by_cases q2 : D (lw w k) 5 = 0
      · rw [no (fun z => z.2.elim z31 (fun y => y.elim (fun y => z32 y.1) (fun y => by have := y.2.1; omega))), ← ih (k + 1) m (.inr (.inl (lw w k))) (by omega) (by omega) (by omega) (by omega)]
        simp (disch := first | assumption | omega | decide | exact b2i_01 _ | (unfold lx; omega)) only [s66_5, s66_7, s66_10, s66_11, s66_12, s66_15, s66_16, s66_17, s66_18, s66_21, s66_24, s66_25, s66_28, s66_31, s66_32, s66_35, s66_36, s66_39, s66_40, s66_41, s66_44, kont_some, kont_none, w32_of, if_true, if_false, tdv, tmd, setA_eq, up_setA, rd_hi, Int.reduceToNat, if_neg (show ¬ (1 : Int) = 0 by decide), if_pos h1, c56, c29, b2i_t q', if_pos q2, c97, Int.add_zero]
      · have q3 : F (lx k 3) = 1 := h3.resolve_left (fun z => q2 (e5'.trans z))
        have ec : m + cntF F 3 (n + 1) k = m + 1 + cntF F 3 n (k + 1) := by
          show m + (b2i (sortF F 3 k) + cntF F 3 n (k + 1)) = _
          rw [b2i_t (⟨q.1.1, Or.inr (Or.inr ⟨⟨z31, z32⟩, q3, Int.not_le.mpr q.1.2⟩)⟩ : sortF F 3 k)]; omega
        rw [ec, ← ih (k + 1) (m + 1) (.inr (.inl (lw w k))) (by omega) (by omega) (by omega) (by omega)]
        simp (disch := first | assumption | omega | decide | exact b2i_01 _ | (unfold lx; omega)) only [s66_5, s66_7, s66_10, s66_11, s66_12, s66_15, s66_16, s66_17, s66_18, s66_21, s66_24, s66_25, s66_28, s66_31, s66_32, s66_35, s66_36, s66_39, s66_40, s66_41, s66_44, kont_some, kont_none, w32_of, if_true, if_false, tdv, tmd, setA_eq, up_setA, rd_hi, Int.reduceToNat, if_neg (show ¬ (1 : Int) = 0 by decide), if_pos h1, c56, c29, b2i_t q', if_neg q2, c97]
    · have q' := fun z => q (hu.mp z)
      rw [no (fun z => z.2.elim z31 (fun y => y.elim (fun y => z32 y.1) (fun y => q ⟨⟨z.1, Int.not_le.mp y.2.2⟩, fun u => absurd u.1 (by decide)⟩))), ← ih (k + 1) m (.inr (.inl (lw w k))) (by omega) (by omega) (by omega) (by omega)]
      simp (disch := first | assumption | omega | decide | exact b2i_01 _ | (unfold lx; omega)) only [s66_5, s66_7, s66_10, s66_11, s66_12, s66_15, s66_16, s66_17, s66_18, s66_21, s66_24, s66_25, s66_28, s66_31, s66_32, s66_35, s66_36, s66_39, s66_40, s66_41, s66_44, kont_some, kont_none, w32_of, if_true, if_false, tdv, tmd, setA_eq, up_setA, rd_hi, Int.reduceToNat, if_neg (show ¬ (1 : Int) = 0 by decide), if_pos h1, c56, c29, b2i_f q', c97, Int.add_zero]
theorem c66 (hw : tg w = 6) (hS : S.length ≤ 2048) (hR : WhR D w F) (hF : St F) : wp 66 0 [.inr (.inl w), .inr (.inl 0), .inr (.inl 0), .inr (.inl 0)] [] (hp S D) Q ↔ Q (some (.inl (cntF F 3 6 0))) (hp S D) := by
  have e := c66a (Q := Q) hw hS hR hF 6 0 0 (.inr (.inl 0)) (by omega) (by omega) (by omega) (by omega)
  rw [Int.zero_add] at e
  rw [← e]
  simp (disch := first | assumption | omega | decide | exact b2i_01 _ | (unfold lx; omega)) only [s66_0, s66_1, s66_2, s66_3, kont_some, kont_none, w32_of, if_true, if_false, tdv, tmd, setA_eq, up_setA, rd_hi, Int.reduceToNat, if_neg (show ¬ (1 : Int) = 0 by decide)]
end SPEC48
