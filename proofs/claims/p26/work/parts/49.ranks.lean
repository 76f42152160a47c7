/-! the wheel's ranks -/
section SPEC49
variable {S : List Int} {D E : eD} {h : eH} {Q : Option eV → eH → Prop} {v x s p m t lim pat : Int} {r j a b n w : Nat} {F R : eRow} {l0 l1 : eV}
theorem c63a (hw : tg w = 6) (hS : S.length ≤ 2048) (hR : WhR D w F) (hF : St F) (hg : goF F s 0) (n : Nat) : ∀ (j m : Int) (l5 l6 : eV), j = 6 - n → n ≤ 6 → 0 ≤ m → m ≤ j → (wp 63 14 [.inr (.inl w), .inl s, .inl (leF F s), .inl m, .inl j, l5, l6] [] (hp S D) Q ↔ Q (some (.inl (m + aheF F s n j))) (hp S D)) := by
  have h0 := tg_ne0 hw (by decide)
  obtain ⟨⟨e2, e3, e4, e5⟩, hL, hN⟩ := hR
  induction n with
  | zero =>
    intro j m l5 l6 hk hn hm hm2
    have h1 : ¬ j < 6 := by omega
    rw [s63_14]
    simp (disch := first | assumption | omega | decide | exact b2i_01 _ | (unfold lx; omega)) only [s63_16, s63_18, s63_82, s63_83, kont_some, kont_none, w32_of, if_true, if_false, tdv, tmd, setA_eq, up_setA, rd_hi, Int.reduceToNat, if_neg (show ¬ (1 : Int) = 0 by decide), if_neg h1, aheF, Int.add_zero]
  | succ n ih =>
    intro j m l5 l6 hk hn hm hm2
    have h1 : j < 6 := by omega
    have k0 : 0 ≤ j := by omega
    have k5 : j ≤ 5 := by omega
    have t3 : tg (lw w j) = 3 := lw_tg hw
    have tn := tg_ne0 t3 (by decide)
    have hr := hL j k0 k5
    have hu := LmR_use hr
    obtain ⟨⟨b1, b2⟩, ⟨b3, b4⟩, b5⟩ := LmR_b hr (hF.1 j k0 k5)
    have c31' := fun Q' => c31 (S := S) (D := D) (Q := Q') t3 (by omega) (by omega)
    have yes : ahdF F s j → m + aheF F s (n + 1) j = m + 1 + aheF F s n (j + 1) := fun z => by
      show m + (b2i (ahdF F s j) + aheF F s n (j + 1)) = _
      rw [b2i_t z]; omega
    have no : ¬ ahdF F s j → m + aheF F s (n + 1) j = m + aheF F s n (j + 1) := fun z => by
      show m + (b2i (ahdF F s j) + aheF F s n (j + 1)) = _
      rw [b2i_f z]; omega
    have key : ∀ c : Int, (c = 0 ∨ c = 1) → (c = 1 ↔ (leF F s < D (lw w j) 2 - D (lw w j) 3 ∨ (D (lw w j) 2 - D (lw w j) 3 = leF F s ∧ j < s))) → ∀ Q', (wp 63 60 [.inr (.inl w), .inl s, .inl (leF F s), .inl m, .inl j, .inr (.inl (lw w j)), .inl c] [] (hp S D) Q' ↔ wp 63 14 [.inr (.inl w), .inl s, .inl (leF F s), .inl (if ahdF F s j then m + 1 else m), .inl (j + 1), .inr (.inl (lw w j)), .inl c] [] (hp S D) Q') := by
      intro c hc hcc Q'
      by_cases q : goF F j 0
      · have q' := hu.mpr q
        have hp' := hr.resolve_left (fun z => q.1.1 z.2.1)
        have hle : D (lw w j) 2 - D (lw w j) 3 = leF F j := by unfold leF; rw [hp'.2.2.2.1, hp'.2.2.2.2.1]
        rw [hle] at hcc
        rcases hc with rfl | rfl
        · have z : ¬ ahdF F s j := fun z => absurd (hcc.mpr z.2) (by decide)
          rw [if_neg z]
          simp (disch := first | assumption | omega | decide | exact b2i_01 _ | (unfold lx; omega)) only [s63_60, s63_62, s63_65, s63_68, s63_70, s63_73, s63_76, s63_79, kont_some, kont_none, w32_of, if_true, if_false, tdv, tmd, setA_eq, up_setA, rd_hi, Int.reduceToNat, if_neg (show ¬ (1 : Int) = 0 by decide), c29, b2i_t q']
        · have z : ahdF F s j := ⟨q, hcc.mp rfl⟩
          rw [if_pos z]
          simp (disch := first | assumption | omega | decide | exact b2i_01 _ | (unfold lx; omega)) only [s63_60, s63_62, s63_65, s63_68, s63_70, s63_73, s63_76, s63_79, kont_some, kont_none, w32_of, if_true, if_false, tdv, tmd, setA_eq, up_setA, rd_hi, Int.reduceToNat, if_neg (show ¬ (1 : Int) = 0 by decide), c29, b2i_t q']
      · have q' := fun z => q (hu.mp z)
        rw [if_neg (fun z => q z.1)]
        simp (disch := first | assumption | omega | decide | exact b2i_01 _ | (unfold lx; omega)) only [s63_60, s63_62, s63_65, s63_68, s63_70, s63_73, s63_76, s63_79, kont_some, kont_none, w32_of, if_true, if_false, tdv, tmd, setA_eq, up_setA, rd_hi, Int.reduceToNat, if_neg (show ¬ (1 : Int) = 0 by decide), c29, b2i_f q']
    have fin : ∀ (c : Int), (wp 63 14 [.inr (.inl w), .inl s, .inl (leF F s), .inl (if ahdF F s j then m + 1 else m), .inl (j + 1), .inr (.inl (lw w j)), .inl c] [] (hp S D) Q ↔ Q (some (.inl (m + aheF F s (n + 1) j))) (hp S D)) := by
      intro c
      by_cases z : ahdF F s j
      · rw [if_pos z, yes z]
        exact ih (j + 1) (m + 1) _ _ (by omega) (by omega) (by omega) (by omega)
      · rw [if_neg z, no z]
        exact ih (j + 1) m _ _ (by omega) (by omega) (by omega) (by omega)
    rw [s63_14]
    by_cases q1 : leF F s < D (lw w j) 2 - D (lw w j) 3
    · have k1 := key 1 (Or.inr rfl) ⟨fun _ => Or.inl q1, fun _ => rfl⟩
      rw [← fin 1, ← k1]
      simp (disch := first | assumption | omega | decide | exact b2i_01 _ | (unfold lx; omega)) only [s63_16, s63_18, s63_21, s63_22, s63_24, s63_27, s63_29, s63_31, s63_34, s63_35, s63_38, s63_40, s63_43, s63_44, s63_47, s63_49, s63_50, s63_53, s63_54, s63_57, s63_58, kont_some, kont_none, w32_of, if_true, if_false, tdv, tmd, setA_eq, up_setA, rd_hi, Int.reduceToNat, if_neg (show ¬ (1 : Int) = 0 by decide), if_pos h1, c56, c31', if_pos q1]
    · by_cases q2 : D (lw w j) 2 - D (lw w j) 3 = leF F s
      · by_cases q3 : j < s
        · have k1 := key 1 (Or.inr rfl) ⟨fun _ => Or.inr ⟨q2, q3⟩, fun _ => rfl⟩
          rw [← fin 1, ← k1]
          simp (disch := first | assumption | omega | decide | exact b2i_01 _ | (unfold lx; omega)) only [s63_16, s63_18, s63_21, s63_22, s63_24, s63_27, s63_29, s63_31, s63_34, s63_35, s63_38, s63_40, s63_43, s63_44, s63_47, s63_49, s63_50, s63_53, s63_54, s63_57, s63_58, kont_some, kont_none, w32_of, if_true, if_false, tdv, tmd, setA_eq, up_setA, rd_hi, Int.reduceToNat, if_neg (show ¬ (1 : Int) = 0 by decide), if_pos h1, c56, c31', if_neg q1, if_pos q2, if_pos q3]
        · have k1 := key 0 (Or.inl rfl) ⟨fun z => absurd z (by decide), fun z => z.elim (fun y => absurd y q1) (fun y => absurd y.2 q3)⟩
          rw [← fin 0, ← k1]
          simp (disch := first | assumption | omega | decide | exact b2i_01 _ | (unfold lx; omega)) only [s63_16, s63_18, s63_21, s63_22, s63_24, s63_27, s63_29, s63_31, s63_34, s63_35, s63_38, s63_40, s63_43, s63_44, s63_47, s63_49, s63_50, s63_53, s63_54, s63_57, s63_58, kont_some, kont_none, w32_of, if_true, if_false, tdv, tmd, setA_eq, up_setA, rd_hi, Int.reduceToNat, if_neg (show ¬ (1 : Int) = 0 by decide), if_pos h1, c56, c31', if_neg q1, if_pos q2, if_neg q3]
      · have k1 := key 0 (Or.inl rfl) ⟨fun z => absurd z (by decide), fun z => z.elim (fun y => absurd y q1) (fun y => absurd y.1 q2)⟩
        rw [← fin 0, ← k1]
        simp (disch := first | assumption | omega | decide | exact b2i_01 _ | (unfold lx; omega)) only [s63_16, s63_18, s63_21, s63_22, s63_24, s63_27, s63_29, s63_31, s63_34, s63_35, s63_38, s63_40, s63_43, s63_44, s63_47, s63_49, s63_50, s63_53, s63_54, s63_57, s63_58, kont_some, kont_none, w32_of, if_true, if_false, tdv, tmd, setA_eq, up_setA, rd_hi, Int.reduceToNat, if_neg (show ¬ (1 : Int) = 0 by decide), if_pos h1, c56, c31', if_neg q1, if_neg q2]
theorem c63 (hw : tg w = 6) (hS : S.length ≤ 2048) (hR : WhR D w F) (hF : St F) (hg : goF F s 0) (h1 : 0 ≤ s) (h2 : s ≤ 5) : wp 63 0 [.inr (.inl w), .inl s, .inr (.inl 0), .inr (.inl 0), .inr (.inl 0), .inr (.inl 0), .inr (.inl 0)] [] (hp S D) Q ↔ Q (some (.inl (aheF F s 6 0))) (hp S D) := by
  have h0 := tg_ne0 hw (by decide)
  have e := c63a (Q := Q) hw hS hR hF hg 6 0 0 (.inr (.inl 0)) (.inr (.inl 0)) (by omega) (by omega) (by omega) (by omega)
  rw [Int.zero_add] at e
  have t3 : tg (lw w s) = 3 := lw_tg hw
  have tn := tg_ne0 t3 (by decide)
  have hr := hR.2.1 s h1 h2
  obtain ⟨⟨b1, b2⟩, ⟨b3, b4⟩, b5⟩ := LmR_b hr (hF.1 s h1 h2)
  have c31' := fun Q' => c31 (S := S) (D := D) (Q := Q') t3 (by omega) (by omega)
  have hp' := hr.resolve_left (fun z => hg.1.1 z.2.1)
  have hle : D (lw w s) 2 - D (lw w s) 3 = leF F s := by unfold leF; rw [hp'.2.2.2.1, hp'.2.2.2.2.1]
  rw [← e]
  simp (disch := first | assumption | omega | decide | exact b2i_01 _ | (unfold lx; omega)) only [s63_0, s63_1, s63_2, s63_5, s63_8, s63_9, s63_10, s63_11, s63_12, kont_some, kont_none, w32_of, if_true, if_false, tdv, tmd, setA_eq, up_setA, rd_hi, Int.reduceToNat, if_neg (show ¬ (1 : Int) = 0 by decide), c56, c31', hle]
theorem c62a (hw : tg w = 6) (hS : S.length ≤ 2048) (hR : WhR D w F) (hF : St F) (n : Nat) : ∀ (k : Int), k = 6 - n → n ≤ 6 → (wp 62 2 [.inr (.inl w), .inl p, .inl k] [] (hp S D) Q ↔ Q (some (.inl (rkF F p n k))) (hp S D)) := by
  have h0 := tg_ne0 hw (by decide)
  induction n with
  | zero =>
    intro k hk hn
    have h1 : ¬ k < 6 := by omega
    rw [s62_2]
    simp (disch := first | assumption | omega | decide | exact b2i_01 _ | (unfold lx; omega)) only [s62_3, s62_5, s62_36, s62_38, kont_some, kont_none, w32_of, if_true, if_false, tdv, tmd, setA_eq, up_setA, rd_hi, Int.reduceToNat, if_neg (show ¬ (1 : Int) = 0 by decide), if_neg h1, rkF]
  | succ n ih =>
    intro k hk hn
    have h1 : k < 6 := by omega
    have k0 : 0 ≤ k := by omega
    have k5 : k ≤ 5 := by omega
    have t3 : tg (lw w k) = 3 := lw_tg hw
    have tn := tg_ne0 t3 (by decide)
    have hu := LmR_use (hR.2.1 k k0 k5)
    unfold rkF
    rw [s62_2]
    by_cases q : goF F k 0
    · have q' := hu.mpr q
      have c63' := fun Q' => c63 (Q := Q') hw hS hR hF q k0 k5
      by_cases q2 : aheF F k 6 0 = p
      · rw [if_pos ⟨q, q2⟩]
        simp (disch := first | assumption | omega | decide | exact b2i_01 _ | (unfold lx; omega)) only [s62_3, s62_5, s62_8, s62_9, s62_10, s62_13, s62_16, s62_19, s62_20, s62_21, s62_24, s62_25, s62_28, s62_29, s62_30, s62_33, kont_some, kont_none, w32_of, if_true, if_false, tdv, tmd, setA_eq, up_setA, rd_hi, Int.reduceToNat, if_neg (show ¬ (1 : Int) = 0 by decide), if_pos h1, c56, c29, b2i_t q', c63', if_pos q2]
      · rw [if_neg (fun z => q2 z.2), ← ih (k + 1) (by omega) (by omega)]
        simp (disch := first | assumption | omega | decide | exact b2i_01 _ | (unfold lx; omega)) only [s62_3, s62_5, s62_8, s62_9, s62_10, s62_13, s62_16, s62_19, s62_20, s62_21, s62_24, s62_25, s62_28, s62_29, s62_30, s62_33, kont_some, kont_none, w32_of, if_true, if_false, tdv, tmd, setA_eq, up_setA, rd_hi, Int.reduceToNat, if_neg (show ¬ (1 : Int) = 0 by decide), if_pos h1, c56, c29, b2i_t q', c63', if_neg q2]
    · have q' := fun z => q (hu.mp z)
      rw [if_neg (fun z => q z.1), ← ih (k + 1) (by omega) (by omega)]
      simp (disch := first | assumption | omega | decide | exact b2i_01 _ | (unfold lx; omega)) only [s62_3, s62_5, s62_8, s62_9, s62_10, s62_13, s62_16, s62_19, s62_20, s62_21, s62_24, s62_25, s62_28, s62_29, s62_30, s62_33, kont_some, kont_none, w32_of, if_true, if_false, tdv, tmd, setA_eq, up_setA, rd_hi, Int.reduceToNat, if_neg (show ¬ (1 : Int) = 0 by decide), if_pos h1, c56, c29, b2i_f q']
theorem c62 (hw : tg w = 6) (hS : S.length ≤ 2048) (hR : WhR D w F) (hF : St F) : wp 62 0 [.inr (.inl w), .inl p, .inr (.inl 0)] [] (hp S D) Q ↔ Q (some (.inl (rkF F p 6 0))) (hp S D) := by
  have e := c62a (Q := Q) (p := p) hw hS hR hF 6 0 (by omega) (by omega)
  rw [← e]
  simp (disch := first | assumption | omega | decide | exact b2i_01 _ | (unfold lx; omega)) only [s62_0, s62_1, kont_some, kont_none, w32_of, if_true, if_false, tdv, tmd, setA_eq, up_setA, rd_hi, Int.reduceToNat, if_neg (show ¬ (1 : Int) = 0 by decide)]
end SPEC49
