/-! a lamp of the class against a socket of the row; the wheel against the row -/
def LmR (D : eD) (k : Nat) (F : eRow) (s : Int) : Prop :=
  (D k 0 = -1 ∧ F (lx s 0) = -5 ∧ (0 ≤ D k 2 ∧ D k 2 ≤ 1050) ∧ (0 ≤ D k 3 ∧ D k 3 ≤ 1066) ∧ (D k 5 = 0 ∨ D k 5 = 1)) ∨
  (D k 0 = F (lx s 0) ∧ (0 ≤ F (lx s 0) ∧ F (lx s 0) ≤ 2) ∧ D k 1 = F (lx s 1) ∧ D k 2 = lfF F s ∧ D k 3 = F (lx s 2) ∧ D k 5 = F (lx s 3) ∧ D k 4 = F (lx s 4))
def WhR (D : eD) (w : Nat) (F : eRow) : Prop :=
  (D w 2 = F 7 ∧ D w 3 = F 8 ∧ D w 4 = F 9 ∧ D w 5 = F 10) ∧ (∀ s, 0 ≤ s → s ≤ 5 → LmR D (lw w s) F s) ∧ (D (w + 8) 0 = -1 ∧ (0 ≤ D (w + 8) 2 ∧ D (w + 8) 2 ≤ 1050) ∧ (0 ≤ D (w + 8) 3 ∧ D (w + 8) 3 ≤ 1066) ∧ (D (w + 8) 5 = 0 ∨ D (w + 8) 5 = 1))
theorem LmR_th {D : eD} {k : Nat} {F : eRow} {s : Int} (h : LmR D k F s) : (¬ D k 0 = -1) ↔ ¬ F (lx s 0) = -5 := by
  rcases h with ⟨h1, h2, _⟩ | ⟨h1, h2, _⟩
  · exact ⟨fun q => absurd h1 q, fun q => absurd h2 q⟩
  · exact ⟨fun _ => by omega, fun _ => by omega⟩
theorem LmR_use {D : eD} {k : Nat} {F : eRow} {s : Int} (h : LmR D k F s) : (¬ D k 0 = -1 ∧ D k 3 < D k 2) ↔ goF F s 0 := by
  have ht := LmR_th h
  have z : ¬ ((0 : Int) = 1 ∧ F (lx s 3) = 1) := fun q => absurd q.1 (by decide)
  rcases h with ⟨h1, h2, _⟩ | ⟨h1, h2, h3, h4, h5, h6, h7⟩
  · exact ⟨fun q => absurd h1 q.1, fun q => absurd h2 q.1.1⟩
  · rw [h4, h5, ht]
    exact ⟨fun q => ⟨q, z⟩, fun q => q.1⟩
theorem LmR_fr {D : eD} {k : Nat} {F : eRow} {s : Int} (h : LmR D k F s) (h3 : F (lx s 3) = 0 ∨ F (lx s 3) = 1) : ((¬ D k 0 = -1 ∧ D k 3 < D k 2) ∧ D k 5 = 0) ↔ goF F s 1 := by
  have ht := LmR_th h
  rcases h with ⟨h1, h2, _⟩ | ⟨h1, h2, h3', h4, h5, h6, h7⟩
  · exact ⟨fun q => absurd h1 q.1.1, fun q => absurd h2 q.1.1⟩
  · rw [h4, h5, h6, ht]
    exact ⟨fun q => ⟨q.1, fun z => by have := z.2; have := q.2; omega⟩, fun q => ⟨q.1, h3.resolve_right (fun z => q.2 ⟨rfl, z⟩)⟩⟩
section SPEC47
variable {S : List Int} {D E : eD} {h : eH} {Q : Option eV → eH → Prop} {v x s p m t lim pat : Int} {r j a b n w : Nat} {F R : eRow} {l0 l1 : eV}
theorem c61a (hw : tg w = 6) (hS : S.length ≤ 2048) (hR : WhR D w F) (hF : St F) (n : Nat) : ∀ (k u : Int) (l3 l4 : eV), k = 7 - n → n ≤ 6 → (u = -5 ∨ (0 ≤ u ∧ u ≤ 5)) → (wp 61 5 [.inr (.inl w), .inl u, .inl k, l3, l4] [] (hp S D) Q ↔ Q (some (.inl (if fndF F 1 n k = -5 then (if u = -5 then fndF F 0 n k else u) else fndF F 1 n k))) (hp S D)) := by
  have h0 := tg_ne0 hw (by decide)
  have f7 : 0 ≤ F 7 ∧ F 7 ≤ 5 := hF.2.2.2.2.2.2.2.2.1
  obtain ⟨⟨e2, e3, e4, e5⟩, hL, hN⟩ := hR
  induction n with
  | zero =>
    intro k u l3 l4 hk hn hu
    have h1 : 6 < k := by omega
    have ez : (if fndF F 1 0 k = -5 then (if u = -5 then fndF F 0 0 k else u) else fndF F 1 0 k) = u := by
      show (if (-5 : Int) = -5 then (if u = -5 then -5 else u) else -5) = u
      rw [if_pos rfl]
      split
      · next q => exact q.symm
      · rfl
    rw [ez, s61_5]
    simp (disch := first | assumption | omega | decide | exact b2i_01 _ | (unfold lx; omega)) only [s61_6, s61_8, s61_60, s61_61, kont_some, kont_none, w32_of, if_true, if_false, tdv, tmd, setA_eq, up_setA, rd_hi, Int.reduceToNat, if_neg (show ¬ (1 : Int) = 0 by decide), if_pos h1]
  | succ n ih =>
    intro k u l3 l4 hk hn hu
    have h1 : ¬ 6 < k := by omega
    have s0 : 0 ≤ (F 7 + k) % 6 := by omega
    have s5 : (F 7 + k) % 6 ≤ 5 := by omega
    have s3 : ¬ (F 7 + k) % 6 = -5 := by omega
    have t3 : tg (lw w ((F 7 + k) % 6)) = 3 := lw_tg hw
    have tn := tg_ne0 t3 (by decide)
    have hr := hL _ s0 s5
    have hB := hF.1 _ s0 s5
    have hu1 := LmR_use hr
    have hu2 := LmR_fr hr hB.2.2.2.2.1
    rw [s61_5]
    by_cases q1 : goF F ((F 7 + k) % 6) 1
    · have q1' := hu2.mpr q1
      have ez : fndF F 1 (n + 1) k = (F 7 + k) % 6 := if_pos q1
      rw [ez, if_neg s3]
      simp (disch := first | assumption | omega | decide | exact b2i_01 _ | (unfold lx; omega)) only [s61_6, s61_8, s61_11, s61_12, s61_15, s61_16, s61_17, s61_19, s61_20, s61_21, s61_22, s61_23, s61_26, s61_28, s61_30, s61_33, s61_36, s61_37, kont_some, kont_none, w32_of, if_true, if_false, tdv, tmd, setA_eq, up_setA, rd_hi, Int.reduceToNat, if_neg (show ¬ (1 : Int) = 0 by decide), e2, if_neg h1, c56, c30, b2i_t q1']
    · have q1' := fun q => q1 (hu2.mp q)
      have ez : fndF F 1 (n + 1) k = fndF F 1 n (k + 1) := if_neg q1
      rw [ez]
      by_cases q2 : u = -5
      · by_cases q3 : goF F ((F 7 + k) % 6) 0
        · have q3' := hu1.mpr q3
          have ey : fndF F 0 (n + 1) k = (F 7 + k) % 6 := if_pos q3
          have ih' := ih (k + 1) ((F 7 + k) % 6) (.inl ((F 7 + k) % 6)) (.inr (.inl (lw w ((F 7 + k) % 6)))) (by omega) (by omega) (Or.inr ⟨s0, s5⟩)
          rw [if_neg s3] at ih'
          rw [ey, if_pos q2, ← ih']
          simp (disch := first | assumption | omega | decide | exact b2i_01 _ | (unfold lx; omega)) only [s61_6, s61_8, s61_11, s61_12, s61_15, s61_16, s61_17, s61_19, s61_20, s61_21, s61_22, s61_23, s61_26, s61_28, s61_30, s61_33, s61_36, s61_37, s61_38, s61_39, s61_41, s61_44, s61_46, s61_49, s61_52, s61_53, s61_54, s61_57, kont_some, kont_none, w32_of, if_true, if_false, tdv, tmd, setA_eq, up_setA, rd_hi, Int.reduceToNat, if_neg (show ¬ (1 : Int) = 0 by decide), e2, if_neg h1, c56, c30, b2i_f q1', if_pos q2, c29, b2i_t q3']
        · have q3' := fun q => q3 (hu1.mp q)
          have ey : fndF F 0 (n + 1) k = fndF F 0 n (k + 1) := if_neg q3
          have ih' := ih (k + 1) u (.inl ((F 7 + k) % 6)) (.inr (.inl (lw w ((F 7 + k) % 6)))) (by omega) (by omega) hu
          rw [ey, ← ih']
          simp (disch := first | assumption | omega | decide | exact b2i_01 _ | (unfold lx; omega)) only [s61_6, s61_8, s61_11, s61_12, s61_15, s61_16, s61_17, s61_19, s61_20, s61_21, s61_22, s61_23, s61_26, s61_28, s61_30, s61_33, s61_36, s61_37, s61_38, s61_39, s61_41, s61_44, s61_46, s61_49, s61_52, s61_53, s61_54, s61_57, kont_some, kont_none, w32_of, if_true, if_false, tdv, tmd, setA_eq, up_setA, rd_hi, Int.reduceToNat, if_neg (show ¬ (1 : Int) = 0 by decide), e2, if_neg h1, c56, c30, b2i_f q1', if_pos q2, c29, b2i_f q3']
      · have ih' := ih (k + 1) u (.inl ((F 7 + k) % 6)) (.inr (.inl (lw w ((F 7 + k) % 6)))) (by omega) (by omega) hu
        rw [if_neg q2] at ih' ⊢
        rw [← ih']
        simp (disch := first | assumption | omega | decide | exact b2i_01 _ | (unfold lx; omega)) only [s61_6, s61_8, s61_11, s61_12, s61_15, s61_16, s61_17, s61_19, s61_20, s61_21, s61_22, s61_23, s61_26, s61_28, s61_30, s61_33, s61_36, s61_37, s61_38, s61_39, s61_41, s61_44, s61_46, s61_49, s61_52, s61_53, s61_54, s61_57, kont_some, kont_none, w32_of, if_true, if_false, tdv, tmd, setA_eq, up_setA, rd_hi, Int.reduceToNat, if_neg (show ¬ (1 : Int) = 0 by decide), e2, if_neg h1, c56, c30, b2i_f q1', if_neg q2]
theorem c61 (hw : tg w = 6) (hS : S.length ≤ 2048) (hR : WhR D w F) (hF : St F) : wp 61 0 [.inr (.inl w), .inr (.inl 0), .inr (.inl 0), .inr (.inl 0), .inr (.inl 0)] [] (hp S D) Q ↔ Q (some (.inl (nxtF F))) (hp S D) := by
  have e := c61a (Q := Q) hw hS hR hF 6 1 (-5) (.inr (.inl 0)) (.inr (.inl 0)) (by omega) (by omega) (Or.inl rfl)
  have ez : (if fndF F 1 6 1 = -5 then (if (-5 : Int) = -5 then fndF F 0 6 1 else -5) else fndF F 1 6 1) = nxtF F := rfl
  rw [ez] at e
  rw [← e]
  simp (disch := first | assumption | omega | decide | exact b2i_01 _ | (unfold lx; omega)) only [s61_0, s61_2, s61_3, s61_4, kont_some, kont_none, w32_of, if_true, if_false, tdv, tmd, setA_eq, up_setA, rd_hi, Int.reduceToNat, if_neg (show ¬ (1 : Int) = 0 by decide)]
theorem c64a (hw : tg w = 6) (hS : S.length ≤ 2048) (hR : WhR D w F) (n : Nat) : ∀ (k m : Int), k = 6 - n → n ≤ 6 → 0 ≤ m → m ≤ k → (wp 64 4 [.inr (.inl w), .inl m, .inl k] [] (hp S D) Q ↔ Q (some (.inl (m + cntF F 1 n k))) (hp S D)) := by
  have h0 := tg_ne0 hw (by decide)
  obtain ⟨⟨e2, e3, e4, e5⟩, hL, hN⟩ := hR
  induction n with
  | zero =>
    intro k m hk hn hm hm2
    have h1 : ¬ k < 6 := by omega
    rw [s64_4]
    simp (disch := first | assumption | omega | decide | exact b2i_01 _ | (unfold lx; omega)) only [s64_5, s64_7, s64_30, s64_31, kont_some, kont_none, w32_of, if_true, if_false, tdv, tmd, setA_eq, up_setA, rd_hi, Int.reduceToNat, if_neg (show ¬ (1 : Int) = 0 by decide), if_neg h1, cntF, Int.add_zero]
  | succ n ih =>
    intro k m hk hn hm hm2
    have h1 : k < 6 := by omega
    have k0 : 0 ≤ k := by omega
    have k5 : k ≤ 5 := by omega
    have t3 : tg (lw w k) = 3 := lw_tg hw
    have tn := tg_ne0 t3 (by decide)
    have ht := LmR_th (hL k k0 k5)
    rw [s64_4]
    by_cases q : ¬ F (lx k 0) = -5
    · have q' := ht.mpr q
      have ec : m + cntF F 1 (n + 1) k = m + 1 + cntF F 1 n (k + 1) := by
        show m + (b2i (sortF F 1 k) + cntF F 1 n (k + 1)) = _
        rw [b2i_t (⟨q, Or.inl rfl⟩ : sortF F 1 k)]; omega
      rw [ec, ← ih (k + 1) (m + 1) (by omega) (by omega) (by omega) (by omega)]
      simp (disch := first | assumption | omega | decide | exact b2i_01 _ | (unfold lx; omega)) only [s64_5, s64_7, s64_10, s64_11, s64_12, s64_13, s64_16, s64_19, s64_22, s64_23, s64_24, s64_27, kont_some, kont_none, w32_of, if_true, if_false, tdv, tmd, setA_eq, up_setA, rd_hi, Int.reduceToNat, if_neg (show ¬ (1 : Int) = 0 by decide), if_pos h1, c56, c27, b2i_t q', c97]
    · have q' := fun z => q (ht.mp z)
      have ec : m + cntF F 1 (n + 1) k = m + cntF F 1 n (k + 1) := by
        show m + (b2i (sortF F 1 k) + cntF F 1 n (k + 1)) = _
        rw [b2i_f (fun z : sortF F 1 k => q z.1)]; omega
      rw [ec, ← ih (k + 1) m (by omega) (by omega) (by omega) (by omega)]
      simp (disch := first | assumption | omega | decide | exact b2i_01 _ | (unfold lx; omega)) only [s64_5, s64_7, s64_10, s64_11, s64_12, s64_13, s64_16, s64_19, s64_22, s64_23, s64_24, s64_27, kont_some, kont_none, w32_of, if_true, if_false, tdv, tmd, setA_eq, up_setA, rd_hi, Int.reduceToNat, if_neg (show ¬ (1 : Int) = 0 by decide), if_pos h1, c56, c27, b2i_f q', c97, Int.add_zero]
theorem c64 (hw : tg w = 6) (hS : S.length ≤ 2048) (hR : WhR D w F) : wp 64 0 [.inr (.inl w), .inr (.inl 0), .inr (.inl 0)] [] (hp S D) Q ↔ Q (some (.inl (cntF F 1 6 0))) (hp S D) := by
  have e := c64a (Q := Q) hw hS hR 6 0 0 (by omega) (by omega) (by omega) (by omega)
  rw [Int.zero_add] at e
  rw [← e]
  simp (disch := first | assumption | omega | decide | exact b2i_01 _ | (unfold lx; omega)) only [s64_0, s64_1, s64_2, s64_3, kont_some, kont_none, w32_of, if_true, if_false, tdv, tmd, setA_eq, up_setA, rd_hi, Int.reduceToNat, if_neg (show ¬ (1 : Int) = 0 by decide)]
end SPEC47
