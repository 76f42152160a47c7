/-! the log of events -/
theorem hap_80 {F : eRow} {a b : Int} : hapF F a b 80 = (if F 80 = 10 then 9 else F 80) + 1 := by
  unfold hapF
  split
  · unfold hapA
    rw [fu_ne (by decide), fu_eq, fu_eq]
  · unfold hapA
    rw [fu_ne (by decide), fu_eq]
theorem hap_at {F : eRow} {a b e c : Int} (h1 : 0 ≤ F 80) (h2 : F 80 ≤ 10) (he : 0 ≤ e) (he2 : e ≤ (if F 80 = 10 then 9 else F 80)) (hc : 0 ≤ c ∧ c ≤ 2) : hapF F a b (81 + 3 * e + c).toNat = if e = (if F 80 = 10 then 9 else F 80) then (if c = 0 then a else if c = 1 then b else F 0) else if F 80 = 10 then F (81 + 3 * (e + 1) + c).toNat else F (81 + 3 * e + c).toNat := by
  unfold hapF
  by_cases h10 : F 80 = 10
  · simp only [if_pos h10] at he2 ⊢
    have g80 : fu (shK F 108) 80 9 80 = 9 := fu_eq
    have g0 : fu (shK F 108) 80 9 0 = F 0 := by
      rw [fu_ne (by decide)]
      unfold shK
      rw [if_neg (by omega)]
    unfold hapA
    rw [g80, g0, fu_ne (by omega), fu_ne (by omega)]
    by_cases q : e = 9
    · subst q
      rw [if_pos rfl]
      rcases (show c = 0 ∨ c = 1 ∨ c = 2 by omega) with rfl | rfl | rfl
      · rw [fu_ne (by decide), fu_ne (by decide)]
        exact fu_eq
      · rw [fu_ne (by decide)]
        exact fu_eq
      · exact fu_eq
    · rw [if_neg q, fu_ne (by omega), fu_ne (by omega), fu_ne (by omega), fu_ne (by omega)]
      unfold shK
      rw [if_pos (by omega)]
      congr 1
      omega
  · simp only [if_neg h10] at he2 ⊢
    unfold hapA
    rw [fu_ne (by omega), fu_ne (by omega)]
    by_cases q : e = F 80
    · rw [if_pos q, q]
      rcases (show c = 0 ∨ c = 1 ∨ c = 2 by omega) with rfl | rfl | rfl
      · rw [fu_ne (by omega), fu_ne (by omega), show (81 + 3 * F 80 + 0).toNat = (81 + 3 * F 80).toNat by omega, fu_eq]
        rfl
      · rw [fu_ne (by omega), show (81 + 3 * F 80 + 1).toNat = (82 + 3 * F 80).toNat by omega, fu_eq]
        rfl
      · rw [show (81 + 3 * F 80 + 2).toNat = (83 + 3 * F 80).toNat by omega, fu_eq]
        rfl
    · rw [if_neg q, fu_ne (by omega), fu_ne (by omega), fu_ne (by omega)]
/-- the log g against the row -/
def LgR (D : eD) (g : Nat) (F : eRow) : Prop := D g 3 = F 80 ∧ (0 ≤ D g 4 ∧ D g 4 ≤ 9) ∧ ∀ back, 0 ≤ back → back < F 80 → D (g + 1) ((D g 4 - 1 - back) % 10).toNat = F (81 + 3 * (F 80 - 1 - back) + 0).toNat ∧ D (g + 2) ((D g 4 - 1 - back) % 10).toNat = F (81 + 3 * (F 80 - 1 - back) + 1).toNat ∧ D (g + 3) ((D g 4 - 1 - back) % 10).toNat = F (81 + 3 * (F 80 - 1 - back) + 2).toNat
def notD (D : eD) (g : Nat) (a b t : Int) : eD := up (up (up (up (up D (g + 1) (D g 4).toNat a) (g + 2) (D g 4).toNat b) (g + 3) (D g 4).toNat t) g 4 ((D g 4 + 1) % 10)) g 3 (if 10 < D g 3 + 1 then 10 else D g 3 + 1)
theorem lg_tg0 : ∀ g, g < 158 → tg g = 1 → 8 ≤ g ∧ tg (g + 1) = 100 ∧ tg (g + 2) = 100 ∧ tg (g + 3) = 100 ∧ lnL.getD (g + 1) 0 = 10 ∧ lnL.getD (g + 2) 0 = 10 ∧ lnL.getD (g + 3) 0 = 10 := by decide +kernel
theorem not_g {D : eD} {g : Nat} {a b t : Int} : notD D g a b t g 3 = (if 10 < D g 3 + 1 then 10 else D g 3 + 1) ∧ notD D g a b t g 4 = (D g 4 + 1) % 10 ∧ (∀ j, notD D g a b t (g + 1) j = if j = (D g 4).toNat then a else D (g + 1) j) ∧ (∀ j, notD D g a b t (g + 2) j = if j = (D g 4).toNat then b else D (g + 2) j) ∧ (∀ j, notD D g a b t (g + 3) j = if j = (D g 4).toNat then t else D (g + 3) j) ∧ (∀ k, k < g ∨ g + 3 < k → notD D g a b t k = D k) := by
  unfold notD
  refine ⟨up_eq, ?_, fun j => ?_, fun j => ?_, fun j => ?_, fun k hk => ?_⟩
  · rw [up_ne2 (by decide), up_eq]
  · rw [up_ne1 (by omega), up_ne1 (by omega), up_ne1 (by omega), up_ne1 (by omega)]
    by_cases h : j = (D g 4).toNat
    · rw [if_pos h, h, up_eq]
    · rw [if_neg h, up_ne2 h]
  · rw [up_ne1 (by omega), up_ne1 (by omega), up_ne1 (by omega)]
    by_cases h : j = (D g 4).toNat
    · rw [if_pos h, h, up_eq]
    · rw [if_neg h, up_ne2 h, up_ne1 (by omega)]
  · rw [up_ne1 (by omega), up_ne1 (by omega)]
    by_cases h : j = (D g 4).toNat
    · rw [if_pos h, h, up_eq]
    · rw [if_neg h, up_ne2 h, up_ne1 (by omega), up_ne1 (by omega)]
  · funext j
    rw [up_ne1 (by omega), up_ne1 (by omega), up_ne1 (by omega), up_ne1 (by omega), up_ne1 (by omega)]
theorem LgR_not {D : eD} {g : Nat} {F : eRow} {a b : Int} (h : LgR D g F) (h80 : 0 ≤ F 80 ∧ F 80 ≤ 10) : LgR (notD D g a b (F 0)) g (hapF F a b) := by
  obtain ⟨e3, ⟨r0, r9⟩, hb⟩ := h
  obtain ⟨n3, n4, n1, n2, n5, _⟩ := not_g (D := D) (g := g) (a := a) (b := b) (t := F 0)
  have e80 := hap_80 (F := F) (a := a) (b := b)
  refine ⟨?_, ?_, ?_⟩
  · rw [n3, e80, e3]
    split <;> split <;> omega
  · rw [n4]; omega
  · intro back k0 k1
    rw [n4, n1, n2, n5]
    generalize hN : (if F 80 = 10 then 9 else F 80) = N at e80
    have hN0 : 0 ≤ N ∧ N ≤ 9 ∧ N ≤ F 80 := by rw [← hN]; split <;> omega
    rw [e80] at k1 ⊢
    have a0 := hap_at (a := a) (b := b) (e := N + 1 - 1 - back) (c := 0) h80.1 h80.2 (by omega) (by rw [hN]; omega) (by omega)
    have a1 := hap_at (a := a) (b := b) (e := N + 1 - 1 - back) (c := 1) h80.1 h80.2 (by omega) (by rw [hN]; omega) (by omega)
    have a2 := hap_at (a := a) (b := b) (e := N + 1 - 1 - back) (c := 2) h80.1 h80.2 (by omega) (by rw [hN]; omega) (by omega)
    rw [hN] at a0 a1 a2
    rw [a0, a1, a2]
    by_cases q : back = 0
    · have z : (((D g 4 + 1) % 10 - 1 - back) % 10).toNat = (D g 4).toNat := by omega
      simp only [if_pos z, if_pos (show N + 1 - 1 - back = N by omega)]
      exact ⟨rfl, rfl, rfl⟩
    · have z : ¬ (((D g 4 + 1) % 10 - 1 - back) % 10).toNat = (D g 4).toNat := by omega
      have y : (((D g 4 + 1) % 10 - 1 - back) % 10).toNat = ((D g 4 - 1 - (back - 1)) % 10).toNat := by omega
      simp only [if_neg z, if_neg (show ¬ N + 1 - 1 - back = N by omega)]
      rw [y]
      obtain ⟨b0, b1, b2⟩ := hb (back - 1) (by omega) (by omega)
      rw [b0, b1, b2]
      by_cases q10 : F 80 = 10
      · simp only [if_pos q10] at hN ⊢
        refine ⟨?_, ?_, ?_⟩ <;> congr 1 <;> omega
      · simp only [if_neg q10] at hN ⊢
        refine ⟨?_, ?_, ?_⟩ <;> congr 1 <;> omega
section SPEC50
variable {S : List Int} {D E : eD} {h : eH} {Q : Option eV → eH → Prop} {v x s p m t lim pat a b : Int} {r j n w g : Nat} {F R : eRow} {l0 l1 : eV}
theorem c17 (hg : tg g = 1) (hS : S.length ≤ 2048) (h3 : 0 ≤ D g 3 ∧ D g 3 ≤ 10) (h4 : 0 ≤ D g 4 ∧ D g 4 ≤ 9) : wp 17 0 [.inr (.inl g), .inl a, .inl b, .inl t] [] (hp S D) Q ↔ Q none (hp S (notD D g a b t)) := by
  have h0 := tg_ne0 hg (by decide)
  obtain ⟨h8, t1, t2, t3, l1', l2', l3'⟩ := lg_tg0 g (tg_lt (by omega)) hg
  have l1 : ln S (g + 1) = 10 := (ln_hi (by omega)).trans l1'
  have l2 : ln S (g + 2) = 10 := (ln_hi (by omega)).trans l2'
  have l3 : ln S (g + 3) = 10 := (ln_hi (by omega)).trans l3'
  have n1 : g ≠ g + 1 := by omega
  have n2 : g ≠ g + 2 := by omega
  have n3 : g ≠ g + 3 := by omega
  have e1 : ∀ D' : eD, rwr S D' (g + 1) (D g 4) a = up D' (g + 1) (D g 4).toNat a := fun D' => if_pos (by omega)
  have e2 : ∀ D' : eD, rwr S D' (g + 2) (D g 4) b = up D' (g + 2) (D g 4).toNat b := fun D' => if_pos (by omega)
  have e3 : ∀ D' : eD, rwr S D' (g + 3) (D g 4) t = up D' (g + 3) (D g 4).toNat t := fun D' => if_pos (by omega)
  unfold notD
  simp (disch := first | assumption | omega | decide | exact b2i_01 _ | (unfold lx; omega)) only [s17_0, s17_1, s17_4, s17_5, s17_8, s17_9, s17_12, s17_13, s17_16, s17_17, s17_20, s17_21, s17_24, s17_25, s17_28, s17_29, s17_32, s17_33, s17_36, s17_37, s17_38, s17_41, s17_42, s17_43, s17_45, s17_46, s17_49, s17_50, s17_51, s17_54, s17_55, s17_56, s17_58, s17_61, s17_64, kont_some, kont_none, w32_of, if_true, if_false, b2i_eq0, ite_not, up_eq, up_ne2, up_ne1, tdv, tmd, c52, e1, e2, e3, c165]
theorem c18 (hg : tg g = 1) (h3 : 0 ≤ D g 3 ∧ D g 3 ≤ 10) (h4 : 0 ≤ D g 4 ∧ D g 4 ≤ 9) (hp0 : 0 ≤ p) : wp 18 0 [.inr (.inl g), .inl p] [] (hp S D) Q ↔ Q (some (.inl (if p < D g 3 then (D g 4 - 1 - p) % 10 else -5))) (hp S D) := by
  have h0 := tg_ne0 hg (by decide)
  have q0 : ¬ p < 0 := by omega
  by_cases h1 : p < D g 3
  · rw [if_pos h1]
    simp (disch := first | assumption | omega | decide | exact b2i_01 _ | (unfold lx; omega)) only [s18_0, s18_1, s18_4, s18_5, s18_6, s18_9, s18_12, s18_14, s18_15, s18_16, s18_19, s18_20, s18_21, s18_22, s18_23, s18_25, s18_28, kont_some, kont_none, w32_of, if_true, if_false, tdv, tmd, setA_eq, up_setA, rd_hi, Int.reduceToNat, if_neg (show ¬ (1 : Int) = 0 by decide), if_neg q0, if_pos h1, c163]
  · rw [if_neg h1]
    simp (disch := first | assumption | omega | decide | exact b2i_01 _ | (unfold lx; omega)) only [s18_0, s18_1, s18_4, s18_5, s18_6, s18_9, s18_12, s18_14, s18_15, s18_16, s18_19, s18_20, s18_21, s18_22, s18_23, s18_25, s18_28, kont_some, kont_none, w32_of, if_true, if_false, tdv, tmd, setA_eq, up_setA, rd_hi, Int.reduceToNat, if_neg (show ¬ (1 : Int) = 0 by decide), if_neg q0, if_neg h1]
end SPEC50
