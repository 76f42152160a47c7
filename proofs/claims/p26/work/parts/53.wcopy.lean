/-! a wheel copied -/
theorem cpL_ne {D : eD} {k o K : Nat} (h : K ≠ k) : cpL D k o K = D K := by
  unfold cpL
  funext j
  rw [up_ne1 h, up_ne1 h, up_ne1 h, up_ne1 h, up_ne1 h, up_ne1 h]
theorem cpL_at {D : eD} {k o j : Nat} (h : j < 6) : cpL D k o k j = D o j := by
  unfold cpL
  rcases (show j = 0 ∨ j = 1 ∨ j = 2 ∨ j = 3 ∨ j = 4 ∨ j = 5 by omega) with rfl | rfl | rfl | rfl | rfl | rfl
  · rw [up_ne2 (by decide), up_ne2 (by decide), up_ne2 (by decide), up_ne2 (by decide), up_ne2 (by decide), up_eq]
  · rw [up_ne2 (by decide), up_ne2 (by decide), up_ne2 (by decide), up_ne2 (by decide), up_eq]
  · rw [up_ne2 (by decide), up_ne2 (by decide), up_ne2 (by decide), up_eq]
  · rw [up_ne2 (by decide), up_ne2 (by decide), up_eq]
  · rw [up_ne2 (by decide), up_eq]
  · rw [up_eq]
theorem lw_in {w : Nat} {s : Int} (h1 : 0 ≤ s) (h2 : s ≤ 5) : lw w s = w + 2 + s.toNat := if_pos ⟨h1, h2⟩
section SPEC53
variable {S : List Int} {D E : eD} {h : eH} {Q : Option eV → eH → Prop} {v x s p m t lim pat a : Int} {r j n g q b w o : Nat} {F R : eRow} {l0 l1 : eV}
theorem c55a (hw : tg w = 6) (ho : tg o = 6) (hS : S.length ≤ 2048) (hwo : w + 8 < o ∨ o + 8 < w) (h5 : ∀ s, 0 ≤ s → s ≤ 5 → D (lw o s) 5 = 0 ∨ D (lw o s) 5 = 1) (n : Nat) : ∀ (k : Int) (D0 : eD), k = 6 - n → n ≤ 6 →
    (∀ s, 0 ≤ s → s < k → ∀ j, j < 6 → D0 (lw w s) j = D (lw o s) j) → (∀ K, (K < w + 2 ∨ w + 7 < K) → D0 K = D K) →
    ∃ D1 : eD, (∀ s, 0 ≤ s → s ≤ 5 → ∀ j, j < 6 → D1 (lw w s) j = D (lw o s) j) ∧ (∀ K, (K < w + 2 ∨ w + 7 < K) → D1 K = D K) ∧ ∀ Q, (wp 55 2 [.inr (.inl w), .inr (.inl o), .inl k] [] (hp S D0) Q ↔ wp 55 27 [.inr (.inl w), .inr (.inl o), .inl 6] [] (hp S D1) Q) := by
  have h0 := tg_ne0 hw (by decide)
  have h0' := tg_ne0 ho (by decide)
  induction n with
  | zero =>
    intro k D0 hk hn hA hB
    have e : k = 6 := by omega
    subst e
    refine ⟨D0, fun s h1 h2 => hA s h1 (by omega), hB, fun Q => ?_⟩
    rw [s55_2]
    simp (disch := first | assumption | omega | decide | exact b2i_01 _ | (unfold lx; omega)) only [s55_3, s55_5, kont_some, kont_none, w32_of, if_true, if_false, tdv, tmd, setA_eq, up_setA, rd_hi, Int.reduceToNat, if_neg (show ¬ (1 : Int) = 0 by decide), if_neg (show ¬ (6 : Int) < 6 by decide)]
  | succ n ih =>
    intro k D0 hk hn hA hB
    have h1 : k < 6 := by omega
    have k0 : 0 ≤ k := by omega
    have k5 : k ≤ 5 := by omega
    have t3 : tg (lw w k) = 3 := lw_tg hw
    have tn := tg_ne0 t3 (by decide)
    have u3 : tg (lw o k) = 3 := lw_tg ho
    have un := tg_ne0 u3 (by decide)
    have ew := lw_in (w := w) k0 k5
    have eo := lw_in (w := o) k0 k5
    have hne : lw o k ≠ lw w k := by omega
    have eD : D0 (lw o k) = D (lw o k) := hB _ (by omega)
    have hb : D0 (lw o k) 5 = 0 ∨ D0 (lw o k) 5 = 1 := by rw [eD]; exact h5 k k0 k5
    obtain ⟨D1, i1, i2, i3⟩ := ih (k + 1) (cpL D0 (lw w k) (lw o k)) (by omega) (by omega)
      (fun s g1 g2 j hj => by
        by_cases q : s = k
        · subst q
          rw [cpL_at hj, eD]
        · rw [cpL_ne (by rw [lw_in g1 (by omega), ew]; omega)]
          exact hA s g1 (by omega) j hj)
      (fun K hK => by rw [cpL_ne (by omega)]; exact hB K hK)
    refine ⟨D1, i1, i2, fun Q => ?_⟩
    rw [s55_2, ← i3 Q]
    simp (disch := first | assumption | omega | decide | exact b2i_01 _ | (unfold lx; omega)) only [s55_3, s55_5, s55_8, s55_9, s55_10, s55_13, s55_14, s55_15, s55_18, s55_21, s55_24, kont_some, kont_none, w32_of, if_true, if_false, tdv, tmd, setA_eq, up_setA, rd_hi, Int.reduceToNat, if_neg (show ¬ (1 : Int) = 0 by decide), if_pos h1, c56, c26]
theorem c55 (hw : tg w = 6) (ho : tg o = 6) (hS : S.length ≤ 2048) (hwo : w + 8 < o ∨ o + 8 < w) (hR : WhR D o F) (hF : St F) (hN : D (w + 8) 0 = -1 ∧ (0 ≤ D (w + 8) 2 ∧ D (w + 8) 2 ≤ 1050) ∧ (0 ≤ D (w + 8) 3 ∧ D (w + 8) 3 ≤ 1066) ∧ (D (w + 8) 5 = 0 ∨ D (w + 8) 5 = 1)) :
    ∃ D1 : eD, WhR D1 w F ∧ (∀ K, (K < w ∨ w + 8 < K) → D1 K = D K) ∧ ∀ Q, (wp 55 0 [.inr (.inl w), .inr (.inl o), .inr (.inl 0)] [] (hp S D) Q ↔ Q none (hp S D1)) := by
  have h0 := tg_ne0 hw (by decide)
  have h0' := tg_ne0 ho (by decide)
  obtain ⟨⟨e2, e3, e4, e5⟩, hL, _⟩ := hR
  have f10 : F 10 = 0 ∨ F 10 = 1 := hF.2.2.2.2.2.2.2.2.2.2.1
  obtain ⟨D1, i1, i2, i3⟩ := c55a (D := D) hw ho hS hwo (fun s g1 g2 => (LmR_b (hL s g1 g2) (hF.1 s g1 g2)).2.2) 6 0 D (by omega) (by omega) (fun s g1 g2 => by omega) (fun _ _ => rfl)
  have o1 : D1 o = D o := i2 o (by omega)
  have b5 : D1 o 5 = 0 ∨ D1 o 5 = 1 := by rw [o1, e5]; exact f10
  have now : o ≠ w := by omega
  refine ⟨up (up (up (up D1 w 2 (F 7)) w 3 (F 8)) w 4 (F 9)) w 5 (F 10), ⟨⟨?_, ?_, ?_, up_eq⟩, fun s g1 g2 => ?_, ?_⟩, fun K hK => ?_, fun Q => ?_⟩
  · rw [up_ne2 (by decide), up_ne2 (by decide), up_ne2 (by decide), up_eq]
  · rw [up_ne2 (by decide), up_ne2 (by decide), up_eq]
  · rw [up_ne2 (by decide), up_eq]
  · have ew := lw_in (w := w) g1 g2
    have hne : lw w s ≠ w := by omega
    have z := i1 s g1 g2
    have hr := hL s g1 g2
    unfold LmR at hr ⊢
    rw [up_ne1 hne, up_ne1 hne, up_ne1 hne, up_ne1 hne, up_ne1 hne, up_ne1 hne, up_ne1 hne, up_ne1 hne, up_ne1 hne, up_ne1 hne, up_ne1 hne, up_ne1 hne, up_ne1 hne, up_ne1 hne, up_ne1 hne, up_ne1 hne, up_ne1 hne, up_ne1 hne, up_ne1 hne, up_ne1 hne, up_ne1 hne, up_ne1 hne, up_ne1 hne, up_ne1 hne, z 0 (by decide), z 1 (by decide), z 2 (by decide), z 3 (by decide), z 4 (by decide), z 5 (by decide)]
    exact hr
  · have hne : w + 8 ≠ w := by omega
    have z := i2 (w + 8) (by omega)
    rw [up_ne1 hne, up_ne1 hne, up_ne1 hne, up_ne1 hne, up_ne1 hne, up_ne1 hne, up_ne1 hne, up_ne1 hne, up_ne1 hne, up_ne1 hne, up_ne1 hne, up_ne1 hne, up_ne1 hne, up_ne1 hne, up_ne1 hne, up_ne1 hne, z]
    exact hN
  · funext j
    have hne : K ≠ w := by omega
    rw [up_ne1 hne, up_ne1 hne, up_ne1 hne, up_ne1 hne, i2 K (by omega)]
  · have ea : wp 55 0 [.inr (.inl w), .inr (.inl o), .inr (.inl 0)] [] (hp S D) Q ↔ wp 55 2 [.inr (.inl w), .inr (.inl o), .inl 0] [] (hp S D) Q := by
      simp (disch := first | assumption | omega | decide | exact b2i_01 _ | (unfold lx; omega)) only [s55_0, s55_1, kont_some, kont_none, w32_of, if_true, if_false, tdv, tmd, setA_eq, up_setA, rd_hi, Int.reduceToNat, if_neg (show ¬ (1 : Int) = 0 by decide)]
    rw [ea, i3 Q]
    simp (disch := first | assumption | omega | decide | exact b2i_01 _ | (unfold lx; omega)) only [s55_27, s55_28, s55_29, s55_32, s55_35, s55_36, s55_37, s55_40, s55_43, s55_44, s55_45, s55_48, s55_51, s55_52, s55_53, s55_56, s55_59, kont_some, kont_none, w32_of, if_true, if_false, tdv, tmd, setA_eq, up_setA, rd_hi, Int.reduceToNat, if_neg (show ¬ (1 : Int) = 0 by decide), up_ne1, o1, e2, e3, e4, e5]
end SPEC53
