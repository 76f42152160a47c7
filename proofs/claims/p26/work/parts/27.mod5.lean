/-! the check's own beacon: a boat comes -/
def tk1 (F : eRow) (k : Int) : eRow := if ¬ F (lx k 0) = -5 ∧ ¬ (F 10 = 1 ∧ k = F 7) ∧ ¬ goF F k (b2i (F 6 = 1)) then fu F (lx k 0) (-5) else F
def tkF : Nat → Int → eRow → eRow
  | 0, _, F => F
  | n + 1, k, F => tkF n (k + 1) (tk1 F k)
def fl1 (F : eRow) (k : Int) : eRow := fu (comF F k (lowF F) 100) (41 + lowF F).toNat (F (41 + lowF F).toNat - 1)
def flF : Nat → Int → eRow → Int → eRow × Int
  | 0, _, F, m => (F, m)
  | n + 1, k, F, m => if F (lx k 0) = -5 ∧ ¬ lowF F = -5 then flF n (k + 1) (fl1 F k) (m + 1) else flF n (k + 1) F m
def lan1 (F : eRow) (a : Int) : eRow := fu F (41 + F (a + 1).toNat).toNat (if 99 < F (41 + F (a + 1).toNat).toNat + F (a + 2).toNat then 99 else F (41 + F (a + 1).toNat).toNat + F (a + 2).toNat)
def lan2 (F : eRow) : eRow × Int := flF 6 0 (tkF 6 0 F) 0
def lanF (F : eRow) (a : Int) : eRow := hapF (fu (lan2 (lan1 F a)).1 48 ((lan2 (lan1 F a)).1 48 + 1)) 4 (lan2 (lan1 F a)).2
theorem low_b {F : eRow} : lowF F = -5 ∨ (0 ≤ lowF F ∧ lowF F ≤ 2 ∧ 0 < F (41 + lowF F).toNat) := by
  unfold lowF
  split
  · next h => exact Or.inr ⟨by omega, by omega, h⟩
  · split
    · next h => exact Or.inr ⟨by omega, by omega, h⟩
    · split
      · next h => exact Or.inr ⟨by omega, by omega, h⟩
      · exact Or.inl rfl
theorem St_tk1 {F : eRow} {k : Int} (h : St F) (h1 : 0 ≤ k) (h2 : k ≤ 5) : St (tk1 F k) := by
  unfold tk1
  split
  · have hl := h.1 k h1 h2
    obtain ⟨b1, b2, b3, b4, b5, b6, b7, b8⟩ := hl
    have n1 : lx k 1 ≠ lx k 0 := by unfold lx; omega
    have n2 : lx k 2 ≠ lx k 0 := by unfold lx; omega
    have n3 : lx k 3 ≠ lx k 0 := by unfold lx; omega
    have n4 : lx k 4 ≠ lx k 0 := by unfold lx; omega
    refine St_l1 h h1 h2 (fun j hj => fu_ne (by unfold lx at hj ⊢; omega)) ?_
    unfold LmB
    rw [fu_ne n1, fu_ne n2, fu_ne n3, fu_ne n4, fu_eq]
    omega
  · exact h
/-- one number of the stock -/
theorem St_stk {F : eRow} {i v : Int} (h : St F) (h1 : 0 ≤ i) (h2 : i ≤ 2) (hv : 0 ≤ v ∧ v ≤ 99) : St (fu F (41 + i).toNat v) := by
  obtain ⟨a0, a1, a2, a3, a4, a5, a6, a7, a8, a9, a10, a11, a12, a13, a14, a15, a16, a17, a18, a19, a20, a21⟩ := h
  have e : ∀ j, (j < 41 ∨ 43 < j) → fu F (41 + i).toNat v j = F j := fun j hj => fu_ne (by omega)
  refine ⟨fun s g1 g2 => LmB_of (a0 s g1 g2) (fun j _ _ => e j (by omega)) g1 g2, ?_, ?_, ?_, ?_, ?_, ?_, ?_, ?_, ?_, ?_, ?_, ?_, ?_, ?_, ?_, ?_, ?_, ?_, ?_, ?_, ?_⟩
  · rw [e 0 (by omega)]; exact a1
  · rw [e 1 (by omega)]; exact a2
  · rw [e 2 (by omega)]; exact a3
  · rw [e 3 (by omega)]; exact a4
  · rw [e 4 (by omega)]; exact a5
  · rw [e 5 (by omega)]; exact a6
  · rw [e 6 (by omega)]; exact a7
  · rw [e 7 (by omega)]; exact a8
  · rw [e 8 (by omega), e 9 (by omega)]; exact a9
  · rw [e 10 (by omega)]; exact a10
  · unfold fu; split <;> assumption
  · unfold fu; split <;> assumption
  · unfold fu; split <;> assumption
  · rw [e 44 (by omega)]; exact a14
  · rw [e 45 (by omega)]; exact a15
  · rw [e 46 (by omega)]; exact a16
  · rw [e 47 (by omega)]; exact a17
  · rw [e 48 (by omega)]; exact a18
  · rw [e 49 (by omega)]; exact a19
  · rw [e 80 (by omega)]; exact a20
  · rw [e 49 (by omega)]
    exact fun k g1 g2 => Bt_of (a21 k g1 g2) (fun j h3 h4 => e j (by omega)) g1 (by omega)
theorem comF_ne {F : eRow} {k a b : Int} {j : Nat} (h1 : 0 ≤ k) (h : j < lx k 0 ∨ lx k 4 < j) : comF F k a b j = F j := by
  unfold comF
  unfold lx at h ⊢
  rw [fu_ne (by omega), fu_ne (by omega), fu_ne (by omega), fu_ne (by omega), fu_ne (by omega)]
theorem comF_at {F : eRow} {k a b : Int} (h1 : 0 ≤ k) : comF F k a b (lx k 0) = a ∧ comF F k a b (lx k 1) = b ∧ comF F k a b (lx k 2) = 0 ∧ comF F k a b (lx k 3) = 0 ∧ comF F k a b (lx k 4) = 0 := by
  have n : ∀ p q : Int, 0 ≤ p → 0 ≤ q → p ≠ q → lx k p ≠ lx k q := fun p q _ _ _ => by unfold lx; omega
  unfold comF
  refine ⟨?_, ?_, ?_, ?_, ?_⟩
  · rw [fu_ne (n 0 4 (by omega) (by omega) (by omega)), fu_ne (n 0 3 (by omega) (by omega) (by omega)), fu_ne (n 0 2 (by omega) (by omega) (by omega)), fu_ne (n 0 1 (by omega) (by omega) (by omega)), fu_eq]
  · rw [fu_ne (n 1 4 (by omega) (by omega) (by omega)), fu_ne (n 1 3 (by omega) (by omega) (by omega)), fu_ne (n 1 2 (by omega) (by omega) (by omega)), fu_eq]
  · rw [fu_ne (n 2 4 (by omega) (by omega) (by omega)), fu_ne (n 2 3 (by omega) (by omega) (by omega)), fu_eq]
  · rw [fu_ne (n 3 4 (by omega) (by omega) (by omega)), fu_eq]
  · rw [fu_eq]
theorem St_com {F : eRow} {k a b : Int} (h : St F) (h1 : 0 ≤ k) (h2 : k ≤ 5) (h3 : 0 ≤ a) (h4 : a ≤ 2) (h5 : 50 ≤ b) (h6 : b ≤ 150) : St (comF F k a b) := by
  refine St_l1 h h1 h2 (fun j hj => comF_ne h1 hj) ?_
  obtain ⟨e0, e1, e2, e3, e4⟩ := comF_at (F := F) (k := k) (a := a) (b := b) h1
  unfold LmB
  rw [e0, e1, e2, e3, e4]
  omega
theorem St_fl1 {F : eRow} {k : Int} (h : St F) (h1 : 0 ≤ k) (h2 : k ≤ 5) (h3 : ¬ lowF F = -5) : St (fl1 F k) := by
  have hb := (low_b (F := F)).resolve_left h3
  have hc := St_com (a := lowF F) (b := 100) h h1 h2 hb.1 hb.2.1 (by omega) (by omega)
  have h' := h
  obtain ⟨a0, a1, a2, a3, a4, a5, a6, a7, a8, a9, a10, a11, a12, a13, a14, a15, a16, a17, a18, a19, a20, a21⟩ := h'
  unfold fl1
  refine St_stk hc hb.1 hb.2.1 ?_
  rcases (show lowF F = 0 ∨ lowF F = 1 ∨ lowF F = 2 by omega) with e | e | e
  · rw [e] at hb ⊢
    have : F (41 + (0 : Int)).toNat = F 41 := rfl
    omega
  · rw [e] at hb ⊢
    have : F (41 + (1 : Int)).toNat = F 42 := rfl
    omega
  · rw [e] at hb ⊢
    have : F (41 + (2 : Int)).toNat = F 43 := rfl
    omega
section SPEC27
variable {S : List Int} {D : eD} {h : eH} {Q : Option eV → eH → Prop} {r : Nat} {s p v x fr a : Int} {F : eRow}
theorem St_tkF (n : Nat) : ∀ (k : Int) (F : eRow), k = 6 - n → n ≤ 6 → St F → St (tkF n k F) := by
  induction n with
  | zero => exact fun _ _ _ _ h => h
  | succ n ih => exact fun k F hk hn h => ih (k + 1) _ (by omega) (by omega) (St_tk1 h (by omega) (by omega))
end SPEC27
