/-! a boat entered in the check's own plan -/
def plB (F : eRow) (t : Int) : eRow := if pldF F t then F else fu (rsI (50 + 3 * plcF F t 10 0).toNat (3 * (F 49 - plcF F t 10 0)).toNat F) 49 (F 49 + 1)
theorem pln_ne {F : eRow} {t a b : Int} {j : Nat} (h49 : 0 ≤ F 49 ∧ F 49 ≤ 10) (h10 : F 49 < 10 ∨ pldF F t) (h : j < 49 ∨ 80 ≤ j) : plnF F t a b j = F j := by
  obtain ⟨p1, p2⟩ := plc_b (F := F) (t := t) 10 0 (by omega) (by omega)
  have p3 : plcF F t 10 0 ≤ 9 := by
    rcases h10 with h1 | h1
    · omega
    · have := h1.1; omega
  unfold plnF
  rw [fu_ne (by omega), fu_ne (by omega), fu_ne (by omega)]
  split
  · rfl
  · next hn =>
    have h1 := h10.resolve_right hn
    rw [fu_ne (by omega), rsI_eq, if_neg (by omega)]
theorem pln_49 {F : eRow} {t a b : Int} (h49 : 0 ≤ F 49 ∧ F 49 ≤ 10) : plnF F t a b 49 = if pldF F t then F 49 else F 49 + 1 := by
  obtain ⟨p1, p2⟩ := plc_b (F := F) (t := t) 10 0 (by omega) (by omega)
  unfold plnF
  rw [fu_ne (by omega), fu_ne (by omega), fu_ne (by omega)]
  split
  · rfl
  · rw [fu_eq]
/-- the k-th boat, c-th number, after it -/
theorem pln_at {F : eRow} {t a b : Int} {k c : Int} (h49 : 0 ≤ F 49 ∧ F 49 ≤ 10) (hc : 0 ≤ c ∧ c ≤ 2) (hk : 0 ≤ k) (hk2 : k < plnF F t a b 49) : plnF F t a b (50 + 3 * k + c).toNat = if k = plcF F t 10 0 then (if c = 0 then t else if c = 1 then a else b) else if pldF F t ∨ k < plcF F t 10 0 then F (50 + 3 * k + c).toNat else F (50 + 3 * (k - 1) + c).toNat := by
  obtain ⟨p1, p2⟩ := plc_b (F := F) (t := t) 10 0 (by omega) (by omega)
  rw [pln_49 h49] at hk2
  unfold plnF
  by_cases h1 : k = plcF F t 10 0
  · rw [if_pos h1]
    rcases (show c = 0 ∨ c = 1 ∨ c = 2 by omega) with rfl | rfl | rfl
    · rw [fu_ne (by omega), fu_ne (by omega), h1, show (50 + 3 * plcF F t 10 0 + 0).toNat = (50 + 3 * plcF F t 10 0).toNat by omega, fu_eq]
      rfl
    · rw [fu_ne (by omega), h1, fu_eq]
      rfl
    · rw [h1, fu_eq]
      rfl
  · rw [if_neg h1, fu_ne (by omega), fu_ne (by omega), fu_ne (by omega)]
    by_cases h2 : pldF F t
    · rw [if_pos h2, if_pos (Or.inl h2)]
    · rw [if_neg h2, fu_ne (by omega), rsI_eq]
      rw [if_neg h2] at hk2
      by_cases h3 : k < plcF F t 10 0
      · rw [if_neg (by omega), if_pos (Or.inr h3)]
      · rw [if_pos (by omega), if_neg (fun q => q.elim h2 h3)]
        congr 1
        omega
theorem St_pln {F : eRow} {t a b : Int} (h : St F) (h10 : F 49 < 10 ∨ pldF F t) (h1 : 0 ≤ t ∧ t ≤ 9999) (h2 : 0 ≤ a ∧ a ≤ 2) (h3 : 1 ≤ b ∧ b ≤ 6) : St (plnF F t a b) := by
  have h' := h
  obtain ⟨a0, a1, a2, a3, a4, a5, a6, a7, a8, a9, a10, a11, a12, a13, a14, a15, a16, a17, a18, a19, a20, a21⟩ := h'
  have e : ∀ j, (j < 49 ∨ 80 ≤ j) → plnF F t a b j = F j := fun j hj => pln_ne a19 h10 hj
  have e49 := pln_49 (F := F) (t := t) (a := a) (b := b) a19
  obtain ⟨p1, p2⟩ := plc_b (F := F) (t := t) 10 0 (by omega) (by omega)
  refine ⟨fun s g1 g2 => LmB_of (a0 s g1 g2) (fun j _ _ => e j (by omega)) g1 g2, ?_, ?_, ?_, ?_, ?_, ?_, ?_, ?_, ?_, ?_, ?_, ?_, ?_, ?_, ?_, ?_, ?_, ?_, ?_, ?_, ?_⟩
  · rw [e 0 (by omega)]; exact a1
  · rw [e 1 (by omega)]; exact a2
  · rw [e 2 (by omega)]; exact a3
  · rw [e 3 (by omega)]; exact a4
  · rw [e 4 (by omega)]; exact a5
  · rw [e 5 (by omega)]; exact a6
  · rw [e 6 (by omega)]; exact a7
  · rw [e 7 (by omega)]; exact a8
  · rw [e 8 (by omega), e 9 (by omega)]; exact a9
  · rw [e 10 (by omega)]; exact a10
  · rw [e 41 (by omega)]; exact a11
  · rw [e 42 (by omega)]; exact a12
  · rw [e 43 (by omega)]; exact a13
  · rw [e 44 (by omega)]; exact a14
  · rw [e 45 (by omega)]; exact a15
  · rw [e 46 (by omega)]; exact a16
  · rw [e 47 (by omega)]; exact a17
  · rw [e 48 (by omega)]; exact a18
  · rw [e49]
    split
    · exact a19
    · next hn => have := h10.resolve_right hn; omega
  · rw [e 80 (by omega)]; exact a20
  · intro k g1 g2
    have k0 := pln_at (a := a) (b := b) (t := t) (c := 0) a19 (by omega) g1 g2
    have k1 := pln_at (a := a) (b := b) (t := t) (c := 1) a19 (by omega) g1 g2
    have k2 := pln_at (a := a) (b := b) (t := t) (c := 2) a19 (by omega) g1 g2
    rw [show (50 + 3 * k + 0).toNat = (50 + 3 * k).toNat by omega] at k0
    rw [show (50 + 3 * k + 1).toNat = (51 + 3 * k).toNat by omega] at k1
    rw [show (50 + 3 * k + 2).toNat = (52 + 3 * k).toNat by omega] at k2
    unfold Bt
    rw [k0, k1, k2]
    rw [e49] at g2
    by_cases q1 : k = plcF F t 10 0
    · simp only [if_pos q1]
      exact ⟨h1.1, h1.2, h2.1, h2.2, h3.1, h3.2⟩
    · simp only [if_neg q1]
      by_cases q2 : pldF F t ∨ k < plcF F t 10 0
      · simp only [if_pos q2]
        have hk : k < F 49 := by
          rcases q2 with q2 | q2
          · rw [if_pos q2] at g2; exact g2
          · omega
        exact a21 k g1 hk
      · simp only [if_neg q2]
        have hk : ¬ pldF F t := fun q => q2 (Or.inl q)
        rw [if_neg hk] at g2
        have hk3 : ¬ k < plcF F t 10 0 := fun q => q2 (Or.inr q)
        have hb := a21 (k - 1) (by omega) (by omega)
        unfold Bt at hb
        rw [show (50 + 3 * (k - 1) + 0).toNat = (50 + 3 * (k - 1)).toNat by omega, show (50 + 3 * (k - 1) + 1).toNat = (51 + 3 * (k - 1)).toNat by omega, show (50 + 3 * (k - 1) + 2).toNat = (52 + 3 * (k - 1)).toNat by omega]
        exact hb
theorem St_49 {F : eRow} (h : St F) : St (fu F 49 0) := by
  obtain ⟨a0, a1, a2, a3, a4, a5, a6, a7, a8, a9, a10, a11, a12, a13, a14, a15, a16, a17, a18, a19, a20, a21⟩ := h
  have e : ∀ j, j ≠ 49 → fu F 49 0 j = F j := fun j hj => fu_ne hj
  refine ⟨fun s g1 g2 => LmB_of (a0 s g1 g2) (fun j _ _ => e j (by omega)) g1 g2, ?_, ?_, ?_, ?_, ?_, ?_, ?_, ?_, ?_, ?_, ?_, ?_, ?_, ?_, ?_, ?_, ?_, ?_, ?_, ?_, ?_⟩
  · rw [e 0 (by omega)]; exact a1
  · rw [e 1 (by omega)]; exact a2
  · rw [e 2 (by omega)]; exact a3
  · rw [e 3 (by omega)]; exact a4
  · rw [e 4 (by omega)]; exact a5
  · rw [e 5 (by omega)]; exact a6
  · rw [e 6 (by omega)]; exact a7
  · rw [e 7 (by omega)]; exact a8
  · rw [e 8 (by omega), e 9 (by omega)]; exact a9
  · rw [e 10 (by omega)]; exact a10
  · rw [e 41 (by omega)]; exact a11
  · rw [e 42 (by omega)]; exact a12
  · rw [e 43 (by omega)]; exact a13
  · rw [e 44 (by omega)]; exact a14
  · rw [e 45 (by omega)]; exact a15
  · rw [e 46 (by omega)]; exact a16
  · rw [e 47 (by omega)]; exact a17
  · rw [e 48 (by omega)]; exact a18
  · rw [fu_eq]; omega
  · rw [e 80 (by omega)]; exact a20
  · rw [fu_eq]
    intro k h1 h2
    omega
