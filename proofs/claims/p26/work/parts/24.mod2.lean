/-! the check's own beacon: a tick of a lamp, of the night, of the day -/
theorem hapA_lo {F : eRow} {a b : Int} {j : Nat} (h0 : 0 ≤ F 80) (h : j < 47 ∨ (47 < j ∧ j < 80)) : hapA F a b j = F j := by
  unfold hapA
  rw [fu_ne (by omega), fu_ne (by omega), fu_ne (by omega), fu_ne (by omega), fu_ne (by omega)]
theorem hapF_lo {F : eRow} {a b : Int} {j : Nat} (h0 : 0 ≤ F 80) (h : j < 47 ∨ (47 < j ∧ j < 80)) : hapF F a b j = F j := by
  unfold hapF
  split
  · rw [hapA_lo (by rw [fu_eq]; omega) h, fu_ne (by omega), shK_lo (by omega)]
  · exact hapA_lo h0 h
theorem hapF_80 {F : eRow} {a b : Int} (h0 : 0 ≤ F 80) : hapF F a b 80 = if F 80 = 10 then 10 else F 80 + 1 := by
  unfold hapF
  split
  · unfold hapA
    rw [fu_ne (by decide), fu_eq, fu_eq]; rfl
  · unfold hapA
    rw [fu_ne (by decide), fu_eq]
theorem hapF_80b {F : eRow} {a b : Int} (h0 : 0 ≤ F 80) (h1 : F 80 ≤ 10) : 0 ≤ hapF F a b 80 ∧ hapF F a b 80 ≤ 10 := by
  rw [hapF_80 h0]
  split <;> omega
theorem hapF_47 {F : eRow} {a b : Int} : hapF F a b 47 = F 47 + (if a < 4 then 1 else 0) := by
  unfold hapF
  split
  · unfold hapA
    rw [fu_eq, fu_ne (by decide), shK_lo (by decide)]
  · unfold hapA
    rw [fu_eq]
theorem hapF_47b {F : eRow} {a b : Int} : F 47 ≤ hapF F a b 47 ∧ hapF F a b 47 ≤ F 47 + 1 := by
  rw [hapF_47]
  split <;> omega
theorem lx_b {s p : Int} (h1 : 0 ≤ s) (h2 : s ≤ 5) (h3 : 0 ≤ p) (h4 : p ≤ 4) : 11 ≤ lx s p ∧ lx s p ≤ 40 := by
  unfold lx
  omega
def brn1 (F : eRow) (s : Int) : eRow := fu F (lx s 2) (F (lx s 2) + 1)
def brn2 (F : eRow) (s : Int) : eRow := fu F (lx s 4) (if bwF F s then F (lx s 4) + 1 else 0)
def brn3 (F : eRow) (s : Int) : eRow := if F 4 ≤ F (lx s 4) ∧ F (lx s 3) = 0 then hapF (fu F (lx s 3) 1) 1 s else F
def brn4 (F : eRow) (s : Int) : eRow := if outF (fu F 10 1) s then fu (hapF (fu F 10 1) 0 s) 10 0 else fu F 10 1
def brnF (F : eRow) (s : Int) : eRow := brn4 (brn3 (brn2 (brn1 F s) s) s) s
/-- what a lamp's burning needs -/
def Bok (F : eRow) (s : Int) : Prop := LmA F s ∧ 50 ≤ F (lx s 1) ∧ 0 ≤ F 3 ∧ F 3 ≤ 100 ∧ 0 ≤ F 80 ∧ F 80 ≤ 10 ∧ 0 ≤ F 47
theorem LmA_of {F G : eRow} {s : Int} (h : LmA F s) (h0 : G (lx s 0) = F (lx s 0)) (h1 : G (lx s 1) = F (lx s 1)) (h2 : 0 ≤ G (lx s 2) ∧ G (lx s 2) ≤ 2000) (h3 : G (lx s 3) = 0 ∨ G (lx s 3) = 1) (h4 : 0 ≤ G (lx s 4) ∧ G (lx s 4) ≤ 2000) : LmA G s := by
  obtain ⟨a1, a2, a3, a4, a5, a6, a7, a8⟩ := h
  unfold LmA
  rw [h0, h1]
  exact ⟨a1, a2, h2.1, h2.2, h3, h4.1, h4.2, a8⟩
theorem Bok1 {F : eRow} {s : Int} (h1 : 0 ≤ s) (h2 : s ≤ 5) (h : Bok F s) (hw : F (lx s 2) ≤ 1999) : Bok (brn1 F s) s := by
  obtain ⟨a, a1, a2, a3, a4, a5, a6⟩ := h
  have hb := fun p => lx_b (p := p) h1 h2
  have a' := a
  obtain ⟨b1, b2, b3, b4, b5, b6, b7, b8⟩ := a'
  have n0 : lx s 0 ≠ lx s 2 := by unfold lx; omega
  have n1 : lx s 1 ≠ lx s 2 := by unfold lx; omega
  have n3 : lx s 3 ≠ lx s 2 := by unfold lx; omega
  have n4 : lx s 4 ≠ lx s 2 := by unfold lx; omega
  have h22 := hb 2 (by omega) (by omega)
  unfold brn1
  refine ⟨LmA_of a (fu_ne n0) (fu_ne n1) (by rw [fu_eq]; omega) (by rw [fu_ne n3]; exact b5) (by rw [fu_ne n4]; omega), by rw [fu_ne n1]; exact a1, ?_, ?_, ?_, ?_, ?_⟩ <;> (rw [fu_ne (by omega)]; assumption)
theorem Bok2 {F : eRow} {s : Int} (h1 : 0 ≤ s) (h2 : s ≤ 5) (h : Bok F s) (hw : F (lx s 4) ≤ 1999) : Bok (brn2 F s) s := by
  obtain ⟨a, a1, a2, a3, a4, a5, a6⟩ := h
  have hb := fun p => lx_b (p := p) h1 h2
  have a' := a
  obtain ⟨b1, b2, b3, b4, b5, b6, b7, b8⟩ := a'
  have n0 : lx s 0 ≠ lx s 4 := by unfold lx; omega
  have n1 : lx s 1 ≠ lx s 4 := by unfold lx; omega
  have n3 : lx s 3 ≠ lx s 4 := by unfold lx; omega
  have n2 : lx s 2 ≠ lx s 4 := by unfold lx; omega
  have h22 := hb 4 (by omega) (by omega)
  unfold brn2
  refine ⟨LmA_of a (fu_ne n0) (fu_ne n1) (by rw [fu_ne n2]; omega) (by rw [fu_ne n3]; exact b5) (by rw [fu_eq]; split <;> omega), by rw [fu_ne n1]; exact a1, ?_, ?_, ?_, ?_, ?_⟩ <;> (rw [fu_ne (by omega)]; assumption)
theorem Bok3 {F : eRow} {s : Int} (h1 : 0 ≤ s) (h2 : s ≤ 5) (h : Bok F s) : Bok (brn3 F s) s := by
  unfold brn3
  split
  · obtain ⟨a, a1, a2, a3, a4, a5, a6⟩ := h
    have hb := fun p => lx_b (p := p) h1 h2
    have a' := a
    obtain ⟨b1, b2, b3, b4, b5, b6, b7, b8⟩ := a'
    have n0 : lx s 0 ≠ lx s 3 := by unfold lx; omega
    have n1 : lx s 1 ≠ lx s 3 := by unfold lx; omega
    have n2 : lx s 2 ≠ lx s 3 := by unfold lx; omega
    have n4 : lx s 4 ≠ lx s 3 := by unfold lx; omega
    have q0 := hb 0 (by omega) (by omega)
    have q1 := hb 1 (by omega) (by omega)
    have q2 := hb 2 (by omega) (by omega)
    have q3 := hb 3 (by omega) (by omega)
    have q4 := hb 4 (by omega) (by omega)
    have e80 : fu F (lx s 3) 1 80 = F 80 := fu_ne (by omega)
    have e47 : fu F (lx s 3) 1 47 = F 47 := fu_ne (by omega)
    have k80 : 0 ≤ fu F (lx s 3) 1 80 := by rw [e80]; exact a4
    have h80 := hapF_80b (F := fu F (lx s 3) 1) (a := 1) (b := s) k80 (by rw [e80]; exact a5)
    have h47 := hapF_47b (F := fu F (lx s 3) 1) (a := 1) (b := s)
    refine ⟨LmA_of a (by rw [hapF_lo k80 (by omega), fu_ne n0]) (by rw [hapF_lo k80 (by omega), fu_ne n1]) (by rw [hapF_lo k80 (by omega), fu_ne n2]; omega) (by rw [hapF_lo k80 (by omega), fu_eq]; omega) (by rw [hapF_lo k80 (by omega), fu_ne n4]; omega), by rw [hapF_lo k80 (by omega), fu_ne n1]; exact a1, ?_, ?_, h80.1, h80.2, ?_⟩
    · rw [hapF_lo k80 (by omega), fu_ne (by omega)]; assumption
    · rw [hapF_lo k80 (by omega), fu_ne (by omega)]; assumption
    · omega
  · exact h
section SPEC24
variable {S : List Int} {D : eD} {h : eH} {Q : Option eV → eH → Prop} {r : Nat} {s p v x fr : Int} {F : eRow}
end SPEC24
