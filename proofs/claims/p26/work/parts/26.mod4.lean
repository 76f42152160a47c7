/-! the check's own beacon: the night and the day walk -/
theorem fu_lo {F : eRow} {j i : Nat} {v : Int} (h : j ≠ i) : fu F i v j = F j := fu_ne h
theorem St_brn1 {F : eRow} {s : Int} (h : St F) (h1 : 0 ≤ s) (h2 : s ≤ 5) (hw : F (lx s 2) ≤ 1065) : St (brn1 F s) ∧ brn1 F s (lx s 4) + 1 ≤ brn1 F s (lx s 2) := by
  have hl := h.1 s h1 h2
  obtain ⟨b1, b2, b3, b4, b5, b6, b7, b8⟩ := hl
  have n0 : lx s 0 ≠ lx s 2 := by unfold lx; omega
  have n1 : lx s 1 ≠ lx s 2 := by unfold lx; omega
  have n3 : lx s 3 ≠ lx s 2 := by unfold lx; omega
  have n4 : lx s 4 ≠ lx s 2 := by unfold lx; omega
  unfold brn1
  refine ⟨St_l1 h h1 h2 (fun j hj => fu_ne (by unfold lx at hj ⊢; omega)) ?_, by rw [fu_eq, fu_ne n4]; omega⟩
  unfold LmB
  rw [fu_ne n0, fu_ne n1, fu_eq, fu_ne n3, fu_ne n4]
  omega
theorem St_brn2 {F : eRow} {s : Int} (h : St F) (h1 : 0 ≤ s) (h2 : s ≤ 5) (hw : F (lx s 4) + 1 ≤ F (lx s 2)) : St (brn2 F s) := by
  have hl := h.1 s h1 h2
  obtain ⟨b1, b2, b3, b4, b5, b6, b7, b8⟩ := hl
  have n0 : lx s 0 ≠ lx s 4 := by unfold lx; omega
  have n1 : lx s 1 ≠ lx s 4 := by unfold lx; omega
  have n3 : lx s 3 ≠ lx s 4 := by unfold lx; omega
  have n2 : lx s 2 ≠ lx s 4 := by unfold lx; omega
  unfold brn2
  refine St_l1 h h1 h2 (fun j hj => fu_ne (by unfold lx at hj ⊢; omega)) ?_
  unfold LmB
  rw [fu_ne n0, fu_ne n1, fu_eq, fu_ne n3, fu_ne n2]
  split <;> omega
theorem St_brn3 {F : eRow} {s : Int} (h : St F) (h1 : 0 ≤ s) (h2 : s ≤ 5) (h47 : F 47 + 1 ≤ 4000000) : St (brn3 F s) := by
  have hl := h.1 s h1 h2
  obtain ⟨b1, b2, b3, b4, b5, b6, b7, b8⟩ := hl
  have n0 : lx s 0 ≠ lx s 3 := by unfold lx; omega
  have n1 : lx s 1 ≠ lx s 3 := by unfold lx; omega
  have n4 : lx s 4 ≠ lx s 3 := by unfold lx; omega
  have n2 : lx s 2 ≠ lx s 3 := by unfold lx; omega
  have q3 := lx_b (p := 3) h1 h2 (by omega) (by omega)
  unfold brn3
  split
  · refine St_hap (St_l1 h h1 h2 (fun j hj => fu_ne (by unfold lx at hj ⊢; omega)) ?_) (by rw [fu_ne (by omega)]; exact h47)
    unfold LmB
    rw [fu_ne n0, fu_ne n1, fu_eq, fu_ne n4, fu_ne n2]
    omega
  · exact h
theorem St_10 {F : eRow} {v : Int} (h : St F) (hv : v = 0 ∨ v = 1) : St (fu F 10 v) := by
  have h' := h
  obtain ⟨a0, a1, a2, a3, a4, a5, a6, a7, a8, a9, a10, -⟩ := h'
  refine St_wh h (fun j hj => fu_ne (by omega)) ?_ ?_ ?_
  · rw [fu_ne (by decide)]; exact a8
  · rw [fu_ne (by decide), fu_ne (by decide)]; exact a9
  · rw [fu_eq]; exact hv
theorem St_brn4 {F : eRow} {s : Int} (h : St F) (h47 : F 47 + 1 ≤ 4000000) : St (brn4 F s) := by
  unfold brn4
  split
  · exact St_10 (St_hap (St_10 h (Or.inr rfl)) (by rw [fu_ne (by decide)]; exact h47)) (Or.inl rfl)
  · exact St_10 h (Or.inr rfl)
theorem brn3_47 {F : eRow} {s : Int} (h1 : 0 ≤ s) (h2 : s ≤ 5) : F 47 ≤ brn3 F s 47 ∧ brn3 F s 47 ≤ F 47 + 1 := by
  have q3 := lx_b (p := 3) h1 h2 (by omega) (by omega)
  unfold brn3
  split
  · have := hapF_47b (F := fu F (lx s 3) 1) (a := 1) (b := s)
    rw [fu_ne (by omega)] at this
    exact this
  · omega
theorem brn4_47 {F : eRow} {s : Int} : F 47 ≤ brn4 F s 47 ∧ brn4 F s 47 ≤ F 47 + 1 := by
  unfold brn4
  split
  · have := hapF_47b (F := fu F 10 1) (a := 0) (b := s)
    rw [fu_ne (by decide)] at this
    rw [fu_ne (by decide)]
    exact this
  · rw [fu_ne (by decide)]
    omega
theorem brnF_47 {F : eRow} {s : Int} (h1 : 0 ≤ s) (h2 : s ≤ 5) : F 47 ≤ brnF F s 47 ∧ brnF F s 47 ≤ F 47 + 2 := by
  have q2 := lx_b (p := 2) h1 h2 (by omega) (by omega)
  have q4 := lx_b (p := 4) h1 h2 (by omega) (by omega)
  have e1 : brn1 F s 47 = F 47 := fu_ne (by omega)
  have e2 : brn2 (brn1 F s) s 47 = F 47 := by unfold brn2; rw [fu_ne (by omega), e1]
  have e3 := brn3_47 (F := brn2 (brn1 F s) s) h1 h2
  have e4 := brn4_47 (F := brn3 (brn2 (brn1 F s) s) s) (s := s)
  unfold brnF
  omega
theorem St_brn {F : eRow} {s : Int} (h : St F) (h1 : 0 ≤ s) (h2 : s ≤ 5) (hw : F (lx s 2) ≤ 1065) (h47 : F 47 + 2 ≤ 4000000) : St (brnF F s) := by
  have q2 := lx_b (p := 2) h1 h2 (by omega) (by omega)
  have q4 := lx_b (p := 4) h1 h2 (by omega) (by omega)
  obtain ⟨s1, w1⟩ := St_brn1 h h1 h2 hw
  have s2 := St_brn2 s1 h1 h2 w1
  have e1 : brn1 F s 47 = F 47 := fu_ne (by omega)
  have e2 : brn2 (brn1 F s) s 47 = F 47 := by unfold brn2; rw [fu_ne (by omega), e1]
  have s3 := St_brn3 s2 h1 h2 (by omega)
  have e3 := brn3_47 (F := brn2 (brn1 F s) s) h1 h2
  exact St_brn4 s3 (by omega)
theorem St_Bok {F : eRow} {s fr : Int} (h : St F) (h1 : 0 ≤ s) (h2 : s ≤ 5) (hg : 50 ≤ F (lx s 1)) : Bok F s := by
  obtain ⟨a0, a1, a2, a3, a4, a5, a6, a7, a8, a9, a10, a11, a12, a13, a14, a15, a16, a17, a18, a19, a20, a21⟩ := h
  exact ⟨(a0 s h1 h2).a, hg, by omega, by omega, a20.1, a20.2, a17.1⟩
section SPEC26
variable {S : List Int} {D : eD} {h : eH} {Q : Option eV → eH → Prop} {r : Nat} {s p v x fr : Int} {F : eRow}
def lowF (F : eRow) : Int := if 0 < F 41 then 0 else if 0 < F 42 then 1 else if 0 < F 43 then 2 else -5
end SPEC26
