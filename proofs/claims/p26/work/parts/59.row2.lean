/-! the bounds count by the first 111 numbers -/
theorem St_row {F G : eRow} (h : St F) (e : ∀ j, j < 111 → G j = F j) : St G := by
  obtain ⟨a0, a1, a2, a3, a4, a5, a6, a7, a8, a9, a10, a11, a12, a13, a14, a15, a16, a17, a18, a19, a20, a21⟩ := h
  refine ⟨fun s g1 g2 => LmB_of (a0 s g1 g2) (fun j _ _ => e j (by omega)) g1 g2, ?_, ?_, ?_, ?_, ?_, ?_, ?_, ?_, ?_, ?_, ?_, ?_, ?_, ?_, ?_, ?_, ?_, ?_, ?_, ?_, ?_⟩
  · rw [e 0 (by omega)]; exact a1
  · rw [e 1 (by omega)]; exact a2
  · rw [e 2 (by omega)]; exact a3
  · rw [e 3 (by omega)]; exact a4
  · rw [e 4 (by omega)]; exact a5
  · rw [e 5 (by omega)]; exact a6
  · rw [e 6 (by omega)]; exact a7
  · rw [e 7 (by omega)]; exact a8
  · rw [e 8 (by omega), e 9 (by omega)]; exact a9
  · rw [e 10 (by omega)]; exact a10
  · rw [e 41 (by omega)]; exact a11
  · rw [e 42 (by omega)]; exact a12
  · rw [e 43 (by omega)]; exact a13
  · rw [e 44 (by omega)]; exact a14
  · rw [e 45 (by omega)]; exact a15
  · rw [e 46 (by omega)]; exact a16
  · rw [e 47 (by omega)]; exact a17
  · rw [e 48 (by omega)]; exact a18
  · rw [e 49 (by omega)]; exact a19
  · rw [e 80 (by omega)]; exact a20
  · rw [e 49 (by omega)]
    exact fun k g1 g2 => Bt_of (a21 k g1 g2) (fun j h3 h4 => e j (by omega)) g1 (by omega)
theorem Ct_row {F G : eRow} (h : Ct F) (e : ∀ j, j < 111 → G j = F j) : Ct G := by
  unfold Ct at h ⊢
  rw [e 0 (by omega), e 44 (by omega), e 45 (by omega), e 46 (by omega), e 47 (by omega), e 48 (by omega)]
  exact h
/-- the slices of the past once a state is recorded -/
theorem slc_rec {P F : eRow} {n : Int} (h1 : 0 ≤ n) (h2 : n ≤ 3) : (∀ j, j < 111 → slc (recP P F n) n j = F j) ∧ ∀ i, 0 ≤ i → i < n → ∀ j, j < 111 → slc (recP P F n) i j = slc P i j := by
  unfold recP slc cpA
  rw [if_neg (by omega)]
  refine ⟨fun j hj => ?_, fun i i0 i1 j hj => ?_⟩
  · rw [if_pos (by omega)]
    exact congrArg _ (by omega)
  · rw [if_neg (by omega)]
theorem slc_rec4 {P F : eRow} : (∀ j, j < 111 → slc (recP P F 4) 3 j = F j) ∧ ∀ i, 0 ≤ i → i < 3 → ∀ j, j < 111 → slc (recP P F 4) i j = slc P (i + 1) j := by
  unfold recP slc cpA shA
  rw [if_pos rfl]
  refine ⟨fun j hj => ?_, fun i i0 i1 j hj => ?_⟩
  · rw [if_pos (by omega)]
    exact congrArg _ (by omega)
  · rw [if_neg (by omega), if_pos (by omega)]
    exact congrArg P (by omega)
