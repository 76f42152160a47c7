/-! a row counts by its first 111 numbers -/
theorem LmR_row {D : eD} {k : Nat} {F G : eRow} {s : Int} (h : LmR D k F s) (e : ∀ j, j < 111 → G j = F j) (h1 : 0 ≤ s) (h2 : s ≤ 5) : LmR D k G s := by
  have hb := fun p => lx_b (p := p) h1 h2
  have q0 := hb 0 (by omega) (by omega)
  have q1 := hb 1 (by omega) (by omega)
  have q2 := hb 2 (by omega) (by omega)
  have q3 := hb 3 (by omega) (by omega)
  have q4 := hb 4 (by omega) (by omega)
  unfold LmR lfF at h ⊢
  rw [e (lx s 0) (by omega), e (lx s 1) (by omega), e (lx s 2) (by omega), e (lx s 3) (by omega), e (lx s 4) (by omega)]
  exact h
theorem Rel_row {D : eD} {b : Nat} {F G : eRow} (h : Rel D b F) (h49 : F 49 ≤ 10) (h80 : F 80 ≤ 10) (e : ∀ j, j < 111 → G j = F j) : Rel D b G := by
  obtain ⟨h1, h2, h3, ⟨⟨w1, w2, w3, w4⟩, hL, hN⟩, ⟨p1, p2, p3, p4⟩, ⟨l1, l2, l3⟩⟩ := h
  refine ⟨?_, fun i hi => ?_, fun i hi => ?_, ⟨⟨?_, ?_, ?_, ?_⟩, fun s g1 g2 => LmR_row (hL s g1 g2) e g1 g2, hN⟩, ⟨?_, fun i g1 g2 => ?_, fun i g1 g2 => ?_, ?_⟩, ⟨?_, l2, fun k g1 g2 => ?_⟩⟩
  · rw [e 0 (by omega), e 1 (by omega), e 2 (by omega), e 44 (by omega), e 45 (by omega), e 46 (by omega), e 47 (by omega), e 48 (by omega)]
    exact h1
  · rw [e (3 + i) (by omega)]; exact h2 i hi
  · rw [e (41 + i) (by omega)]; exact h3 i hi
  · rw [e 7 (by omega)]; exact w1
  · rw [e 8 (by omega)]; exact w2
  · rw [e 9 (by omega)]; exact w3
  · rw [e 10 (by omega)]; exact w4
  · rw [e 49 (by omega)]; exact p1
  · rw [e 49 (by omega)] at g2 ⊢
    obtain ⟨j, j0, j1, j2⟩ := p2 i g1 g2
    refine ⟨j, j0, j1, ?_⟩
    unfold PlE at j2 ⊢
    rw [e _ (by omega), e _ (by omega), e _ (by omega)]
    exact j2
  · rw [e 49 (by omega)] at g2 ⊢
    obtain ⟨j, j0, j1, j2⟩ := p3 i g1 g2
    refine ⟨j, j0, j1, ?_⟩
    unfold PlE at j2 ⊢
    rw [e _ (by omega), e _ (by omega), e _ (by omega)]
    exact j2
  · rw [e 49 (by omega)]; exact p4
  · rw [e 80 (by omega)]; exact l1
  · rw [e 80 (by omega)] at g2 ⊢
    rw [e _ (by omega), e _ (by omega), e _ (by omega)]
    exact l3 k g1 g2
