/-! the check's own beacon: the night, the day, a boat, a tick -/
def LmB (F : eRow) (s : Int) : Prop := 0 ≤ F (lx s 1) ∧ F (lx s 1) ≤ 150 ∧ 0 ≤ F (lx s 2) ∧ F (lx s 2) ≤ 1066 ∧ (F (lx s 3) = 0 ∨ F (lx s 3) = 1) ∧ 0 ≤ F (lx s 4) ∧ F (lx s 4) ≤ F (lx s 2) ∧ (F (lx s 0) = -5 ∨ (0 ≤ F (lx s 0) ∧ F (lx s 0) ≤ 2 ∧ 50 ≤ F (lx s 1)))
theorem LmB.a {F : eRow} {s : Int} (h : LmB F s) : LmA F s := by
  obtain ⟨h1, h2, h3, h4, h5, h6, h7, h8⟩ := h
  exact ⟨h1, h2, h3, by omega, h5, h6, by omega, h8⟩
theorem LmB_of {F G : eRow} {s : Int} (h : LmB F s) (h0 : ∀ j, 11 ≤ j → j ≤ 40 → G j = F j) (h1 : 0 ≤ s) (h2 : s ≤ 5) : LmB G s := by
  have hb := fun p => lx_b (p := p) h1 h2
  have q0 := hb 0 (by omega) (by omega)
  have q1 := hb 1 (by omega) (by omega)
  have q2 := hb 2 (by omega) (by omega)
  have q3 := hb 3 (by omega) (by omega)
  have q4 := hb 4 (by omega) (by omega)
  unfold LmB
  rw [h0 _ q0.1 q0.2, h0 _ q1.1 q1.2, h0 _ q2.1 q2.2, h0 _ q3.1 q3.2, h0 _ q4.1 q4.2]
  exact h
/-- a boat of the plan -/
def Bt (F : eRow) (k : Int) : Prop := 0 ≤ F (50 + 3 * k).toNat ∧ F (50 + 3 * k).toNat ≤ 9999 ∧ 0 ≤ F (51 + 3 * k).toNat ∧ F (51 + 3 * k).toNat ≤ 2 ∧ 1 ≤ F (52 + 3 * k).toNat ∧ F (52 + 3 * k).toNat ≤ 6
/-- a row within its bounds -/
def St (F : eRow) : Prop := (∀ s, 0 ≤ s → s ≤ 5 → LmB F s) ∧ (0 ≤ F 0 ∧ F 0 ≤ 1000000) ∧ (0 ≤ F 1 ∧ F 1 ≤ 47) ∧ (0 ≤ F 2 ∧ F 2 ≤ 47) ∧ (75 ≤ F 3 ∧ F 3 ≤ 99) ∧ (1 ≤ F 4 ∧ F 4 ≤ 5) ∧ (1 ≤ F 5 ∧ F 5 ≤ 5) ∧ (0 ≤ F 6 ∧ F 6 ≤ 1) ∧ (0 ≤ F 7 ∧ F 7 ≤ 5) ∧
  ((F 8 = -5 ∧ F 9 = 0) ∨ (0 ≤ F 8 ∧ F 8 ≤ 5 ∧ 1 ≤ F 9 ∧ F 9 ≤ 25)) ∧ (F 10 = 0 ∨ F 10 = 1) ∧ (0 ≤ F 41 ∧ F 41 ≤ 99) ∧ (0 ≤ F 42 ∧ F 42 ≤ 99) ∧ (0 ≤ F 43 ∧ F 43 ≤ 99) ∧ (0 ≤ F 44 ∧ F 44 ≤ 1000000) ∧ (0 ≤ F 45 ∧ F 45 ≤ 1000000) ∧ (0 ≤ F 46 ∧ F 46 ≤ 1000000) ∧ (0 ≤ F 47 ∧ F 47 ≤ 4000000) ∧ (0 ≤ F 48 ∧ F 48 ≤ 10000000) ∧ (0 ≤ F 49 ∧ F 49 ≤ 10) ∧ (0 ≤ F 80 ∧ F 80 ≤ 10) ∧ (∀ k, 0 ≤ k → k < F 49 → Bt F k)
theorem Bt_of {F G : eRow} {k : Int} (h : Bt F k) (h0 : ∀ j, 50 ≤ j → j < 80 → G j = F j) (h1 : 0 ≤ k) (h2 : k < 10) : Bt G k := by
  unfold Bt
  rw [h0 _ (by omega) (by omega), h0 _ (by omega) (by omega), h0 _ (by omega) (by omega)]
  exact h
/-- events apart -/
theorem St_ev {F G : eRow} (h : St F) (h0 : ∀ j, j < 47 ∨ (47 < j ∧ j < 80) → G j = F j) (h47 : 0 ≤ G 47 ∧ G 47 ≤ 4000000) (h80 : 0 ≤ G 80 ∧ G 80 ≤ 10) : St G := by
  obtain ⟨a0, a1, a2, a3, a4, a5, a6, a7, a8, a9, a10, a11, a12, a13, a14, a15, a16, a17, a18, a19, a20, a21⟩ := h
  refine ⟨fun s h1 h2 => LmB_of (a0 s h1 h2) (fun j _ _ => h0 j (by omega)) h1 h2, ?_, ?_, ?_, ?_, ?_, ?_, ?_, ?_, ?_, ?_, ?_, ?_, ?_, ?_, ?_, ?_, h47, ?_, ?_, h80, ?_⟩
  · rw [h0 0 (by omega)]; exact a1
  · rw [h0 1 (by omega)]; exact a2
  · rw [h0 2 (by omega)]; exact a3
  · rw [h0 3 (by omega)]; exact a4
  · rw [h0 4 (by omega)]; exact a5
  · rw [h0 5 (by omega)]; exact a6
  · rw [h0 6 (by omega)]; exact a7
  · rw [h0 7 (by omega)]; exact a8
  · rw [h0 8 (by omega), h0 9 (by omega)]; exact a9
  · rw [h0 10 (by omega)]; exact a10
  · rw [h0 41 (by omega)]; exact a11
  · rw [h0 42 (by omega)]; exact a12
  · rw [h0 43 (by omega)]; exact a13
  · rw [h0 44 (by omega)]; exact a14
  · rw [h0 45 (by omega)]; exact a15
  · rw [h0 46 (by omega)]; exact a16
  · rw [h0 48 (by omega)]; exact a18
  · rw [h0 49 (by omega)]; exact a19
  · rw [h0 49 (by omega)]
    exact fun k h1 h2 => Bt_of (a21 k h1 h2) (fun j h3 h4 => h0 j (by omega)) h1 (by omega)
theorem St_hap {F : eRow} {a b : Int} (h : St F) (h47 : F 47 + 1 ≤ 4000000) : St (hapF F a b) := by
  have h' := h
  obtain ⟨a0, a1, a2, a3, a4, a5, a6, a7, a8, a9, a10, a11, a12, a13, a14, a15, a16, a17, a18, a19, a20, a21⟩ := h'
  have h1 := hapF_47b (F := F) (a := a) (b := b)
  exact St_ev h (fun j hj => hapF_lo a20.1 hj) (by omega) (hapF_80b a20.1 a20.2)
/-- the wheel and the burning apart: 7 to 10 -/
theorem St_wh {F G : eRow} (h : St F) (h0 : ∀ j, j < 7 ∨ 10 < j → G j = F j) (h7 : 0 ≤ G 7 ∧ G 7 ≤ 5) (h8 : (G 8 = -5 ∧ G 9 = 0) ∨ (0 ≤ G 8 ∧ G 8 ≤ 5 ∧ 1 ≤ G 9 ∧ G 9 ≤ 25)) (h10 : G 10 = 0 ∨ G 10 = 1) : St G := by
  obtain ⟨a0, a1, a2, a3, a4, a5, a6, a7, a8, a9, a10, a11, a12, a13, a14, a15, a16, a17, a18, a19, a20, a21⟩ := h
  refine ⟨fun s h1 h2 => LmB_of (a0 s h1 h2) (fun j _ _ => h0 j (by omega)) h1 h2, ?_, ?_, ?_, ?_, ?_, ?_, ?_, h7, h8, h10, ?_, ?_, ?_, ?_, ?_, ?_, ?_, ?_, ?_, ?_, ?_⟩
  · rw [h0 0 (by omega)]; exact a1
  · rw [h0 1 (by omega)]; exact a2
  · rw [h0 2 (by omega)]; exact a3
  · rw [h0 3 (by omega)]; exact a4
  · rw [h0 4 (by omega)]; exact a5
  · rw [h0 5 (by omega)]; exact a6
  · rw [h0 6 (by omega)]; exact a7
  · rw [h0 41 (by omega)]; exact a11
  · rw [h0 42 (by omega)]; exact a12
  · rw [h0 43 (by omega)]; exact a13
  · rw [h0 44 (by omega)]; exact a14
  · rw [h0 45 (by omega)]; exact a15
  · rw [h0 46 (by omega)]; exact a16
  · rw [h0 47 (by omega)]; exact a17
  · rw [h0 48 (by omega)]; exact a18
  · rw [h0 49 (by omega)]; exact a19
  · rw [h0 80 (by omega)]; exact a20
  · rw [h0 49 (by omega)]
    exact fun k h1 h2 => Bt_of (a21 k h1 h2) (fun j h3 h4 => h0 j (by omega)) h1 (by omega)
/-- the lamps apart: 11 to 40 -/
theorem St_lm {F G : eRow} (h : St F) (h0 : ∀ j, j < 11 ∨ 40 < j → G j = F j) (hL : ∀ s, 0 ≤ s → s ≤ 5 → LmB G s) : St G := by
  obtain ⟨a0, a1, a2, a3, a4, a5, a6, a7, a8, a9, a10, a11, a12, a13, a14, a15, a16, a17, a18, a19, a20, a21⟩ := h
  refine ⟨hL, ?_, ?_, ?_, ?_, ?_, ?_, ?_, ?_, ?_, ?_, ?_, ?_, ?_, ?_, ?_, ?_, ?_, ?_, ?_, ?_, ?_⟩
  · rw [h0 0 (by omega)]; exact a1
  · rw [h0 1 (by omega)]; exact a2
  · rw [h0 2 (by omega)]; exact a3
  · rw [h0 3 (by omega)]; exact a4
  · rw [h0 4 (by omega)]; exact a5
  · rw [h0 5 (by omega)]; exact a6
  · rw [h0 6 (by omega)]; exact a7
  · rw [h0 7 (by omega)]; exact a8
  · rw [h0 8 (by omega), h0 9 (by omega)]; exact a9
  · rw [h0 10 (by omega)]; exact a10
  · rw [h0 41 (by omega)]; exact a11
  · rw [h0 42 (by omega)]; exact a12
  · rw [h0 43 (by omega)]; exact a13
  · rw [h0 44 (by omega)]; exact a14
  · rw [h0 45 (by omega)]; exact a15
  · rw [h0 46 (by omega)]; exact a16
  · rw [h0 47 (by omega)]; exact a17
  · rw [h0 48 (by omega)]; exact a18
  · rw [h0 49 (by omega)]; exact a19
  · rw [h0 80 (by omega)]; exact a20
  · rw [h0 49 (by omega)]
    exact fun k h1 h2 => Bt_of (a21 k h1 h2) (fun j h3 h4 => h0 j (by omega)) h1 (by omega)
/-- what lies behind a lamp's numbers: one lamp s has new ones -/
theorem St_l1 {F G : eRow} {s : Int} (h : St F) (h1 : 0 ≤ s) (h2 : s ≤ 5) (h0 : ∀ j, (j < lx s 0 ∨ lx s 4 < j) → G j = F j) (hL : LmB G s) : St G := by
  have q0 := lx_b (p := 0) h1 h2 (by omega) (by omega)
  have q4 := lx_b (p := 4) h1 h2 (by omega) (by omega)
  refine St_lm h (fun j hj => h0 j (by omega)) (fun z g1 g2 => ?_)
  by_cases hz : z = s
  · rw [hz]; exact hL
  · have hz2 : z < s ∨ s < z := by omega
    have key : ∀ p : Int, 0 ≤ p → p ≤ 4 → G (lx z p) = F (lx z p) := by
      intro p p1 p2
      apply h0
      unfold lx
      omega
    unfold LmB
    rw [key 0 (by omega) (by omega), key 1 (by omega) (by omega), key 2 (by omega) (by omega), key 3 (by omega) (by omega), key 4 (by omega) (by omega)]
    exact h.1 z g1 g2
theorem St_tur {F : eRow} {s : Int} (h : St F) (h1 : 0 ≤ s) (h2 : s ≤ 5) (h3 : s ≠ F 7) : St (turF F s) := by
  have h' := h
  obtain ⟨a0, a1, a2, a3, a4, a5, a6, a7, a8, a9, a10, a11, a12, a13, a14, a15, a16, a17, a18, a19, a20, a21⟩ := h'
  have hm : 1 ≤ (s - F 7 + 6) % 6 * F 5 ∧ (s - F 7 + 6) % 6 * F 5 ≤ 25 := by
    constructor
    · have := Int.mul_le_mul (show (1 : Int) ≤ (s - F 7 + 6) % 6 by omega) a6.1 (by omega) (by omega : (0 : Int) ≤ (s - F 7 + 6) % 6)
      omega
    · have := Int.mul_le_mul (show (s - F 7 + 6) % 6 ≤ 5 by omega) a6.2 (by omega) (by omega : (0 : Int) ≤ 5)
      omega
  unfold turF
  refine St_wh h (fun j hj => ?_) ?_ ?_ ?_
  · rw [fu_ne (by omega), fu_ne (by omega), fu_ne (by omega)]
  · rw [fu_ne (by decide), fu_ne (by decide), fu_ne (by decide)]; exact a8
  · rw [fu_ne (by decide), fu_ne (by decide), fu_eq, fu_ne (by decide), fu_eq]; omega
  · rw [fu_eq]; omega
theorem fnd_b {F : eRow} {fr : Int} : ∀ (n : Nat) (k : Int), 0 ≤ F 7 + k → (fndF F fr n k = -5 ∨ (0 ≤ fndF F fr n k ∧ fndF F fr n k ≤ 5 ∧ goF F (fndF F fr n k) fr))
  | 0, k, _ => Or.inl rfl
  | n + 1, k, h => by
    unfold fndF
    split
    · next hg => exact Or.inr ⟨by omega, by omega, hg⟩
    · exact fnd_b n (k + 1) (by omega)
theorem nxt_b {F : eRow} (h : 0 ≤ F 7) : nxtF F = -5 ∨ (0 ≤ nxtF F ∧ nxtF F ≤ 5) := by
  unfold nxtF
  split
  · rcases fnd_b (F := F) (fr := 0) 6 1 (by omega) with q | q
    · exact Or.inl q
    · exact Or.inr ⟨q.1, q.2.1⟩
  · rcases fnd_b (F := F) (fr := 1) 6 1 (by omega) with q | q
    · exact Or.inl q
    · exact Or.inr ⟨q.1, q.2.1⟩
def litS (F : eRow) : eRow := fu F (lx (F 7) 2) (F (lx (F 7) 2) + by3 (F (lx (F 7) 0)) 10 15 5)
def litF (F : eRow) : Int × eRow := if goF F (F 7) 0 then (if F 10 = 0 then (if outF (litS F) (F 7) then (0, hapF (litS F) 0 (F 7)) else (1, brnF (litS F) (F 7))) else (1, brnF F (F 7)))
  else if nxtF F = -5 ∨ nxtF F = F 7 then (0, F) else (0, hapF (turF F (nxtF F)) 2 (nxtF F))
def dayF (F : eRow) : eRow := if ¬ goF (fu F 10 0) (F 7) 1 ∧ ¬ fndF (fu F 10 0) 1 6 1 = -5 then hapF (turF (fu F 10 0) (fndF (fu F 10 0) 1 6 1)) 3 (fndF (fu F 10 0) 1 6 1) else fu F 10 0
theorem by3_10 {k : Int} : 5 ≤ by3 k 10 15 5 ∧ by3 k 10 15 5 ≤ 15 := by
  rcases @by3_cases k 10 15 5 with e | e | e <;> rw [e] <;> omega
theorem good_lm {F : eRow} {s fr : Int} (h : LmB F s) (hg : goF F s fr) : 0 ≤ F (lx s 0) ∧ F (lx s 0) ≤ 2 ∧ 50 ≤ F (lx s 1) ∧ F (lx s 2) < 1050 ∧ 100 ≤ lfF F s ∧ lfF F s ≤ 1050 := by
  obtain ⟨h1, h2, h3, h4, h5, h6, h7, h8⟩ := h
  obtain ⟨⟨g1, g2⟩, -⟩ := hg
  have h9 : 0 ≤ F (lx s 0) ∧ F (lx s 0) ≤ 2 ∧ 50 ≤ F (lx s 1) := by omega
  have hb := lifeF_b (kind := F (lx s 0)) h9.2.2 h2
  have hb1 : 100 ≤ lfF F s ∧ lfF F s ≤ 1050 := hb
  omega
theorem St_litS {F : eRow} (h : St F) (hg : goF F (F 7) 0) : St (litS F) := by
  have h' := h
  obtain ⟨a0, a1, a2, a3, a4, a5, a6, a7, a8, -⟩ := h'
  have hl := a0 _ a8.1 a8.2
  have hb := good_lm hl hg
  have hl' := hl
  obtain ⟨b1, b2, b3, b4, b5, b6, b7, b8⟩ := hl'
  have h3 := @by3_10 (F (lx (F 7) 0))
  have n0 : lx (F 7) 0 ≠ lx (F 7) 2 := by unfold lx; omega
  have n1 : lx (F 7) 1 ≠ lx (F 7) 2 := by unfold lx; omega
  have n3 : lx (F 7) 3 ≠ lx (F 7) 2 := by unfold lx; omega
  have n4 : lx (F 7) 4 ≠ lx (F 7) 2 := by unfold lx; omega
  unfold litS
  refine St_l1 h a8.1 a8.2 (fun j hj => fu_ne (by unfold lx at hj ⊢; omega)) ?_
  unfold LmB
  rw [fu_ne n0, fu_ne n1, fu_eq, fu_ne n3, fu_ne n4]
  omega
