/-! the relation kept by single changes -/
theorem LmR_ng {D E : eD} {k : Nat} {F G : eRow} {s : Int} (h : LmR D k F s) (e : E k = D k) (g : ∀ p, 0 ≤ p → p ≤ 4 → G (lx s p) = F (lx s p)) : LmR E k G s := by
  unfold LmR lfF at h ⊢
  rw [e, g 0 (by omega) (by omega), g 1 (by omega) (by omega), g 2 (by omega) (by omega), g 3 (by omega) (by omega), g 4 (by omega) (by omega)]
  exact h
theorem PlR_ng {D E : eD} {q : Nat} {F G : eRow} (h : PlR D q F) (h49 : F 49 ≤ 10) (e : ∀ K, q ≤ K → K ≤ q + 3 → E K = D K) (g : ∀ j, 49 ≤ j → j < 80 → G j = F j) : PlR E q G := by
  obtain ⟨p1, p2, p3, p4⟩ := PlR_cg h e
  refine ⟨?_, fun i g1 g2 => ?_, fun i g1 g2 => ?_, ?_⟩
  · rw [g 49 (by omega) (by omega)]; exact p1
  · rw [g 49 (by omega) (by omega)] at g2 ⊢
    obtain ⟨j, j0, j1, j2⟩ := p2 i g1 g2
    refine ⟨j, j0, j1, ?_⟩
    unfold PlE at j2 ⊢
    rw [g _ (by omega) (by omega), g _ (by omega) (by omega), g _ (by omega) (by omega)]
    exact j2
  · rw [g 49 (by omega) (by omega)] at g2 ⊢
    obtain ⟨j, j0, j1, j2⟩ := p3 i g1 g2
    refine ⟨j, j0, j1, ?_⟩
    unfold PlE at j2 ⊢
    rw [g _ (by omega) (by omega), g _ (by omega) (by omega), g _ (by omega) (by omega)]
    exact j2
  · rw [g 49 (by omega) (by omega)]; exact p4
theorem LgR_ng {D E : eD} {q : Nat} {F G : eRow} (h : LgR D q F) (h80 : F 80 ≤ 10) (e : ∀ K, q ≤ K → K ≤ q + 3 → E K = D K) (g : ∀ j, 80 ≤ j → j < 111 → G j = F j) : LgR E q G := by
  obtain ⟨l1, l2, l3⟩ := LgR_cg h e
  refine ⟨?_, l2, fun k g1 g2 => ?_⟩
  · rw [g 80 (by omega) (by omega)]; exact l1
  · rw [g 80 (by omega) (by omega)] at g2 ⊢
    rw [g _ (by omega) (by omega), g _ (by omega) (by omega), g _ (by omega) (by omega)]
    exact l3 k g1 g2
/-- the sockets' part -/
abbrev SoR (D : eD) (w : Nat) (F : eRow) : Prop := ∀ s, 0 ≤ s → s ≤ 5 → LmR D (lw w s) F s
theorem SoR_ng {D E : eD} {w : Nat} {F G : eRow} (h : SoR D w F) (e : ∀ K, w + 2 ≤ K → K ≤ w + 7 → E K = D K) (g : ∀ j, 11 ≤ j → j ≤ 40 → G j = F j) : SoR E w G := by
  intro s h1 h2
  have z := lw_in (w := w) h1 h2
  exact LmR_ng (h s h1 h2) (e _ (by omega) (by omega)) (fun p p0 p4 => by have := lx_b (p := p) h1 h2 p0 p4; exact g _ (by omega) (by omega))
/-- the wheel's own numbers: 2 to 5 of b + 3 -/
theorem Rel_wh {D E : eD} {b : Nat} {F G : eRow} (h : Rel D b F) (hF : St F) (e : ∀ K, K ≠ b + 3 → E K = D K) (g : ∀ j, j < 7 ∨ 10 < j → G j = F j) (e2 : E (b + 3) 2 = G 7) (e3 : E (b + 3) 3 = G 8) (e4 : E (b + 3) 4 = G 9) (e5 : E (b + 3) 5 = G 10) : Rel E b G := by
  obtain ⟨h1, h2, h3, ⟨w1, hL, hN⟩, hp, hl⟩ := h
  have bb := St_b hF
  refine ⟨?_, fun i hi => ?_, fun i hi => ?_, ⟨⟨e2, e3, e4, e5⟩, SoR_ng hL (fun K _ _ => e K (by omega)) (fun j _ _ => g j (by omega)), ?_⟩, PlR_ng hp bb.1 (fun K _ _ => e K (by omega)) (fun j _ _ => g j (by omega)), LgR_ng hl bb.2 (fun K _ _ => e K (by omega)) (fun j _ _ => g j (by omega))⟩
  · rw [e b (by omega), g 0 (by omega), g 1 (by omega), g 2 (by omega), g 44 (by omega), g 45 (by omega), g 46 (by omega), g 47 (by omega), g 48 (by omega)]
    exact h1
  · rw [e _ (by omega), g _ (by omega)]; exact h2 i hi
  · rw [e _ (by omega), g _ (by omega)]; exact h3 i hi
  · rw [e _ (by omega)]; exact hN
/-- a socket's lamp -/
theorem Rel_lm {D E : eD} {b : Nat} {F G : eRow} {s : Int} (h : Rel D b F) (hF : St F) (h0 : 0 ≤ s) (h5 : s ≤ 5) (e : ∀ K, K ≠ lw (b + 3) s → E K = D K) (g : ∀ j, (j < lx s 0 ∨ lx s 4 < j) → G j = F j) (hs : LmR E (lw (b + 3) s) G s) : Rel E b G := by
  obtain ⟨h1, h2, h3, ⟨w1, hL, hN⟩, hp, hl⟩ := h
  have bb := St_b hF
  have z := lw_in (w := b + 3) h0 h5
  have q0 := lx_b (p := 0) h0 h5 (by omega) (by omega)
  have q4 := lx_b (p := 4) h0 h5 (by omega) (by omega)
  refine ⟨?_, fun i hi => ?_, fun i hi => ?_, ⟨?_, fun t t0 t5 => ?_, ?_⟩, PlR_ng hp bb.1 (fun K _ _ => e K (by omega)) (fun j _ _ => g j (by omega)), LgR_ng hl bb.2 (fun K _ _ => e K (by omega)) (fun j _ _ => g j (by omega))⟩
  · rw [e b (by omega), g 0 (by omega), g 1 (by omega), g 2 (by omega), g 44 (by omega), g 45 (by omega), g 46 (by omega), g 47 (by omega), g 48 (by omega)]
    exact h1
  · rw [e _ (by omega), g _ (by omega)]; exact h2 i hi
  · rw [e _ (by omega), g _ (by omega)]; exact h3 i hi
  · rw [e _ (by omega), g 7 (by omega), g 8 (by omega), g 9 (by omega), g 10 (by omega)]; exact w1
  · by_cases q : t = s
    · rw [q]; exact hs
    · have z2 := lw_in (w := b + 3) t0 t5
      exact LmR_ng (hL t t0 t5) (e _ (by omega)) (fun p p0 p4 => g _ (by unfold lx; omega))
  · rw [e _ (by omega)]; exact hN
/-- a Beacon's own numbers -/
theorem Rel_sc {D E : eD} {b : Nat} {F G : eRow} (h : Rel D b F) (hF : St F) (e : ∀ K, K ≠ b → E K = D K) (g : ∀ j, (2 < j ∧ j < 44) ∨ 48 < j → G j = F j) (hs : E b 5 = G 0 ∧ E b 6 = G 1 ∧ E b 7 = G 2 ∧ E b 8 = G 44 ∧ E b 9 = G 46 ∧ E b 10 = G 47 ∧ E b 11 = G 48 ∧ E b 12 = G 45) : Rel E b G := by
  obtain ⟨h1, h2, h3, ⟨w1, hL, hN⟩, hp, hl⟩ := h
  have bb := St_b hF
  refine ⟨hs, fun i hi => ?_, fun i hi => ?_, ⟨?_, SoR_ng hL (fun K _ _ => e K (by omega)) (fun j _ _ => g j (by omega)), ?_⟩, PlR_ng hp bb.1 (fun K _ _ => e K (by omega)) (fun j _ _ => g j (by omega)), LgR_ng hl bb.2 (fun K _ _ => e K (by omega)) (fun j _ _ => g j (by omega))⟩
  · rw [e _ (by omega), g _ (by omega)]; exact h2 i hi
  · rw [e _ (by omega), g _ (by omega)]; exact h3 i hi
  · rw [e _ (by omega), g 7 (by omega), g 8 (by omega), g 9 (by omega), g 10 (by omega)]; exact w1
  · rw [e _ (by omega)]; exact hN
/-- settings and stock -/
theorem Rel_ss {D E : eD} {b : Nat} {F G : eRow} (h : Rel D b F) (hF : St F) (e : ∀ K, K ≠ b + 1 → K ≠ b + 2 → E K = D K) (g : ∀ j, j < 3 ∨ (6 < j ∧ j < 41) ∨ 43 < j → G j = F j) (hs : ∀ i, i < 4 → E (b + 1) i = G (3 + i)) (ht : ∀ i, i < 3 → E (b + 2) i = G (41 + i)) : Rel E b G := by
  obtain ⟨h1, h2, h3, ⟨w1, hL, hN⟩, hp, hl⟩ := h
  have bb := St_b hF
  refine ⟨?_, hs, ht, ⟨?_, SoR_ng hL (fun K _ _ => e K (by omega) (by omega)) (fun j _ _ => g j (by omega)), ?_⟩, PlR_ng hp bb.1 (fun K _ _ => e K (by omega) (by omega)) (fun j _ _ => g j (by omega)), LgR_ng hl bb.2 (fun K _ _ => e K (by omega) (by omega)) (fun j _ _ => g j (by omega))⟩
  · rw [e b (by omega) (by omega), g 0 (by omega), g 1 (by omega), g 2 (by omega), g 44 (by omega), g 45 (by omega), g 46 (by omega), g 47 (by omega), g 48 (by omega)]
    exact h1
  · rw [e _ (by omega) (by omega), g 7 (by omega), g 8 (by omega), g 9 (by omega), g 10 (by omega)]; exact w1
  · rw [e _ (by omega) (by omega)]; exact hN
/-- the log and the count of changes -/
theorem Rel_lg {D E : eD} {b : Nat} {F : eRow} {a s : Int} (h : Rel D b F) (hF : St F) (e : ∀ K, K ≠ b → (K < b + 16 ∨ b + 19 < K) → E K = D K) (el : ∀ K, b + 16 ≤ K → K ≤ b + 19 → E K = notD D (b + 16) a s (F 0) K) (hc : E b 5 = F 0 ∧ E b 6 = F 1 ∧ E b 7 = F 2 ∧ E b 8 = F 44 ∧ E b 9 = F 46 ∧ E b 10 = F 47 + (if a < 4 then 1 else 0) ∧ E b 11 = F 48 ∧ E b 12 = F 45) : Rel E b (hapF F a s) := by
  obtain ⟨h1, h2, h3, ⟨w1, hL, hN⟩, hp, hl⟩ := h
  have bb := St_b hF
  have b80 : 0 ≤ F 80 ∧ F 80 ≤ 10 := hF.2.2.2.2.2.2.2.2.2.2.2.2.2.2.2.2.2.2.2.2.1
  have g : ∀ j, j < 47 ∨ (47 < j ∧ j < 80) → hapF F a s j = F j := fun j hj => hapF_lo b80.1 hj
  refine ⟨?_, fun i hi => ?_, fun i hi => ?_, ⟨?_, SoR_ng hL (fun K _ _ => e K (by omega) (by omega)) (fun j _ _ => g j (by omega)), ?_⟩, PlR_ng hp bb.1 (fun K _ _ => e K (by omega) (by omega)) (fun j _ _ => g j (by omega)), ?_⟩
  · rw [g 0 (by omega), g 1 (by omega), g 2 (by omega), g 44 (by omega), g 45 (by omega), g 46 (by omega), hapF_47, g 48 (by omega)]
    exact hc
  · rw [e _ (by omega) (by omega), g _ (by omega)]; exact h2 i hi
  · rw [e _ (by omega) (by omega), g _ (by omega)]; exact h3 i hi
  · rw [e _ (by omega) (by omega), g 7 (by omega), g 8 (by omega), g 9 (by omega), g 10 (by omega)]; exact w1
  · rw [e _ (by omega) (by omega)]; exact hN
  · exact LgR_cg (LgR_not hl b80) (fun K y1 y2 => el K (by omega) (by omega))
theorem Rel_nch {D : eD} {b : Nat} {F : eRow} {a s : Int} (h : Rel D b F) (hF : St F) (ha : a < 4) : Rel (nchD D b a s) b (hapF F a s) ∧ ∀ K, (K < b ∨ b + 19 < K) → nchD D b a s K = D K := by
  have h' := h
  obtain ⟨⟨q5, q6, q7, q8, q9, q10, q11, q12⟩, _⟩ := h'
  have n := (not_g (D := D) (g := b + 16) (a := a) (b := s) (t := D b 5)).2.2.2.2.2
  have nb := n b (by omega)
  unfold nchD
  refine ⟨Rel_lg h hF (fun K k1 k2 => ?_) (fun K k1 k2 => ?_) ?_, fun K hK => ?_⟩
  · rw [← n K (by omega)]; funext j; exact up_ne1 k1
  · rw [q5]; funext j; exact up_ne1 (by omega)
  · rw [up_eq, up_ne2 (by decide), up_ne2 (by decide), up_ne2 (by decide), up_ne2 (by decide), up_ne2 (by decide), up_ne2 (by decide), up_ne2 (by decide), nb, if_pos ha]
    exact ⟨q5, q6, q7, q8, q9, by omega, q11, q12⟩
  · rw [← n K (by omega)]; funext j; exact up_ne1 (by omega)
theorem Rel_tur {D : eD} {b : Nat} {F : eRow} {a s : Int} (h : Rel D b F) (hF : St F) (ha : a < 4) (h1 : 0 ≤ s) (h2 : s ≤ 5) (h3 : s ≠ F 7) : Rel (turD D b a s) b (hapF (turF F s) a s) ∧ ∀ K, (K < b ∨ b + 19 < K) → turD D b a s K = D K := by
  have hw := h.2.2.2.1.1
  have hs := h.2.1 2 (by omega)
  have n : ∀ K, K ≠ b + 3 → up (up (up D (b + 3) 5 0) (b + 3) 3 s) (b + 3) 4 ((s - D (b + 3) 2) % 6 * D (b + 1) 2) K = D K := fun K hK => by
    funext j; rw [up_ne1 hK, up_ne1 hK, up_ne1 hK]
  have f7 := hF.2.2.2.2.2.2.2.2.1
  have R1 : Rel (up (up (up D (b + 3) 5 0) (b + 3) 3 s) (b + 3) 4 ((s - D (b + 3) 2) % 6 * D (b + 1) 2)) b (turF F s) := by
    refine Rel_wh h hF n (fun j hj => turF_ne (by omega)) ?_ ?_ ?_ ?_
    · rw [up_ne2 (by decide), up_ne2 (by decide), up_ne2 (by decide), turF_ne (by omega)]; exact hw.1
    · rw [up_ne2 (by decide), up_eq]
      unfold turF
      rw [fu_ne (by decide), fu_ne (by decide), fu_eq]
    · rw [up_eq]
      unfold turF
      rw [fu_ne (by decide), fu_eq, hw.1, hs]
      rw [show (s - F 7 + 6) % 6 = (s - F 7) % 6 by omega]
    · rw [up_ne2 (by decide), up_ne2 (by decide), up_eq]
      unfold turF
      rw [fu_eq]
  have z := Rel_nch (a := a) (s := s) R1 (St_tur hF h1 h2 h3) ha
  unfold turD
  exact ⟨z.1, fun K hK => (z.2 K hK).trans (n K (by omega))⟩
