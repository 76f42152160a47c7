/-! the text read by the class: a number, a boat -/
section SPEC77
variable {S : List Int} {D E : eD} {h : eH} {Q : Option eV → eH → Prop} {F G P T X : eRow} {w v s t a b p c pl dg tk : Int}
theorem c47bt (hm : D 152 3 = 0) (hd : 0 ≤ D 152 4 ∧ D 152 4 < 4) (ht : 0 ≤ D 152 5 ∧ D 152 5 ≤ 9999) (h1 : 48 ≤ c ∧ c ≤ 57) (h2 : ¬ (0 < D 152 4 ∧ D 152 5 = 0)) : wp 47 0 [.inr 152, .inl c, .inr 154] [] (hp S D) Q ↔ Q (some (.inl 1)) (hp S (up (up D 152 5 (10 * D 152 5 + c - 48)) 152 4 (D 152 4 + 1))) := by
  rw [c47b hm (by omega) (by omega) ht (by omega), if_pos ⟨h1, hd.2, h2⟩]
theorem c47bf (hm : D 152 3 = 0) (hc : ¬ c = 58) (hd : 0 ≤ D 152 4 ∧ D 152 4 ≤ 4) (ht : 0 ≤ D 152 5 ∧ D 152 5 ≤ 9999) (hc0 : 0 ≤ c ∧ c < 65536) (h1 : 48 ≤ c → c ≤ 57 → (D 152 4 = 4 ∨ (0 < D 152 4 ∧ D 152 5 = 0))) : wp 47 0 [.inr 152, .inl c, .inr 154] [] (hp S D) Q ↔ Q (some (.inl 0)) (hp S D) := by
  rw [c47b hm hc hd ht hc0, if_neg (fun z => (h1 z.1.1 z.1.2).elim (fun y => by have := z.2.1; omega) z.2.2)]
theorem c47et (hS : S.length ≤ 2048) (hm : D 152 3 = 3) (hr : 0 ≤ D 154 3 ∧ D 154 3 < 10) (h1 : 49 ≤ c ∧ c ≤ 54) : wp 47 0 [.inr 152, .inl c, .inr 154] [] (hp S D) Q ↔ Q (some (.inl 1)) (hp S (up (entD D 154 (D 152 5) (D 152 6) (c - 48)) 152 3 4)) := by
  rw [c47e hS hm (by omega) hr, if_pos (by omega)]
theorem c47ef (hS : S.length ≤ 2048) (hm : D 152 3 = 3) (hc0 : 0 ≤ c ∧ c < 65536) (hr : 0 ≤ D 154 3 ∧ D 154 3 < 10) (h1 : ¬ (49 ≤ c ∧ c ≤ 54)) : wp 47 0 [.inr 152, .inl c, .inr 154] [] (hp S D) Q ↔ Q (some (.inl 0)) (hp S D) := by
  rw [c47e hS hm hc0 hr, if_neg (by omega)]
/-- a sign that isn't allowed -/
theorem c45x (hS : S.length ≤ 2048) (h0 : 0 ≤ p) (h1 : p < D 152 1) (h2 : D 152 1 ≤ 60) {D1 : eD} (hc : ∀ Q', wp 47 0 [.inr 152, .inl (D 153 p.toNat), .inr 154] [] (hp S D) Q' ↔ Q' (some (.inl 0)) (hp S D1)) : ∀ Q, wp 45 15 [.inr 152, .inr 154, .inl p] [] (hp S D) Q ↔ Q (some (.inl p)) (hp S D1) := fun Q => by
  rw [c45s hS h0 h1 h2 (Or.inl rfl) hc, if_pos rfl]
theorem c45y (hS : S.length ≤ 2048) (h0 : 0 ≤ p) (h1 : p < D 152 1) (h2 : D 152 1 ≤ 60) {D1 : eD} (hc : ∀ Q', wp 47 0 [.inr 152, .inl (D 153 p.toNat), .inr 154] [] (hp S D) Q' ↔ Q' (some (.inl 1)) (hp S D1)) : ∀ Q, wp 45 15 [.inr 152, .inr 154, .inl p] [] (hp S D) Q ↔ wp 45 15 [.inr 152, .inr 154, .inl (p + 1)] [] (hp S D1) Q := fun Q => by
  rw [c45s hS h0 h1 h2 (Or.inr rfl) hc, if_neg (by decide)]
theorem TxC_g {p : Int} (h : TxC D E) (h0 : 0 ≤ p) (h1 : p < E 158 7) : D 153 p.toNat = E 163 p.toNat := h.2 _ (by omega)
theorem c45n (hS : S.length ≤ 2048) (hT : Tx E) (n : Nat) : ∀ (v p : Int) (D : eD), n ≤ 3 → TxC D E → MS D 0 (4 - n) v → 0 ≤ p → p ≤ E 158 7 → 0 ≤ v → v ≤ (if n = 0 then 9999 else if n = 1 then 999 else if n = 2 then 99 else 9) →
    ∃ (D1 : eD) (dg : Int), MF D1 D ∧ MS D1 0 dg (nlF E n v p).1 ∧ (0 < dg ∧ dg ≤ 4) ∧ (seeF E (nlF E n v p).2 48 57 → dg = 4 ∨ (nlF E n v p).1 = 0) ∧ (0 ≤ (nlF E n v p).1 ∧ (nlF E n v p).1 ≤ 9999) ∧ (p ≤ (nlF E n v p).2 ∧ (nlF E n v p).2 ≤ E 158 7) ∧ ∀ Q, (wp 45 15 [.inr 152, .inr 154, .inl p] [] (hp S D) Q ↔ wp 45 15 [.inr 152, .inr 154, .inl (nlF E n v p).2] [] (hp S D1) Q) := by
  induction n with
  | zero =>
    intro v p D hn hC hM h0 h1 h2 h3
    exact ⟨D, 4, MF_r, hM, by omega, fun _ => Or.inl rfl, ⟨h2, h3⟩, ⟨Int.le_refl _, h1⟩, fun _ => Iff.rfl⟩
  | succ n ih =>
    intro v p D hn hC hM h0 h1 h2 h3
    have hv9 : v ≤ 999 := by
      rcases (show n = 0 ∨ n = 1 ∨ n = 2 by omega) with rfl | rfl | rfl <;> simp at h3 <;> omega
    unfold nlF
    by_cases c : 0 < v ∧ seeF E p 48 57
    · rw [if_pos c]
      obtain ⟨c1, c2, c3, c4⟩ := c
      have g := TxC_g hC h0 c2
      have bX := hT.2.2 p.toNat
      have z := fun Q' => c47bt (S := S) (D := D) (Q := Q') (c := E 163 p.toNat) hM.1 (by rw [hM.2.1]; omega) (by rw [hM.2.2]; omega) ⟨c3, c4⟩ (fun y => by have := y.2; rw [hM.2.2] at this; omega)
      rw [← g] at z
      have y := c45y (S := S) hS h0 (by rw [hC.1]; exact c2) (by rw [hC.1]; exact hT.2.1) z
      have f : MF (up (up D 152 5 (10 * D 152 5 + D 153 p.toNat - 48)) 152 4 (D 152 4 + 1)) D := MF_t (MF_up (by decide)) (MF_up (by decide))
      have m : MS (up (up D 152 5 (10 * D 152 5 + D 153 p.toNat - 48)) 152 4 (D 152 4 + 1)) 0 (4 - n) (10 * v + (E 163 p.toNat - 48)) := by
        refine ⟨?_, ?_, ?_⟩
        · rw [up_ne2 (by decide), up_ne2 (by decide)]; exact hM.1
        · rw [up_eq, hM.2.1]; omega
        · rw [up_ne2 (by decide), up_eq, hM.2.2, g]; omega
      obtain ⟨D1, dg, i1, i2, i3, i4, i5, i6, i7⟩ := ih (10 * v + (E 163 p.toNat - 48)) (p + 1) _ (by omega) (TxC_f hC f) m (by omega) (by omega) (by omega) (by
        rcases (show n = 0 ∨ n = 1 ∨ n = 2 by omega) with rfl | rfl | rfl <;> simp at h3 ⊢ <;> omega)
      exact ⟨D1, dg, MF_t i1 f, i2, i3, i4, i5, ⟨by omega, i6.2⟩, fun Q => (y Q).trans (i7 Q)⟩
    · rw [if_neg c]
      refine ⟨D, 4 - (n + 1 : Nat), MF_r, hM, by omega, fun z => Or.inr ?_, ⟨h2, by omega⟩, ⟨Int.le_refl _, h1⟩, fun _ => Iff.rfl⟩
      have : ¬ 0 < v := fun y => c ⟨y, z⟩
      show v = 0
      omega
theorem c45b (hS : S.length ≤ 2048) (hT : Tx E) (hC : TxC D E) (hM : MS D 0 0 0) (hr : p < E 158 7 → 0 ≤ D 154 3 ∧ D 154 3 < 10) (h0 : 0 ≤ p) (h1 : p ≤ E 158 7) :
    ((rbF E p).1 = 0 ∧ ∃ D1 : eD, MF D1 D ∧ ∀ Q, (wp 45 15 [.inr 152, .inr 154, .inl p] [] (hp S D) Q ↔ Q (some (.inl (rbF E p).2.1)) (hp S D1))) ∨
    ((rbF E p).1 = 1 ∧ (rbF E p).2.1 ≤ E 158 7 ∧ ∃ D0 : eD, MF D0 D ∧ ∀ Q, (wp 45 15 [.inr 152, .inr 154, .inl p] [] (hp S D) Q ↔ wp 45 15 [.inr 152, .inr 154, .inl (rbF E p).2.1] [] (hp S (up (entD D0 154 (rbF E p).2.2.1 (rbF E p).2.2.2.1 (rbF E p).2.2.2.2) 152 3 4)) Q)) := by
  have hL := hT.2.1
  by_cases q1 : seeF E p 48 57
  · -- a number
    have q1' := q1
    obtain ⟨c2, c3, c4⟩ := q1'
    have g := TxC_g hC h0 c2
    have bX := hT.2.2 p.toNat
    have z := fun Q' => c47bt (S := S) (D := D) (Q := Q') (c := E 163 p.toNat) hM.1 (by rw [hM.2.1]; omega) (by rw [hM.2.2]; omega) ⟨c3, c4⟩ (fun y => by have := y.1; rw [hM.2.1] at this; omega)
    rw [← g] at z
    have y := c45y (S := S) hS h0 (by rw [hC.1]; exact c2) (by rw [hC.1]; exact hL) z
    have f : MF (up (up D 152 5 (10 * D 152 5 + D 153 p.toNat - 48)) 152 4 (D 152 4 + 1)) D := MF_t (MF_up (by decide)) (MF_up (by decide))
    have m : MS (up (up D 152 5 (10 * D 152 5 + D 153 p.toNat - 48)) 152 4 (D 152 4 + 1)) 0 (4 - (3 : Nat)) (E 163 p.toNat - 48) := by
      refine ⟨?_, ?_, ?_⟩
      · rw [up_ne2 (by decide), up_ne2 (by decide)]; exact hM.1
      · rw [up_eq, hM.2.1]; omega
      · rw [up_ne2 (by decide), up_eq, hM.2.2, g]; omega
    obtain ⟨D1, dg, i1, i2, i3, i4, i5, i6, i7⟩ := c45n (S := S) hS hT 3 (E 163 p.toNat - 48) (p + 1) _ (by omega) (TxC_f hC f) m (by omega) (by omega) (by omega) (by simp; omega)
    have en : nuF E p = nlF E 3 (E 163 p.toNat - 48) (p + 1) := if_pos q1
    rw [← en] at i2 i4 i5 i6 i7
    have f1 : MF D1 D := MF_t i1 f
    have hC1 := TxC_f hC f1
    have r1 : ∀ Q, (wp 45 15 [.inr 152, .inr 154, .inl p] [] (hp S D) Q ↔ wp 45 15 [.inr 152, .inr 154, .inl (nuF E p).2] [] (hp S D1) Q) := fun Q => (y Q).trans (i7 Q)
    have n0 : ¬ (nuF E p).1 < 0 := by omega
    unfold rbF
    rw [if_neg n0]
    generalize (nuF E p).2 = p1 at *
    generalize (nuF E p).1 = tv at *
    by_cases q2 : seeF E p1 58 58
    · rw [if_neg (fun z => z q2)]
      have q2' := q2
      obtain ⟨d2, d3, d4⟩ := q2'
      have g1 := TxC_g hC1 (by omega) d2
      have e58 : D1 153 p1.toNat = 58 := by omega
      have z1 := fun Q' => c47a (S := S) (D := D1) (Q := Q') i2.1
      rw [b2i_t (by rw [i2.2.1]; exact i3.1), ← e58] at z1
      have y1 := c45y (S := S) hS (by omega) (by rw [hC1.1]; exact d2) (by rw [hC1.1]; exact hL) z1
      have f2 : MF (up D1 152 3 1) D := MF_t (MF_up (by decide)) f1
      have m2 : up D1 152 3 1 152 3 = 1 := up_eq
      have m2t : up D1 152 3 1 152 5 = tv := by rw [up_ne2 (by decide)]; exact i2.2.2
      have r2 : ∀ Q, (wp 45 15 [.inr 152, .inr 154, .inl p] [] (hp S D) Q ↔ wp 45 15 [.inr 152, .inr 154, .inl (p1 + 1)] [] (hp S (up D1 152 3 1)) Q) := fun Q => (r1 Q).trans (y1 Q)
      generalize up D1 152 3 1 = D2 at *
      have hC2 := TxC_f hC f2
      by_cases q3 : seeF E (p1 + 1) 48 50
      · rw [if_neg (fun z => z q3)]
        have q3' := q3
        obtain ⟨a2, a3, a4⟩ := q3'
        have g2 := TxC_g hC2 (by omega) a2
        have bX2 := hT.2.2 (p1 + 1).toNat
        have z2 := fun Q' => c47c (S := S) (D := D2) (Q := Q') (c := E 163 (p1 + 1).toNat) m2 bX2
        rw [b2i_t (by omega), ← g2] at z2
        have y2 := c45y (S := S) hS (by omega) (by rw [hC2.1]; exact a2) (by rw [hC2.1]; exact hL) z2
        have f3 : MF (up (up D2 152 6 (D2 153 (p1 + 1).toNat - 48)) 152 3 2) D := MF_t (MF_t (MF_up (by decide)) (MF_up (by decide))) f2
        have m3 : up (up D2 152 6 (D2 153 (p1 + 1).toNat - 48)) 152 3 2 152 3 = 2 := up_eq
        have m3t : up (up D2 152 6 (D2 153 (p1 + 1).toNat - 48)) 152 3 2 152 5 = tv := by rw [up_ne2 (by decide), up_ne2 (by decide)]; exact m2t
        have m3k : up (up D2 152 6 (D2 153 (p1 + 1).toNat - 48)) 152 3 2 152 6 = E 163 (p1 + 1).toNat - 48 := by rw [up_ne2 (by decide), up_eq, g2]
        have r3 := fun Q => (r2 Q).trans (y2 Q)
        generalize up (up D2 152 6 (D2 153 (p1 + 1).toNat - 48)) 152 3 2 = D3 at *
        have hC3 := TxC_f hC f3
        by_cases q4 : seeF E (p1 + 1 + 1) 120 120
        · rw [if_neg (fun z => z q4)]
          have q4' := q4
          obtain ⟨b2, b3, b4⟩ := q4'
          have g3 := TxC_g hC3 (by omega) b2
          have z3 := fun Q' => c47d (S := S) (D := D3) (Q := Q') (c := E 163 (p1 + 1 + 1).toNat) m3
          rw [b2i_t (by omega), ← g3] at z3
          have y3 := c45y (S := S) hS (by omega) (by rw [hC3.1]; exact b2) (by rw [hC3.1]; exact hL) z3
          have f4 : MF (up D3 152 3 3) D := MF_t (MF_up (by decide)) f3
          have m4 : up D3 152 3 3 152 3 = 3 := up_eq
          have m4t : up D3 152 3 3 152 5 = tv := by rw [up_ne2 (by decide)]; exact m3t
          have m4k : up D3 152 3 3 152 6 = E 163 (p1 + 1).toNat - 48 := by rw [up_ne2 (by decide)]; exact m3k
          have r4 := fun Q => (r3 Q).trans (y3 Q)
          generalize up D3 152 3 3 = D4 at *
          have hC4 := TxC_f hC f4
          have hr4 : 0 ≤ D4 154 3 ∧ D4 154 3 < 10 := by rw [f4.2.2 154 (by decide)]; exact hr c2
          by_cases q5 : seeF E (p1 + 1 + 1 + 1) 49 54
          · rw [if_neg (fun z => z q5)]
            have q5' := q5
            obtain ⟨e2, e3, e4⟩ := q5'
            have g4 := TxC_g hC4 (by omega) e2
            have bX4 := hT.2.2 (p1 + 1 + 1 + 1).toNat
            have z4 := fun Q' => c47et (S := S) (D := D4) (Q := Q') (c := E 163 (p1 + 1 + 1 + 1).toNat) hS m4 hr4 ⟨e3, e4⟩
            rw [m4t, m4k, ← g4] at z4
            have y4 := c45y (S := S) hS (by omega) (by rw [hC4.1]; exact e2) (by rw [hC4.1]; exact hL) z4
            rw [g4] at y4
            refine Or.inr ⟨rfl, ?_, D4, f4, fun Q => (r4 Q).trans (y4 Q)⟩
            show p1 + 1 + 1 + 1 + 1 ≤ E 158 7
            omega
          · rw [if_pos q5]
            refine Or.inl ⟨rfl, ?_⟩
            dsimp only
            by_cases hend : p1 + 1 + 1 + 1 = E 158 7
            · refine ⟨D4, f4, fun Q => (r4 Q).trans ?_⟩
              rw [c45e (by rw [hC4.1]; exact hend), if_neg (by rw [m4]; decide)]
            · have hlt : p1 + 1 + 1 + 1 < E 158 7 := by omega
              have g4 := TxC_g hC4 (by omega) hlt
              have bX4 := hT.2.2 (p1 + 1 + 1 + 1).toNat
              have z4 := fun Q' => c47ef (S := S) (D := D4) (Q := Q') (c := E 163 (p1 + 1 + 1 + 1).toNat) hS m4 bX4 hr4 (fun z => q5 ⟨hlt, z.1, z.2⟩)
              rw [← g4] at z4
              exact ⟨D4, f4, fun Q => (r4 Q).trans (c45x (S := S) hS (by omega) (by rw [hC4.1]; exact hlt) (by rw [hC4.1]; exact hL) z4 Q)⟩
        · rw [if_pos q4]
          refine Or.inl ⟨rfl, ?_⟩
          dsimp only
          by_cases hend : p1 + 1 + 1 = E 158 7
          · refine ⟨D3, f3, fun Q => (r3 Q).trans ?_⟩
            rw [c45e (by rw [hC3.1]; exact hend), if_neg (by rw [m3]; decide)]
          · have hlt : p1 + 1 + 1 < E 158 7 := by omega
            have g3 := TxC_g hC3 (by omega) hlt
            have z3 := fun Q' => c47d (S := S) (D := D3) (Q := Q') (c := E 163 (p1 + 1 + 1).toNat) m3
            have n120 : ¬ E 163 (p1 + 1 + 1).toNat = 120 := fun z => q4 ⟨hlt, by omega, by omega⟩
            rw [b2i_f n120, ← g3] at z3
            exact ⟨_, MF_t (MF_up (by decide)) f3, fun Q => (r3 Q).trans (c45x (S := S) hS (by omega) (by rw [hC3.1]; exact hlt) (by rw [hC3.1]; exact hL) z3 Q)⟩
      · rw [if_pos q3]
        refine Or.inl ⟨rfl, ?_⟩
        dsimp only
        by_cases hend : p1 + 1 = E 158 7
        · refine ⟨D2, f2, fun Q => (r2 Q).trans ?_⟩
          rw [c45e (by rw [hC2.1]; exact hend), if_neg (by rw [m2]; decide)]
        · have hlt : p1 + 1 < E 158 7 := by omega
          have g2 := TxC_g hC2 (by omega) hlt
          have bX2 := hT.2.2 (p1 + 1).toNat
          have z2 := fun Q' => c47c (S := S) (D := D2) (Q := Q') (c := E 163 (p1 + 1).toNat) m2 bX2
          have n2 : ¬ (0 ≤ E 163 (p1 + 1).toNat - 48 ∧ E 163 (p1 + 1).toNat - 48 ≤ 2) := fun z => q3 ⟨hlt, by omega, by omega⟩
          rw [b2i_f n2, ← g2] at z2
          exact ⟨_, MF_t (MF_t (MF_up (by decide)) (MF_up (by decide))) f2, fun Q => (r2 Q).trans (c45x (S := S) hS (by omega) (by rw [hC2.1]; exact hlt) (by rw [hC2.1]; exact hL) z2 Q)⟩
    · rw [if_pos q2]
      refine Or.inl ⟨rfl, ?_⟩
      dsimp only
      by_cases hend : p1 = E 158 7
      · refine ⟨D1, f1, fun Q => (r1 Q).trans ?_⟩
        rw [c45e (by rw [hC1.1]; exact hend), if_neg (by rw [i2.1]; decide)]
      · have hlt : p1 < E 158 7 := by omega
        have g1 := TxC_g hC1 (by omega) hlt
        have bX1 := hT.2.2 p1.toNat
        have z1 := fun Q' => c47bf (S := S) (D := D1) (Q := Q') (c := E 163 p1.toNat) i2.1 (fun z => q2 ⟨hlt, by omega, by omega⟩) (by rw [i2.2.1]; omega) (by rw [i2.2.2]; omega) bX1 (fun y1 y2 => by
          rcases i4 ⟨hlt, y1, y2⟩ with y | y
          · exact Or.inl (by rw [i2.2.1]; exact y)
          · exact Or.inr ⟨by rw [i2.2.1]; exact i3.1, by rw [i2.2.2]; exact y⟩)
        rw [← g1] at z1
        exact ⟨D1, f1, fun Q => (r1 Q).trans (c45x (S := S) hS (by omega) (by rw [hC1.1]; exact hlt) (by rw [hC1.1]; exact hL) z1 Q)⟩
  · -- no number
    have en : nuF E p = (-5, p) := if_neg q1
    unfold rbF
    rw [en, if_pos (show ((-5 : Int), p).1 < 0 from by show (-5 : Int) < 0; decide)]
    refine Or.inl ⟨rfl, ?_⟩
    dsimp only
    by_cases hend : p = E 158 7
    · refine ⟨D, MF_r, fun Q => ?_⟩
      rw [c45e (by rw [hC.1]; exact hend), if_neg (by rw [hM.1]; decide)]
    · have hlt : p < E 158 7 := by omega
      have g := TxC_g hC h0 hlt
      have bX := hT.2.2 p.toNat
      by_cases h58 : E 163 p.toNat = 58
      · have z := fun Q' => c47a (S := S) (D := D) (Q := Q') hM.1
        have e58 : D 153 p.toNat = 58 := by omega
        rw [b2i_f (by rw [hM.2.1]; decide), ← e58] at z
        exact ⟨_, MF_up (by decide), c45x (S := S) hS h0 (by rw [hC.1]; exact hlt) (by rw [hC.1]; exact hL) z⟩
      · have z := fun Q' => c47bf (S := S) (D := D) (Q := Q') (c := E 163 p.toNat) hM.1 h58 (by rw [hM.2.1]; omega) (by rw [hM.2.2]; omega) bX (fun y1 y2 => absurd ⟨hlt, y1, y2⟩ q1)
        rw [← g] at z
        exact ⟨D, MF_r, c45x (S := S) hS h0 (by rw [hC.1]; exact hlt) (by rw [hC.1]; exact hL) z⟩
end SPEC77
