/-! a boat entered into both plans; boat -/
theorem plc_s {F : eRow} {t : Int} (n : Nat) : ∀ k : Int, 0 ≤ k → k ≤ F 49 → F 49 ≤ k + n → (∀ i, k ≤ i → i < plcF F t n k → F (50 + 3 * i).toNat < t) ∧ (plcF F t n k < F 49 → ¬ F (50 + 3 * plcF F t n k).toNat < t) := by
  induction n with
  | zero => exact fun k h1 h2 h3 => ⟨fun i i0 i1 => by unfold plcF at i1; omega, fun z => by unfold plcF at z; omega⟩
  | succ n ih =>
    intro k h1 h2 h3
    unfold plcF
    by_cases c : k < F 49 ∧ F (50 + 3 * k).toNat < t
    · rw [if_pos c]
      obtain ⟨g1, g2⟩ := ih (k + 1) (by omega) (by omega) (by omega)
      refine ⟨fun i i0 i1 => ?_, g2⟩
      by_cases q : i = k
      · rw [q]; exact c.2
      · exact g1 i (by omega) i1
    · rw [if_neg c]
      exact ⟨fun i i0 i1 => by omega, fun z y => c ⟨z, y⟩⟩
/-- whether a boat of the tick is there -/
theorem pld_iff {F : eRow} {t : Int} (hS : Srt F) (h49 : 0 ≤ F 49 ∧ F 49 ≤ 10) : pldF F t ↔ ∃ j, 0 ≤ j ∧ j < F 49 ∧ F (50 + 3 * j).toNat = t := by
  obtain ⟨p1, p2⟩ := plc_b (F := F) (t := t) 10 0 (by omega) (by omega)
  obtain ⟨s1, s2⟩ := plc_s (F := F) (t := t) 10 0 (by omega) (by omega) (by omega)
  constructor
  · exact fun h => ⟨_, p1, h.1, h.2⟩
  · rintro ⟨j, j0, j1, j2⟩
    have hj : ¬ j < plcF F t 10 0 := fun z => by have := s1 j j0 z; omega
    have hl : plcF F t 10 0 < F 49 := by omega
    have h3 := s2 hl
    rcases (show plcF F t 10 0 = j ∨ plcF F t 10 0 < j by omega) with y | y
    · refine ⟨hl, ?_⟩
      rw [y]; exact j2
    · have := hS _ j p1 y j1; omega
theorem rot_pld {D : eD} {q : Nat} {F : eRow} {t : Int} (h : PlR D q F) (hS : Srt F) (h49 : 0 ≤ F 49 ∧ F 49 ≤ 10) : rotF D q t 11 0 = -5 ↔ ¬ pldF F t := by
  obtain ⟨p1, p2, p3, p4⟩ := h
  rw [pld_iff hS h49]
  constructor
  · rintro hr ⟨j, j0, j1, j2⟩
    obtain ⟨i, i0, i1, i2⟩ := p3 j j0 j1
    exact rot_no 11 0 (by omega) hr i i0 (by omega) (by omega) (i2.1.trans j2)
  · intro hn
    rcases rot_b (D := D) (q := q) (t := t) 11 0 (by omega) with r | ⟨r0, r1, r2⟩
    · exact r
    · obtain ⟨j, j0, j1, j2⟩ := p2 _ r0 (by omega)
      exact absurd ⟨j, j0, j1, by rw [← j2.1]; exact r2⟩ hn
def entR (D : eD) (q : Nat) (t : Int) : Int := if rotF D q t 11 0 = -5 then D q 3 else rotF D q t 11 0
theorem ent_at {D : eD} {q : Nat} {t a b : Int} : entD D q t a b q 3 = (if rotF D q t 11 0 = -5 then D q 3 + 1 else D q 3) ∧ (∀ i, entD D q t a b (q + 1) i = if i = (entR D q t).toNat then t else D (q + 1) i) ∧ (∀ i, entD D q t a b (q + 2) i = if i = (entR D q t).toNat then a else D (q + 2) i) ∧ (∀ i, entD D q t a b (q + 3) i = if i = (entR D q t).toNat then b else D (q + 3) i) ∧ ∀ K, (K < q ∨ q + 3 < K) → entD D q t a b K = D K := by
  unfold entD entR
  by_cases h : rotF D q t 11 0 = -5
  · simp only [if_pos h]
    refine ⟨?_, fun i => ?_, fun i => ?_, fun i => ?_, fun K hK => ?_⟩
    · rw [up_ne1 (by omega), up_ne1 (by omega), up_ne1 (by omega), up_eq]
    · rw [up_ne1 (by omega), up_ne1 (by omega)]
      by_cases z : i = (D q 3).toNat
      · rw [if_pos z, z, up_eq]
      · rw [if_neg z, up_ne2 z, up_ne1 (by omega)]
    · rw [up_ne1 (by omega)]
      by_cases z : i = (D q 3).toNat
      · rw [if_pos z, z, up_eq]
      · rw [if_neg z, up_ne2 z, up_ne1 (by omega), up_ne1 (by omega)]
    · by_cases z : i = (D q 3).toNat
      · rw [if_pos z, z, up_eq]
      · rw [if_neg z, up_ne2 z, up_ne1 (by omega), up_ne1 (by omega), up_ne1 (by omega)]
    · funext i
      rw [up_ne1 (by omega), up_ne1 (by omega), up_ne1 (by omega), up_ne1 (by omega)]
  · simp only [if_neg h]
    refine ⟨?_, fun i => ?_, fun i => ?_, fun i => ?_, fun K hK => ?_⟩
    · rw [up_ne1 (by omega), up_ne1 (by omega), up_ne1 (by omega)]
    · rw [up_ne1 (by omega), up_ne1 (by omega)]
      by_cases z : i = (rotF D q t 11 0).toNat
      · rw [if_pos z, z, up_eq]
      · rw [if_neg z, up_ne2 z]
    · rw [up_ne1 (by omega)]
      by_cases z : i = (rotF D q t 11 0).toNat
      · rw [if_pos z, z, up_eq]
      · rw [if_neg z, up_ne2 z, up_ne1 (by omega)]
    · by_cases z : i = (rotF D q t 11 0).toNat
      · rw [if_pos z, z, up_eq]
      · rw [if_neg z, up_ne2 z, up_ne1 (by omega), up_ne1 (by omega)]
    · funext i
      rw [up_ne1 (by omega), up_ne1 (by omega), up_ne1 (by omega)]
theorem PlR_ent {D : eD} {q : Nat} {F : eRow} {t a b : Int} (h : PlR D q F) (hS : Srt F) (h49 : 0 ≤ F 49 ∧ F 49 ≤ 10) (h10 : F 49 < 10 ∨ pldF F t) : PlR (entD D q t a b) q (plnF F t a b) ∧ Srt (plnF F t a b) := by
  have hrp := rot_pld (t := t) h hS h49
  obtain ⟨p1, p2, p3, p4⟩ := h
  obtain ⟨c1, c2⟩ := plc_b (F := F) (t := t) 10 0 (by omega) (by omega)
  obtain ⟨s1, s2⟩ := plc_s (F := F) (t := t) 10 0 (by omega) (by omega) (by omega)
  have n49 := pln_49 (t := t) (a := a) (b := b) h49
  have at0 : ∀ k : Int, 0 ≤ k → k < plnF F t a b 49 → plnF F t a b (50 + 3 * k).toNat = if k = plcF F t 10 0 then t else if pldF F t ∨ k < plcF F t 10 0 then F (50 + 3 * k).toNat else F (50 + 3 * (k - 1)).toNat := fun k k0 k1 => by
    have z := pln_at (t := t) (a := a) (b := b) (c := 0) h49 (by omega) k0 k1
    rw [Int.add_zero, Int.add_zero, if_pos rfl] at z
    exact z
  have at1 : ∀ k : Int, 0 ≤ k → k < plnF F t a b 49 → plnF F t a b (51 + 3 * k).toNat = if k = plcF F t 10 0 then a else if pldF F t ∨ k < plcF F t 10 0 then F (51 + 3 * k).toNat else F (51 + 3 * (k - 1)).toNat := fun k k0 k1 => by
    have z := pln_at (t := t) (a := a) (b := b) (c := 1) h49 (by omega) k0 k1
    rw [show 50 + 3 * k + 1 = 51 + 3 * k by omega, show 50 + 3 * (k - 1) + 1 = 51 + 3 * (k - 1) by omega, if_neg (show ¬ (1 : Int) = 0 by decide), if_pos (show (1 : Int) = 1 from rfl)] at z
    exact z
  have at2 : ∀ k : Int, 0 ≤ k → k < plnF F t a b 49 → plnF F t a b (52 + 3 * k).toNat = if k = plcF F t 10 0 then b else if pldF F t ∨ k < plcF F t 10 0 then F (52 + 3 * k).toNat else F (52 + 3 * (k - 1)).toNat := fun k k0 k1 => by
    have z := pln_at (t := t) (a := a) (b := b) (c := 2) h49 (by omega) k0 k1
    rw [show 50 + 3 * k + 2 = 52 + 3 * k by omega, show 50 + 3 * (k - 1) + 2 = 52 + 3 * (k - 1) by omega, if_neg (show ¬ (2 : Int) = 0 by decide), if_neg (show ¬ (2 : Int) = 1 by decide)] at z
    exact z
  obtain ⟨e3, e1, e2, e4, _⟩ := ent_at (D := D) (q := q) (t := t) (a := a) (b := b)
  have hsplit : ∀ P : Prop, (pldF F t → rotF D q t 11 0 ≠ -5 → plnF F t a b 49 = F 49 → P) → (¬ pldF F t → rotF D q t 11 0 = -5 → plnF F t a b 49 = F 49 + 1 → P) → P := by
    intro P f g
    by_cases hp : pldF F t
    · exact f hp (fun z => hrp.mp z hp) (by rw [n49, if_pos hp])
    · exact g hp (hrp.mpr hp) (by rw [n49, if_neg hp])
  have p0a : pldF F t → ∀ k : Int, 0 ≤ k → k < plnF F t a b 49 → plnF F t a b (50 + 3 * k).toNat = if k = plcF F t 10 0 then t else F (50 + 3 * k).toNat := fun hp k k0 k1 => by
    rw [at0 k k0 k1]
    split
    · rfl
    · rw [if_pos (Or.inl hp)]
  have p0b : ¬ pldF F t → ∀ k : Int, 0 ≤ k → k < plnF F t a b 49 → plnF F t a b (50 + 3 * k).toNat = if k = plcF F t 10 0 then t else if k < plcF F t 10 0 then F (50 + 3 * k).toNat else F (50 + 3 * (k - 1)).toNat := fun hp k k0 k1 => by
    rw [at0 k k0 k1]
    simp only [hp, false_or]
  have p1a : pldF F t → ∀ k : Int, 0 ≤ k → k < plnF F t a b 49 → plnF F t a b (51 + 3 * k).toNat = if k = plcF F t 10 0 then a else F (51 + 3 * k).toNat := fun hp k k0 k1 => by
    rw [at1 k k0 k1]
    split
    · rfl
    · rw [if_pos (Or.inl hp)]
  have p1b : ¬ pldF F t → ∀ k : Int, 0 ≤ k → k < plnF F t a b 49 → plnF F t a b (51 + 3 * k).toNat = if k = plcF F t 10 0 then a else if k < plcF F t 10 0 then F (51 + 3 * k).toNat else F (51 + 3 * (k - 1)).toNat := fun hp k k0 k1 => by
    rw [at1 k k0 k1]
    simp only [hp, false_or]
  have p2a : pldF F t → ∀ k : Int, 0 ≤ k → k < plnF F t a b 49 → plnF F t a b (52 + 3 * k).toNat = if k = plcF F t 10 0 then b else F (52 + 3 * k).toNat := fun hp k k0 k1 => by
    rw [at2 k k0 k1]
    split
    · rfl
    · rw [if_pos (Or.inl hp)]
  have p2b : ¬ pldF F t → ∀ k : Int, 0 ≤ k → k < plnF F t a b 49 → plnF F t a b (52 + 3 * k).toNat = if k = plcF F t 10 0 then b else if k < plcF F t 10 0 then F (52 + 3 * k).toNat else F (52 + 3 * (k - 1)).toNat := fun hp k k0 k1 => by
    rw [at2 k k0 k1]
    simp only [hp, false_or]
  clear at0 at1 at2 n49
  generalize hG : plnF F t a b = G at *
  generalize hE : entD D q t a b = E at *
  generalize hc : plcF F t 10 0 = c at *
  refine hsplit _ (fun hp hr hN => ?_) (fun hp hr hN => ?_)
  · -- replaced
    obtain ⟨r0, r1, r2⟩ := (rot_b (D := D) (q := q) (t := t) 11 0 (by omega)).resolve_left hr
    have eR : entR D q t = rotF D q t 11 0 := if_neg hr
    rw [eR] at e1 e2 e4
    rw [if_neg hr] at e3
    generalize rotF D q t 11 0 = r at *
    have hct : F (50 + 3 * c).toNat = t := by rw [← hc]; exact hp.2
    have hcN : c < F 49 := by rw [← hc]; exact hp.1
    have a0 : ∀ k : Int, 0 ≤ k → k < F 49 → G (50 + 3 * k).toNat = if k = c then t else F (50 + 3 * k).toNat := fun k k0 k1 => p0a hp k k0 (by omega)
    have a1 : ∀ k : Int, 0 ≤ k → k < F 49 → G (51 + 3 * k).toNat = if k = c then a else F (51 + 3 * k).toNat := fun k k0 k1 => p1a hp k k0 (by omega)
    have a2 : ∀ k : Int, 0 ≤ k → k < F 49 → G (52 + 3 * k).toNat = if k = c then b else F (52 + 3 * k).toNat := fun k k0 k1 => p2a hp k k0 (by omega)
    have uniq : ∀ j, 0 ≤ j → j < F 49 → F (50 + 3 * j).toNat = t → j = c := fun j j0 j1 j2 => by
      rcases (show j = c ∨ j < c ∨ c < j by omega) with y | y | y
      · exact y
      · have := hS j c j0 y hcN; omega
      · have := hS c j c1 y j1; omega
    have ticks : ∀ i : Int, 0 ≤ i → i < F 49 → E (q + 1) i.toNat = D (q + 1) i.toNat := fun i i0 i1 => by
      rw [e1]
      split
      · next z => rw [z, r2]
      · rfl
    have row : ∀ i j : Int, 0 ≤ i → i < F 49 → 0 ≤ j → j < F 49 → i ≠ r → j ≠ c → PlE D q F i j → PlE E q G i j := by
      intro i j i0 i1 j0 j1 hi hj hpe
      obtain ⟨x1, x2, x3⟩ := hpe
      refine ⟨?_, ?_, ?_⟩
      · rw [e1, if_neg (by omega), a0 j j0 j1, if_neg hj]; exact x1
      · rw [e2, if_neg (by omega), a1 j j0 j1, if_neg hj]; exact x2
      · rw [e4, if_neg (by omega), a2 j j0 j1, if_neg hj]; exact x3
    have rowr : PlE E q G r c := by
      refine ⟨?_, ?_, ?_⟩
      · rw [e1, if_pos rfl, a0 c c1 hcN, if_pos rfl]
      · rw [e2, if_pos rfl, a1 c c1 hcN, if_pos rfl]
      · rw [e4, if_pos rfl, a2 c c1 hcN, if_pos rfl]
    refine ⟨⟨by omega, fun i i0 i1 => ?_, fun j j0 j1 => ?_, fun i i' i0 i1 i0' i1' he => ?_⟩, ?_⟩
    · by_cases z : i = r
      · rw [z]
        exact ⟨c, c1, by omega, rowr⟩
      · obtain ⟨j, j0, j1, j2⟩ := p2 i i0 (by omega)
        refine ⟨j, j0, by omega, row i j i0 (by omega) j0 j1 z (fun y => z ?_) j2⟩
        refine p4 i r i0 (by omega) r0 (by omega) ?_
        rw [r2, j2.1, y, hct]
    · by_cases z : j = c
      · rw [z]
        exact ⟨r, r0, by omega, rowr⟩
      · obtain ⟨i, i0, i1, i2⟩ := p3 j j0 (by omega)
        refine ⟨i, i0, by omega, row i j i0 i1 j0 (by omega) (fun y => z ?_) z i2⟩
        refine uniq j j0 (by omega) ?_
        rw [← i2.1, y, r2]
    · rw [ticks i i0 (by omega), ticks i' i0' (by omega)] at he
      exact p4 i i' i0 (by omega) i0' (by omega) he
    · intro i j i0 i1 i2
      have e : ∀ k : Int, 0 ≤ k → k < F 49 → G (50 + 3 * k).toNat = F (50 + 3 * k).toNat := fun k k0 k1 => by
        rw [a0 k k0 k1]
        split
        · next z => rw [z, hct]
        · rfl
      rw [e i i0 (by omega), e j (by omega) (by omega)]
      exact hS i j i0 i1 (by omega)
  · -- a new one
    have eR : entR D q t = D q 3 := if_pos hr
    rw [eR] at e1 e2 e4
    rw [if_pos hr] at e3
    have h9 : F 49 < 10 := h10.resolve_right hp
    have no := rot_no (D := D) (q := q) (t := t) 11 0 (by omega) hr
    rw [p1] at e1 e2 e3 e4
    have a0 : ∀ k : Int, 0 ≤ k → k < F 49 + 1 → G (50 + 3 * k).toNat = if k = c then t else if k < c then F (50 + 3 * k).toNat else F (50 + 3 * (k - 1)).toNat := fun k k0 k1 => p0b hp k k0 (by omega)
    have a1 : ∀ k : Int, 0 ≤ k → k < F 49 + 1 → G (51 + 3 * k).toNat = if k = c then a else if k < c then F (51 + 3 * k).toNat else F (51 + 3 * (k - 1)).toNat := fun k k0 k1 => p1b hp k k0 (by omega)
    have a2 : ∀ k : Int, 0 ≤ k → k < F 49 + 1 → G (52 + 3 * k).toNat = if k = c then b else if k < c then F (52 + 3 * k).toNat else F (52 + 3 * (k - 1)).toNat := fun k k0 k1 => p2b hp k k0 (by omega)
    have rowr : PlE E q G (F 49) c := by
      refine ⟨?_, ?_, ?_⟩
      · rw [e1, if_pos rfl, a0 c c1 (by omega), if_pos rfl]
      · rw [e2, if_pos rfl, a1 c c1 (by omega), if_pos rfl]
      · rw [e4, if_pos rfl, a2 c c1 (by omega), if_pos rfl]
    have row : ∀ i j : Int, 0 ≤ i → i < F 49 → 0 ≤ j → j < F 49 → PlE D q F i j → PlE E q G i (if j < c then j else j + 1) := by
      intro i j i0 i1 j0 j1 hpe
      obtain ⟨x1, x2, x3⟩ := hpe
      by_cases y : j < c
      · rw [if_pos y]
        refine ⟨?_, ?_, ?_⟩
        · rw [e1, if_neg (by omega), a0 j j0 (by omega), if_neg (by omega), if_pos y]; exact x1
        · rw [e2, if_neg (by omega), a1 j j0 (by omega), if_neg (by omega), if_pos y]; exact x2
        · rw [e4, if_neg (by omega), a2 j j0 (by omega), if_neg (by omega), if_pos y]; exact x3
      · rw [if_neg y]
        refine ⟨?_, ?_, ?_⟩
        · rw [e1, if_neg (by omega), a0 (j + 1) (by omega) (by omega), if_neg (by omega), if_neg (by omega), Int.add_sub_cancel]; exact x1
        · rw [e2, if_neg (by omega), a1 (j + 1) (by omega) (by omega), if_neg (by omega), if_neg (by omega), Int.add_sub_cancel]; exact x2
        · rw [e4, if_neg (by omega), a2 (j + 1) (by omega) (by omega), if_neg (by omega), if_neg (by omega), Int.add_sub_cancel]; exact x3
    have tk : ∀ i : Int, 0 ≤ i → i < F 49 → E (q + 1) i.toNat = D (q + 1) i.toNat ∧ D (q + 1) i.toNat ≠ t := fun i i0 i1 => by
      refine ⟨?_, no i i0 (by omega) (by omega)⟩
      rw [e1, if_neg (by omega)]
    have tkN : E (q + 1) (F 49).toNat = t := by rw [e1, if_pos rfl]
    refine ⟨⟨by omega, fun i i0 i1 => ?_, fun j j0 j1 => ?_, fun i i' i0 i1 i0' i1' he => ?_⟩, ?_⟩
    · by_cases z : i = F 49
      · rw [z]
        exact ⟨c, c1, by omega, rowr⟩
      · obtain ⟨j, j0, j1, j2⟩ := p2 i i0 (by omega)
        exact ⟨_, by split <;> omega, by split <;> omega, row i j i0 (by omega) j0 j1 j2⟩
    · by_cases z : j = c
      · rw [z]
        exact ⟨F 49, h49.1, by omega, rowr⟩
      · obtain ⟨i, i0, i1, i2⟩ := p3 (if j < c then j else j - 1) (by split <;> omega) (by split <;> omega)
        have y := row i (if j < c then j else j - 1) i0 i1 (by split <;> omega) (by split <;> omega) i2
        have ej : (if (if j < c then j else j - 1) < c then (if j < c then j else j - 1) else (if j < c then j else j - 1) + 1) = j := by
          by_cases y : j < c
          · simp only [if_pos y]
          · simp only [if_neg y]
            rw [if_neg (by omega)]; omega
        rw [ej] at y
        exact ⟨i, i0, by omega, y⟩
    · by_cases z : i = F 49
      · by_cases z' : i' = F 49
        · omega
        · obtain ⟨y1, y2⟩ := tk i' i0' (by omega)
          rw [z, tkN, y1] at he
          exact absurd he.symm y2
      · obtain ⟨y1, y2⟩ := tk i i0 (by omega)
        by_cases z' : i' = F 49
        · rw [z', tkN, y1] at he
          exact absurd he y2
        · obtain ⟨y1', y2'⟩ := tk i' i0' (by omega)
          rw [y1, y1'] at he
          exact p4 i i' i0 (by omega) i0' (by omega) he
    · intro i j i0 i1 i2
      have hge : c < F 49 → t < F (50 + 3 * c).toNat := fun z => by
        have y1 := s2 z
        have y2 : ¬ F (50 + 3 * c).toNat = t := fun y => hp (by
          show plcF F t 10 0 < F 49 ∧ F (50 + 3 * plcF F t 10 0).toNat = t
          rw [hc]; exact ⟨z, y⟩)
        omega
      rw [a0 i i0 (by omega), a0 j (by omega) (by omega)]
      by_cases z : i = c
      · rw [if_pos z, if_neg (by omega), if_neg (by omega)]
        rcases (show j - 1 = c ∨ c < j - 1 by omega) with y | y
        · rw [y]; exact hge (by omega)
        · have := hS c (j - 1) c1 y (by omega)
          have := hge (by omega)
          omega
      · rw [if_neg z]
        by_cases z' : j = c
        · rw [if_pos z', if_pos (by omega)]
          exact s1 i i0 (by omega)
        · rw [if_neg z']
          by_cases y : i < c
          · rw [if_pos y]
            by_cases y' : j < c
            · rw [if_pos y']; exact hS i j i0 i1 (by omega)
            · rw [if_neg y']; exact hS i (j - 1) i0 (by omega) (by omega)
          · rw [if_neg y, if_neg (by omega)]
            exact hS (i - 1) (j - 1) (by omega) (by omega) (by omega)
