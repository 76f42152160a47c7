/-! the row cut behind its last number; an act of the law's loop -/
def cu (F : eRow) : eRow := fun j => if j < 111 then F j else 0
theorem cu_lt {F : eRow} {j : Nat} (h : j < 111) : cu F j = F j := if_pos h
theorem cu_eq {F G : eRow} (h : ∀ j, j < 111 → F j = G j) : cu F = cu G := by
  funext j
  unfold cu
  split
  · next q => exact h j q
  · rfl
theorem cu_cu {F : eRow} : cu (cu F) = cu F := cu_eq (fun _ h => cu_lt h)
def nm (D : eD) : eD := setA D 159 (cu (D 159))
theorem nm_ne {D : eD} {K : Nat} (h : K ≠ 159) : nm D K = D K := setA_ne h
theorem nm_159 {D : eD} : nm D 159 = cu (D 159) := setA_eq
theorem nm_Wd {D : eD} (h : Wd D) : Wd (nm D) := by
  obtain ⟨⟨h1, h2, h3, h4, h5⟩, ⟨r1, r2, r4, r5⟩⟩ := h
  have b := St_b r1.1
  unfold Wd
  rw [nm_159, nm_ne (by decide), nm_ne (by decide), nm_ne (by decide), nm_ne (by decide)]
  exact ⟨CW_cg (D := D) ⟨Rel_row h1 b.1 b.2 (fun j hj => cu_lt hj), h2, h3, h4, h5⟩ (fun K hK => nm_ne (by omega)), ⟨Sok_row r1 (fun j hj => cu_lt hj), r2, r4, r5⟩⟩
theorem nm_hp {S : List Int} {D : eD} : hp S (nm D) = hp S D := by
  refine hp_ext fun k j h => ?_
  have := h.2.1
  rw [nm_ne (by omega)]
/-- refused, or recorded: then the night has a length, and few ticks have gone by -/
def Ro (F : eRow) (o : Int × Option eRow) : Prop := match o.2 with
  | none => o.1 < 0
  | some G => Sok G → 0 ≤ o.1 ∧ ¬ G 1 = G 2 ∧ G 0 ≤ F 0 + 200
section SPEC88R
variable {F : eRow} {w v s a b t : Int}
theorem ro_set (hW : Sok F) (h12 : ¬ F 1 = F 2) : Ro F (o130 F w v) := by
  obtain ⟨⟨a0, a1, a2, a3, a4, a5, a6, a7, _⟩, _⟩ := hW
  unfold o130
  split
  · next h1 =>
    split
    · next h2 =>
      split
      · show (-5 : Int) < 0
        decide
      · intro _
        show 0 ≤ F (3 + w).toNat ∧ ¬ fu F (3 + w).toNat v 1 = fu F (3 + w).toNat v 2 ∧ fu F (3 + w).toNat v 0 ≤ F 0 + 200
        rw [fu_ne (by omega), fu_ne (by omega), fu_ne (by omega)]
        refine ⟨?_, h12, by omega⟩
        rcases (show (3 + w).toNat = 3 ∨ (3 + w).toNat = 4 ∨ (3 + w).toNat = 5 ∨ (3 + w).toNat = 6 by omega) with e | e | e | e <;> rw [e] <;> omega
    · show (-2 : Int) < 0
      decide
  · show (-1 : Int) < 0
    decide
theorem ro_setNight : Ro F (o131 F a b) := by
  unfold o131
  split
  · split
    · split
      · show (-2 : Int) < 0
        decide
      · next h3 =>
        split
        · show (-5 : Int) < 0
          decide
        · intro _
          show 0 ≤ (b - a + 48) % 48 ∧ ¬ fu (fu F 1 a) 2 b 1 = fu (fu F 1 a) 2 b 2 ∧ fu (fu F 1 a) 2 b 0 ≤ F 0 + 200
          rw [fu_ne (by decide), fu_eq, fu_eq, fu_ne (by decide), fu_ne (by decide)]
          exact ⟨by omega, h3, by omega⟩
    · show (-2 : Int) < 0
      decide
  · show (-2 : Int) < 0
    decide
theorem com_lo {j : Nat} (h0 : 0 ≤ s) (hj : j < 11) : comF F s a b j = F j := by
  unfold comF
  rw [fu_ne (by unfold lx; omega), fu_ne (by unfold lx; omega), fu_ne (by unfold lx; omega), fu_ne (by unfold lx; omega), fu_ne (by unfold lx; omega)]
theorem ro_putIn (h12 : ¬ F 1 = F 2) : Ro F (o133 F s a b) := by
  unfold o133
  split
  · next h1 =>
    split
    · split
      · next h3 =>
        split
        · intro _
          show 0 ≤ lfF (comF F s a b) s ∧ ¬ comF F s a b 1 = comF F s a b 2 ∧ comF F s a b 0 ≤ F 0 + 200
          rw [com_lo h1.1 (by decide), com_lo h1.1 (by decide), com_lo h1.1 (by decide)]
          refine ⟨?_, h12, by omega⟩
          have e1 : comF F s a b (lx s 1) = b := by
            unfold comF
            rw [fu_ne (by unfold lx; omega), fu_ne (by unfold lx; omega), fu_ne (by unfold lx; omega), fu_eq]
          unfold lfF
          rw [e1]
          exact Int.le_trans (by decide) (lifeF_b h3.1 h3.2).1
        · show (-4 : Int) < 0
          decide
      · show (-2 : Int) < 0
        decide
    · show (-2 : Int) < 0
      decide
  · show (-1 : Int) < 0
    decide
theorem ro_takeOut (hW : Sok F) (h12 : ¬ F 1 = F 2) : Ro F (o134 F s) := by
  unfold o134
  split
  · next h1 =>
    split
    · show (-4 : Int) < 0
      decide
    · split
      · show (-4 : Int) < 0
        decide
      · intro _
        show 0 ≤ F (lx s 2) ∧ ¬ fu F (lx s 0) (-5) 1 = fu F (lx s 0) (-5) 2 ∧ fu F (lx s 0) (-5) 0 ≤ F 0 + 200
        rw [fu_ne (by unfold lx; omega), fu_ne (by unfold lx; omega), fu_ne (by unfold lx; omega)]
        exact ⟨(hW.1.1 s h1.1 h1.2).2.2.1, h12, by omega⟩
  · show (-1 : Int) < 0
    decide
theorem ro_turnTo (hW : Sok F) (h12 : ¬ F 1 = F 2) : Ro F (o135 F s) := by
  obtain ⟨⟨a0, a1, a2, a3, a4, a5, a6, a7, _⟩, _⟩ := hW
  unfold o135
  split
  · split
    · split
      · show (-5 : Int) < 0
        decide
      · intro _
        show 0 ≤ turF F s 9 ∧ ¬ turF F s 1 = turF F s 2 ∧ turF F s 0 ≤ F 0 + 200
        unfold turF
        rw [fu_ne (by decide), fu_eq, fu_ne (by decide), fu_ne (by decide), fu_ne (by decide), fu_ne (by decide), fu_ne (by decide), fu_ne (by decide), fu_ne (by decide), fu_ne (by decide), fu_ne (by decide)]
        exact ⟨Int.mul_nonneg (by omega) (by omega), h12, by omega⟩
    · show (-4 : Int) < 0
      decide
  · show (-1 : Int) < 0
    decide
theorem ro_stock (hW : Sok F) (h12 : ¬ F 1 = F 2) : Ro F (o136 F a b) := by
  unfold o136
  split
  · next h1 =>
    split
    · next h2 =>
      split
      · show (-3 : Int) < 0
        decide
      · intro hG
        show 0 ≤ F (41 + a).toNat + b ∧ ¬ fu F (41 + a).toNat (F (41 + a).toNat + b) 1 = fu F (41 + a).toNat (F (41 + a).toNat + b) 2 ∧ fu F (41 + a).toNat (F (41 + a).toNat + b) 0 ≤ F 0 + 200
        rw [fu_ne (by omega), fu_ne (by omega), fu_ne (by omega)]
        obtain ⟨⟨_, _, _, _, _, _, _, _, _, _, _, b41, b42, b43, _⟩, _⟩ := hW
        refine ⟨?_, h12, by omega⟩
        rcases (show (41 + a).toNat = 41 ∨ (41 + a).toNat = 42 ∨ (41 + a).toNat = 43 by omega) with e | e | e <;> rw [e] <;> omega
    · show (-2 : Int) < 0
      decide
  · show (-2 : Int) < 0
    decide
theorem ro_boat (hW : Sok F) (h12 : ¬ F 1 = F 2) : Ro F (o140 F t a b) := by
  have h49 : 0 ≤ F 49 ∧ F 49 ≤ 10 := hW.1.2.2.2.2.2.2.2.2.2.2.2.2.2.2.2.2.2.2.2.1
  unfold o140
  split
  · split
    · split
      · split
        · show (-3 : Int) < 0
          decide
        · next h4 =>
          have h10 : F 49 < 10 ∨ pldF F t := by
            by_cases q : pldF F t
            · exact Or.inr q
            · refine Or.inl ?_
              by_cases z : F 49 = 10
              · exact absurd ⟨z, q⟩ h4
              · omega
          intro hG
          show 0 ≤ plnF F t a b 49 ∧ ¬ plnF F t a b 1 = plnF F t a b 2 ∧ plnF F t a b 0 ≤ F 0 + 200
          rw [pln_49 h49, pln_ne (j := 1) h49 h10 (by omega), pln_ne (j := 2) h49 h10 (by omega), pln_ne (j := 0) h49 h10 (by omega)]
          refine ⟨?_, h12, by omega⟩
          split <;> omega
      · show (-2 : Int) < 0
        decide
    · show (-2 : Int) < 0
      decide
  · show (-2 : Int) < 0
    decide
theorem it_lo (n : Nat) : ∀ F : eRow, St F → Ct F → F 0 + n ≤ 900000 → ∀ j, 0 < j → j < 7 → itF 1 n F j = F j := by
  induction n with
  | zero => exact fun F _ _ _ j _ _ => rfl
  | succ n ih =>
    intro F h1 h2 h3 j j0 j7
    obtain ⟨p1, p2, p3, p4⟩ := pas_all (ab := 1) h1 h2 (by omega)
    show itF 1 n (pasF F 1) j = F j
    rw [ih _ p1 p2 (by omega) j j0 j7]
    exact p4 j (Or.inl ⟨j0, j7⟩)
theorem ro_pass (hW : Sok F) (h12 : ¬ F 1 = F 2) : Ro F (o141 F v) := by
  obtain ⟨hs, hc, ho, h0⟩ := hW
  unfold o141
  split
  · next h1 =>
    split
    · show (-3 : Int) < 0
      decide
    · next h2 =>
      intro _
      show 0 ≤ drkF v.toNat F ∧ ¬ itF 1 v.toNat F 1 = itF 1 v.toNat F 2 ∧ itF 1 v.toNat F 0 ≤ F 0 + 200
      rw [it_lo _ _ hs hc (by omega) 1 (by decide) (by decide), it_lo _ _ hs hc (by omega) 2 (by decide) (by decide), (it_all (ab := 1) v.toNat F hs hc (by omega)).2.2]
      exact ⟨(drk_b _ _).1, h12, by omega⟩
  · show (-2 : Int) < 0
    decide
end SPEC88R
section SPEC88
variable {S : List Int} {D E : eD} {G W : eH} {Q : Option eV → eH → Prop} {y : Nat} {ls : List eV} {a s w v p t b n k : Int} {L : List Int64}
/-- recorded -/
theorem cl_some {o : Int × Option eRow} {H : eRow} (h : Sa S D y ls o) (e : o.2 = some H) : ∃ D2, Wd D2 ∧ D2 159 = cu H ∧ Sok H ∧ D2 161 = recP (D 161) (D 159) (D 158 3) ∧ D2 162 = D 162 ∧ D2 158 = fu (D 158) 3 (nxN (D 158 3)) ∧ ∀ Q, (wp y 0 (ls.map (sh G.length)) [] (em G W (hp S D)) Q ↔ Q (some (.inl o.1)) (em G W (hp S D2))) := by
  obtain ⟨D1, i1, i2, i3⟩ := cl_act (G := G) (W := W) h
  rw [e] at i2
  have q9 : D1 159 = H := (i2 159 (by decide)).trans setA_eq
  have q1 : D1 161 = recP (D 161) (D 159) (D 158 3) := (i2 161 (by decide)).trans ((setA_ne (by decide)).trans setA_eq)
  have q2 : D1 162 = D 162 := (i2 162 (by decide)).trans ((setA_ne (by decide)).trans ((setA_ne (by decide)).trans (setA_ne (by decide))))
  have q8 : D1 158 = fu (D 158) 3 (nxN (D 158 3)) := (i2 158 (by decide)).trans ((setA_ne (by decide)).trans ((setA_ne (by decide)).trans setA_eq))
  refine ⟨nm D1, nm_Wd i1, by rw [nm_159, q9], by rw [← q9]; exact i1.2.1, by rw [nm_ne (by decide)]; exact q1, by rw [nm_ne (by decide)]; exact q2, by rw [nm_ne (by decide)]; exact q8, fun Q => ?_⟩
  rw [nm_hp]
  exact i3 Q
/-- what is held while the law acts: c acts are recorded, L has what was seen before each -/
def Iv (D : eD) (L : List Int64) (c T : Int) : Prop := Wd D ∧ cu (D 159) = D 159 ∧ D 158 3 = (if c ≤ 4 then c else 4) ∧ (∀ i, 0 ≤ i → i < D 158 3 → sn (cu (slc (D 161) (D 158 3 - 1 - i))) = L.getD (c - 1 - i).toNat 0) ∧ ¬ D 159 1 = D 159 2 ∧ D 159 0 ≤ T ∧ 0 ≤ c
theorem Iv_eq8 {D2 : eD} {c T T2 : Int} (h : Iv D L c T) (hW : Wd D2) (e : Eq8 D2 D) (hT : T ≤ T2) : Iv D2 L c T2 := by
  obtain ⟨h1, h2, h3, h4, h5, h6, h7⟩ := h
  unfold Iv
  rw [e 159 (by decide), e 158 (by decide), e 161 (by decide)]
  exact ⟨hW, h2, h3, h4, h5, by omega, h7⟩
/-- one act recorded more: what was seen before it lies at place c -/
theorem Iv_rec {D2 : eD} {H : eRow} {c T T2 : Int} (h : Iv D L c T) (hW : Wd D2) (q9 : D2 159 = cu H) (q1 : D2 161 = recP (D 161) (D 159) (D 158 3)) (q8 : D2 158 = fu (D 158) 3 (nxN (D 158 3))) (h12 : ¬ H 1 = H 2) (h0 : H 0 ≤ T2) (hL : L.getD c.toNat 0 = sn (D 159)) : Iv D2 L (c + 1) T2 := by
  obtain ⟨h1, h2, h3, h4, h5, h6, h7⟩ := h
  have n3 : D2 158 3 = nxN (D 158 3) := by rw [q8, fu_eq]
  have n4 : nxN (D 158 3) = if c + 1 ≤ 4 then c + 1 else 4 := by
    unfold nxN
    rw [h3]
    split <;> split <;> (try split) <;> omega
  refine ⟨hW, by rw [q9, cu_cu], by rw [n3, n4], fun i i0 i1 => ?_, by rw [q9, cu_lt (by decide), cu_lt (by decide)]; exact h12, by rw [q9, cu_lt (by decide)]; exact h0, by omega⟩
  rw [n3] at i1 ⊢
  rw [q1]
  by_cases q4 : D 158 3 = 4
  · have e4 : nxN (D 158 3) = 4 := by unfold nxN; rw [if_pos q4]
    rw [e4] at i1 ⊢
    rw [q4]
    by_cases i0' : i = 0
    · subst i0'
      rw [show (4 : Int) - 1 - 0 = 3 from rfl, cu_eq (slc_rec4 (P := D 161) (F := D 159)).1, h2, show c + 1 - 1 - 0 = c by omega, hL]
    · have z := h4 (i - 1) (by omega) (by omega)
      rw [cu_eq ((slc_rec4 (P := D 161) (F := D 159)).2 (4 - 1 - i) (by omega) (by omega)), show (4 : Int) - 1 - i + 1 = D 158 3 - 1 - (i - 1) by omega, z]
      congr 2
      omega
  · have e4 : nxN (D 158 3) = D 158 3 + 1 := by unfold nxN; rw [if_neg q4]
    have hn := h1.2.2.1.1
    rw [e4] at i1 ⊢
    obtain ⟨u1, u2⟩ := slc_rec (P := D 161) (F := D 159) (n := D 158 3) (by omega) (by omega)
    by_cases i0' : i = 0
    · subst i0'
      rw [show D 158 3 + 1 - 1 - 0 = D 158 3 by omega, cu_eq u1, h2, show c + 1 - 1 - 0 = c by omega, hL]
    · have z := h4 (i - 1) (by omega) (by omega)
      rw [cu_eq (u2 (D 158 3 + 1 - 1 - i) (by omega) (by omega)), show D 158 3 + 1 - 1 - i = D 158 3 - 1 - (i - 1) by omega, z]
      congr 2
      omega
/-- an act in the loop -/
theorem cl_loop {o : Int × Option eRow} {c T : Int} (h : Sa S D y ls o) (hR : Ro (D 159) o) (hI : Iv D L c T) (hL : L.getD c.toNat 0 = sn (D 159)) :
    ∃ (D2 : eD) (r : Int), ((r < 0 ∧ Eq8 D2 D ∧ Iv D2 L c (T + 200)) ∨ (¬ r < 0 ∧ Iv D2 L (c + 1) (T + 200))) ∧ ∀ Q, (wp y 0 (ls.map (sh G.length)) [] (em G W (hp S D)) Q ↔ Q (some (.inl r)) (em G W (hp S D2))) := by
  cases ho : o.2 with
  | none =>
    obtain ⟨D2, i1, i2, i3⟩ := cl_act (G := G) (W := W) h
    rw [ho] at i2
    have hr : o.1 < 0 := by
      unfold Ro at hR
      rw [ho] at hR
      exact hR
    exact ⟨D2, o.1, Or.inl ⟨hr, i2, Iv_eq8 hI i1 i2 (by omega)⟩, i3⟩
  | some H =>
    obtain ⟨D2, i1, i2, iS, i4, i5, i6, i7⟩ := cl_some (G := G) (W := W) h ho
    have hr : 0 ≤ o.1 ∧ ¬ H 1 = H 2 ∧ H 0 ≤ D 159 0 + 200 := by
      unfold Ro at hR
      rw [ho] at hR
      exact hR iS
    have h6 := hI.2.2.2.2.2.1
    exact ⟨D2, o.1, Or.inr ⟨by omega, Iv_rec hI i1 i2 i4 i6 hr.2.1 (by omega) hL⟩, i7⟩
/-- the law's own small ones -/
theorem l_part {h : eH} (n0 : n ≠ 0) : wp 101 0 [.inl v, .inl n] [] h Q ↔ Q (some (.inl (w32 (Int.tmod (Int32.ofInt v &&& Int32.ofInt 2147483647).toInt n)))) h := by
  rw [s101_0, s101_1, s101_3, s101_4, s101_5 n0, s101_6]
theorem l_drawn (hS : S.length ≤ 2048) (k0 : 0 ≤ k) (k9 : k ≤ 24) : ∃ x, ∀ Q, (wp 102 0 [.inr (.inl 7), .inl k] [] (em G W (hp S D)) Q ↔ Q (some (.inl x)) (em G W (hp S D))) := by
  by_cases h0 : (S.length : Int) = 0
  · refine ⟨w32 (w32 (7919 * k) + 3), fun Q => ?_⟩
    rw [s102_0 (by decide), s102_1 hS, s102_2, if_pos h0, s102_5, s102_8, s102_9, s102_10, s102_11, s102_12, s102_39]
  · have hp : 0 < (S.length : Int) := by omega
    have e1 : w32 (k.tmod S.length) = k % S.length := by
      rw [tmd k0]
      have h1 := Int.emod_nonneg k h0
      have h2 := Int.emod_lt_of_pos k hp
      exact w32_of (by omega) (by omega)
    refine ⟨(Int32.ofInt (Int32.ofInt (Int32.ofInt (S.getD (k % S.length).toNat 0) >>> (Int32.ofInt (w32 (k.tmod 7)) &&& 31)).toInt ^^^ Int32.ofInt (w32 (w32 (k.tdiv S.length) * 31))).toInt ^^^ Int32.ofInt (w32 (k * 2654435))).toInt, fun Q => ?_⟩
    rw [s102_0 (by decide), s102_1 hS, s102_2, if_neg h0, s102_15 (by decide), s102_16, s102_17 (by decide), s102_18 hS, s102_19 h0, e1, s102_20 (Int.emod_nonneg k h0) (Int.emod_lt_of_pos k hp), s102_21, s102_22, s102_24 (by decide), s102_25, s102_26, s102_27 (by decide), s102_28 hS, s102_29 h0, s102_30, s102_32, s102_33, s102_34, s102_35, s102_37, s102_38, s102_39]
end SPEC88
