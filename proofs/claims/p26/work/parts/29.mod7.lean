/-! the check's own beacon: a tick -/
def pw1 (F : eRow) : eRow := if F 8 = -5 then F else if F 9 - 1 = 0 then fu (fu (fu F 9 (F 9 - 1)) 7 (F 8)) 8 (-5) else fu F 9 (F 9 - 1)
def pl1 (F : eRow) : Int := if nigF F ∧ F 8 = -5 then (litF F).1 else 0
def pl2 (F : eRow) : eRow := if F 8 = -5 then (if nigF F then (litF F).2 else dayF F) else F
abbrev pdk (F : eRow) : Prop := nigF F ∧ ¬ pl1 F = 1
def pc1 (F : eRow) (d n : Prop) [Decidable d] [Decidable n] : eRow := fu (fu (fu F 44 (F 44 + b2i d)) 45 (if d then F 45 + 1 else if n then 0 else F 45)) 46 (if F 46 < (if d then F 45 + 1 else if n then 0 else F 45) then (if d then F 45 + 1 else if n then 0 else F 45) else F 46)
def pbF : Nat → Int → eRow → eRow
  | 0, _, F => F
  | n + 1, k, F => pbF n (k + 1) (if F (50 + 3 * k).toNat = F 0 then lanF F (50 + 3 * k) else F)
def pasD (F : eRow) : Prop := pdk (pw1 F)
def pasF (F : eRow) (ab : Int) : eRow :=
  let G := pc1 (pl2 (pw1 F)) (pdk (pw1 F)) (nigF (pw1 F))
  let K := if ab = 0 then G else pbF (F 49).toNat 0 G
  fu K 0 (F 0 + 1)
/-- counters against the tick -/
def Ct (F : eRow) : Prop := F 44 ≤ F 0 ∧ F 45 ≤ F 0 ∧ F 46 ≤ F 0 ∧ F 47 ≤ 3 * F 0 ∧ F 48 ≤ 10 * F 0
theorem St_pw1 {F : eRow} (h : St F) : St (pw1 F) := by
  have h' := h
  obtain ⟨a0, a1, a2, a3, a4, a5, a6, a7, a8, a9, a10, a11, a12, a13, a14, a15, a16, a17, a18, a19, a20, a21⟩ := h'
  unfold pw1
  split
  · exact h
  · next h1 =>
    split
    · next h2 =>
      refine St_wh h (fun j hj => by rw [fu_ne (by omega), fu_ne (by omega), fu_ne (by omega)]) ?_ ?_ ?_
      · rw [fu_ne (by decide), fu_eq]; omega
      · rw [fu_eq, fu_ne (by decide), fu_ne (by decide), fu_eq]; omega
      · rw [fu_ne (by decide), fu_ne (by decide), fu_ne (by decide)]; exact a10
    · next h2 =>
      refine St_wh h (fun j hj => by rw [fu_ne (by omega)]) ?_ ?_ ?_
      · rw [fu_ne (by decide)]; exact a8
      · rw [fu_eq, fu_ne (by decide)]; omega
      · rw [fu_ne (by decide)]; exact a10
theorem pw1_ne {F : eRow} {j : Nat} (h : j < 7 ∨ 9 < j) : pw1 F j = F j := by
  unfold pw1
  split
  · rfl
  · split
    · rw [fu_ne (by omega), fu_ne (by omega), fu_ne (by omega)]
    · rw [fu_ne (by omega)]
theorem turF_ne {F : eRow} {s : Int} {j : Nat} (h : j < 8 ∨ 10 < j) : turF F s j = F j := by
  unfold turF
  rw [fu_ne (by omega), fu_ne (by omega), fu_ne (by omega)]
theorem lit_47 {F : eRow} (hs : St F) : F 47 ≤ (litF F).2 47 ∧ (litF F).2 47 ≤ F 47 + 2 := by
  have f7 : 0 ≤ F 7 ∧ F 7 ≤ 5 := hs.2.2.2.2.2.2.2.2.1
  have q2 := lx_b (s := F 7) (p := 2) f7.1 f7.2 (by omega) (by omega)
  have e47 : litS F 47 = F 47 := fu_ne (by omega)
  unfold litF
  split
  · split
    · split
      · have := hapF_47b (F := litS F) (a := 0) (b := F 7)
        dsimp only; omega
      · have := brnF_47 (F := litS F) (s := F 7) f7.1 f7.2
        dsimp only; omega
    · have := brnF_47 (F := F) (s := F 7) f7.1 f7.2
      dsimp only; omega
  · split
    · dsimp only; omega
    · have := hapF_47b (F := turF F (nxtF F)) (a := 2) (b := nxtF F)
      rw [turF_ne (by omega)] at this
      dsimp only; omega
theorem St_lit {F : eRow} (h : St F) (h47 : F 47 + 2 ≤ 4000000) : St (litF F).2 := by
  have f7 : 0 ≤ F 7 ∧ F 7 ≤ 5 := h.2.2.2.2.2.2.2.2.1
  have q2 := lx_b (s := F 7) (p := 2) f7.1 f7.2 (by omega) (by omega)
  have e47 : litS F 47 = F 47 := fu_ne (by omega)
  have hl := h.1 _ f7.1 f7.2
  unfold litF
  split
  · next hg =>
    have hgb := good_lm hl hg
    have h3 := @by3_10 (F (lx (F 7) 0))
    split
    · have hS := St_litS h hg
      split
      · exact St_hap hS (by omega)
      · refine St_brn hS f7.1 f7.2 ?_ (by omega)
        unfold litS
        rw [fu_eq]
        omega
    · exact St_brn h f7.1 f7.2 (by omega) h47
  · split
    · exact h
    · next h1 =>
      have hn := (nxt_b (F := F) f7.1).resolve_left (fun q => h1 (Or.inl q))
      exact St_hap (St_tur h hn.1 hn.2 (fun q => h1 (Or.inr q))) (by rw [turF_ne (by omega)]; omega)
theorem day_47 {F : eRow} : F 47 ≤ dayF F 47 ∧ dayF F 47 ≤ F 47 + 2 := by
  unfold dayF
  split
  · have := hapF_47b (F := turF (fu F 10 0) (fndF (fu F 10 0) 1 6 1)) (a := 3) (b := fndF (fu F 10 0) 1 6 1)
    rw [turF_ne (by omega), fu_ne (by decide)] at this
    omega
  · rw [fu_ne (by decide)]
    omega
theorem St_day {F : eRow} (h : St F) (h47 : F 47 + 2 ≤ 4000000) : St (dayF F) := by
  have hG := St_10 (v := 0) h (Or.inl rfl)
  have f7 : 0 ≤ fu F 10 0 7 := hG.2.2.2.2.2.2.2.2.1.1
  unfold dayF
  split
  · next hc =>
    have hb := (fnd_b (F := fu F 10 0) (fr := 1) 6 1 (by omega)).resolve_left hc.2
    have e7 : fu F 10 0 7 = F 7 := fu_ne (by decide)
    exact St_hap (St_tur hG hb.1 hb.2.1 (fun q => hc.1 (by rw [← e7, ← q]; exact hb.2.2))) (by rw [turF_ne (by omega), fu_ne (by decide)]; omega)
  · exact hG
theorem St_pl2 {F : eRow} (h : St F) (h47 : F 47 + 2 ≤ 4000000) : St (pl2 F) ∧ F 47 ≤ pl2 F 47 ∧ pl2 F 47 ≤ F 47 + 2 := by
  unfold pl2
  split
  · split
    · exact ⟨St_lit h h47, lit_47 h⟩
    · exact ⟨St_day h h47, day_47⟩
  · exact ⟨h, by omega, by omega⟩
/-- what the night and the day leave alone -/
theorem brn_ne {F : eRow} {s : Int} {j : Nat} (h1 : 0 ≤ s) (h2 : s ≤ 5) (hs : St F) (hw : F (lx s 2) ≤ 1065) (h47 : F 47 + 2 ≤ 4000000) (h : j < 10 ∨ (40 < j ∧ j < 47) ∨ (47 < j ∧ j < 80)) : brnF F s j = F j := by
  have q2 := lx_b (p := 2) h1 h2 (by omega) (by omega)
  have q3 := lx_b (p := 3) h1 h2 (by omega) (by omega)
  have q4 := lx_b (p := 4) h1 h2 (by omega) (by omega)
  obtain ⟨s1, w1⟩ := St_brn1 hs h1 h2 hw
  have s2 := St_brn2 s1 h1 h2 w1
  have e1 : brn1 F s j = F j := fu_ne (by omega)
  have e2 : brn2 (brn1 F s) s j = F j := by unfold brn2; rw [fu_ne (by omega), e1]
  have f47 : brn2 (brn1 F s) s 47 = F 47 := by unfold brn2 brn1; rw [fu_ne (by omega), fu_ne (by omega)]
  have s3 := St_brn3 s2 h1 h2 (by omega)
  have z2 : 0 ≤ brn2 (brn1 F s) s 80 := s2.2.2.2.2.2.2.2.2.2.2.2.2.2.2.2.2.2.2.2.2.1.1
  have z3 : 0 ≤ brn3 (brn2 (brn1 F s) s) s 80 := s3.2.2.2.2.2.2.2.2.2.2.2.2.2.2.2.2.2.2.2.2.1.1
  have e3 : brn3 (brn2 (brn1 F s) s) s j = F j := by
    rw [← e2]
    conv => lhs; unfold brn3
    split
    · rw [hapF_lo (by rw [fu_ne (by omega)]; exact z2) (by omega), fu_ne (by omega)]
    · rfl
  unfold brnF
  rw [← e3]
  conv => lhs; unfold brn4
  split
  · rw [fu_ne (by omega), hapF_lo (by rw [fu_ne (by decide)]; exact z3) (by omega), fu_ne (by omega)]
  · rw [fu_ne (by omega)]
theorem pl2_ne {F : eRow} {j : Nat} (hs : St F) (h47 : F 47 + 2 ≤ 4000000) (h : j < 8 ∨ (40 < j ∧ j < 47) ∨ (47 < j ∧ j < 80)) : pl2 F j = F j := by
  have f7 : 0 ≤ F 7 ∧ F 7 ≤ 5 := hs.2.2.2.2.2.2.2.2.1
  have f80 : 0 ≤ F 80 := hs.2.2.2.2.2.2.2.2.2.2.2.2.2.2.2.2.2.2.2.2.1.1
  have q2 := lx_b (s := F 7) (p := 2) f7.1 f7.2 (by omega) (by omega)
  have hl := hs.1 _ f7.1 f7.2
  have e47 : litS F 47 = F 47 := fu_ne (by omega)
  have e80 : litS F 80 = F 80 := fu_ne (by omega)
  have eS : litS F j = F j := fu_ne (by omega)
  unfold pl2
  split
  · split
    · unfold litF
      split
      · next hg =>
        have hgb := good_lm hl hg
        have h3 := @by3_10 (F (lx (F 7) 0))
        have hS := St_litS hs hg
        split
        · split
          · exact (hapF_lo (by omega) (by omega)).trans eS
          · exact (brn_ne f7.1 f7.2 hS (by unfold litS; rw [fu_eq]; omega) (by omega) (by omega)).trans eS
        · exact brn_ne f7.1 f7.2 hs (by omega) h47 (by omega)
      · split
        · rfl
        · dsimp only
          rw [hapF_lo (by rw [turF_ne (by omega)]; exact f80) (by omega), turF_ne (by omega)]
    · unfold dayF
      split
      · rw [hapF_lo (by rw [turF_ne (by omega), fu_ne (by decide)]; exact f80) (by omega), turF_ne (by omega), fu_ne (by omega)]
      · rw [fu_ne (by omega)]
  · rfl
theorem lit_01 {F : eRow} : (litF F).1 = 0 ∨ (litF F).1 = 1 := by
  unfold litF
  split
  · split
    · split
      · exact Or.inl rfl
      · exact Or.inr rfl
    · exact Or.inr rfl
  · split <;> exact Or.inl rfl
theorem St_cnt {F : eRow} {v44 v45 v46 : Int} (h : St F) (h1 : 0 ≤ v44 ∧ v44 ≤ 1000000) (h2 : 0 ≤ v45 ∧ v45 ≤ 1000000) (h3 : 0 ≤ v46 ∧ v46 ≤ 1000000) : St (fu (fu (fu F 44 v44) 45 v45) 46 v46) := by
  obtain ⟨a0, a1, a2, a3, a4, a5, a6, a7, a8, a9, a10, a11, a12, a13, a14, a15, a16, a17, a18, a19, a20, a21⟩ := h
  have e : ∀ j, (j < 44 ∨ 46 < j) → fu (fu (fu F 44 v44) 45 v45) 46 v46 j = F j := fun j hj => by rw [fu_ne (by omega), fu_ne (by omega), fu_ne (by omega)]
  refine ⟨fun s g1 g2 => LmB_of (a0 s g1 g2) (fun j _ _ => e j (by omega)) g1 g2, ?_, ?_, ?_, ?_, ?_, ?_, ?_, ?_, ?_, ?_, ?_, ?_, ?_, ?_, ?_, ?_, ?_, ?_, ?_, ?_, ?_⟩
  · rw [e 0 (by omega)]; exact a1
  · rw [e 1 (by omega)]; exact a2
  · rw [e 2 (by omega)]; exact a3
  · rw [e 3 (by omega)]; exact a4
  · rw [e 4 (by omega)]; exact a5
  · rw [e 5 (by omega)]; exact a6
  · rw [e 6 (by omega)]; exact a7
  · rw [e 7 (by omega)]; exact a8
  · rw [e 8 (by omega), e 9 (by omega)]; exact a9
  · rw [e 10 (by omega)]; exact a10
  · rw [e 41 (by omega)]; exact a11
  · rw [e 42 (by omega)]; exact a12
  · rw [e 43 (by omega)]; exact a13
  · rw [fu_ne (by decide), fu_ne (by decide), fu_eq]; exact h1
  · rw [fu_ne (by decide), fu_eq]; exact h2
  · rw [fu_eq]; exact h3
  · rw [e 47 (by omega)]; exact a17
  · rw [e 48 (by omega)]; exact a18
  · rw [e 49 (by omega)]; exact a19
  · rw [e 80 (by omega)]; exact a20
  · rw [e 49 (by omega)]
    exact fun k g1 g2 => Bt_of (a21 k g1 g2) (fun j h3 h4 => e j (by omega)) g1 (by omega)
theorem pc1_ne {F : eRow} {d n : Prop} [Decidable d] [Decidable n] {j : Nat} (h : j < 44 ∨ 46 < j) : pc1 F d n j = F j := by
  unfold pc1
  rw [fu_ne (by omega), fu_ne (by omega), fu_ne (by omega)]
theorem b2i_b {c : Prop} [Decidable c] : 0 ≤ b2i c ∧ b2i c ≤ 1 := by
  rcases b2i_01 c with h | h <;> omega
theorem St_pc1 {F : eRow} {d n : Prop} [Decidable d] [Decidable n] (h : St F) (h44 : F 44 + 1 ≤ 1000000) (h45 : F 45 + 1 ≤ 1000000) : St (pc1 F d n) := by
  have h' := h
  obtain ⟨a0, a1, a2, a3, a4, a5, a6, a7, a8, a9, a10, a11, a12, a13, a14, a15, a16, a17, a18, a19, a20, a21⟩ := h'
  have hb := b2i_b (c := d)
  unfold pc1
  refine St_cnt h (by omega) (by split <;> (try split) <;> omega) ?_
  split <;> split <;> (try split) <;> omega
theorem Atb_of {F : eRow} {k : Int} (hs : St F) (h1 : 0 ≤ k) (h2 : k < F 49) : Atb F (50 + 3 * k) := by
  obtain ⟨a0, a1, a2, a3, a4, a5, a6, a7, a8, a9, a10, a11, a12, a13, a14, a15, a16, a17, a18, a19, a20, a21⟩ := hs
  obtain ⟨b1, b2, b3, b4, b5, b6⟩ := a21 k h1 h2
  have e1 : (50 + 3 * k + 1).toNat = (51 + 3 * k).toNat := by omega
  have e2 : (50 + 3 * k + 2).toNat = (52 + 3 * k).toNat := by omega
  refine ⟨by omega, by omega, ?_, ?_, ?_, ?_⟩
  · rw [e1]; exact b3
  · rw [e1]; exact b4
  · rw [e2]; exact b5
  · rw [e2]; exact b6
theorem pb_all (n : Nat) : ∀ (k : Int) (F : eRow), 0 ≤ k → k + n = F 49 → St F → F 48 + n ≤ 10000000 → St (pbF n k F) ∧ (∀ j, j < 11 ∨ (43 < j ∧ j < 48) ∨ (48 < j ∧ j < 80) → pbF n k F j = F j) ∧ pbF n k F 48 ≤ F 48 + n := by
  induction n with
  | zero => exact fun k F _ _ h _ => ⟨h, fun _ _ => rfl, by show F 48 ≤ _; omega⟩
  | succ n ih =>
    intro k F h0 hk hs h48
    unfold pbF
    split
    · next hc =>
      have hA := Atb_of hs h0 (by omega)
      have hL := St_lan hs hA (by omega)
      have e49 : lanF F (50 + 3 * k) 49 = F 49 := lan_ne hs hA (by omega)
      have e48 := lan_48 hs hA
      obtain ⟨i1, i2, i3⟩ := ih (k + 1) _ (by omega) (by rw [e49]; omega) hL (by omega)
      exact ⟨i1, fun j hj => (i2 j hj).trans (lan_ne hs hA hj), by omega⟩
    · obtain ⟨i1, i2, i3⟩ := ih (k + 1) F (by omega) (by omega) hs (by omega)
      exact ⟨i1, i2, by omega⟩
theorem St_0 {F : eRow} {v : Int} (h : St F) (hv : 0 ≤ v ∧ v ≤ 1000000) : St (fu F 0 v) := by
  obtain ⟨a0, a1, a2, a3, a4, a5, a6, a7, a8, a9, a10, a11, a12, a13, a14, a15, a16, a17, a18, a19, a20, a21⟩ := h
  have e : ∀ j, j ≠ 0 → fu F 0 v j = F j := fun j hj => fu_ne hj
  refine ⟨fun s g1 g2 => LmB_of (a0 s g1 g2) (fun j _ _ => e j (by omega)) g1 g2, ?_, ?_, ?_, ?_, ?_, ?_, ?_, ?_, ?_, ?_, ?_, ?_, ?_, ?_, ?_, ?_, ?_, ?_, ?_, ?_, ?_⟩
  · rw [fu_eq]; exact hv
  · rw [e 1 (by omega)]; exact a2
  · rw [e 2 (by omega)]; exact a3
  · rw [e 3 (by omega)]; exact a4
  · rw [e 4 (by omega)]; exact a5
  · rw [e 5 (by omega)]; exact a6
  · rw [e 6 (by omega)]; exact a7
  · rw [e 7 (by omega)]; exact a8
  · rw [e 8 (by omega), e 9 (by omega)]; exact a9
  · rw [e 10 (by omega)]; exact a10
  · rw [e 41 (by omega)]; exact a11
  · rw [e 42 (by omega)]; exact a12
  · rw [e 43 (by omega)]; exact a13
  · rw [e 44 (by omega)]; exact a14
  · rw [e 45 (by omega)]; exact a15
  · rw [e 46 (by omega)]; exact a16
  · rw [e 47 (by omega)]; exact a17
  · rw [e 48 (by omega)]; exact a18
  · rw [e 49 (by omega)]; exact a19
  · rw [e 80 (by omega)]; exact a20
  · rw [e 49 (by omega)]
    exact fun k g1 g2 => Bt_of (a21 k g1 g2) (fun j h3 h4 => e j (by omega)) g1 (by omega)
