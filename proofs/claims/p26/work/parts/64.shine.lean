/-! the class's Beacon: the night and the day -/
theorem fu_self {F : eRow} {j : Nat} {v : Int} (h : F j = v) : fu F j v = F := by
  funext i
  unfold fu
  split
  · next q => rw [q, h]
  · rfl
theorem brn3_ne {H : eRow} {s : Int} {j : Nat} (h80 : 0 ≤ H 80) (h1 : 0 ≤ s) (h2 : s ≤ 5) (hj : j < 47 ∨ (47 < j ∧ j < 80)) (hn : j ≠ lx s 3) : brn3 H s j = H j := by
  have q := lx_b (p := 3) h1 h2 (by omega) (by omega)
  unfold brn3
  split
  · rw [hapF_lo (by rw [fu_ne (by omega)]; exact h80) hj, fu_ne hn]
  · rfl
theorem St_brnT {F : eRow} {s : Int} (h : St F) (h1 : 0 ≤ s) (h2 : s ≤ 5) : St (brnT F s) := by
  have hl := h.1 s h1 h2
  obtain ⟨b1, b2, b3, b4, b5, b6, b7, b8⟩ := hl
  have n0 : lx s 0 ≠ lx s 3 := by unfold lx; omega
  have n1 : lx s 1 ≠ lx s 3 := by unfold lx; omega
  have n4 : lx s 4 ≠ lx s 3 := by unfold lx; omega
  have n2 : lx s 2 ≠ lx s 3 := by unfold lx; omega
  unfold brnT
  split
  · refine St_l1 h h1 h2 (fun j hj => fu_ne (by unfold lx at hj ⊢; omega)) ?_
    unfold LmB
    rw [fu_ne n0, fu_ne n1, fu_eq, fu_ne n4, fu_ne n2]
    omega
  · exact h
theorem rat_b {S : List Int} {D : eD} {b : Nat} {i : Int} (hb : tg b = 0) : (0 ≤ i → i < 4 → rat S D (b + 1) i = D (b + 1) i.toNat) ∧ (0 ≤ i → i < 3 → rat S D (b + 2) i = D (b + 2) i.toNat) := by
  obtain ⟨g8, g1, g2, g3, g12, g16⟩ := be_tg0 b (tg_lt (by omega)) hb
  have l1 : ln S (b + 1) = 4 := (ln_hi (by omega)).trans (be_ln0 b (tg_lt (by omega)) hb).1
  have l2 : ln S (b + 2) = 3 := (ln_hi (by omega)).trans (be_ln0 b (tg_lt (by omega)) hb).2.1
  refine ⟨fun q0 q1 => ?_, fun q0 q1 => ?_⟩ <;> (unfold rat; rw [if_pos (by omega), rd_hi (by omega)])
section SPEC64
variable {S : List Int} {D E : eD} {h : eH} {Q : Option eV → eH → Prop} {F G : eRow} {b : Nat} {s : Int} {l0 l1 : eV}
theorem c6y (hb : tg b = 0) (hS : S.length ≤ 2048) (hR : Rel D b G) (hG : St G) (hg : goF G (G 7) 0) (h47 : G 47 + 4 ≤ 4000000) :
    ∃ D1 : eD, Rel D1 b (brnF G (G 7)) ∧ (∀ K, (K < b ∨ b + 19 < K) → D1 K = D K) ∧ ∀ Q x, (wp 6 14 [.inr (.inl b), .inr (.inl (lw (b + 3) (G 7))), x] [] (hp S D) Q ↔ Q (some (.inl 1)) (hp S D1)) := by
  have h0 := tg_ne0 hb (by decide)
  obtain ⟨g8, g1, g2, g3, g12, g16⟩ := be_tg0 b (tg_lt (by omega)) hb
  have f7 := hG.2.2.2.2.2.2.2.2.1
  have b80 : 0 ≤ G 80 ∧ G 80 ≤ 10 := hG.2.2.2.2.2.2.2.2.2.2.2.2.2.2.2.2.2.2.2.2.1
  have b3 := hG.2.2.2.2.1
  have t3 : tg (lw (b + 3) (G 7)) = 3 := lw_tg g3
  have tn := tg_ne0 t3 (by decide)
  have hB := hG.1 _ f7.1 f7.2
  have hgl := good_lm hB hg
  obtain ⟨m0, m1, m2, m3, m4, m5, m6⟩ := (hR.2.2.2.1.2.1 _ f7.1 f7.2).resolve_left (fun z => hg.1.1 z.2.1)
  have hno : ¬ D (lw (b + 3) (G 7)) 2 ≤ D (lw (b + 3) (G 7)) 3 := by have := hg.1.2; omega
  obtain ⟨hc, hRg, hn⟩ := Rel_gw hb hR hG hg.1.1
  have e0 : rat S D (b + 1) 0 = G 3 := ((rat_b hb).1 (by decide) (by decide)).trans (hR.2.1 0 (by omega))
  have e1 : rat S D (b + 1) 1 = G 4 := ((rat_b hb).1 (by decide) (by decide)).trans (hR.2.1 1 (by omega))
  have b6 := hB.2.2.2.2.2
  have b5 := hB.2.2.2.2.1
  have bw := hB.2.2.1
  have c34' := fun Q' => c34 (S := S) (D := D) (Q := Q') (k := lw (b + 3) (G 7)) (lim := G 3) (pat := G 4) t3 hS (by omega) (by omega) (by omega) (by omega) (by omega) (by omega) (by omega) (by omega) (by omega) (by omega) (by omega)
  have q0 := lx_b (p := 0) f7.1 f7.2 (by omega) (by omega)
  have q2 := lx_b (p := 2) f7.1 f7.2 (by omega) (by omega)
  have q3 := lx_b (p := 3) f7.1 f7.2 (by omega) (by omega)
  have q4 := lx_b (p := 4) f7.1 f7.2 (by omega) (by omega)
  obtain ⟨s1, w1⟩ := St_brn1 hG f7.1 f7.2 (by omega)
  have s2 := St_brn2 s1 f7.1 f7.2 w1
  have k47 : brn2 (brn1 G (G 7)) (G 7) 47 = G 47 := by unfold brn2 brn1; rw [fu_ne (by omega), fu_ne (by omega)]
  have k7 : brn2 (brn1 G (G 7)) (G 7) 7 = G 7 := by unfold brn2 brn1; rw [fu_ne (by omega), fu_ne (by omega)]
  have k0 : brn2 (brn1 G (G 7)) (G 7) (lx (G 7) 0) = G (lx (G 7) 0) := by unfold brn2 brn1; rw [fu_ne (by unfold lx; omega), fu_ne (by unfold lx; omega)]
  have h80 : 0 ≤ brn2 (brn1 G (G 7)) (G 7) 80 := s2.2.2.2.2.2.2.2.2.2.2.2.2.2.2.2.2.2.2.2.2.1.1
  have s3 := St_brn3 s2 f7.1 f7.2 (by omega)
  have j7 : brn3 (brn2 (brn1 G (G 7)) (G 7)) (G 7) 7 = G 7 := (brn3_ne h80 f7.1 f7.2 (by omega) (by omega)).trans k7
  have j0 : brn3 (brn2 (brn1 G (G 7)) (G 7)) (G 7) (lx (G 7) 0) = G (lx (G 7) 0) := (brn3_ne h80 f7.1 f7.2 (by omega) (by unfold lx; omega)).trans k0
  have j47 := brn3_47 (F := brn2 (brn1 G (G 7)) (G 7)) (s := G 7) f7.1 f7.2
  have sT := St_brnT s2 f7.1 f7.2
  unfold brnF
  generalize brn2 (brn1 G (G 7)) (G 7) = H at *
  have zk := lw_in (w := b + 3) f7.1 f7.2
  have hw2 : gwD D (lw (b + 3) (G 7)) (G 3) (G 4) (b + 3) 2 = G 7 := by rw [hn (b + 3) (by omega)]; exact hR.2.2.2.1.1.1
  by_cases c : H 4 ≤ H (lx (G 7) 4) ∧ H (lx (G 7) 3) = 0
  · have c' := hc.mpr c
    have eT : brnT H (G 7) = fu H (lx (G 7) 3) 1 := if_pos c
    have e3 : brn3 H (G 7) = hapF (brnT H (G 7)) 1 (G 7) := by rw [eT]; exact if_pos c
    have R2 := Rel_nch (a := 1) (s := G 7) hRg sT (by decide)
    obtain ⟨r1, r2, r3⟩ := Rel_c9 hRg sT
    have c9' := fun Q' => c9 (S := S) (D := gwD D (lw (b + 3) (G 7)) (G 3) (G 4)) (Q := Q') (a := 1) (s := G 7) hb hS r1 r2 r3
    rw [e3] at s3 j7 j0 j47 ⊢
    have z := c6z (S := S) hb hS R2.1 s3 (by rw [j7, j0]; exact hg.1.1) (by omega)
    rw [j7] at z
    obtain ⟨D1, i1, i2, i3⟩ := z
    refine ⟨D1, i1, fun K hK => by rw [i2 K hK, R2.2 K hK, hn K (by omega)], fun Q x => ?_⟩
    rw [← i3 Q 1 (Or.inr rfl)]
    simp (disch := first | assumption | omega | decide | exact b2i_01 _ | (unfold lx; omega)) only [s6_14, s6_15, s6_18, s6_21, s6_22, s6_25, s6_26, s6_27, s6_28, s6_31, s6_32, s6_33, s6_36, s6_37, s6_40, s6_41, s6_44, s6_45, s6_48, s6_51, s6_54, s6_55, s6_56, s6_57, s6_60, s6_63, kont_some, kont_none, w32_of, if_true, if_false, tdv, tmd, setA_eq, up_setA, rd_hi, Int.reduceToNat, if_neg (show ¬ (1 : Int) = 0 by decide), c28, b2i_f hno, c51, e0, e1, c34', b2i_t c', hw2, c9']
  · have c' := fun z => c (hc.mp z)
    have eT : brnT H (G 7) = H := if_neg c
    have e3 : brn3 H (G 7) = H := if_neg c
    rw [eT] at hRg
    rw [e3] at s3 j7 j0 j47 ⊢
    have z := c6z (S := S) hb hS hRg s3 (by rw [j7, j0]; exact hg.1.1) (by omega)
    rw [j7] at z
    obtain ⟨D1, i1, i2, i3⟩ := z
    refine ⟨D1, i1, fun K hK => by rw [i2 K hK, hn K (by omega)], fun Q x => ?_⟩
    rw [← i3 Q 1 (Or.inr rfl)]
    simp (disch := first | assumption | omega | decide | exact b2i_01 _ | (unfold lx; omega)) only [s6_14, s6_15, s6_18, s6_21, s6_22, s6_25, s6_26, s6_27, s6_28, s6_31, s6_32, s6_33, s6_36, s6_37, s6_40, s6_41, s6_44, s6_45, s6_48, s6_51, s6_54, s6_55, s6_56, s6_57, s6_60, s6_63, kont_some, kont_none, w32_of, if_true, if_false, tdv, tmd, setA_eq, up_setA, rd_hi, Int.reduceToNat, if_neg (show ¬ (1 : Int) = 0 by decide), c28, b2i_f hno, c51, e0, e1, c34', b2i_f c']
theorem c6 (hb : tg b = 0) (hS : S.length ≤ 2048) (hR : Rel D b F) (hF : St F) (hg : goF F (F 7) 0) (h47 : F 47 + 5 ≤ 4000000) :
    ∃ D1 : eD, Rel D1 b (litF F).2 ∧ (∀ K, (K < b ∨ b + 19 < K) → D1 K = D K) ∧ ∀ Q, (wp 6 0 [.inr (.inl b), .inr (.inl (lw (b + 3) (F 7))), .inr (.inl 0)] [] (hp S D) Q ↔ Q (some (.inl (litF F).1)) (hp S D1)) := by
  have h0 := tg_ne0 hb (by decide)
  obtain ⟨g8, g1, g2, g3, g12, g16⟩ := be_tg0 b (tg_lt (by omega)) hb
  have f7 := hF.2.2.2.2.2.2.2.2.1
  have t3 : tg (lw (b + 3) (F 7)) = 3 := lw_tg g3
  have tn := tg_ne0 t3 (by decide)
  have hB := hF.1 _ f7.1 f7.2
  have hgl := good_lm hB hg
  obtain ⟨m0, m1, m2, m3, m4, m5, m6⟩ := (hR.2.2.2.1.2.1 _ f7.1 f7.2).resolve_left (fun z => hg.1.1 z.2.1)
  have e5 := hR.2.2.2.1.1.2.2.2
  have zk := lw_in (w := b + 3) f7.1 f7.2
  unfold litF
  rw [if_pos hg]
  by_cases h1 : F 10 = 0
  · rw [if_pos h1]
    have hS' := St_litS hF hg
    have q0 := lx_b (p := 0) f7.1 f7.2 (by omega) (by omega)
    have q2 := lx_b (p := 2) f7.1 f7.2 (by omega) (by omega)
    have n02 : lx (F 7) 0 ≠ lx (F 7) 2 := by unfold lx; omega
    have n12 : lx (F 7) 1 ≠ lx (F 7) 2 := by unfold lx; omega
    have n32 : lx (F 7) 3 ≠ lx (F 7) 2 := by unfold lx; omega
    have n42 : lx (F 7) 4 ≠ lx (F 7) 2 := by unfold lx; omega
    have j7 : litS F 7 = F 7 := by unfold litS; rw [fu_ne (by omega)]
    have j10 : litS F 10 = 0 := by unfold litS; rw [fu_ne (by omega)]; exact h1
    have j47 : litS F 47 = F 47 := by unfold litS; rw [fu_ne (by omega)]
    have j0 : litS F (lx (F 7) 0) = F (lx (F 7) 0) := by unfold litS; rw [fu_ne n02]
    have j80 : 0 ≤ litS F 80 := hS'.2.2.2.2.2.2.2.2.2.2.2.2.2.2.2.2.2.2.2.2.1.1
    have n : ∀ K, K ≠ lw (b + 3) (F 7) → up D (lw (b + 3) (F 7)) 3 (D (lw (b + 3) (F 7)) 3 + by3 (D (lw (b + 3) (F 7)) 0) 10 15 5) K = D K := fun K hK => by funext j; rw [up_ne1 hK]
    have R0 : Rel (up D (lw (b + 3) (F 7)) 3 (D (lw (b + 3) (F 7)) 3 + by3 (D (lw (b + 3) (F 7)) 0) 10 15 5)) b (litS F) := by
      refine Rel_lm hR hF f7.1 f7.2 n (fun j hj => ?_) (Or.inr ?_)
      · unfold litS
        unfold lx at hj ⊢
        rw [fu_ne (by omega)]
      · unfold lfF litS
        rw [up_ne2 (by decide), up_ne2 (by decide), up_ne2 (by decide), up_eq, up_ne2 (by decide), up_ne2 (by decide), fu_ne n02, fu_ne n12, fu_eq, fu_ne n32, fu_ne n42, m0, m4]
        exact ⟨rfl, m1, m2, m3, rfl, m5, m6⟩
    have bw := hB.2.2.1
    have c33' := fun Q' => c33 (S := S) (D := D) (Q := Q') t3 hS (by omega) (by omega) (by omega) (by omega)
    generalize up D (lw (b + 3) (F 7)) 3 (D (lw (b + 3) (F 7)) 3 + by3 (D (lw (b + 3) (F 7)) 0) 10 15 5) = D0 at *
    by_cases ho : outF (litS F) (F 7)
    · rw [if_pos ho]
      obtain ⟨m0', m1', m2', m3', m4', m5', m6'⟩ := (R0.2.2.2.1.2.1 _ f7.1 f7.2).resolve_left (fun z => hg.1.1 (j0 ▸ z.2.1))
      have ho' : D0 (lw (b + 3) (F 7)) 2 ≤ D0 (lw (b + 3) (F 7)) 3 := by have : lfF (litS F) (F 7) ≤ litS F (lx (F 7) 2) := ho; omega
      have z := c6z (S := S) hb hS R0 hS' (by rw [j7, j0]; exact hg.1.1) (by omega)
      rw [j7] at z
      have eb : brn4 (litS F) (F 7) = hapF (litS F) 0 (F 7) := by
        have ho2 : outF (fu (litS F) 10 1) (F 7) := by
          have q1 := lx_b (p := 1) f7.1 f7.2 (by omega) (by omega)
          unfold outF lfF at ho ⊢
          rw [fu_ne (by omega), fu_ne (by omega), fu_ne (by omega)]
          exact ho
        unfold brn4
        rw [if_pos ho2, hapF_c j80, fu_fu, ← hapF_c j80, fu_self j10]
      rw [eb] at z
      obtain ⟨D1, i1, i2, i3⟩ := z
      refine ⟨D1, i1, fun K hK => by rw [i2 K hK, n K (by omega)], fun Q => ?_⟩
      rw [← i3 Q 0 (Or.inl rfl)]
      simp (disch := first | assumption | omega | decide | exact b2i_01 _ | (unfold lx; omega)) only [s6_0, s6_1, s6_4, s6_7, s6_10, s6_11, s6_14, s6_15, s6_18, s6_21, s6_22, s6_25, s6_26, s6_27, s6_28, s6_31, s6_32, s6_33, s6_36, s6_37, s6_40, s6_41, s6_44, s6_45, s6_48, s6_51, s6_54, s6_55, s6_56, s6_57, s6_60, s6_63, kont_some, kont_none, w32_of, if_true, if_false, tdv, tmd, setA_eq, up_setA, rd_hi, Int.reduceToNat, if_neg (show ¬ (1 : Int) = 0 by decide), e5, if_pos h1, c33', c28, b2i_t ho']
    · rw [if_neg ho]
      have hg2 : goF (litS F) (litS F 7) 0 := by
        rw [j7]
        exact ⟨⟨by rw [j0]; exact hg.1.1, Int.not_le.mp ho⟩, fun z => absurd z.1 (by decide)⟩
      obtain ⟨D1, i1, i2, i3⟩ := c6y (S := S) hb hS R0 hS' hg2 (by omega)
      rw [j7] at i1 i3
      refine ⟨D1, i1, fun K hK => by rw [i2 K hK, n K (by omega)], fun Q => ?_⟩
      rw [← i3 Q (.inr (.inl 0))]
      simp (disch := first | assumption | omega | decide | exact b2i_01 _ | (unfold lx; omega)) only [s6_0, s6_1, s6_4, s6_7, s6_10, s6_11, kont_some, kont_none, w32_of, if_true, if_false, tdv, tmd, setA_eq, up_setA, rd_hi, Int.reduceToNat, if_neg (show ¬ (1 : Int) = 0 by decide), e5, if_pos h1, c33']
  · rw [if_neg h1]
    obtain ⟨D1, i1, i2, i3⟩ := c6y (S := S) hb hS hR hF hg (by omega)
    refine ⟨D1, i1, i2, fun Q => ?_⟩
    rw [← i3 Q (.inr (.inl 0))]
    simp (disch := first | assumption | omega | decide | exact b2i_01 _ | (unfold lx; omega)) only [s6_0, s6_1, s6_4, s6_7, s6_10, s6_11, kont_some, kont_none, w32_of, if_true, if_false, tdv, tmd, setA_eq, up_setA, rd_hi, Int.reduceToNat, if_neg (show ¬ (1 : Int) = 0 by decide), e5, if_neg h1]
theorem c5 (hb : tg b = 0) (hS : S.length ≤ 2048) (hR : Rel D b F) (hF : St F) (h47 : F 47 + 5 ≤ 4000000) :
    ∃ D1 : eD, Rel D1 b (litF F).2 ∧ (∀ K, (K < b ∨ b + 19 < K) → D1 K = D K) ∧ ∀ Q, (wp 5 0 [.inr (.inl b), .inr (.inl 0), .inr (.inl 0)] [] (hp S D) Q ↔ Q (some (.inl (litF F).1)) (hp S D1)) := by
  have h0 := tg_ne0 hb (by decide)
  obtain ⟨g8, g1, g2, g3, g12, g16⟩ := be_tg0 b (tg_lt (by omega)) hb
  have f7 := hF.2.2.2.2.2.2.2.2.1
  have t3 : tg (lw (b + 3) (F 7)) = 3 := lw_tg g3
  have tn := tg_ne0 t3 (by decide)
  have e2 := hR.2.2.2.1.1.1
  have hu := LmR_use (hR.2.2.2.1.2.1 _ f7.1 f7.2)
  have l01 := lit_01 (F := F)
  by_cases hg : goF F (F 7) 0
  · obtain ⟨D1, i1, i2, i3⟩ := c6 (S := S) hb hS hR hF hg h47
    refine ⟨D1, i1, i2, fun Q => ?_⟩
    have hg' := hu.mpr hg
    simp (disch := first | assumption | omega | decide | exact b2i_01 _ | (unfold lx; omega)) only [s5_0, s5_1, s5_4, s5_5, s5_8, s5_11, s5_14, s5_15, s5_16, s5_19, s5_22, s5_23, s5_24, s5_27, kont_some, kont_none, w32_of, if_true, if_false, tdv, tmd, setA_eq, up_setA, rd_hi, Int.reduceToNat, if_neg (show ¬ (1 : Int) = 0 by decide), c56, e2, c29, b2i_t hg', i3]
  · have hg' := fun z => hg (hu.mp z)
    have c61' := fun Q' => c61 (S := S) (D := D) (Q := Q') g3 hS hR.2.2.2.1 hF
    unfold litF
    rw [if_neg hg]
    have hn := nxt_b (F := F) f7.1
    by_cases h1 : nxtF F = -5 ∨ nxtF F = F 7
    · rw [if_pos h1]
      refine ⟨D, hR, fun _ _ => rfl, fun Q => ?_⟩
      rcases h1 with h1 | h1
      · simp (disch := first | assumption | omega | decide | exact b2i_01 _ | (unfold lx; omega)) only [s5_0, s5_1, s5_4, s5_5, s5_8, s5_11, s5_14, s5_15, s5_16, s5_19, s5_22, s5_23, s5_24, s5_27, s5_28, s5_29, s5_32, s5_35, s5_36, s5_37, s5_39, s5_42, s5_43, s5_44, s5_47, s5_50, s5_53, s5_54, s5_55, s5_56, s5_59, s5_60, kont_some, kont_none, w32_of, if_true, if_false, tdv, tmd, setA_eq, up_setA, rd_hi, Int.reduceToNat, if_neg (show ¬ (1 : Int) = 0 by decide), c56, e2, c29, b2i_f hg', c61', h1]
      · by_cases h2 : F 7 = -5
        · omega
        · simp (disch := first | assumption | omega | decide | exact b2i_01 _ | (unfold lx; omega)) only [s5_0, s5_1, s5_4, s5_5, s5_8, s5_11, s5_14, s5_15, s5_16, s5_19, s5_22, s5_23, s5_24, s5_27, s5_28, s5_29, s5_32, s5_35, s5_36, s5_37, s5_39, s5_42, s5_43, s5_44, s5_47, s5_50, s5_53, s5_54, s5_55, s5_56, s5_59, s5_60, kont_some, kont_none, w32_of, if_true, if_false, tdv, tmd, setA_eq, up_setA, rd_hi, Int.reduceToNat, if_neg (show ¬ (1 : Int) = 0 by decide), c56, e2, c29, b2i_f hg', c61', h1, if_neg h2]
    · rw [if_neg h1]
      have h2 : ¬ nxtF F = -5 := fun q => h1 (Or.inl q)
      have h3 : ¬ nxtF F = F 7 := fun q => h1 (Or.inr q)
      have n0 : 0 ≤ nxtF F ∧ nxtF F ≤ 5 := hn.resolve_left h2
      have z := Rel_tur (a := 2) hR hF (by decide) n0.1 n0.2 h3
      obtain ⟨r1, r2, r3⟩ := Rel_c9 hR hF
      have e5 := hR.2.1 2 (by omega)
      have b5 := hF.2.2.2.2.2.2.1
      have c8' := fun Q' => c8 (S := S) (D := D) (Q := Q') (a := 2) (s := nxtF F) hb hS r1 r2 r3 n0 (by rw [e2]; exact f7) (by rw [e5]; show 0 ≤ F 5 ∧ F 5 ≤ 10; omega)
      refine ⟨turD D b 2 (nxtF F), z.1, z.2, fun Q => ?_⟩
      simp (disch := first | assumption | omega | decide | exact b2i_01 _ | (unfold lx; omega)) only [s5_0, s5_1, s5_4, s5_5, s5_8, s5_11, s5_14, s5_15, s5_16, s5_19, s5_22, s5_23, s5_24, s5_27, s5_28, s5_29, s5_32, s5_35, s5_36, s5_37, s5_39, s5_42, s5_43, s5_44, s5_47, s5_50, s5_53, s5_54, s5_55, s5_56, s5_59, s5_60, kont_some, kont_none, w32_of, if_true, if_false, tdv, tmd, setA_eq, up_setA, rd_hi, Int.reduceToNat, if_neg (show ¬ (1 : Int) = 0 by decide), c56, e2, c29, b2i_f hg', c61', if_neg h2, if_neg h3, c8']
theorem fnd_no {fr : Int} : ∀ (n : Nat) (k : Int), 0 ≤ F 7 + k → fndF F fr n k = -5 → ∀ i : Int, 0 ≤ i → i < n → ¬ goF F ((F 7 + k + i) % 6) fr
  | 0, _, _, _, i, h1, h2 => by omega
  | n + 1, k, h, hf, i, h1, h2 => by
    unfold fndF at hf
    split at hf
    · omega
    · next hg =>
      by_cases q : i = 0
      · subst q
        rw [Int.add_zero]; exact hg
      · have := fnd_no n (k + 1) (by omega) hf (i - 1) (by omega) (by omega)
        rw [show F 7 + (k + 1) + (i - 1) = F 7 + k + i by omega] at this
        exact this
theorem c7 (hb : tg b = 0) (hS : S.length ≤ 2048) (hR : Rel D b F) (hF : St F) (h47 : F 47 + 5 ≤ 4000000) :
    ∃ D1 : eD, Rel D1 b (dayF F) ∧ (∀ K, (K < b ∨ b + 19 < K) → D1 K = D K) ∧ ∀ Q, (wp 7 0 [.inr (.inl b), .inr (.inl 0)] [] (hp S D) Q ↔ Q none (hp S D1)) := by
  have h0 := tg_ne0 hb (by decide)
  obtain ⟨g8, g1, g2, g3, g12, g16⟩ := be_tg0 b (tg_lt (by omega)) hb
  obtain ⟨R0, n0⟩ := Rel_bu (v := 0) hR hF
  have sG := St_10 (v := 0) hF (Or.inl rfl)
  have e7 : fu F 10 0 7 = F 7 := fu_ne (by decide)
  unfold dayF
  rw [← e7]
  generalize fu F 10 0 = G at *
  have f7 := sG.2.2.2.2.2.2.2.2.1
  have t3 : tg (lw (b + 3) (G 7)) = 3 := lw_tg g3
  have tn := tg_ne0 t3 (by decide)
  have e2 := R0.2.2.2.1.1.1
  have hB := sG.1 _ f7.1 f7.2
  have hf := LmR_fr (R0.2.2.2.1.2.1 _ f7.1 f7.2) hB.2.2.2.2.1
  generalize hD0 : up D (b + 3) 5 0 = D0 at *
  have c61' := fun Q' => c61 (S := S) (D := D0) (Q := Q') g3 hS R0.2.2.2.1 sG
  by_cases hg : goF G (G 7) 1
  · rw [if_neg (fun z => z.1 hg)]
    have hg' := hf.mpr hg
    refine ⟨D0, R0, n0, fun Q => ?_⟩
    simp (disch := first | assumption | omega | decide | exact b2i_01 _ | (unfold lx; omega)) only [s7_0, s7_1, s7_4, s7_5, s7_8, s7_9, s7_12, s7_13, s7_16, s7_19, s7_22, s7_25, s7_28, kont_some, kont_none, w32_of, if_true, if_false, tdv, tmd, setA_eq, up_setA, rd_hi, Int.reduceToNat, if_neg (show ¬ (1 : Int) = 0 by decide), hD0, c56, e2, c30, b2i_t hg']
  · have hg' := fun z => hg (hf.mp z)
    by_cases hn : fndF G 1 6 1 = -5
    · rw [if_neg (fun z => z.2 hn)]
      refine ⟨D0, R0, n0, fun Q => ?_⟩
      have tm : tg (lw (b + 3) (nxtF G)) = 3 := lw_tg g3
      have tmn := tg_ne0 tm (by decide)
      have hm : ¬ ((¬ D0 (lw (b + 3) (nxtF G)) 0 = -1 ∧ D0 (lw (b + 3) (nxtF G)) 3 < D0 (lw (b + 3) (nxtF G)) 2) ∧ D0 (lw (b + 3) (nxtF G)) 5 = 0) := by
        rcases nxt_b (F := G) f7.1 with q | q
        · have ez : lw (b + 3) (nxtF G) = b + 3 + 8 := by rw [q]; rfl
          rw [ez]
          exact fun z => z.1.1 R0.2.2.2.1.2.2.1
        · have hB2 := sG.1 _ q.1 q.2
          have hf2 := LmR_fr (R0.2.2.2.1.2.1 _ q.1 q.2) hB2.2.2.2.2.1
          have no := fnd_no (F := G) (fr := 1) 6 1 (by omega) hn ((nxtF G - G 7 - 1) % 6) (by omega) (by omega)
          rw [show (G 7 + 1 + (nxtF G - G 7 - 1) % 6) % 6 = nxtF G by omega] at no
          exact fun z => no (hf2.mp z)
      simp (disch := first | assumption | omega | decide | exact b2i_01 _ | (unfold lx; omega)) only [s7_0, s7_1, s7_4, s7_5, s7_8, s7_9, s7_12, s7_13, s7_16, s7_19, s7_22, s7_25, s7_28, s7_29, s7_30, s7_33, s7_36, s7_37, s7_38, s7_41, s7_42, s7_45, s7_48, s7_51, s7_52, s7_53, s7_54, s7_57, kont_some, kont_none, w32_of, if_true, if_false, tdv, tmd, setA_eq, up_setA, rd_hi, Int.reduceToNat, if_neg (show ¬ (1 : Int) = 0 by decide), hD0, c56, e2, c30, b2i_f hg', c61', b2i_f hm]
    · rw [if_pos ⟨hg, hn⟩]
      have hb2 := (fnd_b (F := G) (fr := 1) 6 1 (by omega)).resolve_left hn
      have en : nxtF G = fndF G 1 6 1 := by unfold nxtF; rw [if_neg hn]
      rw [en] at c61'
      generalize fndF G 1 6 1 = t at *
      have tm : tg (lw (b + 3) t) = 3 := lw_tg g3
      have tmn := tg_ne0 tm (by decide)
      have hB2 := sG.1 _ hb2.1 hb2.2.1
      have hm := (LmR_fr (R0.2.2.2.1.2.1 _ hb2.1 hb2.2.1) hB2.2.2.2.2.1).mpr hb2.2.2
      have h3 : t ≠ G 7 := fun q => hg (by rw [← q]; exact hb2.2.2)
      have z := Rel_tur (a := 3) R0 sG (by decide) hb2.1 hb2.2.1 h3
      obtain ⟨r1, r2, r3⟩ := Rel_c9 R0 sG
      have e5 := R0.2.1 2 (by omega)
      have b5 := sG.2.2.2.2.2.2.1
      have c8' := fun Q' => c8 (S := S) (D := D0) (Q := Q') (a := 3) (s := t) hb hS r1 r2 r3 ⟨hb2.1, hb2.2.1⟩ (by rw [e2]; exact f7) (by rw [e5]; show 0 ≤ G 5 ∧ G 5 ≤ 10; omega)
      refine ⟨turD D0 b 3 t, z.1, fun K hK => (z.2 K hK).trans (n0 K hK), fun Q => ?_⟩
      simp (disch := first | assumption | omega | decide | exact b2i_01 _ | (unfold lx; omega)) only [s7_0, s7_1, s7_4, s7_5, s7_8, s7_9, s7_12, s7_13, s7_16, s7_19, s7_22, s7_25, s7_28, s7_29, s7_30, s7_33, s7_36, s7_37, s7_38, s7_41, s7_42, s7_45, s7_48, s7_51, s7_52, s7_53, s7_54, s7_57, kont_some, kont_none, w32_of, if_true, if_false, tdv, tmd, setA_eq, up_setA, rd_hi, Int.reduceToNat, if_neg (show ¬ (1 : Int) = 0 by decide), hD0, c56, e2, c30, b2i_f hg', c61', b2i_t hm, c8']
end SPEC64
