/-! tiredIn, darkIn: both -/
theorem LmR_gw {D : eD} {k : Nat} {G : eRow} {s : Int} (f70 : 0 ≤ s) (f75 : s ≤ 5) (hL : LmR D k G s) (hg : ¬ G (lx s 0) = -5) (b5 : G (lx s 3) = 0 ∨ G (lx s 3) = 1) :
    (D k 5 = 0 ∧ G 4 ≤ gwB D k (G 3) ↔ brn2 (brn1 G s) s 4 ≤ brn2 (brn1 G s) s (lx s 4) ∧ brn2 (brn1 G s) s (lx s 3) = 0) ∧ LmR (gwD D k (G 3) (G 4)) k (brnT (brn2 (brn1 G s) s) s) s := by
  obtain ⟨m0, m1, m2, m3, m4, m5, m6⟩ := hL.resolve_left (fun z => hg z.2.1)
  have q0 := lx_b (p := 0) f70 f75 (by omega) (by omega)
  have q1 := lx_b (p := 1) f70 f75 (by omega) (by omega)
  have q2 := lx_b (p := 2) f70 f75 (by omega) (by omega)
  have q3 := lx_b (p := 3) f70 f75 (by omega) (by omega)
  have q4 := lx_b (p := 4) f70 f75 (by omega) (by omega)
  have n02 : lx s 0 ≠ lx s 2 := by unfold lx; omega
  have n12 : lx s 1 ≠ lx s 2 := by unfold lx; omega
  have n32 : lx s 3 ≠ lx s 2 := by unfold lx; omega
  have n42 : lx s 4 ≠ lx s 2 := by unfold lx; omega
  have n04 : lx s 0 ≠ lx s 4 := by unfold lx; omega
  have n14 : lx s 1 ≠ lx s 4 := by unfold lx; omega
  have n24 : lx s 2 ≠ lx s 4 := by unfold lx; omega
  have n34 : lx s 3 ≠ lx s 4 := by unfold lx; omega
  have n03 : lx s 0 ≠ lx s 3 := by unfold lx; omega
  have n13 : lx s 1 ≠ lx s 3 := by unfold lx; omega
  have n23 : lx s 2 ≠ lx s 3 := by unfold lx; omega
  have n43 : lx s 4 ≠ lx s 3 := by unfold lx; omega
  have H0 : brn2 (brn1 G s) s (lx s 0) = G (lx s 0) := by unfold brn2 brn1; rw [fu_ne n04, fu_ne n02]
  have H1 : brn2 (brn1 G s) s (lx s 1) = G (lx s 1) := by unfold brn2 brn1; rw [fu_ne n14, fu_ne n12]
  have H2 : brn2 (brn1 G s) s (lx s 2) = G (lx s 2) + 1 := by unfold brn2 brn1; rw [fu_ne n24, fu_eq]
  have H3 : brn2 (brn1 G s) s (lx s 3) = G (lx s 3) := by unfold brn2 brn1; rw [fu_ne n34, fu_ne n32]
  have Hj : ∀ j, (j < lx s 0 ∨ lx s 4 < j) → brn2 (brn1 G s) s j = G j := fun j hj => by
    unfold brn2 brn1
    unfold lx at hj ⊢
    rw [fu_ne (by omega), fu_ne (by omega)]
  have H4 : gwB D k (G 3) = brn2 (brn1 G s) s (lx s 4) := by
    unfold brn2
    rw [fu_eq]
    have e3 : brn1 G s 3 = G 3 := by unfold brn1; rw [fu_ne (by omega)]
    have e0 : brn1 G s (lx s 0) = G (lx s 0) := by unfold brn1; rw [fu_ne n02]
    have e1 : brn1 G s (lx s 1) = G (lx s 1) := by unfold brn1; rw [fu_ne n12]
    have e2 : brn1 G s (lx s 2) = G (lx s 2) + 1 := by unfold brn1; rw [fu_eq]
    have e4 : brn1 G s (lx s 4) = G (lx s 4) := by unfold brn1; rw [fu_ne n42]
    unfold gwB bwF cuF nmF lfF
    rw [e0, e1, e2, e3, e4, m0, m3, m4, m6]
    rfl
  have H44 : brn2 (brn1 G s) s 4 = G 4 := Hj 4 (by omega)
  generalize brn2 (brn1 G s) s = H at *
  refine ⟨?_, ?_⟩
  · rw [H3, H44, m5, H4]
    exact And.comm
  · unfold brnT
    have z0 : gwD D k (G 3) (G 4) k 0 = G (lx s 0) := by unfold gwD; rw [up_ne2 (by decide), up_ne2 (by decide), up_ne2 (by decide)]; exact m0
    have z1 : gwD D k (G 3) (G 4) k 1 = G (lx s 1) := by unfold gwD; rw [up_ne2 (by decide), up_ne2 (by decide), up_ne2 (by decide)]; exact m2
    have z2 : gwD D k (G 3) (G 4) k 2 = lfF G s := by unfold gwD; rw [up_ne2 (by decide), up_ne2 (by decide), up_ne2 (by decide)]; exact m3
    have z3 : gwD D k (G 3) (G 4) k 3 = G (lx s 2) + 1 := by unfold gwD; rw [up_ne2 (by decide), up_ne2 (by decide), up_eq, m4]
    have z4 : gwD D k (G 3) (G 4) k 4 = H (lx s 4) := by unfold gwD; rw [up_ne2 (by decide), up_eq]; exact H4
    have z5 : gwD D k (G 3) (G 4) k 5 = if G (lx s 3) = 0 then b2i (G 4 ≤ H (lx s 4)) else 1 := by unfold gwD; rw [up_eq, m5, H4]
    by_cases c : H 4 ≤ H (lx s 4) ∧ H (lx s 3) = 0
    · rw [if_pos c]
      refine Or.inr ?_
      unfold lfF
      rw [z0, z1, z2, z3, z4, z5, fu_ne n03, fu_ne n13, fu_ne n23, fu_eq, fu_ne n43, H0, H1, H2, if_pos (by omega), b2i_t (by omega)]
      exact ⟨rfl, m1, rfl, rfl, rfl, rfl, rfl⟩
    · rw [if_neg c]
      refine Or.inr ?_
      unfold lfF
      rw [z0, z1, z2, z3, z4, z5, H0, H1, H2, H3]
      refine ⟨rfl, m1, rfl, rfl, rfl, ?_, rfl⟩
      by_cases c2 : G (lx s 3) = 0
      · rw [if_pos c2, b2i_f (by omega), c2]
      · rw [if_neg c2]; omega
theorem brn_lx {G : eRow} {s p : Int} (f70 : 0 ≤ s) (f75 : s ≤ 5) (p0 : 0 ≤ p) (p4 : p ≤ 4) (h80 : 0 ≤ G 80) : brnF G s (lx s p) = brnT (brn2 (brn1 G s) s) s (lx s p) := by
  have q := lx_b f70 f75 p0 p4
  have q3 := lx_b (p := 3) f70 f75 (by omega) (by omega)
  have q2 := lx_b (p := 2) f70 f75 (by omega) (by omega)
  have q4 := lx_b (p := 4) f70 f75 (by omega) (by omega)
  have k80 : 0 ≤ brn2 (brn1 G s) s 80 := by unfold brn2 brn1; rw [fu_ne (by omega), fu_ne (by omega)]; exact h80
  unfold brnF
  generalize brn2 (brn1 G s) s = H at *
  have e3 : brn3 H s (lx s p) = brnT H s (lx s p) ∧ 0 ≤ brn3 H s 80 := by
    unfold brn3 brnT
    split
    · have k : 0 ≤ fu H (lx s 3) 1 80 := by rw [fu_ne (by omega)]; exact k80
      refine ⟨hapF_lo k (by omega), ?_⟩
      rw [hapF_80 k]
      split <;> omega
    · exact ⟨rfl, k80⟩
  rw [← e3.1]
  conv => lhs; unfold brn4
  split
  · rw [fu_ne (by omega), hapF_lo (by rw [fu_ne (by decide)]; exact e3.2) (by omega), fu_ne (by omega)]
  · rw [fu_ne (by omega)]
section SPEC80
variable {S : List Int} {D E : eD} {h : eH} {Q : Option eV → eH → Prop} {F P T X R : eRow} {k len w v s t a b c : Int}
theorem c84a (hS : S.length ≤ 2048) (s0 : 0 ≤ s) (s5 : s ≤ 5) {x : eV} {left : Int} (n : Nat) : ∀ (k : Int) (D : eD) (G : eRow), 0 ≤ k → k ≤ 1200 → lfF G s - G (lx s 2) = left - k → lfF G s - G (lx s 2) < n → 0 ≤ left ∧ left ≤ 1100 → St G → ¬ G (lx s 0) = -5 → G (lx s 3) = 0 → G 47 + 2 * n ≤ 4000000 → LmR D 69 G s →
    ∃ D1 : eD, (∀ K, K ≠ 69 → D1 K = D K) ∧ ∀ Q, (wp 84 82 [.inr (.inl 8), .inl s, x, .inl (G 3), .inl (G 4), .inl left, .inl (k + 1)] [] (hp S D) Q ↔ Q (some (.inl (if (tinF s n k G).2 (lx s 3) = 1 then (tinF s n k G).1 else -5))) (hp S D1)) := by
  have t8 : tg 8 = 7 := rfl
  have t69 : tg 69 = 3 := rfl
  induction n with
  | zero =>
    intro k D G k0 k1 hl hn hle hG hp h3 h47 hL
    refine ⟨D, fun _ _ => rfl, fun Q => ?_⟩
    have h1 : left < k + 1 := by omega
    have e : (tinF s 0 k G).2 (lx s 3) = 0 := h3
    rw [if_neg (by rw [e]; decide), s84_82]
    simp (disch := first | assumption | omega | decide | exact b2i_01 _ | (unfold lx; omega)) only [s84_84, s84_86, s84_111, s84_113, kont_some, kont_none, w32_of, if_true, if_false, tdv, tmd, setA_eq, up_setA, rd_hi, Int.reduceToNat, if_neg (show ¬ (1 : Int) = 0 by decide), if_pos h1]
  | succ n ih =>
    intro k D G k0 k1 hl hn hle hG hp h3 h47 hL
    have q3 := lx_b (p := 3) s0 s5 (by omega) (by omega)
    have q0 := lx_b (p := 0) s0 s5 (by omega) (by omega)
    have q2 := lx_b (p := 2) s0 s5 (by omega) (by omega)
    have q4 := lx_b (p := 4) s0 s5 (by omega) (by omega)
    by_cases ho : outF G s
    · have et : tinF s (n + 1) k G = (k, G) := by
        unfold tinF
        rw [if_neg (fun z => z.2 ho)]
      rw [et]
      have ho' : lfF G s ≤ G (lx s 2) := ho
      refine ⟨D, fun _ _ => rfl, fun Q => ?_⟩
      have h1 : left < k + 1 := by omega
      dsimp only
      rw [if_neg (by rw [h3]; decide), s84_82]
      simp (disch := first | assumption | omega | decide | exact b2i_01 _ | (unfold lx; omega)) only [s84_84, s84_86, s84_111, s84_113, kont_some, kont_none, w32_of, if_true, if_false, tdv, tmd, setA_eq, up_setA, rd_hi, Int.reduceToNat, if_neg (show ¬ (1 : Int) = 0 by decide), if_pos h1]
    · have eu : tinF s (n + 1) k G = tinF s n (k + 1) (brnF G s) := by
        conv => lhs; unfold tinF
        rw [if_pos ⟨h3, ho⟩]
      rw [eu]
      have ho' : ¬ lfF G s ≤ G (lx s 2) := ho
      have h1 : ¬ left < k + 1 := by omega
      have hB := hG.1 s s0 s5
      have hgo : goF G s 0 := ⟨⟨hp, by omega⟩, fun z => absurd z.1 (by decide)⟩
      have hgl := good_lm hB hgo
      obtain ⟨m0, m1, m2, m3, m4, m5, m6⟩ := hL.resolve_left (fun z => hp z.2.1)
      have b3 := hG.2.2.2.2.1
      have b5 := hB.2.2.2.2.1
      have b6 := hB.2.2.2.2.2
      have bw := hB.2.2.1
      have b80 : 0 ≤ G 80 := hG.2.2.2.2.2.2.2.2.2.2.2.2.2.2.2.2.2.2.2.2.1.1
      have c34' := fun Q' => c34 (S := S) (D := D) (Q := Q') (k := 69) (lim := G 3) (pat := G 4) t69 hS (by omega) (by omega) (by omega) (by omega) (by omega) (by omega) (by omega) (by omega) (by omega) (by omega) (by omega)
      obtain ⟨hc, hLg⟩ := LmR_gw s0 s5 hL hp b5
      have hL2 : LmR (gwD D 69 (G 3) (G 4)) 69 (brnF G s) s := LmR_ng hLg rfl (fun p p0 p4 => brn_lx s0 s5 p0 p4 b80)
      have nw : ∀ K, K ≠ 69 → gwD D 69 (G 3) (G 4) K = D K := fun K hK => by
        unfold gwD
        funext j
        rw [up_ne1 hK, up_ne1 hK, up_ne1 hK]
      have e3 := brn_lx (p := 3) s0 s5 (by omega) (by omega) b80
      have kept := fun j hj => brn_ne (j := j) s0 s5 hG (by omega) (by omega) hj
      have e33 : brnF G s 3 = G 3 := kept 3 (by omega)
      have e34 : brnF G s 4 = G 4 := kept 4 (by omega)
      have lf := brn_lf s0 s5 hG (by omega) (by omega)
      have s47 := brnF_47 (F := G) (s := s) s0 s5
      have sB := St_brn hG s0 s5 (by omega) (by omega)
      have hH3 : brn2 (brn1 G s) s (lx s 3) = 0 := by
        unfold brn2 brn1
        rw [fu_ne (by unfold lx; omega), fu_ne (by unfold lx; omega)]
        exact h3
      by_cases ct : brn2 (brn1 G s) s 4 ≤ brn2 (brn1 G s) s (lx s 4) ∧ brn2 (brn1 G s) s (lx s 3) = 0
      · -- tired now
        have ct' := hc.mpr ct
        have e1 : brnF G s (lx s 3) = 1 := by
          rw [e3]
          unfold brnT
          rw [if_pos ct, fu_eq]
        have et : tinF s n (k + 1) (brnF G s) = (k + 1, brnF G s) := by
          cases n with
          | zero => rfl
          | succ n =>
            unfold tinF
            rw [if_neg (fun z => by have := z.1; omega)]
        rw [et]
        dsimp only
        rw [if_pos e1]
        refine ⟨gwD D 69 (G 3) (G 4), nw, fun Q => ?_⟩
        rw [s84_82]
        simp (disch := first | assumption | omega | decide | exact b2i_01 _ | (unfold lx; omega)) only [s84_84, s84_86, s84_89, s84_90, s84_93, s84_94, s84_96, s84_99, s84_102, s84_104, kont_some, kont_none, w32_of, if_true, if_false, tdv, tmd, setA_eq, up_setA, rd_hi, Int.reduceToNat, if_neg (show ¬ (1 : Int) = 0 by decide), Nat.reduceAdd, if_neg h1, c34', b2i_t ct']
      · have ct' := fun z => ct (hc.mp z)
        have e1 : brnF G s (lx s 3) = 0 := by
          rw [e3]
          unfold brnT
          rw [if_neg ct]
          exact hH3
        obtain ⟨D1, j1, j2⟩ := ih (k + 1) (gwD D 69 (G 3) (G 4)) (brnF G s) (by omega) (by omega) (by rw [lf.2.2.2, lf.2.2.1]; omega) (by rw [lf.2.2.2, lf.2.2.1]; omega) hle sB (by rw [lf.1]; exact hp) e1 (by omega) hL2
        rw [e33, e34] at j2
        refine ⟨D1, fun K hK => (j1 K hK).trans (nw K hK), fun Q => ?_⟩
        rw [← j2 Q, s84_82]
        simp (disch := first | assumption | omega | decide | exact b2i_01 _ | (unfold lx; omega)) only [s84_84, s84_86, s84_89, s84_90, s84_93, s84_94, s84_96, s84_99, s84_102, s84_104, s84_105, s84_108, kont_some, kont_none, w32_of, if_true, if_false, tdv, tmd, setA_eq, up_setA, rd_hi, Int.reduceToNat, if_neg (show ¬ (1 : Int) = 0 by decide), Nat.reduceAdd, if_neg h1, c34', b2i_f ct']
theorem s_tiredIn (hS : S.length ≤ 2048) (hW : Wd D) : Sq S D 84 [.inr (.inl 8), .inl s, .inr (.inl 0), .inr (.inl 0), .inr (.inl 0), .inr (.inl 0), .inr (.inl 0)] ((m154 D s).1) := by
  have t8 : tg 8 = 7 := rfl
  have t9 : tg 9 = 0 := rfl
  have t10 : tg 10 = 100 := rfl
  have t12 : tg 12 = 6 := rfl
  have t69 : tg 69 = 3 := rfl
  have hR := hW.1.1
  have hF := hW.2.1.1
  have hN := hW.1.2.2.2.2
  have h0 := hW.2.1.2.2.2
  have hCt := hW.2.1.2.1
  refine ask_stp hW ?_
  · unfold m154
    by_cases h1 : 0 ≤ s ∧ s ≤ 5
    · rw [if_pos h1]
      have t3 : tg (lw 12 s) = 3 := lw_tg t12
      have tn := tg_ne0 t3 (by decide)
      have hL : LmR D (lw 12 s) (D 159) s := hR.2.2.2.1.2.1 s h1.1 h1.2
      have hu := LmR_use hL
      have hB := hF.1 s h1.1 h1.2
      by_cases hg : goF (D 159) s 0
      · rw [if_pos hg]
        have hg' := hu.mpr hg
        have hgl := good_lm hB hg
        obtain ⟨m0, m1, m2, m3, m4, m5, m6⟩ := hL.resolve_left (fun z => hg.1.1 z.2.1)
        have b5 := hB.2.2.2.2.1
        dsimp only
        by_cases h5 : D 159 (lx s 3) = 0
        · have h5' : D (lw 12 s) 5 = 0 := by omega
          have e0 : rat S D 10 0 = D 159 3 := ((rat_b t9).1 (by decide) (by decide)).trans (hR.2.1 0 (by omega))
          have e1 : rat S D 10 1 = D 159 4 := ((rat_b t9).1 (by decide) (by decide)).trans (hR.2.1 1 (by omega))
          have zl := lw_in (w := 12) h1.1 h1.2
          have nc : ∀ K, K ≠ 69 → cpL D 69 (lw 12 s) K = D K := fun K hK => cpL_ne hK
          have hLc : LmR (cpL D 69 (lw 12 s)) 69 (D 159) s := by
            unfold LmR at hL ⊢
            rw [cpL_at (by decide), cpL_at (by decide), cpL_at (by decide), cpL_at (by decide), cpL_at (by decide), cpL_at (by decide)]
            exact hL
          have e0' : rat S (cpL D 69 (lw 12 s)) 10 0 = D 159 3 := by
            rw [← e0]; unfold rat rd; rw [nc 10 (by decide)]
          have e1' : rat S (cpL D 69 (lw 12 s)) 10 1 = D 159 4 := by
            rw [← e1]; unfold rat rd; rw [nc 10 (by decide)]
          have k2 : cpL D 69 (lw 12 s) (lw 12 s) 2 = lfF (D 159) s := by rw [nc _ (by omega)]; exact m3
          have k3 : cpL D 69 (lw 12 s) (lw 12 s) 3 = D 159 (lx s 2) := by rw [nc _ (by omega)]; exact m4
          have bw := hB.2.2.1
          have c26' := fun Q' => c26 (S := S) (D := D) (Q := Q') t69 t3 (by omega) (Or.inl h5')
          have c31' := fun Q' => c31 (S := S) (D := cpL D 69 (lw 12 s)) (Q := Q') t3 (by rw [k2]; omega) (by rw [k3]; omega)
          rw [k2, k3] at c31'
          obtain ⟨D1, j1, j2⟩ := c84a (S := S) hS h1.1 h1.2 (x := .inr (.inl (lw 12 s))) (left := lfF (D 159) s - D 159 (lx s 2)) 1100 0 (cpL D 69 (lw 12 s)) (D 159) (by omega) (by omega) (by omega) (by omega) (by omega) hF hg.1.1 h5 (by have := hCt.2.2.2.1; omega) hLc
          refine ⟨D1, fun K hK => (j1 K (by omega)).trans (nc K (by omega)), ?_, fun Q => ?_⟩
          · intro b hb
            have := tg0_cases b (tg_lt (by omega)) hb
            have y := hN b hb
            unfold NoL at y ⊢
            rw [j1 _ (by omega), nc _ (by omega)]; exact y
          · rw [← j2 Q]
            simp (disch := first | assumption | omega | decide | exact b2i_01 _ | (unfold lx; omega)) only [s84_0, s84_1, s84_4, s84_7, s84_8, s84_9, s84_10, s84_13, s84_16, s84_17, s84_20, s84_21, s84_22, s84_25, s84_28, s84_30, s84_31, s84_32, s84_35, s84_38, s84_39, s84_40, s84_41, s84_44, s84_45, s84_48, s84_49, s84_52, s84_55, s84_56, s84_59, s84_60, s84_61, s84_64, s84_67, s84_68, s84_71, s84_73, s84_74, s84_77, s84_79, s84_80, kont_some, kont_none, w32_of, if_true, if_false, tdv, tmd, setA_eq, up_setA, rd_hi, Int.reduceToNat, if_neg (show ¬ (1 : Int) = 0 by decide), Nat.reduceAdd, c94, b2i_t h1, c56, c29, b2i_t hg', if_pos h5', c26', c51, e0', e1', c31', Int.zero_add]
        · have h51 : D 159 (lx s 3) = 1 := by omega
          have h5' : ¬ D (lw 12 s) 5 = 0 := by omega
          have et : tinF s 1100 0 (D 159) = (0, D 159) := by
            unfold tinF
            rw [if_neg (fun z => h5 z.1)]
          rw [et]
          dsimp only
          rw [if_pos h51]
          refine ⟨D, fun _ _ => rfl, hN, fun Q => ?_⟩
          simp (disch := first | assumption | omega | decide | exact b2i_01 _ | (unfold lx; omega)) only [s84_0, s84_1, s84_4, s84_7, s84_8, s84_9, s84_10, s84_13, s84_16, s84_17, s84_20, s84_21, s84_22, s84_25, s84_28, s84_30, s84_31, s84_32, s84_35, s84_38, s84_39, kont_some, kont_none, w32_of, if_true, if_false, tdv, tmd, setA_eq, up_setA, rd_hi, Int.reduceToNat, if_neg (show ¬ (1 : Int) = 0 by decide), Nat.reduceAdd, c94, b2i_t h1, c56, c29, b2i_t hg', if_neg h5']
      · rw [if_neg hg]
        have hg' := fun z => hg (hu.mp z)
        refine ⟨D, fun _ _ => rfl, hN, fun Q => ?_⟩
        simp (disch := first | assumption | omega | decide | exact b2i_01 _ | (unfold lx; omega)) only [s84_0, s84_1, s84_4, s84_7, s84_8, s84_9, s84_10, s84_13, s84_16, s84_17, s84_20, s84_21, s84_22, s84_25, s84_28, s84_30, s84_31, s84_32, s84_35, s84_38, s84_39, kont_some, kont_none, w32_of, if_true, if_false, tdv, tmd, setA_eq, up_setA, rd_hi, Int.reduceToNat, if_neg (show ¬ (1 : Int) = 0 by decide), Nat.reduceAdd, c94, b2i_t h1, c56, c29, b2i_f hg']
    · rw [if_neg h1]
      refine ⟨D, fun _ _ => rfl, hN, fun Q => ?_⟩
      simp (disch := first | assumption | omega | decide | exact b2i_01 _ | (unfold lx; omega)) only [s84_0, s84_1, s84_4, s84_7, s84_8, s84_9, s84_10, s84_13, s84_16, s84_17, s84_20, s84_21, s84_22, s84_25, s84_28, s84_30, s84_31, s84_32, s84_35, s84_38, s84_39, kont_some, kont_none, w32_of, if_true, if_false, tdv, tmd, setA_eq, up_setA, rd_hi, Int.reduceToNat, if_neg (show ¬ (1 : Int) = 0 by decide), Nat.reduceAdd, c94, b2i_f h1]
theorem c85a (hS : S.length ≤ 2048) (n : Nat) : ∀ (k : Int) (D : eD) (F : eRow), k + n = 3001 → 0 ≤ k → Rel D 49 F → St F → Ct F → Od F → F 0 + n ≤ 900000 →
    ∃ D1 : eD, (∃ G, Rel D1 49 G) ∧ (∀ K, (K < 49 ∨ 49 + 19 < K) → D1 K = D K) ∧ ∀ Q, (wp 85 13 [.inr (.inl 8), .inl k] [] (hp S D) Q ↔ Q (some (.inl (dinF n k F).1)) (hp S D1)) := by
  have t8 : tg 8 = 7 := rfl
  have t49 : tg 49 = 0 := rfl
  induction n with
  | zero =>
    intro k D F hk k0 hR hs hc ho h0
    refine ⟨D, ⟨F, hR⟩, fun _ _ => rfl, fun Q => ?_⟩
    have h1 : 3000 < k := by omega
    rw [s85_13]
    simp (disch := first | assumption | omega | decide | exact b2i_01 _ | (unfold lx; omega)) only [s85_14, s85_17, s85_39, s85_41, kont_some, kont_none, w32_of, if_true, if_false, tdv, tmd, setA_eq, up_setA, rd_hi, Int.reduceToNat, if_neg (show ¬ (1 : Int) = 0 by decide), if_pos h1]
    rfl
  | succ n ih =>
    intro k D F hk k0 hR hs hc ho h0
    have h1 : ¬ 3000 < k := by omega
    obtain ⟨D1, i1, i2, i3⟩ := c4 (S := S) (ab := 0) t49 hS hR hs hc ho (by omega) (Or.inl rfl)
    have hp := pas_all (ab := 0) hs hc (by omega)
    unfold dinF
    by_cases hd : pdk (pw1 F)
    · rw [if_pos hd]
      refine ⟨D1, ⟨_, i1⟩, i2, fun Q => ?_⟩
      rw [b2i_t hd] at i3
      rw [s85_13]
      simp (disch := first | assumption | omega | decide | exact b2i_01 _ | (unfold lx; omega)) only [s85_14, s85_17, s85_20, s85_21, s85_24, s85_25, s85_28, s85_31, s85_32, kont_some, kont_none, w32_of, if_true, if_false, tdv, tmd, setA_eq, up_setA, rd_hi, Int.reduceToNat, if_neg (show ¬ (1 : Int) = 0 by decide), Nat.reduceAdd, if_neg h1, i3]
    · rw [if_neg hd]
      obtain ⟨D2, j1, j2, j3⟩ := ih (k + 1) D1 (pasF F 0) (by omega) (by omega) i1 hp.1 hp.2.1 (Od_pas hs hc ho (by omega)) (by rw [hp.2.2.1]; omega)
      refine ⟨D2, j1, fun K hK => (j2 K hK).trans (i2 K hK), fun Q => ?_⟩
      rw [b2i_f hd] at i3
      rw [← j3 Q, s85_13]
      simp (disch := first | assumption | omega | decide | exact b2i_01 _ | (unfold lx; omega)) only [s85_14, s85_17, s85_20, s85_21, s85_24, s85_25, s85_28, s85_31, s85_32, s85_33, s85_36, kont_some, kont_none, w32_of, if_true, if_false, tdv, tmd, setA_eq, up_setA, rd_hi, Int.reduceToNat, if_neg (show ¬ (1 : Int) = 0 by decide), Nat.reduceAdd, if_neg h1, i3]
theorem s_darkIn (hS : S.length ≤ 2048) (hW : Wd D) : Sq S D 85 [.inr (.inl 8), .inr (.inl 0)] ((dinF 3001 0 (D 159)).1) := by
  have t8 : tg 8 = 7 := rfl
  have t9 : tg 9 = 0 := rfl
  have t49 : tg 49 = 0 := rfl
  have hR := hW.1.1
  obtain ⟨hs, hc, ho, h0⟩ := hW.2.1
  have hN := hW.1.2.2.2.2
  refine ask_stp hW ?_
  · obtain ⟨D1, i1, i2, i3⟩ := c1 (S := S) t49 t9 hS (by omega) hR hs (hN 49 t49)
    obtain ⟨D2, ⟨G, j1⟩, j2, j3⟩ := c85a (S := S) hS 3001 0 D1 (D 159) (by omega) (by omega) i1 hs hc ho (by omega)
    refine ⟨D2, fun K hK => (j2 K (by omega)).trans (i2 K (by omega)), NoA_fr hN t49 j1 (fun K hK _ => (j2 K hK).trans (i2 K hK)), fun Q => ?_⟩
    rw [← j3 Q]
    simp (disch := first | assumption | omega | decide | exact b2i_01 _ | (unfold lx; omega)) only [s85_0, s85_1, s85_4, s85_5, s85_8, s85_11, s85_12, kont_some, kont_none, w32_of, if_true, if_false, tdv, tmd, setA_eq, up_setA, rd_hi, Int.reduceToNat, if_neg (show ¬ (1 : Int) = 0 by decide), Nat.reduceAdd, i3]
end SPEC80
