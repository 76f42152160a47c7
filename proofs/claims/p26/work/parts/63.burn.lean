/-! a tick of the class's Beacon: the wheel goes on, a lamp burns -/
theorem fu_cm {F : eRow} {i j : Nat} {v w : Int} (h : i ≠ j) : fu (fu F i v) j w = fu (fu F j w) i v := by
  funext k
  unfold fu
  by_cases h1 : k = j
  · rw [if_pos h1, if_neg (by omega), if_pos h1]
  · rw [if_neg h1]
    by_cases h2 : k = i
    · rw [if_pos h2, if_pos h2]
    · rw [if_neg h2, if_neg h2, if_neg h1]
theorem hapF_ci {F : eRow} {v a b : Int} {i : Nat} (h80 : 0 ≤ F 80) (i0 : 0 < i) (i1 : i < 80) (i2 : i ≠ 47) : hapF (fu F i v) a b = fu (hapF F a b) i v := by
  have key : ∀ G : eRow, 0 ≤ G 80 → hapA (fu G i v) a b = fu (hapA G a b) i v := by
    intro G hG
    unfold hapA
    rw [fu_ne (show 80 ≠ i by omega), fu_ne (show 0 ≠ i by omega), fu_ne (show 47 ≠ i by omega)]
    rw [fu_cm (i := i) (by omega), fu_cm (i := i) (by omega), fu_cm (i := i) (by omega), fu_cm (i := i) (by omega), fu_cm (i := i) (by omega)]
  unfold hapF
  rw [fu_ne (show 80 ≠ i by omega)]
  by_cases h : F 80 = 10
  · rw [if_pos h, if_pos h]
    have e : shK (fu F i v) 108 = fu (shK F 108) i v := by
      funext j
      unfold shK fu
      dsimp only
      by_cases q : 81 ≤ j ∧ (j : Int) < 108
      · rw [if_pos q, if_neg (by omega), if_neg (by omega), if_pos q]
      · rw [if_neg q]
        by_cases q2 : j = i
        · rw [if_pos q2, if_pos q2]
        · rw [if_neg q2, if_neg q2, if_neg q]
    rw [e, fu_cm (by omega)]
    exact key _ (by rw [fu_eq]; decide)
  · rw [if_neg h, if_neg h]
    exact key F h80
theorem hapF_c {F : eRow} {v a b : Int} (h80 : 0 ≤ F 80) : hapF (fu F 10 v) a b = fu (hapF F a b) 10 v := hapF_ci h80 (by decide) (by decide) (by decide)
def goD (D : eD) (w : Nat) : eD := if D w 3 = -5 then D else if 0 < D w 4 - 1 then up D w 4 (D w 4 - 1) else up (up (up (up D w 4 (D w 4 - 1)) w 4 0) w 2 (D w 3)) w 3 (-5)
theorem Rel_go {D : eD} {b : Nat} {F : eRow} (h : Rel D b F) (hF : St F) : Rel (goD D (b + 3)) b (pw1 F) ∧ ∀ K, (K < b ∨ b + 19 < K) → goD D (b + 3) K = D K := by
  obtain ⟨w2, w3, w4, w5⟩ := h.2.2.2.1.1
  have a9 := hF.2.2.2.2.2.2.2.2.2.1
  unfold goD pw1
  rw [w3]
  by_cases h1 : F 8 = -5
  · rw [if_pos h1, if_pos h1]
    exact ⟨h, fun _ _ => rfl⟩
  · rw [if_neg h1, if_neg h1, w4]
    by_cases h2 : F 9 - 1 = 0
    · rw [if_pos h2, if_neg (by omega)]
      refine ⟨Rel_wh h hF (fun K hK => by funext j; rw [up_ne1 hK, up_ne1 hK, up_ne1 hK, up_ne1 hK]) (fun j hj => by rw [fu_ne (by omega), fu_ne (by omega), fu_ne (by omega)]) ?_ ?_ ?_ ?_, fun K hK => by funext j; rw [up_ne1 (by omega), up_ne1 (by omega), up_ne1 (by omega), up_ne1 (by omega)]⟩
      · rw [up_ne2 (by decide), up_eq, fu_ne (by decide), fu_eq]
      · rw [up_eq, fu_eq]
      · rw [up_ne2 (by decide), up_ne2 (by decide), up_eq, fu_ne (by decide), fu_ne (by decide), fu_eq]; omega
      · rw [up_ne2 (by decide), up_ne2 (by decide), up_ne2 (by decide), up_ne2 (by decide), fu_ne (by decide), fu_ne (by decide), fu_ne (by decide)]; exact w5
    · rw [if_neg h2, if_pos (by omega)]
      refine ⟨Rel_wh h hF (fun K hK => by funext j; rw [up_ne1 hK]) (fun j hj => by rw [fu_ne (by omega)]) ?_ ?_ ?_ ?_, fun K hK => by funext j; rw [up_ne1 (by omega)]⟩
      · rw [up_ne2 (by decide), fu_ne (by decide)]; exact w2
      · rw [up_ne2 (by decide), fu_ne (by decide)]; exact w3
      · rw [up_eq, fu_eq]
      · rw [up_ne2 (by decide), fu_ne (by decide)]; exact w5
theorem Rel_bu {D : eD} {b : Nat} {F : eRow} {v : Int} (h : Rel D b F) (hF : St F) : Rel (up D (b + 3) 5 v) b (fu F 10 v) ∧ ∀ K, (K < b ∨ b + 19 < K) → up D (b + 3) 5 v K = D K := by
  obtain ⟨w2, w3, w4, w5⟩ := h.2.2.2.1.1
  refine ⟨Rel_wh h hF (fun K hK => by funext j; rw [up_ne1 hK]) (fun j hj => by rw [fu_ne (by omega)]) ?_ ?_ ?_ ?_, fun K hK => by funext j; rw [up_ne1 (by omega)]⟩
  · rw [up_ne2 (by decide), fu_ne (by decide)]; exact w2
  · rw [up_ne2 (by decide), fu_ne (by decide)]; exact w3
  · rw [up_ne2 (by decide), fu_ne (by decide)]; exact w4
  · rw [up_eq, fu_eq]
theorem Rel_c9 {D : eD} {b : Nat} {F : eRow} (h : Rel D b F) (hF : St F) : (0 ≤ D (b + 16) 3 ∧ D (b + 16) 3 ≤ 10) ∧ (0 ≤ D (b + 16) 4 ∧ D (b + 16) 4 ≤ 9) ∧ (0 ≤ D b 10 ∧ D b 10 ≤ 10000000) := by
  have b80 : 0 ≤ F 80 ∧ F 80 ≤ 10 := hF.2.2.2.2.2.2.2.2.2.2.2.2.2.2.2.2.2.2.2.2.1
  have b47 : 0 ≤ F 47 ∧ F 47 ≤ 4000000 := hF.2.2.2.2.2.2.2.2.2.2.2.2.2.2.2.2.2.1
  obtain ⟨l1, l2, _⟩ := h.2.2.2.2.2
  have e := h.1.2.2.2.2.2.1
  exact ⟨by omega, l2, by omega⟩
section SPEC63
variable {S : List Int} {D E : eD} {h : eH} {Q : Option eV → eH → Prop} {F G : eRow} {b : Nat} {s : Int} {l0 l1 : eV}
theorem c6z (hb : tg b = 0) (hS : S.length ≤ 2048) (hR : Rel D b G) (hG : St G) (hg : ¬ G (lx (G 7) 0) = -5) (h47 : G 47 + 2 ≤ 4000000) :
    ∃ D1 : eD, Rel D1 b (brn4 G (G 7)) ∧ (∀ K, (K < b ∨ b + 19 < K) → D1 K = D K) ∧ ∀ Q x, (x = 0 ∨ x = 1) → (wp 6 66 [.inr (.inl b), .inr (.inl (lw (b + 3) (G 7))), .inl x] [] (hp S D) Q ↔ Q (some (.inl x)) (hp S D1)) := by
  have h0 := tg_ne0 hb (by decide)
  obtain ⟨g8, g1, g2, g3, g12, g16⟩ := be_tg0 b (tg_lt (by omega)) hb
  have f7 := hG.2.2.2.2.2.2.2.2.1
  have t3 : tg (lw (b + 3) (G 7)) = 3 := lw_tg g3
  have tn := tg_ne0 t3 (by decide)
  have hL := hR.2.2.2.1.2.1 _ f7.1 f7.2
  have hp' := hL.resolve_left (fun z => hg z.2.1)
  have q0 := lx_b (p := 0) f7.1 f7.2 (by omega) (by omega)
  have q1 := lx_b (p := 1) f7.1 f7.2 (by omega) (by omega)
  have q2 := lx_b (p := 2) f7.1 f7.2 (by omega) (by omega)
  have eo : outF (fu G 10 1) (G 7) ↔ D (lw (b + 3) (G 7)) 2 ≤ D (lw (b + 3) (G 7)) 3 := by
    unfold outF lfF
    rw [fu_ne (by omega), fu_ne (by omega), fu_ne (by omega), hp'.2.2.2.1, hp'.2.2.2.2.1]
    rfl
  have b80 : 0 ≤ G 80 ∧ G 80 ≤ 10 := hG.2.2.2.2.2.2.2.2.2.2.2.2.2.2.2.2.2.2.2.2.1
  unfold brn4
  by_cases ho : outF (fu G 10 1) (G 7)
  · rw [if_pos ho]
    have ho' := eo.mp ho
    have R0 := Rel_bu (v := 0) hR hG
    have s0 := St_10 (v := 0) hG (Or.inl rfl)
    have R1 := Rel_nch (a := 0) (s := G 7) R0.1 s0 (by decide)
    obtain ⟨r1, r2, r3⟩ := Rel_c9 R0.1 s0
    have c9' := fun Q' => c9 (S := S) (D := up D (b + 3) 5 0) (Q := Q') (a := 0) (s := G 7) hb hS r1 r2 r3
    refine ⟨nchD (up D (b + 3) 5 0) b 0 (G 7), ?_, fun K hK => (R1.2 K hK).trans (R0.2 K hK), fun Q x hx => ?_⟩
    · rw [hapF_c b80.1, fu_fu, ← hapF_c b80.1]
      exact R1.1
    · have e2 := hR.2.2.2.1.1.1
      simp (disch := first | assumption | omega | decide | exact b2i_01 _ | (unfold lx; omega)) only [s6_66, s6_67, s6_70, s6_71, s6_74, s6_77, s6_78, s6_81, s6_82, s6_85, s6_86, s6_89, s6_92, s6_95, s6_96, s6_97, s6_98, s6_101, s6_104, s6_107, s6_108, kont_some, kont_none, w32_of, if_true, if_false, tdv, tmd, setA_eq, up_setA, rd_hi, Int.reduceToNat, if_neg (show ¬ (1 : Int) = 0 by decide), c28, b2i_t ho', up_eq, up_ne2, e2, c9']
  · rw [if_neg ho]
    have ho' := fun z => ho (eo.mpr z)
    have R0 := Rel_bu (v := 1) hR hG
    refine ⟨up D (b + 3) 5 1, R0.1, R0.2, fun Q x hx => ?_⟩
    simp (disch := first | assumption | omega | decide | exact b2i_01 _ | (unfold lx; omega)) only [s6_66, s6_67, s6_70, s6_71, s6_74, s6_77, s6_78, s6_81, s6_82, s6_85, s6_86, s6_89, s6_92, s6_95, s6_96, s6_97, s6_98, s6_101, s6_104, s6_107, s6_108, kont_some, kont_none, w32_of, if_true, if_false, tdv, tmd, setA_eq, up_setA, rd_hi, Int.reduceToNat, if_neg (show ¬ (1 : Int) = 0 by decide), c28, b2i_f ho', up_eq]
def brnT (G : eRow) (s : Int) : eRow := if G 4 ≤ G (lx s 4) ∧ G (lx s 3) = 0 then fu G (lx s 3) 1 else G
theorem Rel_gw (hb : tg b = 0) (hR : Rel D b G) (hG : St G) (hg : ¬ G (lx (G 7) 0) = -5) :
    (D (lw (b + 3) (G 7)) 5 = 0 ∧ G 4 ≤ gwB D (lw (b + 3) (G 7)) (G 3) ↔ brn2 (brn1 G (G 7)) (G 7) 4 ≤ brn2 (brn1 G (G 7)) (G 7) (lx (G 7) 4) ∧ brn2 (brn1 G (G 7)) (G 7) (lx (G 7) 3) = 0) ∧ Rel (gwD D (lw (b + 3) (G 7)) (G 3) (G 4)) b (brnT (brn2 (brn1 G (G 7)) (G 7)) (G 7)) ∧ ∀ K, K ≠ lw (b + 3) (G 7) → gwD D (lw (b + 3) (G 7)) (G 3) (G 4) K = D K := by
  have f7 := hG.2.2.2.2.2.2.2.2.1
  have hL := hR.2.2.2.1.2.1 _ f7.1 f7.2
  obtain ⟨m0, m1, m2, m3, m4, m5, m6⟩ := hL.resolve_left (fun z => hg z.2.1)
  generalize hs : G 7 = s at *
  obtain ⟨f70, f75⟩ := f7
  have q0 := lx_b (p := 0) f70 f75 (by omega) (by omega)
  have q1 := lx_b (p := 1) f70 f75 (by omega) (by omega)
  have q2 := lx_b (p := 2) f70 f75 (by omega) (by omega)
  have q3 := lx_b (p := 3) f70 f75 (by omega) (by omega)
  have q4 := lx_b (p := 4) f70 f75 (by omega) (by omega)
  have n02 : lx s 0 ≠ lx s 2 := by unfold lx; omega
  have n12 : lx s 1 ≠ lx s 2 := by unfold lx; omega
  have n32 : lx s 3 ≠ lx s 2 := by unfold lx; omega
  have n42 : lx s 4 ≠ lx s 2 := by unfold lx; omega
  have n04 : lx s 0 ≠ lx s 4 := by unfold lx; omega
  have n14 : lx s 1 ≠ lx s 4 := by unfold lx; omega
  have n24 : lx s 2 ≠ lx s 4 := by unfold lx; omega
  have n34 : lx s 3 ≠ lx s 4 := by unfold lx; omega
  have n03 : lx s 0 ≠ lx s 3 := by unfold lx; omega
  have n13 : lx s 1 ≠ lx s 3 := by unfold lx; omega
  have n23 : lx s 2 ≠ lx s 3 := by unfold lx; omega
  have n43 : lx s 4 ≠ lx s 3 := by unfold lx; omega
  have H0 : brn2 (brn1 G s) s (lx s 0) = G (lx s 0) := by unfold brn2 brn1; rw [fu_ne n04, fu_ne n02]
  have H1 : brn2 (brn1 G s) s (lx s 1) = G (lx s 1) := by unfold brn2 brn1; rw [fu_ne n14, fu_ne n12]
  have H2 : brn2 (brn1 G s) s (lx s 2) = G (lx s 2) + 1 := by unfold brn2 brn1; rw [fu_ne n24, fu_eq]
  have H3 : brn2 (brn1 G s) s (lx s 3) = G (lx s 3) := by unfold brn2 brn1; rw [fu_ne n34, fu_ne n32]
  have Hj : ∀ j, (j < lx s 0 ∨ lx s 4 < j) → brn2 (brn1 G s) s j = G j := fun j hj => by
    unfold brn2 brn1
    unfold lx at hj ⊢
    rw [fu_ne (by omega), fu_ne (by omega)]
  have H4 : gwB D (lw (b + 3) s) (G 3) = brn2 (brn1 G s) s (lx s 4) := by
    unfold brn2
    rw [fu_eq]
    have e3 : brn1 G s 3 = G 3 := by unfold brn1; rw [fu_ne (by omega)]
    have e0 : brn1 G s (lx s 0) = G (lx s 0) := by unfold brn1; rw [fu_ne n02]
    have e1 : brn1 G s (lx s 1) = G (lx s 1) := by unfold brn1; rw [fu_ne n12]
    have e2 : brn1 G s (lx s 2) = G (lx s 2) + 1 := by unfold brn1; rw [fu_eq]
    have e4 : brn1 G s (lx s 4) = G (lx s 4) := by unfold brn1; rw [fu_ne n42]
    unfold gwB bwF cuF nmF lfF
    rw [e0, e1, e2, e3, e4, m0, m3, m4, m6]
    rfl
  have H44 : brn2 (brn1 G s) s 4 = G 4 := Hj 4 (by omega)
  generalize brn2 (brn1 G s) s = H at *
  have n : ∀ K, K ≠ lw (b + 3) s → gwD D (lw (b + 3) s) (G 3) (G 4) K = D K := fun K hK => by
    unfold gwD
    funext j
    rw [up_ne1 hK, up_ne1 hK, up_ne1 hK]
  refine ⟨?_, ?_, n⟩
  · rw [H3, H44, m5, H4]
    exact And.comm
  · unfold brnT
    have z0 : gwD D (lw (b + 3) s) (G 3) (G 4) (lw (b + 3) s) 0 = G (lx s 0) := by unfold gwD; rw [up_ne2 (by decide), up_ne2 (by decide), up_ne2 (by decide)]; exact m0
    have z1 : gwD D (lw (b + 3) s) (G 3) (G 4) (lw (b + 3) s) 1 = G (lx s 1) := by unfold gwD; rw [up_ne2 (by decide), up_ne2 (by decide), up_ne2 (by decide)]; exact m2
    have z2 : gwD D (lw (b + 3) s) (G 3) (G 4) (lw (b + 3) s) 2 = lfF G s := by unfold gwD; rw [up_ne2 (by decide), up_ne2 (by decide), up_ne2 (by decide)]; exact m3
    have z3 : gwD D (lw (b + 3) s) (G 3) (G 4) (lw (b + 3) s) 3 = G (lx s 2) + 1 := by unfold gwD; rw [up_ne2 (by decide), up_ne2 (by decide), up_eq, m4]
    have z4 : gwD D (lw (b + 3) s) (G 3) (G 4) (lw (b + 3) s) 4 = H (lx s 4) := by unfold gwD; rw [up_ne2 (by decide), up_eq]; exact H4
    have z5 : gwD D (lw (b + 3) s) (G 3) (G 4) (lw (b + 3) s) 5 = if G (lx s 3) = 0 then b2i (G 4 ≤ H (lx s 4)) else 1 := by unfold gwD; rw [up_eq, m5, H4]
    have b5 := (hG.1 s f70 f75).2.2.2.2.1
    by_cases c : H 4 ≤ H (lx s 4) ∧ H (lx s 3) = 0
    · rw [if_pos c]
      refine Rel_lm hR hG f70 f75 n (fun j hj => by rw [fu_ne (by unfold lx at hj ⊢; omega)]; exact Hj j hj) (Or.inr ?_)
      unfold lfF
      rw [z0, z1, z2, z3, z4, z5, fu_ne n03, fu_ne n13, fu_ne n23, fu_eq, fu_ne n43, H0, H1, H2, if_pos (by omega), b2i_t (by omega)]
      exact ⟨rfl, m1, rfl, rfl, rfl, rfl, rfl⟩
    · rw [if_neg c]
      refine Rel_lm hR hG f70 f75 n Hj (Or.inr ?_)
      unfold lfF
      rw [z0, z1, z2, z3, z4, z5, H0, H1, H2, H3]
      refine ⟨rfl, m1, rfl, rfl, rfl, ?_, rfl⟩
      by_cases c2 : G (lx s 3) = 0
      · rw [if_pos c2, b2i_f (by omega), c2]
      · rw [if_neg c2]; omega
end SPEC63
