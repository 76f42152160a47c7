/-! the class's Beacon: a tick passes, whole -/
theorem Od_pas {F : eRow} {ab : Int} (hs : St F) (hc : Ct F) (hO : Od F) (h0b : F 0 ≤ 900000) : Od (pasF F ab) := by
  have hp := pas_all (ab := ab) hs hc h0b
  have bb := St_b hs
  have hc' := hc
  obtain ⟨d1, d2, d3, d4, d5⟩ := hc'
  have s1 := St_pw1 hs
  have e47 : pw1 F 47 = F 47 := pw1_ne (by omega)
  have n2 : ∀ j, j < 7 ∨ (43 < j ∧ j < 47) ∨ (47 < j ∧ j < 80) → pl2 (pw1 F) j = F j := fun j hj => (pl2_ne s1 (by omega) (by omega)).trans (pw1_ne (by omega))
  have b49 : 0 ≤ F 49 := hs.2.2.2.2.2.2.2.2.2.2.2.2.2.2.2.2.2.2.2.1.1
  refine ⟨?_, Srt_of hO.2 bb.1 (fun j h1 h2 => hp.2.2.2 j (by omega))⟩
  have f49 : pc1 (pl2 (pw1 F)) (pdk (pw1 F)) (nigF (pw1 F)) 49 = F 49 := (pc1_ne (by omega)).trans (n2 49 (by omega))
  have f48 : pc1 (pl2 (pw1 F)) (pdk (pw1 F)) (nigF (pw1 F)) 48 = F 48 := (pc1_ne (by omega)).trans (n2 48 (by omega))
  have s2 := St_pl2 s1 (by omega)
  have s3 := St_pc1 (d := pdk (pw1 F)) (n := nigF (pw1 F)) s2.1 (by rw [n2 44 (by omega)]; omega) (by rw [n2 45 (by omega)]; omega)
  have key : pc1 (pl2 (pw1 F)) (pdk (pw1 F)) (nigF (pw1 F)) 45 ≤ pc1 (pl2 (pw1 F)) (pdk (pw1 F)) (nigF (pw1 F)) 46 := by
    unfold pc1
    rw [fu_ne (show 45 ≠ 46 by decide), fu_eq, fu_eq]
    split <;> omega
  unfold pasF
  (try dsimp only)
  split
  · rw [fu_ne (by decide), fu_ne (by decide)]; exact key
  · have hp2 := pb_all (F 49).toNat 0 (pc1 (pl2 (pw1 F)) (pdk (pw1 F)) (nigF (pw1 F))) (by omega) (by rw [f49]; omega) s3 (by omega)
    rw [fu_ne (by decide), fu_ne (by decide), hp2.2.1 45 (by omega), hp2.2.1 46 (by omega)]; exact key
section SPEC67
variable {S : List Int} {D E : eD} {h : eH} {Q : Option eV → eH → Prop} {F G : eRow} {b q : Nat} {s t v ab : Int} {l0 l1 : eV}
/-- a night's tick counted -/
theorem Rel_cn {d n : Prop} [Decidable d] [Decidable n] (hR : Rel D b F) (hF : St F) (h46 : F 45 ≤ F 46) (hdn : d → n) :
    Rel (if n then (if d then cntD D b else up D b 12 0) else D) b (pc1 F d n) ∧ ∀ K, K ≠ b → (if n then (if d then cntD D b else up D b 12 0) else D) K = D K := by
  obtain ⟨y1, y2, y3, y4, y5, y6, y7, y8⟩ := hR.1
  have b45 : 0 ≤ F 45 := hF.2.2.2.2.2.2.2.2.2.2.2.2.2.2.2.1.1
  have b46 : 0 ≤ F 46 := hF.2.2.2.2.2.2.2.2.2.2.2.2.2.2.2.2.1.1
  have pc : ∀ j, (2 < j ∧ j < 44) ∨ 48 < j → pc1 F d n j = F j := fun j hj => pc1_ne (by omega)
  have e0 : pc1 F d n 0 = F 0 := pc1_ne (by omega)
  have e1 : pc1 F d n 1 = F 1 := pc1_ne (by omega)
  have e2 : pc1 F d n 2 = F 2 := pc1_ne (by omega)
  have e47 : pc1 F d n 47 = F 47 := pc1_ne (by omega)
  have e48 : pc1 F d n 48 = F 48 := pc1_ne (by omega)
  have e44 : pc1 F d n 44 = F 44 + b2i d := by unfold pc1; rw [fu_ne (by decide), fu_ne (by decide), fu_eq]
  have e45 : pc1 F d n 45 = if d then F 45 + 1 else if n then 0 else F 45 := by unfold pc1; rw [fu_ne (by decide), fu_eq]
  have e46 : pc1 F d n 46 = if F 46 < (if d then F 45 + 1 else if n then 0 else F 45) then (if d then F 45 + 1 else if n then 0 else F 45) else F 46 := by unfold pc1; rw [fu_eq]
  have fr : ∀ K, K ≠ b → (if n then (if d then cntD D b else up D b 12 0) else D) K = D K := fun K hK => by
    split
    · split
      · unfold cntD; funext j; rw [up_ne1 hK, up_ne1 hK, up_ne1 hK]
      · funext j; rw [up_ne1 hK]
    · rfl
  refine ⟨Rel_sc hR hF fr pc ?_, fr⟩
  rw [e0, e1, e2, e44, e45, e46, e47, e48]
  by_cases hd : d
  · have hn := hdn hd
    simp only [if_pos hd, if_pos hn, b2i_t hd]
    unfold cntD
    simp (disch := first | assumption | omega | decide | exact b2i_01 _) only [up_eq, up_ne2, y4, y5, y8]
    refine ⟨y1, y2, y3, ?_, ?_, y6, y7, ?_⟩
    all_goals first | trivial | rfl
  · by_cases hn : n
    · simp only [if_neg hd, if_pos hn, b2i_f hd]
      simp (disch := first | assumption | omega | decide | exact b2i_01 _) only [up_eq, up_ne2]
      exact ⟨y1, y2, y3, by omega, by rw [if_neg (by omega)]; exact y5, y6, y7, trivial⟩
    · simp only [if_neg hd, if_neg hn, b2i_f hd]
      exact ⟨y1, y2, y3, by omega, by rw [if_neg (by omega)]; exact y5, y6, y7, y8⟩
theorem c4 (hb : tg b = 0) (hS : S.length ≤ 2048) (hR : Rel D b F) (hF : St F) (hC : Ct F) (hO : Od F) (h0b : F 0 ≤ 900000) (hab : ab = 0 ∨ ab = 1) :
    ∃ D1 : eD, Rel D1 b (pasF F ab) ∧ (∀ K, (K < b ∨ b + 19 < K) → D1 K = D K) ∧ ∀ Q, (wp 4 0 [.inr (.inl b), .inl ab, .inr (.inl 0), .inr (.inl 0)] [] (hp S D) Q ↔ Q (some (.inl (b2i (pdk (pw1 F))))) (hp S D1)) := by
  have h0 := tg_ne0 hb (by decide)
  obtain ⟨g8, g1, g2, g3, g12, g16⟩ := be_tg0 b (tg_lt (by omega)) hb
  obtain ⟨d1, d2, d3, d4, d5⟩ := hC
  have s1 := St_pw1 hF
  have hpw : ∀ j, j < 7 ∨ 9 < j → pw1 F j = F j := fun j hj => pw1_ne hj
  have e47 := hpw 47 (by omega)
  have n2 : ∀ j, j < 8 ∨ (40 < j ∧ j < 47) ∨ (47 < j ∧ j < 80) → pl2 (pw1 F) j = pw1 F j := fun j hj => pl2_ne s1 (by omega) hj
  obtain ⟨s2, m1, m2⟩ := St_pl2 s1 (by omega)
  have s3 := St_pc1 (d := pdk (pw1 F)) (n := nigF (pw1 F)) s2 (by rw [n2 44 (by omega), hpw 44 (by omega)]; omega) (by rw [n2 45 (by omega), hpw 45 (by omega)]; omega)
  obtain ⟨y1, y2, y3, y4, y5, y6, y7, y8⟩ := hR.1
  obtain ⟨w2, w3, w4, w5⟩ := hR.2.2.2.1.1
  have a1 := hF.2.1
  have a2 := hF.2.2.1
  have a3 := hF.2.2.2.1
  have a9 := hF.2.2.2.2.2.2.2.2.2.1
  have en : ((D b 5 - D b 6) % 48 < (D b 7 - D b 6) % 48) ↔ nigF (pw1 F) := by
    rw [y1, y2, y3, nig_eq]
    unfold nigF
    rw [hpw 0 (by omega), hpw 1 (by omega), hpw 2 (by omega)]
  have c3' := fun Q' => c3 (S := S) (D := D) (Q := Q') hb (by omega) (by omega) (by omega) (by omega) (by omega) (by omega)
  rw [b2i_congr en] at c3'
  obtain ⟨Rg, ng⟩ := Rel_go hR hF
  have c60' := fun Q' => c60 (S := S) (D := D) (Q := Q') g3 (by omega) (by omega)
  have egd : (if D (b + 3) 3 = -5 then D else if 0 < D (b + 3) 4 - 1 then up D (b + 3) 4 (D (b + 3) 4 - 1) else up (up (up (up D (b + 3) 4 (D (b + 3) 4 - 1)) (b + 3) 4 0) (b + 3) 2 (D (b + 3) 3)) (b + 3) 3 (-5)) = goD D (b + 3) := rfl
  rw [egd] at c60'
  generalize goD D (b + 3) = D1 at *
  have e3 := Rg.2.2.2.1.1.2.1
  have st : ∃ D2 : eD, Rel D2 b (pl2 (pw1 F)) ∧ (∀ K, (K < b ∨ b + 19 < K) → D2 K = D1 K) ∧ ∀ Q, (wp 4 0 [.inr (.inl b), .inl ab, .inr (.inl 0), .inr (.inl 0)] [] (hp S D) Q ↔ wp 4 40 [.inr (.inl b), .inl ab, .inl (b2i (nigF (pw1 F))), .inl (pl1 (pw1 F))] [] (hp S D2) Q) := by
    by_cases hst : pw1 F 8 = -5
    · have hst' : ¬ ¬ D1 (b + 3) 3 = -5 := fun z => z (e3.trans hst)
      by_cases hn : nigF (pw1 F)
      · obtain ⟨D2, i1, i2, i3⟩ := c5 (S := S) hb hS Rg s1 (by omega)
        have ep : pl2 (pw1 F) = (litF (pw1 F)).2 := by unfold pl2; rw [if_pos hst, if_pos hn]
        have eq1 : pl1 (pw1 F) = (litF (pw1 F)).1 := if_pos ⟨hn, hst⟩
        rw [ep, eq1]
        refine ⟨D2, i1, i2, fun Q => ?_⟩
        rw [b2i_t hn] at c3' ⊢
        simp (disch := first | assumption | omega | decide | exact b2i_01 _ | (unfold lx; omega)) only [s4_0, s4_1, s4_4, s4_5, s4_6, s4_7, s4_8, s4_11, s4_14, s4_15, s4_18, s4_21, s4_24, s4_25, s4_28, s4_29, s4_32, s4_33, s4_36, s4_37, kont_some, kont_none, w32_of, if_true, if_false, tdv, tmd, setA_eq, up_setA, rd_hi, Int.reduceToNat, if_neg (show ¬ (1 : Int) = 0 by decide), c3', c60', c58, b2i_f hst', i3]
      · obtain ⟨D2, i1, i2, i3⟩ := c7 (S := S) hb hS Rg s1 (by omega)
        have ep : pl2 (pw1 F) = dayF (pw1 F) := by unfold pl2; rw [if_pos hst, if_neg hn]
        have eq1 : pl1 (pw1 F) = 0 := if_neg (fun z => hn z.1)
        rw [ep, eq1]
        refine ⟨D2, i1, i2, fun Q => ?_⟩
        rw [b2i_f hn] at c3' ⊢
        simp (disch := first | assumption | omega | decide | exact b2i_01 _ | (unfold lx; omega)) only [s4_0, s4_1, s4_4, s4_5, s4_6, s4_7, s4_8, s4_11, s4_14, s4_15, s4_18, s4_21, s4_24, s4_25, s4_28, s4_29, s4_32, s4_33, s4_36, s4_37, kont_some, kont_none, w32_of, if_true, if_false, tdv, tmd, setA_eq, up_setA, rd_hi, Int.reduceToNat, if_neg (show ¬ (1 : Int) = 0 by decide), c3', c60', c58, b2i_f hst', i3]
    · have hst' : ¬ D1 (b + 3) 3 = -5 := fun z => hst (e3.symm.trans z)
      have ep : pl2 (pw1 F) = pw1 F := if_neg hst
      have eq1 : pl1 (pw1 F) = 0 := if_neg (fun z => hst z.2)
      rw [ep, eq1]
      refine ⟨D1, Rg, fun _ _ => rfl, fun Q => ?_⟩
      simp (disch := first | assumption | omega | decide | exact b2i_01 _ | (unfold lx; omega)) only [s4_0, s4_1, s4_4, s4_5, s4_6, s4_7, s4_8, s4_11, s4_14, s4_15, s4_18, s4_21, s4_24, s4_25, s4_28, s4_29, s4_32, s4_33, s4_36, s4_37, kont_some, kont_none, w32_of, if_true, if_false, tdv, tmd, setA_eq, up_setA, rd_hi, Int.reduceToNat, if_neg (show ¬ (1 : Int) = 0 by decide), c3', c60', c58, b2i_t hst']
  obtain ⟨D2, R2, n2', i3⟩ := st
  have l01 : pl1 (pw1 F) = 0 ∨ pl1 (pw1 F) = 1 := by
    unfold pl1
    split
    · exact lit_01
    · exact Or.inl rfl
  obtain ⟨R3, n3⟩ := Rel_cn (d := pdk (pw1 F)) (n := nigF (pw1 F)) R2 s2 (by rw [n2 45 (by omega), n2 46 (by omega), hpw 45 (by omega), hpw 46 (by omega)]; exact hO.1) (fun z => z.1)
  have c8a := R2.1.2.2.2.1
  have c12a := R2.1.2.2.2.2.2.2.2
  rw [n2 44 (by omega), hpw 44 (by omega)] at c8a
  rw [n2 45 (by omega), hpw 45 (by omega)] at c12a
  have b44 : 0 ≤ F 44 := hF.2.2.2.2.2.2.2.2.2.2.2.2.2.2.1.1
  have b45 : 0 ≤ F 45 := hF.2.2.2.2.2.2.2.2.2.2.2.2.2.2.2.1.1
  have c10' := fun Q' v hv => c10 (S := S) (D := D2) (Q := Q') (v := v) hb hv (by omega) (by omega)
  have st3 : ∀ Q, (wp 4 40 [.inr (.inl b), .inl ab, .inl (b2i (nigF (pw1 F))), .inl (pl1 (pw1 F))] [] (hp S D2) Q ↔ wp 4 49 [.inr (.inl b), .inl ab, .inl (b2i (nigF (pw1 F))), .inl (pl1 (pw1 F))] [] (hp S (if nigF (pw1 F) then (if pdk (pw1 F) then cntD D2 b else up D2 b 12 0) else D2)) Q) := by
    intro Q
    by_cases hn : nigF (pw1 F)
    · rw [if_pos hn, b2i_t hn]
      rcases l01 with l | l
      · have hd : pdk (pw1 F) := ⟨hn, by rw [l]; decide⟩
        rw [if_pos hd, l]
        have z := fun Q' => c10' Q' 0 (Or.inl rfl)
        rw [if_neg (by decide)] at z
        simp (disch := first | assumption | omega | decide | exact b2i_01 _ | (unfold lx; omega)) only [s4_40, s4_41, s4_44, s4_45, s4_46, kont_some, kont_none, w32_of, if_true, if_false, tdv, tmd, setA_eq, up_setA, rd_hi, Int.reduceToNat, if_neg (show ¬ (1 : Int) = 0 by decide), z]
      · have hd : ¬ pdk (pw1 F) := fun z => z.2 l
        rw [if_neg hd, l]
        have z := fun Q' => c10' Q' 1 (Or.inr rfl)
        rw [if_pos rfl] at z
        simp (disch := first | assumption | omega | decide | exact b2i_01 _ | (unfold lx; omega)) only [s4_40, s4_41, s4_44, s4_45, s4_46, kont_some, kont_none, w32_of, if_true, if_false, tdv, tmd, setA_eq, up_setA, rd_hi, Int.reduceToNat, if_neg (show ¬ (1 : Int) = 0 by decide), z]
    · rw [if_neg hn, b2i_f hn]
      simp (disch := first | assumption | omega | decide | exact b2i_01 _ | (unfold lx; omega)) only [s4_40, s4_41, s4_44, s4_45, s4_46, kont_some, kont_none, w32_of, if_true, if_false, tdv, tmd, setA_eq, up_setA, rd_hi, Int.reduceToNat, if_neg (show ¬ (1 : Int) = 0 by decide)]
  generalize (if nigF (pw1 F) then (if pdk (pw1 F) then cntD D2 b else up D2 b 12 0) else D2) = D3 at *
  have f49 : pc1 (pl2 (pw1 F)) (pdk (pw1 F)) (nigF (pw1 F)) 49 = F 49 := (pc1_ne (by omega)).trans ((n2 49 (by omega)).trans (hpw 49 (by omega)))
  have f48 : pc1 (pl2 (pw1 F)) (pdk (pw1 F)) (nigF (pw1 F)) 48 = F 48 := (pc1_ne (by omega)).trans ((n2 48 (by omega)).trans (hpw 48 (by omega)))
  have f0 : pc1 (pl2 (pw1 F)) (pdk (pw1 F)) (nigF (pw1 F)) 0 = F 0 := (pc1_ne (by omega)).trans ((n2 0 (by omega)).trans (hpw 0 (by omega)))
  have b49 := hF.2.2.2.2.2.2.2.2.2.2.2.2.2.2.2.2.2.2.2.1
  have hsr : Srt (pc1 (pl2 (pw1 F)) (pdk (pw1 F)) (nigF (pw1 F))) := Srt_of hO.2 b49.2 (fun j h1 h2 => (pc1_ne (by omega)).trans ((n2 j (by omega)).trans (hpw j (by omega))))
  have fin : ∀ (D4 : eD) (K4 : eRow) (Q : Option eV → eH → Prop), Rel D4 b K4 → St K4 → K4 0 = F 0 → (wp 4 57 [.inr (.inl b), .inl ab, .inl (b2i (nigF (pw1 F))), .inl (pl1 (pw1 F))] [] (hp S D4) Q ↔ Q (some (.inl (b2i (pdk (pw1 F))))) (hp S (up D4 b 5 (F 0 + 1)))) ∧ Rel (up D4 b 5 (F 0 + 1)) b (fu K4 0 (F 0 + 1)) := by
    intro D4 K4 Q R4 s4 k0
    have z5 := R4.1.1
    rw [k0] at z5
    constructor
    · by_cases hn : nigF (pw1 F)
      · rw [b2i_t hn]
        rcases l01 with l | l
        · have hd : pdk (pw1 F) := ⟨hn, by rw [l]; decide⟩
          rw [b2i_t hd, l]
          simp (disch := first | assumption | omega | decide | exact b2i_01 _ | (unfold lx; omega)) only [s4_57, s4_58, s4_59, s4_62, s4_63, s4_64, s4_67, s4_68, s4_71, s4_72, s4_75, s4_76, s4_79, s4_80, kont_some, kont_none, w32_of, if_true, if_false, tdv, tmd, setA_eq, up_setA, rd_hi, Int.reduceToNat, if_neg (show ¬ (1 : Int) = 0 by decide), z5]
        · have hd : ¬ pdk (pw1 F) := fun z => z.2 l
          rw [b2i_f hd, l]
          simp (disch := first | assumption | omega | decide | exact b2i_01 _ | (unfold lx; omega)) only [s4_57, s4_58, s4_59, s4_62, s4_63, s4_64, s4_67, s4_68, s4_71, s4_72, s4_75, s4_76, s4_79, s4_80, kont_some, kont_none, w32_of, if_true, if_false, tdv, tmd, setA_eq, up_setA, rd_hi, Int.reduceToNat, if_neg (show ¬ (1 : Int) = 0 by decide), z5]
      · have hd : ¬ pdk (pw1 F) := fun z => hn z.1
        rw [b2i_f hn, b2i_f hd]
        simp (disch := first | assumption | omega | decide | exact b2i_01 _ | (unfold lx; omega)) only [s4_57, s4_58, s4_59, s4_62, s4_63, s4_64, s4_67, s4_68, s4_71, s4_72, s4_75, s4_76, s4_79, s4_80, kont_some, kont_none, w32_of, if_true, if_false, tdv, tmd, setA_eq, up_setA, rd_hi, Int.reduceToNat, if_neg (show ¬ (1 : Int) = 0 by decide), z5]
    · refine Rel_sc R4 s4 (fun K hK => by funext j; rw [up_ne1 hK]) (fun j hj => fu_ne (by omega)) ?_
      rw [up_eq, up_ne2 (by decide), up_ne2 (by decide), up_ne2 (by decide), up_ne2 (by decide), up_ne2 (by decide), up_ne2 (by decide), up_ne2 (by decide), fu_eq, fu_ne (by decide), fu_ne (by decide), fu_ne (by decide), fu_ne (by decide), fu_ne (by decide), fu_ne (by decide), fu_ne (by decide)]
      exact ⟨rfl, R4.1.2⟩
  rcases hab with rfl | rfl
  · refine ⟨up D3 b 5 (F 0 + 1), (fin D3 _ (fun _ _ => True) R3 s3 f0).2, fun K hK => ?_, fun Q => ?_⟩
    · rw [show up D3 b 5 (F 0 + 1) K = D3 K from by funext j; exact up_ne1 (by omega), n3 K (by omega), n2' K hK, ng K hK]
    · rw [i3, st3, ← (fin D3 _ Q R3 s3 f0).1]
      simp (disch := first | assumption | omega | decide | exact b2i_01 _ | (unfold lx; omega)) only [s4_49, s4_50, s4_53, s4_54, kont_some, kont_none, w32_of, if_true, if_false, tdv, tmd, setA_eq, up_setA, rd_hi, Int.reduceToNat, if_neg (show ¬ (1 : Int) = 0 by decide)]
  · obtain ⟨D4, k1, k2, k3⟩ := c11 (S := S) hb hS R3 s3 hsr (by omega)
    have hp2 := pb_all (F 49).toNat 0 (pc1 (pl2 (pw1 F)) (pdk (pw1 F)) (nigF (pw1 F))) (by omega) (by rw [f49]; omega) s3 (by omega)
    rw [f49] at k1
    have g0 := (hp2.2.1 0 (by omega)).trans f0
    refine ⟨up D4 b 5 (F 0 + 1), (fin D4 _ (fun _ _ => True) k1 hp2.1 g0).2, fun K hK => ?_, fun Q => ?_⟩
    · rw [show up D4 b 5 (F 0 + 1) K = D4 K from by funext j; exact up_ne1 (by omega), k2 K hK, n3 K (by omega), n2' K hK, ng K hK]
    · rw [i3, st3, ← (fin D4 _ Q k1 hp2.1 g0).1]
      simp (disch := first | assumption | omega | decide | exact b2i_01 _ | (unfold lx; omega)) only [s4_49, s4_50, s4_53, s4_54, kont_some, kont_none, w32_of, if_true, if_false, tdv, tmd, setA_eq, up_setA, rd_hi, Int.reduceToNat, if_neg (show ¬ (1 : Int) = 0 by decide), k3]
end SPEC67
