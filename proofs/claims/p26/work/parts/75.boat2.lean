/-! boat -/
theorem Rel_pl {D E : eD} {b : Nat} {F G : eRow} (h : Rel D b F) (hF : St F) (hp : PlR E (b + 12) G) (e : ∀ K, (K < b + 12 ∨ b + 15 < K) → E K = D K) (g : ∀ j, j < 49 ∨ 80 ≤ j → G j = F j) : Rel E b G := by
  obtain ⟨h1, h2, h3, ⟨w1, hL, hN⟩, _, hl⟩ := h
  have bb := St_b hF
  refine ⟨?_, fun i hi => ?_, fun i hi => ?_, ⟨?_, SoR_ng hL (fun K _ _ => e K (by omega)) (fun j _ _ => g j (by omega)), ?_⟩, hp, LgR_ng hl bb.2 (fun K _ _ => e K (by omega)) (fun j _ _ => g j (by omega))⟩
  · rw [e b (by omega), g 0 (by omega), g 1 (by omega), g 2 (by omega), g 44 (by omega), g 45 (by omega), g 46 (by omega), g 47 (by omega), g 48 (by omega)]
    exact h1
  · rw [e _ (by omega), g _ (by omega)]; exact h2 i hi
  · rw [e _ (by omega), g _ (by omega)]; exact h3 i hi
  · rw [e _ (by omega), g 7 (by omega), g 8 (by omega), g 9 (by omega), g 10 (by omega)]; exact w1
  · rw [e _ (by omega)]; exact hN
/-- only the plan changes -/
theorem Sok_pl {F G : eRow} (h : Sok F) (hs : St G) (ho : Srt G) (g : ∀ j, j < 49 ∨ 80 ≤ j → G j = F j) : Sok G := by
  obtain ⟨hs', hc, ho', h0⟩ := h
  refine ⟨hs, ?_, ⟨?_, ho⟩, ?_⟩
  · unfold Ct at hc ⊢
    rw [g 0 (by omega), g 44 (by omega), g 45 (by omega), g 46 (by omega), g 47 (by omega), g 48 (by omega)]
    exact hc
  · rw [g 45 (by omega), g 46 (by omega)]; exact ho'.1
  · rw [g 0 (by omega)]; exact h0
def o140 (F : eRow) (t a b : Int) : Int × Option eRow :=
  if 0 ≤ t ∧ t ≤ 9999 then (if 0 ≤ a ∧ a ≤ 2 then (if 1 ≤ b ∧ b ≤ 6 then (if F 49 = 10 ∧ ¬ pldF F t then (-3, none) else (plnF F t a b 49, some (plnF F t a b))) else (-2, none)) else (-2, none)) else (-2, none)
theorem m140_o {D : eD} {t a b : Int} : m140 D t a b = ((o140 (D 159) t a b).1, mAf D (o140 (D 159) t a b).2) := by
  unfold m140 o140
  repeat' split
  all_goals rfl
section SPEC75
variable {S : List Int} {D E : eD} {h : eH} {Q : Option eV → eH → Prop} {F G P T X : eRow} {n k len w v s t a b p : Int}
theorem c74 (hS : S.length ≤ 2048) (hC : CW D F P T X n k len) (hW : RW F P T X n k len) :
    ∃ D1 : eD, Af D1 F P T X n k len (o140 F t a b).2 ∧ (∀ K, 158 ≤ K → D1 K = D K) ∧ ∀ Q, (wp 74 0 [.inr (.inl 8), .inl t, .inl a, .inl b] [] (hp S D) Q ↔ Q (some (.inl (o140 F t a b).1)) (hp S D1)) := by
  have t8 : tg 8 = 7 := rfl
  have t9 : tg 9 = 0 := rfl
  have t21 : tg 21 = 4 := rfl
  have hF := hW.1.1
  have b49 : 0 ≤ F 49 ∧ F 49 ≤ 10 := hF.2.2.2.2.2.2.2.2.2.2.2.2.2.2.2.2.2.2.2.1
  have hP : PlR D 21 F := hC.1.2.2.2.2.1
  have hO := hW.1.2.2.1.2
  have e3 : D 21 3 = F 49 := hP.1
  have hrp := rot_pld (t := t) hP hO b49
  unfold o140
  by_cases h1 : 0 ≤ t ∧ t ≤ 9999
  · rw [if_pos h1]
    by_cases h2 : 0 ≤ a ∧ a ≤ 2
    · rw [if_pos h2]
      by_cases h3 : 1 ≤ b ∧ b ≤ 6
      · rw [if_pos h3]
        have c39' := fun Q' => c39 (S := S) (D := D) (Q := Q') (t := t) t21 hS (by omega)
        by_cases h4 : F 49 = 10 ∧ ¬ pldF F t
        · rw [if_pos h4]
          have h4' : ¬ (D 21 3 < 10 ∨ ¬ rotF D 21 t 11 0 = -5) := fun z => z.elim (fun y => by omega) (fun y => y (hrp.mpr h4.2))
          refine ⟨D, hC, fun _ _ => rfl, fun Q => ?_⟩
          simp (disch := first | assumption | omega | decide | exact b2i_01 _ | (unfold lx; omega)) only [s74_0, s74_1, s74_2, s74_5, s74_8, s74_11, s74_12, s74_15, s74_18, s74_19, s74_22, s74_25, s74_27, s74_28, s74_29, s74_32, s74_35, s74_36, s74_39, s74_42, s74_44, s74_45, s74_46, s74_49, s74_50, s74_53, s74_56, s74_57, s74_60, s74_63, s74_64, s74_65, s74_66, s74_69, s74_70, s74_73, s74_76, s74_79, kont_some, kont_none, w32_of, if_true, if_false, tdv, tmd, setA_eq, up_setA, rd_hi, Int.reduceToNat, if_neg (show ¬ (1 : Int) = 0 by decide), Nat.reduceAdd, c91, b2i_t h1, c95, b2i_t h2, c96, b2i_t h3, c39', b2i_f h4']
        · rw [if_neg h4]
          have h5 : F 49 < 10 ∨ pldF F t := by
            by_cases z : F 49 < 10
            · exact Or.inl z
            · exact Or.inr (Classical.byContradiction (fun y => h4 ⟨by omega, y⟩))
          have h5' : D 21 3 < 10 ∨ ¬ rotF D 21 t 11 0 = -5 := h5.elim (fun z => Or.inl (by omega)) (fun z => Or.inr (fun y => hrp.mp y z))
          obtain ⟨D1, i1, i2, i3⟩ := cRec (S := S) hS hC hW
          have hP1 : PlR D1 21 F := i1.1.2.2.2.2.1
          have hrp1 := rot_pld (t := t) hP1 hO b49
          have e31 : D1 21 3 = F 49 := hP1.1
          have R := PlR_ent (t := t) (a := a) (b := b) hP1 hO b49 h5
          have c40' := fun Q' => c40 (S := S) (D := D1) (Q := Q') (t := t) (a := a) (b := b) t21 hS (by omega) (h5.elim (fun z => Or.inl (by omega)) (fun z => Or.inr (fun y => hrp1.mp y z)))
          have ef := (ent_at (D := D1) (q := 21) (t := t) (a := a) (b := b)).2.2.2.2
          have e49 : entD D1 21 t a b 21 3 = plnF F t a b 49 := R.1.1
          refine ⟨entD D1 21 t a b, CW_b i1 (Rel_pl i1.1 hF R.1 (fun K hK => ef K (by omega)) (fun j hj => pln_ne b49 h5 hj)) (fun K hK => ef K (by omega)), fun K hK => (ef K (by omega)).trans (i2 K (by omega)), fun Q => ?_⟩
          simp (disch := first | assumption | omega | decide | exact b2i_01 _ | (unfold lx; omega)) only [s74_0, s74_1, s74_2, s74_5, s74_8, s74_11, s74_12, s74_15, s74_18, s74_19, s74_22, s74_25, s74_27, s74_28, s74_29, s74_32, s74_35, s74_36, s74_39, s74_42, s74_44, s74_45, s74_46, s74_49, s74_50, s74_53, s74_56, s74_57, s74_60, s74_63, s74_64, s74_65, s74_66, s74_69, s74_70, s74_73, s74_76, s74_79, kont_some, kont_none, w32_of, if_true, if_false, tdv, tmd, setA_eq, up_setA, rd_hi, Int.reduceToNat, if_neg (show ¬ (1 : Int) = 0 by decide), Nat.reduceAdd, c91, b2i_t h1, c95, b2i_t h2, c96, b2i_t h3, c39', b2i_t h5', i3, c40', e49]
      · rw [if_neg h3]
        refine ⟨D, hC, fun _ _ => rfl, fun Q => ?_⟩
        simp (disch := first | assumption | omega | decide | exact b2i_01 _ | (unfold lx; omega)) only [s74_0, s74_1, s74_2, s74_5, s74_8, s74_11, s74_12, s74_15, s74_18, s74_19, s74_22, s74_25, s74_27, s74_28, s74_29, s74_32, s74_35, s74_36, s74_39, s74_42, s74_44, s74_45, s74_46, s74_49, s74_50, s74_53, s74_56, s74_57, s74_60, s74_63, s74_64, s74_65, s74_66, s74_69, s74_70, s74_73, s74_76, s74_79, kont_some, kont_none, w32_of, if_true, if_false, tdv, tmd, setA_eq, up_setA, rd_hi, Int.reduceToNat, if_neg (show ¬ (1 : Int) = 0 by decide), Nat.reduceAdd, c91, b2i_t h1, c95, b2i_t h2, c96, b2i_f h3]
    · rw [if_neg h2]
      refine ⟨D, hC, fun _ _ => rfl, fun Q => ?_⟩
      simp (disch := first | assumption | omega | decide | exact b2i_01 _ | (unfold lx; omega)) only [s74_0, s74_1, s74_2, s74_5, s74_8, s74_11, s74_12, s74_15, s74_18, s74_19, s74_22, s74_25, s74_27, s74_28, s74_29, s74_32, s74_35, s74_36, s74_39, s74_42, s74_44, s74_45, s74_46, s74_49, s74_50, s74_53, s74_56, s74_57, s74_60, s74_63, s74_64, s74_65, s74_66, s74_69, s74_70, s74_73, s74_76, s74_79, kont_some, kont_none, w32_of, if_true, if_false, tdv, tmd, setA_eq, up_setA, rd_hi, Int.reduceToNat, if_neg (show ¬ (1 : Int) = 0 by decide), Nat.reduceAdd, c91, b2i_t h1, c95, b2i_f h2]
  · rw [if_neg h1]
    refine ⟨D, hC, fun _ _ => rfl, fun Q => ?_⟩
    simp (disch := first | assumption | omega | decide | exact b2i_01 _ | (unfold lx; omega)) only [s74_0, s74_1, s74_2, s74_5, s74_8, s74_11, s74_12, s74_15, s74_18, s74_19, s74_22, s74_25, s74_27, s74_28, s74_29, s74_32, s74_35, s74_36, s74_39, s74_42, s74_44, s74_45, s74_46, s74_49, s74_50, s74_53, s74_56, s74_57, s74_60, s74_63, s74_64, s74_65, s74_66, s74_69, s74_70, s74_73, s74_76, s74_79, kont_some, kont_none, w32_of, if_true, if_false, tdv, tmd, setA_eq, up_setA, rd_hi, Int.reduceToNat, if_neg (show ¬ (1 : Int) = 0 by decide), Nat.reduceAdd, c91, b2i_f h1]
theorem s_boat (hS : S.length ≤ 2048) (hW : Wd D) : Sa S D 74 [.inr (.inl 8), .inl t, .inl a, .inl b] (o140 (D 159) t a b) := by
  refine act_stp hW (c74 hS hW.1 hW.2) (fun G hG => ?_)
  · have b49 : 0 ≤ D 159 49 ∧ D 159 49 ≤ 10 := hW.2.1.1.2.2.2.2.2.2.2.2.2.2.2.2.2.2.2.2.2.2.2.1
    unfold o140 at hG
    split at hG
    · next h1 =>
      split at hG
      · next h2 =>
        split at hG
        · next h3 =>
          split at hG
          · cases hG
          · next h4 =>
            cases hG
            have h5 : D 159 49 < 10 ∨ pldF (D 159) t := by
              by_cases z : D 159 49 < 10
              · exact Or.inl z
              · exact Or.inr (Classical.byContradiction (fun y => h4 ⟨by omega, y⟩))
            have hP : PlR D 21 (D 159) := hW.1.1.2.2.2.2.1
            exact Sok_pl hW.2.1 (St_pln hW.2.1.1 h5 h1 h2 h3) (PlR_ent (t := t) (a := a) (b := b) hP hW.2.1.2.2.1.2 b49 h5).2 (fun j hj => pln_ne b49 h5 hj)
        · cases hG
      · cases hG
    · cases hG
end SPEC75
